/-! shallow functions of the methods (by program, out of the bytecode), and that a run is what they say -/
-- 254: MagazineDepotModel.passesOver()V
def fM_passesOver_44 (k2 : xMem → Option xId → Int32 → Option xMem) (M : xMem) (l0 : Option xId) (s0 : Int32) (s1 : Int32) : Option xMem :=
  (xgI M l0 8 44).bind fun v7 =>
  (xpI M l0 8 44 (v7 + (1 : Int32))).bind fun M8 =>
  k2 M8 l0 (s0 + s1)
set_option maxRecDepth 20000 in
theorem TfM_passesOver_44 {M' : xMem} (k2 : xMem → Option xId → Int32 → Option xMem) (hk2 : ∀ (M : xMem) (l0 : Option xId) (l1 : Int32) , k2 M l0 l1 = some M' → xrun none 0 254 2 ([some (.inr (.inr l0)), some (.inl l1)]) ([]) M (none, M')) (M : xMem) (l0 : Option xId) (s0 : Int32) (s1 : Int32) (o1 : Int32) (h : fM_passesOver_44 k2 M l0 s0 s1 = some M') : xrun none 0 254 44 ([some (.inr (.inr l0)), some (.inl o1)]) ([.inl s1, .inl s0]) M (none, M') := by
  unfold fM_passesOver_44 at h
  refine xr_iadd (pc' := 45) rfl rfl ?_
  refine xr_istore_n (pc' := 46) rfl rfl rfl ?_
  refine xr_aload_n (pc' := 47) rfl rfl rfl ?_
  refine xr_dup_a (pc' := 48) rfl rfl ?_
  obtain ⟨v7, hv7, h⟩ := xbind h
  refine xr_getI (pc' := 51) rfl (by decide) hv7 rfl ?_
  refine xr_iconst (v := 1) (pc' := 52) rfl (by decide) rfl ?_
  refine xr_iadd (pc' := 53) rfl rfl ?_
  obtain ⟨M8, hM8, h⟩ := xbind h
  refine xr_putI (pc' := 56) rfl (by decide) hM8 rfl ?_
  refine xr_goto (t := 2) rfl ?_
  exact hk2 M8 _ _  h
def fM_passesOver_2  : Nat → xMem → Option xId → Int32 → Option xMem
  | 0, _, _, _ => none
  | n + 1, M, l0, l1 =>
    if l1 ≤ 0 then (
      some M)
    else
    (xgR M l0 8 39).bind fun v1 =>
    (xgI M l0 8 44).bind fun v2 =>
    (xaI M v1 v2).bind fun v3 =>
    if v3 = (40 : Int32) then (
      fM_passesOver_44 (fun M l0 l1 => fM_passesOver_2  n M l0 l1) M l0 l1 (1 : Int32))
    else
    (xgR M l0 8 39).bind fun v4 =>
    (xgI M l0 8 44).bind fun v5 =>
    (xaI M v4 v5).bind fun v6 =>
    if v6 = (41 : Int32) then (
      fM_passesOver_44 (fun M l0 l1 => fM_passesOver_2  n M l0 l1) M l0 l1 (-1 : Int32))
    else
    fM_passesOver_44 (fun M l0 l1 => fM_passesOver_2  n M l0 l1) M l0 l1 (0 : Int32)
set_option maxRecDepth 20000 in
theorem TfM_passesOver_2 {M' : xMem}  : ∀ (n : Nat) (M : xMem) (l0 : Option xId) (l1 : Int32) , fM_passesOver_2  n M l0 l1 = some M' → xrun none 0 254 2 ([some (.inr (.inr l0)), some (.inl l1)]) ([]) M (none, M') := by
  intro n
  induction n with
  | zero => intro M l0 l1  h; unfold fM_passesOver_2 at h; cases h
  | succ n ih =>
    intro M l0 l1  h
    unfold fM_passesOver_2 at h
    refine xr_iload_n (pc' := 3) rfl rfl rfl ?_
    rcases xite h with ⟨hc, h⟩ | ⟨hc, h⟩
    · refine xr_if_le_t (t := 59) rfl hc ?_
      obtain rfl := xsome1 h
      exact xr_ret rfl mR_254
    · refine xr_if_le_f (pc' := 6) rfl hc rfl ?_
      refine xr_iload_n (pc' := 7) rfl rfl rfl ?_
      refine xr_aload_n (pc' := 8) rfl rfl rfl ?_
      obtain ⟨v1, hv1, h⟩ := xbind h
      refine xr_getR (pc' := 11) rfl (by decide) hv1 rfl ?_
      refine xr_aload_n (pc' := 12) rfl rfl rfl ?_
      obtain ⟨v2, hv2, h⟩ := xbind h
      refine xr_getI (pc' := 15) rfl (by decide) hv2 rfl ?_
      obtain ⟨v3, hv3, h⟩ := xbind h
      refine xr_aI (pc' := 16) rfl hv3 rfl ?_
      refine xr_bipush (v := 40) (pc' := 18) rfl (by decide) rfl ?_
      rcases xite h with ⟨hc, h⟩ | ⟨hc, h⟩
      · refine xr_icmp_ne_f (pc' := 21) rfl hc rfl ?_
        refine xr_iconst (v := 1) (pc' := 22) rfl (by decide) rfl ?_
        refine xr_goto (t := 44) rfl ?_
        exact TfM_passesOver_44 _ (fun M l0 l1  h => ih M l0 l1  h) M _ _ _ _ h
      · refine xr_icmp_ne_t (t := 25) rfl hc ?_
        refine xr_aload_n (pc' := 26) rfl rfl rfl ?_
        obtain ⟨v4, hv4, h⟩ := xbind h
        refine xr_getR (pc' := 29) rfl (by decide) hv4 rfl ?_
        refine xr_aload_n (pc' := 30) rfl rfl rfl ?_
        obtain ⟨v5, hv5, h⟩ := xbind h
        refine xr_getI (pc' := 33) rfl (by decide) hv5 rfl ?_
        obtain ⟨v6, hv6, h⟩ := xbind h
        refine xr_aI (pc' := 34) rfl hv6 rfl ?_
        refine xr_bipush (v := 41) (pc' := 36) rfl (by decide) rfl ?_
        rcases xite h with ⟨hc, h⟩ | ⟨hc, h⟩
        · refine xr_icmp_ne_f (pc' := 39) rfl hc rfl ?_
          refine xr_iconst (v := -1) (pc' := 40) rfl (by decide) rfl ?_
          refine xr_goto (t := 44) rfl ?_
          exact TfM_passesOver_44 _ (fun M l0 l1  h => ih M l0 l1  h) M _ _ _ _ h
        · refine xr_icmp_ne_t (t := 43) rfl hc ?_
          refine xr_iconst (v := 0) (pc' := 44) rfl (by decide) rfl ?_
          exact TfM_passesOver_44 _ (fun M l0 l1  h => ih M l0 l1  h) M _ _ _ _ h
def fM_passesOver (M : xMem) (this : xId) : Option xMem :=
  fM_passesOver_2  xF M (some this) (1 : Int32)
set_option maxRecDepth 20000 in
theorem TfM_passesOver {M M' : xMem} (this : xId) (h : fM_passesOver M this = some M') : xrun none 0 254 0 ([some (.inr (.inr (some this))), none]) ([]) M (none, M') := by
  unfold fM_passesOver at h
  refine xr_iconst (v := 1) (pc' := 1) rfl (by decide) rfl ?_
  refine xr_istore_n (pc' := 2) rfl rfl rfl ?_
  exact TfM_passesOver_2   xF M _ _  h
-- 253: MagazineDepotModel.opensFor(I)V
def fM_opensFor (M : xMem) (this : xId) (a0 : Int32) : Option xMem :=
  if a0 = 0 then (
    (xob M (some this) 8).bind fun u1 =>
    (fM_passesOver M u1 ).bind fun q2 =>
    some q2)
  else
  (xgR M (some this) 8 40).bind fun v3 =>
  (xgI M (some this) 8 45).bind fun v4 =>
  (xgI M (some this) 8 44).bind fun v5 =>
  (xuI M v3 v4 v5).bind fun M6 =>
  (xgR M6 (some this) 8 41).bind fun v7 =>
  (xgI M6 (some this) 8 45).bind fun v8 =>
  (xuI M6 v7 v8 a0).bind fun M9 =>
  (xgI M9 (some this) 8 45).bind fun v10 =>
  (xpI M9 (some this) 8 45 (v10 + (1 : Int32))).bind fun M11 =>
  some M11
set_option maxRecDepth 20000 in
theorem TfM_opensFor {M M' : xMem} (this : xId) (a0 : Int32) (h : fM_opensFor M this a0 = some M') : xrun none 1 253 0 ([some (.inr (.inr (some this))), some (.inl a0)]) ([]) M (none, M') := by
  unfold fM_opensFor at h
  refine xr_iload_n (pc' := 1) rfl rfl rfl ?_
  rcases xite h with ⟨hc, h⟩ | ⟨hc, h⟩
  · refine xr_if_ne_f (pc' := 4) rfl hc rfl ?_
    refine xr_aload_n (pc' := 5) rfl rfl rfl ?_
    obtain ⟨u1, hu1, h⟩ := xbind h
    obtain ⟨q2, hq2, h⟩ := xbind h
    refine xr_callV (pc' := 8) (C := 8) (As := []) (rest := _) rfl hu1 mC_254 mL_254 rfl (Nat.le_of_ble_eq_true rfl) rfl (Nat.le_of_ble_eq_true rfl) (TfM_passesOver _  hq2) rfl ?_
    obtain rfl := xsome1 h
    exact xr_ret rfl mR_253
  · refine xr_if_ne_t (t := 9) rfl hc ?_
    refine xr_aload_n (pc' := 10) rfl rfl rfl ?_
    obtain ⟨v3, hv3, h⟩ := xbind h
    refine xr_getR (pc' := 13) rfl (by decide) hv3 rfl ?_
    refine xr_aload_n (pc' := 14) rfl rfl rfl ?_
    obtain ⟨v4, hv4, h⟩ := xbind h
    refine xr_getI (pc' := 17) rfl (by decide) hv4 rfl ?_
    refine xr_aload_n (pc' := 18) rfl rfl rfl ?_
    obtain ⟨v5, hv5, h⟩ := xbind h
    refine xr_getI (pc' := 21) rfl (by decide) hv5 rfl ?_
    obtain ⟨M6, hM6, h⟩ := xbind h
    refine xr_uI (pc' := 22) rfl hM6 rfl ?_
    refine xr_aload_n (pc' := 23) rfl rfl rfl ?_
    obtain ⟨v7, hv7, h⟩ := xbind h
    refine xr_getR (pc' := 26) rfl (by decide) hv7 rfl ?_
    refine xr_aload_n (pc' := 27) rfl rfl rfl ?_
    obtain ⟨v8, hv8, h⟩ := xbind h
    refine xr_getI (pc' := 30) rfl (by decide) hv8 rfl ?_
    refine xr_iload_n (pc' := 31) rfl rfl rfl ?_
    obtain ⟨M9, hM9, h⟩ := xbind h
    refine xr_uI (pc' := 32) rfl hM9 rfl ?_
    refine xr_aload_n (pc' := 33) rfl rfl rfl ?_
    refine xr_dup_a (pc' := 34) rfl rfl ?_
    obtain ⟨v10, hv10, h⟩ := xbind h
    refine xr_getI (pc' := 37) rfl (by decide) hv10 rfl ?_
    refine xr_iconst (v := 1) (pc' := 38) rfl (by decide) rfl ?_
    refine xr_iadd (pc' := 39) rfl rfl ?_
    obtain ⟨M11, hM11, h⟩ := xbind h
    refine xr_putI (pc' := 42) rfl (by decide) hM11 rfl ?_
    obtain rfl := xsome1 h
    exact xr_ret rfl mR_253
-- 252: MagazineDepotModel.runsIf()V
def fM_runsIf_56  (M : xMem)  (s0 : Option xId) (s1 : Int32) : Option xMem :=
  (xob M s0 8).bind fun u11 =>
  (fM_opensFor M u11 s1).bind fun q12 =>
  some q12
set_option maxRecDepth 20000 in
theorem TfM_runsIf_56 {M' : xMem}  (M : xMem)  (s0 : Option xId) (s1 : Int32) (o0 : Option xId) (o1 : Int32) (h : fM_runsIf_56  M  s0 s1 = some M') : xrun none 2 252 56 ([some (.inr (.inr o0)), some (.inl o1)]) ([.inl s1, .inr (.inr s0)]) M (none, M') := by
  unfold fM_runsIf_56 at h
  obtain ⟨u11, hu11, h⟩ := xbind h
  obtain ⟨q12, hq12, h⟩ := xbind h
  refine xr_callV (pc' := 59) (C := 8) (As := [_]) (rest := _) rfl hu11 mC_253 mL_253 rfl (Nat.le_of_ble_eq_true rfl) rfl (Nat.le_of_ble_eq_true rfl) (TfM_opensFor _ _ hq12) rfl ?_
  obtain rfl := xsome1 h
  exact xr_ret rfl mR_252
def fM_runsIf (M : xMem) (this : xId) : Option xMem :=
  (xgR M (some this) 8 39).bind fun v1 =>
  (xgI M (some this) 8 44).bind fun v2 =>
  (xaI M v1 (v2 + (1 : Int32))).bind fun v3 =>
  (xgI M (some this) 8 44).bind fun v4 =>
  (xpI M (some this) 8 44 (v4 + (3 : Int32))).bind fun M5 =>
  (xob M5 (some this) 8).bind fun u6 =>
  (fM_isCache M5 u6 (v3 - (48 : Int32))).bind fun q7 =>
  if q7.1 = 0 then (
    (xpI q7.2 (some this) 8 48 (-1 : Int32)).bind fun M8 =>
    some M8)
  else
  (xgR q7.2 (some this) 8 26).bind fun v9 =>
  (xaI q7.2 v9 (v3 - (48 : Int32))).bind fun v10 =>
  if v10 ≤ 0 then (
    fM_runsIf_56  q7.2  (some this) (0 : Int32))
  else
  fM_runsIf_56  q7.2  (some this) (1 : Int32)
set_option maxRecDepth 20000 in
theorem TfM_runsIf {M M' : xMem} (this : xId) (h : fM_runsIf M this = some M') : xrun none 2 252 0 ([some (.inr (.inr (some this))), none]) ([]) M (none, M') := by
  unfold fM_runsIf at h
  refine xr_aload_n (pc' := 1) rfl rfl rfl ?_
  obtain ⟨v1, hv1, h⟩ := xbind h
  refine xr_getR (pc' := 4) rfl (by decide) hv1 rfl ?_
  refine xr_aload_n (pc' := 5) rfl rfl rfl ?_
  obtain ⟨v2, hv2, h⟩ := xbind h
  refine xr_getI (pc' := 8) rfl (by decide) hv2 rfl ?_
  refine xr_iconst (v := 1) (pc' := 9) rfl (by decide) rfl ?_
  refine xr_iadd (pc' := 10) rfl rfl ?_
  obtain ⟨v3, hv3, h⟩ := xbind h
  refine xr_aI (pc' := 11) rfl hv3 rfl ?_
  refine xr_bipush (v := 48) (pc' := 13) rfl (by decide) rfl ?_
  refine xr_isub (pc' := 14) rfl rfl ?_
  refine xr_istore_n (pc' := 15) rfl rfl rfl ?_
  refine xr_aload_n (pc' := 16) rfl rfl rfl ?_
  refine xr_dup_a (pc' := 17) rfl rfl ?_
  obtain ⟨v4, hv4, h⟩ := xbind h
  refine xr_getI (pc' := 20) rfl (by decide) hv4 rfl ?_
  refine xr_iconst (v := 3) (pc' := 21) rfl (by decide) rfl ?_
  refine xr_iadd (pc' := 22) rfl rfl ?_
  obtain ⟨M5, hM5, h⟩ := xbind h
  refine xr_putI (pc' := 25) rfl (by decide) hM5 rfl ?_
  refine xr_aload_n (pc' := 26) rfl rfl rfl ?_
  refine xr_iload_n (pc' := 27) rfl rfl rfl ?_
  obtain ⟨u6, hu6, h⟩ := xbind h
  obtain ⟨q7, hq7, h⟩ := xbind h
  refine xr_callV (pc' := 30) (C := 8) (As := [_]) (rest := _) rfl hu6 mC_166 mL_166 rfl (Nat.le_of_ble_eq_true rfl) rfl (Nat.le_of_ble_eq_true rfl) (TfM_isCache _ _ hq7) rfl ?_
  rcases xite h with ⟨hc, h⟩ | ⟨hc, h⟩
  · refine xr_if_ne_f (pc' := 33) rfl hc rfl ?_
    refine xr_aload_n (pc' := 34) rfl rfl rfl ?_
    refine xr_iconst (v := -1) (pc' := 35) rfl (by decide) rfl ?_
    obtain ⟨M8, hM8, h⟩ := xbind h
    refine xr_putI (pc' := 38) rfl (by decide) hM8 rfl ?_
    refine xr_goto (t := 59) rfl ?_
    obtain rfl := xsome1 h
    exact xr_ret rfl mR_252
  · refine xr_if_ne_t (t := 41) rfl hc ?_
    refine xr_aload_n (pc' := 42) rfl rfl rfl ?_
    refine xr_aload_n (pc' := 43) rfl rfl rfl ?_
    obtain ⟨v9, hv9, h⟩ := xbind h
    refine xr_getR (pc' := 46) rfl (by decide) hv9 rfl ?_
    refine xr_iload_n (pc' := 47) rfl rfl rfl ?_
    obtain ⟨v10, hv10, h⟩ := xbind h
    refine xr_aI (pc' := 48) rfl hv10 rfl ?_
    rcases xite h with ⟨hc, h⟩ | ⟨hc, h⟩
    · refine xr_if_le_t (t := 55) rfl hc ?_
      refine xr_iconst (v := 0) (pc' := 56) rfl (by decide) rfl ?_
      exact TfM_runsIf_56   q7.2  _ _ _ _ h
    · refine xr_if_le_f (pc' := 51) rfl hc rfl ?_
      refine xr_iconst (v := 1) (pc' := 52) rfl (by decide) rfl ?_
      refine xr_goto (t := 56) rfl ?_
      exact TfM_runsIf_56   q7.2  _ _ _ _ h
-- 255: MagazineDepotModel.runsMany()V
def fM_runsMany (M : xMem) (this : xId) : Option xMem :=
  (xob M (some this) 8).bind fun u1 =>
  (fM_numberAt M u1 ).bind fun q2 =>
  (xgI q2.2 (some this) 8 44).bind fun v3 =>
  (xpI q2.2 (some this) 8 44 (v3 + (1 : Int32))).bind fun M4 =>
  (xob M4 (some this) 8).bind fun u5 =>
  (fM_opensFor M4 u5 q2.1).bind fun q6 =>
  if q2.1 ≤ 0 then (
    some q6)
  else
  (xob q6 (some this) 8).bind fun u7 =>
  (fM_goesStep q6 u7 ).bind fun q8 =>
  some q8.2
set_option maxRecDepth 20000 in
theorem TfM_runsMany {M M' : xMem} (this : xId) (h : fM_runsMany M this = some M') : xrun none 2 255 0 ([some (.inr (.inr (some this))), none]) ([]) M (none, M') := by
  unfold fM_runsMany at h
  refine xr_aload_n (pc' := 1) rfl rfl rfl ?_
  obtain ⟨u1, hu1, h⟩ := xbind h
  obtain ⟨q2, hq2, h⟩ := xbind h
  refine xr_callV (pc' := 4) (C := 8) (As := []) (rest := _) rfl hu1 mC_250 mL_250 rfl (Nat.le_of_ble_eq_true rfl) rfl (Nat.le_of_ble_eq_true rfl) (TfM_numberAt _  hq2) rfl ?_
  refine xr_istore_n (pc' := 5) rfl rfl rfl ?_
  refine xr_aload_n (pc' := 6) rfl rfl rfl ?_
  refine xr_dup_a (pc' := 7) rfl rfl ?_
  obtain ⟨v3, hv3, h⟩ := xbind h
  refine xr_getI (pc' := 10) rfl (by decide) hv3 rfl ?_
  refine xr_iconst (v := 1) (pc' := 11) rfl (by decide) rfl ?_
  refine xr_iadd (pc' := 12) rfl rfl ?_
  obtain ⟨M4, hM4, h⟩ := xbind h
  refine xr_putI (pc' := 15) rfl (by decide) hM4 rfl ?_
  refine xr_aload_n (pc' := 16) rfl rfl rfl ?_
  refine xr_iload_n (pc' := 17) rfl rfl rfl ?_
  obtain ⟨u5, hu5, h⟩ := xbind h
  obtain ⟨q6, hq6, h⟩ := xbind h
  refine xr_callV (pc' := 20) (C := 8) (As := [_]) (rest := _) rfl hu5 mC_253 mL_253 rfl (Nat.le_of_ble_eq_true rfl) rfl (Nat.le_of_ble_eq_true rfl) (TfM_opensFor _ _ hq6) rfl ?_
  refine xr_iload_n (pc' := 21) rfl rfl rfl ?_
  rcases xite h with ⟨hc, h⟩ | ⟨hc, h⟩
  · refine xr_if_le_t (t := 29) rfl hc ?_
    obtain rfl := xsome1 h
    exact xr_ret rfl mR_255
  · refine xr_if_le_f (pc' := 24) rfl hc rfl ?_
    refine xr_aload_n (pc' := 25) rfl rfl rfl ?_
    obtain ⟨u7, hu7, h⟩ := xbind h
    obtain ⟨q8, hq8, h⟩ := xbind h
    refine xr_callV (pc' := 28) (C := 8) (As := []) (rest := _) rfl hu7 mC_246 mL_246 rfl (Nat.le_of_ble_eq_true rfl) rfl (Nat.le_of_ble_eq_true rfl) (TfM_goesStep _  hq8) rfl ?_
    refine xr_pop_i (pc' := 29) rfl rfl ?_
    obtain rfl := xsome1 h
    exact xr_ret rfl mR_255
-- 247: MagazineDepotModel.runsStatement()V
def fM_runsStatement (M : xMem) (this : xId) : Option xMem :=
  (xgR M (some this) 8 39).bind fun v1 =>
  (xgI M (some this) 8 44).bind fun v2 =>
  (xaI M v1 v2).bind fun v3 =>
  (fM_isIn M v3 (97 : Int32) (122 : Int32)).bind fun q4 =>
  if q4.1 = 0 then (
    if v3 = (126 : Int32) then (
      (xgR q4.2 (some this) 8 39).bind fun v5 =>
      (xgI q4.2 (some this) 8 44).bind fun v6 =>
      (xaI q4.2 v5 (v6 + (1 : Int32))).bind fun v7 =>
      (xob q4.2 (some this) 8).bind fun u8 =>
      (fM_runsGive q4.2 u8 (v7 - (97 : Int32))).bind fun q9 =>
      some q9)
    else
    if v3 = (33 : Int32) then (
      (xgI q4.2 (some this) 8 44).bind fun v10 =>
      (xpI q4.2 (some this) 8 44 (v10 + (1 : Int32))).bind fun M11 =>
      (xob M11 (some this) 8).bind fun u12 =>
      (fM_endsInterval M11 u12 ).bind fun q13 =>
      some q13.2)
    else
    if v3 = (63 : Int32) then (
      (xob q4.2 (some this) 8).bind fun u14 =>
      (fM_runsIf q4.2 u14 ).bind fun q15 =>
      some q15)
    else
    (xob q4.2 (some this) 8).bind fun u16 =>
    (fM_runsMany q4.2 u16 ).bind fun q17 =>
    some q17)
  else
  (xgR q4.2 (some this) 8 39).bind fun v18 =>
  (xgI q4.2 (some this) 8 44).bind fun v19 =>
  (xaI q4.2 v18 (v19 + (1 : Int32))).bind fun v20 =>
  if v20 = (61 : Int32) then (
    (xob q4.2 (some this) 8).bind fun u21 =>
    (fM_runsTake q4.2 u21 (v3 - (97 : Int32))).bind fun q22 =>
    some q22)
  else
  (xob q4.2 (some this) 8).bind fun u23 =>
  (fM_runsWrite q4.2 u23 (v3 - (97 : Int32))).bind fun q24 =>
  some q24
set_option maxRecDepth 20000 in
theorem TfM_runsStatement {M M' : xMem} (this : xId) (h : fM_runsStatement M this = some M') : xrun none 7 247 0 ([some (.inr (.inr (some this))), none]) ([]) M (none, M') := by
  unfold fM_runsStatement at h
  refine xr_aload_n (pc' := 1) rfl rfl rfl ?_
  obtain ⟨v1, hv1, h⟩ := xbind h
  refine xr_getR (pc' := 4) rfl (by decide) hv1 rfl ?_
  refine xr_aload_n (pc' := 5) rfl rfl rfl ?_
  obtain ⟨v2, hv2, h⟩ := xbind h
  refine xr_getI (pc' := 8) rfl (by decide) hv2 rfl ?_
  obtain ⟨v3, hv3, h⟩ := xbind h
  refine xr_aI (pc' := 9) rfl hv3 rfl ?_
  refine xr_istore_n (pc' := 10) rfl rfl rfl ?_
  refine xr_iload_n (pc' := 11) rfl rfl rfl ?_
  refine xr_bipush (v := 97) (pc' := 13) rfl (by decide) rfl ?_
  refine xr_bipush (v := 122) (pc' := 15) rfl (by decide) rfl ?_
  obtain ⟨q4, hq4, h⟩ := xbind h
  refine xr_callS (pc' := 18) (As := [_, _, _]) (rest := _) rfl (by decide) mL_163 rfl (Nat.le_of_ble_eq_true rfl) rfl (Nat.le_of_ble_eq_true rfl) (TfM_isIn _ _ _ hq4) rfl ?_
  rcases xite h with ⟨hc, h⟩ | ⟨hc, h⟩
  · refine xr_if_eq_t (t := 59) rfl hc ?_
    refine xr_iload_n (pc' := 60) rfl rfl rfl ?_
    refine xr_bipush (v := 126) (pc' := 62) rfl (by decide) rfl ?_
    rcases xite h with ⟨hc, h⟩ | ⟨hc, h⟩
    · refine xr_icmp_ne_f (pc' := 65) rfl hc rfl ?_
      refine xr_aload_n (pc' := 66) rfl rfl rfl ?_
      refine xr_aload_n (pc' := 67) rfl rfl rfl ?_
      obtain ⟨v5, hv5, h⟩ := xbind h
      refine xr_getR (pc' := 70) rfl (by decide) hv5 rfl ?_
      refine xr_aload_n (pc' := 71) rfl rfl rfl ?_
      obtain ⟨v6, hv6, h⟩ := xbind h
      refine xr_getI (pc' := 74) rfl (by decide) hv6 rfl ?_
      refine xr_iconst (v := 1) (pc' := 75) rfl (by decide) rfl ?_
      refine xr_iadd (pc' := 76) rfl rfl ?_
      obtain ⟨v7, hv7, h⟩ := xbind h
      refine xr_aI (pc' := 77) rfl hv7 rfl ?_
      refine xr_bipush (v := 97) (pc' := 79) rfl (by decide) rfl ?_
      refine xr_isub (pc' := 80) rfl rfl ?_
      obtain ⟨u8, hu8, h⟩ := xbind h
      obtain ⟨q9, hq9, h⟩ := xbind h
      refine xr_callV (pc' := 83) (C := 8) (As := [_]) (rest := _) rfl hu8 mC_251 mL_251 rfl (Nat.le_of_ble_eq_true rfl) rfl (Nat.le_of_ble_eq_true rfl) (TfM_runsGive _ _ hq9) rfl ?_
      refine xr_goto (t := 127) rfl ?_
      obtain rfl := xsome1 h
      exact xr_ret rfl mR_247
    · refine xr_icmp_ne_t (t := 86) rfl hc ?_
      refine xr_iload_n (pc' := 87) rfl rfl rfl ?_
      refine xr_bipush (v := 33) (pc' := 89) rfl (by decide) rfl ?_
      rcases xite h with ⟨hc, h⟩ | ⟨hc, h⟩
      · refine xr_icmp_ne_f (pc' := 92) rfl hc rfl ?_
        refine xr_aload_n (pc' := 93) rfl rfl rfl ?_
        refine xr_dup_a (pc' := 94) rfl rfl ?_
        obtain ⟨v10, hv10, h⟩ := xbind h
        refine xr_getI (pc' := 97) rfl (by decide) hv10 rfl ?_
        refine xr_iconst (v := 1) (pc' := 98) rfl (by decide) rfl ?_
        refine xr_iadd (pc' := 99) rfl rfl ?_
        obtain ⟨M11, hM11, h⟩ := xbind h
        refine xr_putI (pc' := 102) rfl (by decide) hM11 rfl ?_
        refine xr_aload_n (pc' := 103) rfl rfl rfl ?_
        obtain ⟨u12, hu12, h⟩ := xbind h
        obtain ⟨q13, hq13, h⟩ := xbind h
        refine xr_callV (pc' := 106) (C := 8) (As := []) (rest := _) rfl hu12 mC_204 mL_204 rfl (Nat.le_of_ble_eq_true rfl) rfl (Nat.le_of_ble_eq_true rfl) (TfM_endsInterval _  hq13) rfl ?_
        refine xr_pop_i (pc' := 107) rfl rfl ?_
        refine xr_goto (t := 127) rfl ?_
        obtain rfl := xsome1 h
        exact xr_ret rfl mR_247
      · refine xr_icmp_ne_t (t := 110) rfl hc ?_
        refine xr_iload_n (pc' := 111) rfl rfl rfl ?_
        refine xr_bipush (v := 63) (pc' := 113) rfl (by decide) rfl ?_
        rcases xite h with ⟨hc, h⟩ | ⟨hc, h⟩
        · refine xr_icmp_ne_f (pc' := 116) rfl hc rfl ?_
          refine xr_aload_n (pc' := 117) rfl rfl rfl ?_
          obtain ⟨u14, hu14, h⟩ := xbind h
          obtain ⟨q15, hq15, h⟩ := xbind h
          refine xr_callV (pc' := 120) (C := 8) (As := []) (rest := _) rfl hu14 mC_252 mL_252 rfl (Nat.le_of_ble_eq_true rfl) rfl (Nat.le_of_ble_eq_true rfl) (TfM_runsIf _  hq15) rfl ?_
          refine xr_goto (t := 127) rfl ?_
          obtain rfl := xsome1 h
          exact xr_ret rfl mR_247
        · refine xr_icmp_ne_t (t := 123) rfl hc ?_
          refine xr_aload_n (pc' := 124) rfl rfl rfl ?_
          obtain ⟨u16, hu16, h⟩ := xbind h
          obtain ⟨q17, hq17, h⟩ := xbind h
          refine xr_callV (pc' := 127) (C := 8) (As := []) (rest := _) rfl hu16 mC_255 mL_255 rfl (Nat.le_of_ble_eq_true rfl) rfl (Nat.le_of_ble_eq_true rfl) (TfM_runsMany _  hq17) rfl ?_
          obtain rfl := xsome1 h
          exact xr_ret rfl mR_247
  · refine xr_if_eq_f (pc' := 21) rfl hc rfl ?_
    refine xr_aload_n (pc' := 22) rfl rfl rfl ?_
    obtain ⟨v18, hv18, h⟩ := xbind h
    refine xr_getR (pc' := 25) rfl (by decide) hv18 rfl ?_
    refine xr_aload_n (pc' := 26) rfl rfl rfl ?_
    obtain ⟨v19, hv19, h⟩ := xbind h
    refine xr_getI (pc' := 29) rfl (by decide) hv19 rfl ?_
    refine xr_iconst (v := 1) (pc' := 30) rfl (by decide) rfl ?_
    refine xr_iadd (pc' := 31) rfl rfl ?_
    obtain ⟨v20, hv20, h⟩ := xbind h
    refine xr_aI (pc' := 32) rfl hv20 rfl ?_
    refine xr_bipush (v := 61) (pc' := 34) rfl (by decide) rfl ?_
    rcases xite h with ⟨hc, h⟩ | ⟨hc, h⟩
    · refine xr_icmp_ne_f (pc' := 37) rfl hc rfl ?_
      refine xr_aload_n (pc' := 38) rfl rfl rfl ?_
      refine xr_iload_n (pc' := 39) rfl rfl rfl ?_
      refine xr_bipush (v := 97) (pc' := 41) rfl (by decide) rfl ?_
      refine xr_isub (pc' := 42) rfl rfl ?_
      obtain ⟨u21, hu21, h⟩ := xbind h
      obtain ⟨q22, hq22, h⟩ := xbind h
      refine xr_callV (pc' := 45) (C := 8) (As := [_]) (rest := _) rfl hu21 mC_248 mL_248 rfl (Nat.le_of_ble_eq_true rfl) rfl (Nat.le_of_ble_eq_true rfl) (TfM_runsTake _ _ hq22) rfl ?_
      refine xr_goto (t := 127) rfl ?_
      obtain rfl := xsome1 h
      exact xr_ret rfl mR_247
    · refine xr_icmp_ne_t (t := 48) rfl hc ?_
      refine xr_aload_n (pc' := 49) rfl rfl rfl ?_
      refine xr_iload_n (pc' := 50) rfl rfl rfl ?_
      refine xr_bipush (v := 97) (pc' := 52) rfl (by decide) rfl ?_
      refine xr_isub (pc' := 53) rfl rfl ?_
      obtain ⟨u23, hu23, h⟩ := xbind h
      obtain ⟨q24, hq24, h⟩ := xbind h
      refine xr_callV (pc' := 56) (C := 8) (As := [_]) (rest := _) rfl hu23 mC_249 mL_249 rfl (Nat.le_of_ble_eq_true rfl) rfl (Nat.le_of_ble_eq_true rfl) (TfM_runsWrite _ _ hq24) rfl ?_
      refine xr_goto (t := 127) rfl ?_
      obtain rfl := xsome1 h
      exact xr_ret rfl mR_247
-- 256: MagazineDepotModel.goesBehind()Z
def fM_goesBehind_134  (M : xMem)  (s0 : Option xId) (s1 : Int32) (s2 : Int32) : Option (Int32 × xMem) :=
  (xpI M s0 8 44 (s1 + s2)).bind fun M29 =>
  some ((1 : Int32), M29)
set_option maxRecDepth 20000 in
theorem TfM_goesBehind_134 {M' : xMem} {r : Int32}  (M : xMem)  (s0 : Option xId) (s1 : Int32) (s2 : Int32) (o0 : Option xId) (h : fM_goesBehind_134  M  s0 s1 s2 = some (r, M')) : xrun none 1 256 134 ([some (.inr (.inr o0))]) ([.inl s2, .inl s1, .inr (.inr s0)]) M (some (.inl r), M') := by
  unfold fM_goesBehind_134 at h
  refine xr_iadd (pc' := 135) rfl rfl ?_
  obtain ⟨M29, hM29, h⟩ := xbind h
  refine xr_putI (pc' := 138) rfl (by decide) hM29 rfl ?_
  refine xr_iconst (v := 1) (pc' := 139) rfl (by decide) rfl ?_
  obtain ⟨rfl, rfl⟩ := xsome2 h
  exact xr_zret rfl mR_256 (by decide)
def fM_goesBehind_97  (M : xMem) (l0 : Option xId)  : Option (Int32 × xMem) :=
  (xgI M l0 8 44).bind fun v23 =>
  (xgI M l0 8 43).bind fun v24 =>
  if v23 = v24 then (
    some ((0 : Int32), M))
  else
  (xgI M l0 8 44).bind fun v25 =>
  (xgR M l0 8 39).bind fun v26 =>
  (xgI M l0 8 44).bind fun v27 =>
  (xaI M v26 v27).bind fun v28 =>
  if v28 = (59 : Int32) then (
    fM_goesBehind_134  M  l0 v25 (1 : Int32))
  else
  fM_goesBehind_134  M  l0 v25 (0 : Int32)
set_option maxRecDepth 20000 in
theorem TfM_goesBehind_97 {M' : xMem} {r : Int32}  (M : xMem) (l0 : Option xId)   (h : fM_goesBehind_97  M l0  = some (r, M')) : xrun none 1 256 97 ([some (.inr (.inr l0))]) ([]) M (some (.inl r), M') := by
  unfold fM_goesBehind_97 at h
  refine xr_aload_n (pc' := 98) rfl rfl rfl ?_
  obtain ⟨v23, hv23, h⟩ := xbind h
  refine xr_getI (pc' := 101) rfl (by decide) hv23 rfl ?_
  refine xr_aload_n (pc' := 102) rfl rfl rfl ?_
  obtain ⟨v24, hv24, h⟩ := xbind h
  refine xr_getI (pc' := 105) rfl (by decide) hv24 rfl ?_
  rcases xite h with ⟨hc, h⟩ | ⟨hc, h⟩
  · refine xr_icmp_ne_f (pc' := 108) rfl hc rfl ?_
    refine xr_iconst (v := 0) (pc' := 109) rfl (by decide) rfl ?_
    obtain ⟨rfl, rfl⟩ := xsome2 h
    exact xr_zret rfl mR_256 (by decide)
  · refine xr_icmp_ne_t (t := 110) rfl hc ?_
    refine xr_aload_n (pc' := 111) rfl rfl rfl ?_
    refine xr_dup_a (pc' := 112) rfl rfl ?_
    obtain ⟨v25, hv25, h⟩ := xbind h
    refine xr_getI (pc' := 115) rfl (by decide) hv25 rfl ?_
    refine xr_aload_n (pc' := 116) rfl rfl rfl ?_
    obtain ⟨v26, hv26, h⟩ := xbind h
    refine xr_getR (pc' := 119) rfl (by decide) hv26 rfl ?_
    refine xr_aload_n (pc' := 120) rfl rfl rfl ?_
    obtain ⟨v27, hv27, h⟩ := xbind h
    refine xr_getI (pc' := 123) rfl (by decide) hv27 rfl ?_
    obtain ⟨v28, hv28, h⟩ := xbind h
    refine xr_aI (pc' := 124) rfl hv28 rfl ?_
    refine xr_bipush (v := 59) (pc' := 126) rfl (by decide) rfl ?_
    rcases xite h with ⟨hc, h⟩ | ⟨hc, h⟩
    · refine xr_icmp_ne_f (pc' := 129) rfl hc rfl ?_
      refine xr_iconst (v := 1) (pc' := 130) rfl (by decide) rfl ?_
      refine xr_goto (t := 134) rfl ?_
      exact TfM_goesBehind_134   M  _ _ _ _ h
    · refine xr_icmp_ne_t (t := 133) rfl hc ?_
      refine xr_iconst (v := 0) (pc' := 134) rfl (by decide) rfl ?_
      exact TfM_goesBehind_134   M  _ _ _ _ h
def fM_goesBehind_0  : Nat → xMem → Option xId → Option (Int32 × xMem)
  | 0, _, _ => none
  | n + 1, M, l0 =>
    (xgI M l0 8 44).bind fun v1 =>
    (xgI M l0 8 43).bind fun v2 =>
    if v2 ≤ v1 then (
      fM_goesBehind_97  M l0 )
    else
    (xgR M l0 8 39).bind fun v3 =>
    (xgI M l0 8 44).bind fun v4 =>
    (xaI M v3 v4).bind fun v5 =>
    if v5 = (41 : Int32) then (
      (xgR M l0 8 41).bind fun v6 =>
      (xgI M l0 8 45).bind fun v7 =>
      (xaI M v6 (v7 - (1 : Int32))).bind fun v8 =>
      (xuI M v6 (v7 - (1 : Int32)) (v8 - (1 : Int32))).bind fun M9 =>
      (xgR M9 l0 8 41).bind fun v10 =>
      (xgI M9 l0 8 45).bind fun v11 =>
      (xaI M9 v10 (v11 - (1 : Int32))).bind fun v12 =>
      if v12 ≤ 0 then (
        (xgI M9 l0 8 45).bind fun v13 =>
        (xpI M9 l0 8 45 (v13 - (1 : Int32))).bind fun M14 =>
        (xgI M14 l0 8 44).bind fun v15 =>
        (xpI M14 l0 8 44 (v15 + (1 : Int32))).bind fun M16 =>
        fM_goesBehind_0  n M16 l0)
      else
      (xgR M9 l0 8 40).bind fun v17 =>
      (xgI M9 l0 8 45).bind fun v18 =>
      (xaI M9 v17 (v18 - (1 : Int32))).bind fun v19 =>
      (xpI M9 l0 8 44 v19).bind fun M20 =>
      (xob M20 l0 8).bind fun u21 =>
      (fM_goesStep M20 u21 ).bind fun q22 =>
      if q22.1 = 0 ∨ q22.1 = 1 then some (q22.1, q22.2) else none)
    else
    fM_goesBehind_97  M l0 
set_option maxRecDepth 20000 in
theorem TfM_goesBehind_0 {M' : xMem} {r : Int32}  : ∀ (n : Nat) (M : xMem) (l0 : Option xId) , fM_goesBehind_0  n M l0 = some (r, M') → xrun none 1 256 0 ([some (.inr (.inr l0))]) ([]) M (some (.inl r), M') := by
  intro n
  induction n with
  | zero => intro M l0  h; unfold fM_goesBehind_0 at h; cases h
  | succ n ih =>
    intro M l0  h
    unfold fM_goesBehind_0 at h
    refine xr_aload_n (pc' := 1) rfl rfl rfl ?_
    obtain ⟨v1, hv1, h⟩ := xbind h
    refine xr_getI (pc' := 4) rfl (by decide) hv1 rfl ?_
    refine xr_aload_n (pc' := 5) rfl rfl rfl ?_
    obtain ⟨v2, hv2, h⟩ := xbind h
    refine xr_getI (pc' := 8) rfl (by decide) hv2 rfl ?_
    rcases xite h with ⟨hc, h⟩ | ⟨hc, h⟩
    · refine xr_icmp_ge_t (t := 97) rfl hc ?_
      exact TfM_goesBehind_97   M _   h
    · refine xr_icmp_ge_f (pc' := 11) rfl hc rfl ?_
      refine xr_aload_n (pc' := 12) rfl rfl rfl ?_
      obtain ⟨v3, hv3, h⟩ := xbind h
      refine xr_getR (pc' := 15) rfl (by decide) hv3 rfl ?_
      refine xr_aload_n (pc' := 16) rfl rfl rfl ?_
      obtain ⟨v4, hv4, h⟩ := xbind h
      refine xr_getI (pc' := 19) rfl (by decide) hv4 rfl ?_
      obtain ⟨v5, hv5, h⟩ := xbind h
      refine xr_aI (pc' := 20) rfl hv5 rfl ?_
      refine xr_bipush (v := 41) (pc' := 22) rfl (by decide) rfl ?_
      rcases xite h with ⟨hc, h⟩ | ⟨hc, h⟩
      · refine xr_icmp_ne_f (pc' := 25) rfl hc rfl ?_
        refine xr_aload_n (pc' := 26) rfl rfl rfl ?_
        obtain ⟨v6, hv6, h⟩ := xbind h
        refine xr_getR (pc' := 29) rfl (by decide) hv6 rfl ?_
        refine xr_aload_n (pc' := 30) rfl rfl rfl ?_
        obtain ⟨v7, hv7, h⟩ := xbind h
        refine xr_getI (pc' := 33) rfl (by decide) hv7 rfl ?_
        refine xr_iconst (v := 1) (pc' := 34) rfl (by decide) rfl ?_
        refine xr_isub (pc' := 35) rfl rfl ?_
        refine xr_dup2_ia (pc' := 36) rfl rfl ?_
        obtain ⟨v8, hv8, h⟩ := xbind h
        refine xr_aI (pc' := 37) rfl hv8 rfl ?_
        refine xr_iconst (v := 1) (pc' := 38) rfl (by decide) rfl ?_
        refine xr_isub (pc' := 39) rfl rfl ?_
        obtain ⟨M9, hM9, h⟩ := xbind h
        refine xr_uI (pc' := 40) rfl hM9 rfl ?_
        refine xr_aload_n (pc' := 41) rfl rfl rfl ?_
        obtain ⟨v10, hv10, h⟩ := xbind h
        refine xr_getR (pc' := 44) rfl (by decide) hv10 rfl ?_
        refine xr_aload_n (pc' := 45) rfl rfl rfl ?_
        obtain ⟨v11, hv11, h⟩ := xbind h
        refine xr_getI (pc' := 48) rfl (by decide) hv11 rfl ?_
        refine xr_iconst (v := 1) (pc' := 49) rfl (by decide) rfl ?_
        refine xr_isub (pc' := 50) rfl rfl ?_
        obtain ⟨v12, hv12, h⟩ := xbind h
        refine xr_aI (pc' := 51) rfl hv12 rfl ?_
        rcases xite h with ⟨hc, h⟩ | ⟨hc, h⟩
        · refine xr_if_le_t (t := 74) rfl hc ?_
          refine xr_aload_n (pc' := 75) rfl rfl rfl ?_
          refine xr_dup_a (pc' := 76) rfl rfl ?_
          obtain ⟨v13, hv13, h⟩ := xbind h
          refine xr_getI (pc' := 79) rfl (by decide) hv13 rfl ?_
          refine xr_iconst (v := 1) (pc' := 80) rfl (by decide) rfl ?_
          refine xr_isub (pc' := 81) rfl rfl ?_
          obtain ⟨M14, hM14, h⟩ := xbind h
          refine xr_putI (pc' := 84) rfl (by decide) hM14 rfl ?_
          refine xr_aload_n (pc' := 85) rfl rfl rfl ?_
          refine xr_dup_a (pc' := 86) rfl rfl ?_
          obtain ⟨v15, hv15, h⟩ := xbind h
          refine xr_getI (pc' := 89) rfl (by decide) hv15 rfl ?_
          refine xr_iconst (v := 1) (pc' := 90) rfl (by decide) rfl ?_
          refine xr_iadd (pc' := 91) rfl rfl ?_
          obtain ⟨M16, hM16, h⟩ := xbind h
          refine xr_putI (pc' := 94) rfl (by decide) hM16 rfl ?_
          refine xr_goto (t := 0) rfl ?_
          exact ih M16 _  h
        · refine xr_if_le_f (pc' := 54) rfl hc rfl ?_
          refine xr_aload_n (pc' := 55) rfl rfl rfl ?_
          refine xr_aload_n (pc' := 56) rfl rfl rfl ?_
          obtain ⟨v17, hv17, h⟩ := xbind h
          refine xr_getR (pc' := 59) rfl (by decide) hv17 rfl ?_
          refine xr_aload_n (pc' := 60) rfl rfl rfl ?_
          obtain ⟨v18, hv18, h⟩ := xbind h
          refine xr_getI (pc' := 63) rfl (by decide) hv18 rfl ?_
          refine xr_iconst (v := 1) (pc' := 64) rfl (by decide) rfl ?_
          refine xr_isub (pc' := 65) rfl rfl ?_
          obtain ⟨v19, hv19, h⟩ := xbind h
          refine xr_aI (pc' := 66) rfl hv19 rfl ?_
          obtain ⟨M20, hM20, h⟩ := xbind h
          refine xr_putI (pc' := 69) rfl (by decide) hM20 rfl ?_
          refine xr_aload_n (pc' := 70) rfl rfl rfl ?_
          obtain ⟨u21, hu21, h⟩ := xbind h
          obtain ⟨q22, hq22, h⟩ := xbind h
          refine xr_callV (pc' := 73) (C := 8) (As := []) (rest := _) rfl hu21 mC_246 mL_246 rfl (Nat.le_of_ble_eq_true rfl) rfl (Nat.le_of_ble_eq_true rfl) (TfM_goesStep _  hq22) rfl ?_
          rcases xite h with ⟨hc, h⟩ | ⟨hc, h⟩
          · obtain ⟨rfl, rfl⟩ := xsome2 h
            exact xr_zret rfl mR_256 hc
          · cases h
      · refine xr_icmp_ne_t (t := 97) rfl hc ?_
        exact TfM_goesBehind_97   M _   h
def fM_goesBehind (M : xMem) (this : xId) : Option (Int32 × xMem) :=
  fM_goesBehind_0  xF M (some this)
set_option maxRecDepth 20000 in
theorem TfM_goesBehind {M M' : xMem} {r : Int32} (this : xId) (h : fM_goesBehind M this = some (r, M')) : xrun none 1 256 0 ([some (.inr (.inr (some this)))]) ([]) M (some (.inl r), M') := by
  unfold fM_goesBehind at h
  exact TfM_goesBehind_0   xF M _  h
-- 245: MagazineDepotModel.runs()V
def fM_runs_56 (k22 : xMem → Option xId → Int32 → Option xMem) (M : xMem) (l0 : Option xId) (s0 : Int32) : Option xMem :=
  k22 M l0 s0
set_option maxRecDepth 20000 in
theorem TfM_runs_56 {M' : xMem} (k22 : xMem → Option xId → Int32 → Option xMem) (hk22 : ∀ (M : xMem) (l0 : Option xId) (l1 : Int32) , k22 M l0 l1 = some M' → xrun none 8 245 22 ([some (.inr (.inr l0)), some (.inl l1)]) ([]) M (none, M')) (M : xMem) (l0 : Option xId) (s0 : Int32) (o1 : Int32) (h : fM_runs_56 k22 M l0 s0 = some M') : xrun none 8 245 56 ([some (.inr (.inr l0)), some (.inl o1)]) ([.inl s0]) M (none, M') := by
  unfold fM_runs_56 at h
  refine xr_istore_n (pc' := 57) rfl rfl rfl ?_
  refine xr_goto (t := 22) rfl ?_
  exact hk22 M _ _  h
def fM_runs_55 (k22 : xMem → Option xId → Int32 → Option xMem) (M : xMem) (l0 : Option xId)  : Option xMem :=
  fM_runs_56 k22 M l0 (0 : Int32)
set_option maxRecDepth 20000 in
theorem TfM_runs_55 {M' : xMem} (k22 : xMem → Option xId → Int32 → Option xMem) (hk22 : ∀ (M : xMem) (l0 : Option xId) (l1 : Int32) , k22 M l0 l1 = some M' → xrun none 8 245 22 ([some (.inr (.inr l0)), some (.inl l1)]) ([]) M (none, M')) (M : xMem) (l0 : Option xId)  (o1 : Int32) (h : fM_runs_55 k22 M l0  = some M') : xrun none 8 245 55 ([some (.inr (.inr l0)), some (.inl o1)]) ([]) M (none, M') := by
  unfold fM_runs_55 at h
  refine xr_iconst (v := 0) (pc' := 56) rfl (by decide) rfl ?_
  exact TfM_runs_56 _ hk22 M _ _ _ h
def fM_runs_22  : Nat → xMem → Option xId → Int32 → Option xMem
  | 0, _, _, _ => none
  | n + 1, M, l0, l1 =>
    if l1 = 0 then (
      some M)
    else
    (xob M l0 8).bind fun u5 =>
    (fM_goesStep M u5 ).bind fun q6 =>
    if q6.1 = 0 then (
      some q6.2)
    else
    (xob q6.2 l0 8).bind fun u7 =>
    (fM_runsStatement q6.2 u7 ).bind fun q8 =>
    (xgI q8 l0 8 48).bind fun v9 =>
    if v9 = 0 then (
      (xob q8 l0 8).bind fun u10 =>
      (fM_goesBehind q8 u10 ).bind fun q11 =>
      if q11.1 = 0 then (
        fM_runs_55 (fun M l0 l1 => fM_runs_22  n M l0 l1) q11.2 l0 )
      else
      fM_runs_56 (fun M l0 l1 => fM_runs_22  n M l0 l1) q11.2 l0 (1 : Int32))
    else
    fM_runs_55 (fun M l0 l1 => fM_runs_22  n M l0 l1) q8 l0 
set_option maxRecDepth 20000 in
theorem TfM_runs_22 {M' : xMem}  : ∀ (n : Nat) (M : xMem) (l0 : Option xId) (l1 : Int32) , fM_runs_22  n M l0 l1 = some M' → xrun none 8 245 22 ([some (.inr (.inr l0)), some (.inl l1)]) ([]) M (none, M') := by
  intro n
  induction n with
  | zero => intro M l0 l1  h; unfold fM_runs_22 at h; cases h
  | succ n ih =>
    intro M l0 l1  h
    unfold fM_runs_22 at h
    refine xr_iload_n (pc' := 23) rfl rfl rfl ?_
    rcases xite h with ⟨hc, h⟩ | ⟨hc, h⟩
    · refine xr_if_eq_t (t := 60) rfl hc ?_
      obtain rfl := xsome1 h
      exact xr_ret rfl mR_245
    · refine xr_if_eq_f (pc' := 26) rfl hc rfl ?_
      refine xr_aload_n (pc' := 27) rfl rfl rfl ?_
      obtain ⟨u5, hu5, h⟩ := xbind h
      obtain ⟨q6, hq6, h⟩ := xbind h
      refine xr_callV (pc' := 30) (C := 8) (As := []) (rest := _) rfl hu5 mC_246 mL_246 rfl (Nat.le_of_ble_eq_true rfl) rfl (Nat.le_of_ble_eq_true rfl) (TfM_goesStep _  hq6) rfl ?_
      rcases xite h with ⟨hc, h⟩ | ⟨hc, h⟩
      · refine xr_if_eq_t (t := 60) rfl hc ?_
        obtain rfl := xsome1 h
        exact xr_ret rfl mR_245
      · refine xr_if_eq_f (pc' := 33) rfl hc rfl ?_
        refine xr_aload_n (pc' := 34) rfl rfl rfl ?_
        obtain ⟨u7, hu7, h⟩ := xbind h
        obtain ⟨q8, hq8, h⟩ := xbind h
        refine xr_callV (pc' := 37) (C := 8) (As := []) (rest := _) rfl hu7 mC_247 mL_247 rfl (Nat.le_of_ble_eq_true rfl) rfl (Nat.le_of_ble_eq_true rfl) (TfM_runsStatement _  hq8) rfl ?_
        refine xr_aload_n (pc' := 38) rfl rfl rfl ?_
        obtain ⟨v9, hv9, h⟩ := xbind h
        refine xr_getI (pc' := 41) rfl (by decide) hv9 rfl ?_
        rcases xite h with ⟨hc, h⟩ | ⟨hc, h⟩
        · refine xr_if_ne_f (pc' := 44) rfl hc rfl ?_
          refine xr_aload_n (pc' := 45) rfl rfl rfl ?_
          obtain ⟨u10, hu10, h⟩ := xbind h
          obtain ⟨q11, hq11, h⟩ := xbind h
          refine xr_callV (pc' := 48) (C := 8) (As := []) (rest := _) rfl hu10 mC_256 mL_256 rfl (Nat.le_of_ble_eq_true rfl) rfl (Nat.le_of_ble_eq_true rfl) (TfM_goesBehind _  hq11) rfl ?_
          rcases xite h with ⟨hc, h⟩ | ⟨hc, h⟩
          · refine xr_if_eq_t (t := 55) rfl hc ?_
            exact TfM_runs_55 _ (fun M l0 l1  h => ih M l0 l1  h) q11.2 _  _ h
          · refine xr_if_eq_f (pc' := 51) rfl hc rfl ?_
            refine xr_iconst (v := 1) (pc' := 52) rfl (by decide) rfl ?_
            refine xr_goto (t := 56) rfl ?_
            exact TfM_runs_56 _ (fun M l0 l1  h => ih M l0 l1  h) q11.2 _ _ _ h
        · refine xr_if_ne_t (t := 55) rfl hc ?_
          exact TfM_runs_55 _ (fun M l0 l1  h => ih M l0 l1  h) q8 _  _ h
def fM_runs (M : xMem) (this : xId) : Option xMem :=
  (xpI M (some this) 8 44 (0 : Int32)).bind fun M1 =>
  (xpI M1 (some this) 8 45 (0 : Int32)).bind fun M2 =>
  (xpI M2 (some this) 8 47 (0 : Int32)).bind fun M3 =>
  (xpI M3 (some this) 8 48 (0 : Int32)).bind fun M4 =>
  fM_runs_22  xF M4 (some this) (1 : Int32)
set_option maxRecDepth 20000 in
theorem TfM_runs {M M' : xMem} (this : xId) (h : fM_runs M this = some M') : xrun none 8 245 0 ([some (.inr (.inr (some this))), none]) ([]) M (none, M') := by
  unfold fM_runs at h
  refine xr_aload_n (pc' := 1) rfl rfl rfl ?_
  refine xr_iconst (v := 0) (pc' := 2) rfl (by decide) rfl ?_
  obtain ⟨M1, hM1, h⟩ := xbind h
  refine xr_putI (pc' := 5) rfl (by decide) hM1 rfl ?_
  refine xr_aload_n (pc' := 6) rfl rfl rfl ?_
  refine xr_iconst (v := 0) (pc' := 7) rfl (by decide) rfl ?_
  obtain ⟨M2, hM2, h⟩ := xbind h
  refine xr_putI (pc' := 10) rfl (by decide) hM2 rfl ?_
  refine xr_aload_n (pc' := 11) rfl rfl rfl ?_
  refine xr_iconst (v := 0) (pc' := 12) rfl (by decide) rfl ?_
  obtain ⟨M3, hM3, h⟩ := xbind h
  refine xr_putI (pc' := 15) rfl (by decide) hM3 rfl ?_
  refine xr_aload_n (pc' := 16) rfl rfl rfl ?_
  refine xr_iconst (v := 0) (pc' := 17) rfl (by decide) rfl ?_
  obtain ⟨M4, hM4, h⟩ := xbind h
  refine xr_putI (pc' := 20) rfl (by decide) hM4 rfl ?_
  refine xr_iconst (v := 1) (pc' := 21) rfl (by decide) rfl ?_
  refine xr_istore_n (pc' := 22) rfl rfl rfl ?_
  exact TfM_runs_22   xF M4 _ _  h
-- 244: MagazineDepotModel.run()I
def fM_run (M : xMem) (this : xId) : Option (Int32 × xMem) :=
  (xgI M (some this) 8 46).bind fun v1 =>
  if v1 = 0 then (
    some ((-5 : Int32), M))
  else
  (xob M (some this) 8).bind fun u2 =>
  (fM_runs M u2 ).bind fun q3 =>
  (xgI q3 (some this) 8 48).bind fun v4 =>
  (xpI q3 (some this) 8 49 v4).bind fun M5 =>
  (xgI M5 (some this) 8 47).bind fun v6 =>
  some (v6, M5)
set_option maxRecDepth 20000 in
theorem TfM_run {M M' : xMem} {r : Int32} (this : xId) (h : fM_run M this = some (r, M')) : xrun none 9 244 0 ([some (.inr (.inr (some this)))]) ([]) M (some (.inl r), M') := by
  unfold fM_run at h
  refine xr_aload_n (pc' := 1) rfl rfl rfl ?_
  obtain ⟨v1, hv1, h⟩ := xbind h
  refine xr_getI (pc' := 4) rfl (by decide) hv1 rfl ?_
  rcases xite h with ⟨hc, h⟩ | ⟨hc, h⟩
  · refine xr_if_ne_f (pc' := 7) rfl hc rfl ?_
    refine xr_bipush (v := -5) (pc' := 9) rfl (by decide) rfl ?_
    obtain ⟨rfl, rfl⟩ := xsome2 h
    exact xr_iret rfl mR_244
  · refine xr_if_ne_t (t := 10) rfl hc ?_
    refine xr_aload_n (pc' := 11) rfl rfl rfl ?_
    obtain ⟨u2, hu2, h⟩ := xbind h
    obtain ⟨q3, hq3, h⟩ := xbind h
    refine xr_callV (pc' := 14) (C := 8) (As := []) (rest := _) rfl hu2 mC_245 mL_245 rfl (Nat.le_of_ble_eq_true rfl) rfl (Nat.le_of_ble_eq_true rfl) (TfM_runs _  hq3) rfl ?_
    refine xr_aload_n (pc' := 15) rfl rfl rfl ?_
    refine xr_aload_n (pc' := 16) rfl rfl rfl ?_
    obtain ⟨v4, hv4, h⟩ := xbind h
    refine xr_getI (pc' := 19) rfl (by decide) hv4 rfl ?_
    obtain ⟨M5, hM5, h⟩ := xbind h
    refine xr_putI (pc' := 22) rfl (by decide) hM5 rfl ?_
    refine xr_aload_n (pc' := 23) rfl rfl rfl ?_
    obtain ⟨v6, hv6, h⟩ := xbind h
    refine xr_getI (pc' := 26) rfl (by decide) hv6 rfl ?_
    obtain ⟨rfl, rfl⟩ := xsome2 h
    exact xr_iret rfl mR_244
-- 257: MagazineDepotModel.why()I
def fM_why (M : xMem) (this : xId) : Option (Int32 × xMem) :=
  (xgI M (some this) 8 49).bind fun v1 =>
  some (v1, M)
set_option maxRecDepth 20000 in
theorem TfM_why {M M' : xMem} {r : Int32} (this : xId) (h : fM_why M this = some (r, M')) : xrun none 0 257 0 ([some (.inr (.inr (some this)))]) ([]) M (some (.inl r), M') := by
  unfold fM_why at h
  refine xr_aload_n (pc' := 1) rfl rfl rfl ?_
  obtain ⟨v1, hv1, h⟩ := xbind h
  refine xr_getI (pc' := 4) rfl (by decide) hv1 rfl ?_
  obtain ⟨rfl, rfl⟩ := xsome2 h
  exact xr_iret rfl mR_257
-- 259: MagazineDepotModel.runsInThought(I)V
def fM_runsInThought_50  (M : xMem) (l0 : Option xId)  : Option xMem :=
  (xgI M l0 8 15).bind fun v12 =>
  (xob M l0 8).bind fun u13 =>
  (fM_runs M u13 ).bind fun q14 =>
  (xgI q14 l0 8 15).bind fun v15 =>
  (xpI q14 l0 8 50 (v15 - v12)).bind fun M16 =>
  (xob M16 l0 8).bind fun u17 =>
  (fM_liveNow M16 u17 ).bind fun q18 =>
  (xpI q18.2 l0 8 51 q18.1).bind fun M19 =>
  (xob M19 l0 8).bind fun u20 =>
  (fM_forgets M19 u20 ).bind fun q21 =>
  some q21
set_option maxRecDepth 20000 in
theorem TfM_runsInThought_50 {M' : xMem}  (M : xMem) (l0 : Option xId)  (o1 : Int32) (o2 : Int32) (h : fM_runsInThought_50  M l0  = some M') : xrun none 9 259 50 ([some (.inr (.inr l0)), some (.inl o1), some (.inl o2)]) ([]) M (none, M') := by
  unfold fM_runsInThought_50 at h
  refine xr_aload_n (pc' := 51) rfl rfl rfl ?_
  obtain ⟨v12, hv12, h⟩ := xbind h
  refine xr_getI (pc' := 54) rfl (by decide) hv12 rfl ?_
  refine xr_istore_n (pc' := 55) rfl rfl rfl ?_
  refine xr_aload_n (pc' := 56) rfl rfl rfl ?_
  obtain ⟨u13, hu13, h⟩ := xbind h
  obtain ⟨q14, hq14, h⟩ := xbind h
  refine xr_callV (pc' := 59) (C := 8) (As := []) (rest := _) rfl hu13 mC_245 mL_245 rfl (Nat.le_of_ble_eq_true rfl) rfl (Nat.le_of_ble_eq_true rfl) (TfM_runs _  hq14) rfl ?_
  refine xr_aload_n (pc' := 60) rfl rfl rfl ?_
  refine xr_aload_n (pc' := 61) rfl rfl rfl ?_
  obtain ⟨v15, hv15, h⟩ := xbind h
  refine xr_getI (pc' := 64) rfl (by decide) hv15 rfl ?_
  refine xr_iload_n (pc' := 65) rfl rfl rfl ?_
  refine xr_isub (pc' := 66) rfl rfl ?_
  obtain ⟨M16, hM16, h⟩ := xbind h
  refine xr_putI (pc' := 69) rfl (by decide) hM16 rfl ?_
  refine xr_aload_n (pc' := 70) rfl rfl rfl ?_
  refine xr_aload_n (pc' := 71) rfl rfl rfl ?_
  obtain ⟨u17, hu17, h⟩ := xbind h
  obtain ⟨q18, hq18, h⟩ := xbind h
  refine xr_callV (pc' := 74) (C := 8) (As := []) (rest := _) rfl hu17 mC_233 mL_233 rfl (Nat.le_of_ble_eq_true rfl) rfl (Nat.le_of_ble_eq_true rfl) (TfM_liveNow _  hq18) rfl ?_
  obtain ⟨M19, hM19, h⟩ := xbind h
  refine xr_putI (pc' := 77) rfl (by decide) hM19 rfl ?_
  refine xr_aload_n (pc' := 78) rfl rfl rfl ?_
  obtain ⟨u20, hu20, h⟩ := xbind h
  obtain ⟨q21, hq21, h⟩ := xbind h
  refine xr_callV (pc' := 81) (C := 8) (As := []) (rest := _) rfl hu20 mC_229 mL_229 rfl (Nat.le_of_ble_eq_true rfl) rfl (Nat.le_of_ble_eq_true rfl) (TfM_forgets _  hq21) rfl ?_
  obtain rfl := xsome1 h
  exact xr_ret rfl mR_259
def fM_runsInThought_6  : Nat → xMem → Option xId → Int32 → Int32 → Option xMem
  | 0, _, _, _, _ => none
  | n + 1, M, l0, l1, l2 =>
    (xgI M l0 8 13).bind fun v3 =>
    if v3 ≤ l2 then (
      fM_runsInThought_50  M l0 )
    else
    if l1 ≤ 0 then (
      fM_runsInThought_50  M l0 )
    else
    (xob M l0 8).bind fun u4 =>
    (fM_unmakesAll M u4 l2).bind fun q5 =>
    (xgR q5 l0 8 3).bind fun v6 =>
    (xuI q5 v6 l2 l1).bind fun M7 =>
    (xgR M7 l0 8 7).bind fun v8 =>
    (xuI M7 v8 l2 (0 : Int32)).bind fun M9 =>
    (xgR M9 l0 8 8).bind fun v10 =>
    (xuI M9 v10 l2 (0 : Int32)).bind fun M11 =>
    fM_runsInThought_6  n M11 l0 l1 (l2 + 1)
set_option maxRecDepth 20000 in
theorem TfM_runsInThought_6 {M' : xMem}  : ∀ (n : Nat) (M : xMem) (l0 : Option xId) (l1 : Int32) (l2 : Int32) , fM_runsInThought_6  n M l0 l1 l2 = some M' → xrun none 9 259 6 ([some (.inr (.inr l0)), some (.inl l1), some (.inl l2)]) ([]) M (none, M') := by
  intro n
  induction n with
  | zero => intro M l0 l1 l2  h; unfold fM_runsInThought_6 at h; cases h
  | succ n ih =>
    intro M l0 l1 l2  h
    unfold fM_runsInThought_6 at h
    refine xr_iload_n (pc' := 7) rfl rfl rfl ?_
    refine xr_aload_n (pc' := 8) rfl rfl rfl ?_
    obtain ⟨v3, hv3, h⟩ := xbind h
    refine xr_getI (pc' := 11) rfl (by decide) hv3 rfl ?_
    rcases xite h with ⟨hc, h⟩ | ⟨hc, h⟩
    · refine xr_icmp_ge_t (t := 50) rfl hc ?_
      exact TfM_runsInThought_50   M _  _ _ h
    · refine xr_icmp_ge_f (pc' := 14) rfl hc rfl ?_
      refine xr_iload_n (pc' := 15) rfl rfl rfl ?_
      rcases xite h with ⟨hc, h⟩ | ⟨hc, h⟩
      · refine xr_if_le_t (t := 50) rfl hc ?_
        exact TfM_runsInThought_50   M _  _ _ h
      · refine xr_if_le_f (pc' := 18) rfl hc rfl ?_
        refine xr_aload_n (pc' := 19) rfl rfl rfl ?_
        refine xr_iload_n (pc' := 20) rfl rfl rfl ?_
        obtain ⟨u4, hu4, h⟩ := xbind h
        obtain ⟨q5, hq5, h⟩ := xbind h
        refine xr_callV (pc' := 23) (C := 8) (As := [_]) (rest := _) rfl hu4 mC_209 mL_209 rfl (Nat.le_of_ble_eq_true rfl) rfl (Nat.le_of_ble_eq_true rfl) (TfM_unmakesAll _ _ hq5) rfl ?_
        refine xr_aload_n (pc' := 24) rfl rfl rfl ?_
        obtain ⟨v6, hv6, h⟩ := xbind h
        refine xr_getR (pc' := 27) rfl (by decide) hv6 rfl ?_
        refine xr_iload_n (pc' := 28) rfl rfl rfl ?_
        refine xr_iload_n (pc' := 29) rfl rfl rfl ?_
        obtain ⟨M7, hM7, h⟩ := xbind h
        refine xr_uI (pc' := 30) rfl hM7 rfl ?_
        refine xr_aload_n (pc' := 31) rfl rfl rfl ?_
        obtain ⟨v8, hv8, h⟩ := xbind h
        refine xr_getR (pc' := 34) rfl (by decide) hv8 rfl ?_
        refine xr_iload_n (pc' := 35) rfl rfl rfl ?_
        refine xr_iconst (v := 0) (pc' := 36) rfl (by decide) rfl ?_
        obtain ⟨M9, hM9, h⟩ := xbind h
        refine xr_uI (pc' := 37) rfl hM9 rfl ?_
        refine xr_aload_n (pc' := 38) rfl rfl rfl ?_
        obtain ⟨v10, hv10, h⟩ := xbind h
        refine xr_getR (pc' := 41) rfl (by decide) hv10 rfl ?_
        refine xr_iload_n (pc' := 42) rfl rfl rfl ?_
        refine xr_iconst (v := 0) (pc' := 43) rfl (by decide) rfl ?_
        obtain ⟨M11, hM11, h⟩ := xbind h
        refine xr_uI (pc' := 44) rfl hM11 rfl ?_
        refine xr_iinc (c := 1) (pc' := 47) rfl (by decide) rfl rfl rfl ?_
        refine xr_goto (t := 6) rfl ?_
        exact ih M11 _ _ _  h
def fM_runsInThought (M : xMem) (this : xId) (a0 : Int32) : Option xMem :=
  (xob M (some this) 8).bind fun u1 =>
  (fM_thinks M u1 ).bind fun q2 =>
  fM_runsInThought_6  xF q2 (some this) a0 (0 : Int32)
set_option maxRecDepth 20000 in
theorem TfM_runsInThought {M M' : xMem} (this : xId) (a0 : Int32) (h : fM_runsInThought M this a0 = some M') : xrun none 9 259 0 ([some (.inr (.inr (some this))), some (.inl a0), none]) ([]) M (none, M') := by
  unfold fM_runsInThought at h
  refine xr_aload_n (pc' := 1) rfl rfl rfl ?_
  obtain ⟨u1, hu1, h⟩ := xbind h
  obtain ⟨q2, hq2, h⟩ := xbind h
  refine xr_callV (pc' := 4) (C := 8) (As := []) (rest := _) rfl hu1 mC_228 mL_228 rfl (Nat.le_of_ble_eq_true rfl) rfl (Nat.le_of_ble_eq_true rfl) (TfM_thinks _  hq2) rfl ?_
  refine xr_iconst (v := 0) (pc' := 5) rfl (by decide) rfl ?_
  refine xr_istore_n (pc' := 6) rfl rfl rfl ?_
  exact TfM_runsInThought_6   xF q2 _ _ _  h
-- 258: MagazineDepotModel.dry(I)I
def fM_dry (M : xMem) (this : xId) (a0 : Int32) : Option (Int32 × xMem) :=
  (fM_isIn M a0 (0 : Int32) (3 : Int32)).bind fun q1 =>
  if q1.1 = 0 then (
    some ((-2000000000 : Int32), q1.2))
  else
  (xgI q1.2 (some this) 8 46).bind fun v2 =>
  if v2 = 0 then (
    some ((-2000000000 : Int32), q1.2))
  else
  (xob q1.2 (some this) 8).bind fun u3 =>
  (fM_runsInThought q1.2 u3 (0 : Int32)).bind fun q4 =>
  if a0 = 0 then (
    (xgI q4 (some this) 8 47).bind fun v5 =>
    some (v5, q4))
  else
  if a0 = (1 : Int32) then (
    (xgI q4 (some this) 8 48).bind fun v6 =>
    some (v6, q4))
  else
  if a0 = (2 : Int32) then (
    (xgI q4 (some this) 8 50).bind fun v7 =>
    some (v7, q4))
  else
  (xgI q4 (some this) 8 51).bind fun v8 =>
  some (v8, q4)
set_option maxRecDepth 20000 in
theorem TfM_dry {M M' : xMem} {r : Int32} (this : xId) (a0 : Int32) (h : fM_dry M this a0 = some (r, M')) : xrun none 10 258 0 ([some (.inr (.inr (some this))), some (.inl a0)]) ([]) M (some (.inl r), M') := by
  unfold fM_dry at h
  refine xr_iload_n (pc' := 1) rfl rfl rfl ?_
  refine xr_iconst (v := 0) (pc' := 2) rfl (by decide) rfl ?_
  refine xr_iconst (v := 3) (pc' := 3) rfl (by decide) rfl ?_
  obtain ⟨q1, hq1, h⟩ := xbind h
  refine xr_callS (pc' := 6) (As := [_, _, _]) (rest := _) rfl (by decide) mL_163 rfl (Nat.le_of_ble_eq_true rfl) rfl (Nat.le_of_ble_eq_true rfl) (TfM_isIn _ _ _ hq1) rfl ?_
  rcases xite h with ⟨hc, h⟩ | ⟨hc, h⟩
  · refine xr_if_eq_t (t := 16) rfl hc ?_
    refine xr_ldc_w (v := -2000000000) (pc' := 19) rfl (by decide) rfl ?_
    obtain ⟨rfl, rfl⟩ := xsome2 h
    exact xr_iret rfl mR_258
  · refine xr_if_eq_f (pc' := 9) rfl hc rfl ?_
    refine xr_aload_n (pc' := 10) rfl rfl rfl ?_
    obtain ⟨v2, hv2, h⟩ := xbind h
    refine xr_getI (pc' := 13) rfl (by decide) hv2 rfl ?_
    rcases xite h with ⟨hc, h⟩ | ⟨hc, h⟩
    · refine xr_if_ne_f (pc' := 16) rfl hc rfl ?_
      refine xr_ldc_w (v := -2000000000) (pc' := 19) rfl (by decide) rfl ?_
      obtain ⟨rfl, rfl⟩ := xsome2 h
      exact xr_iret rfl mR_258
    · refine xr_if_ne_t (t := 20) rfl hc ?_
      refine xr_aload_n (pc' := 21) rfl rfl rfl ?_
      refine xr_iconst (v := 0) (pc' := 22) rfl (by decide) rfl ?_
      obtain ⟨u3, hu3, h⟩ := xbind h
      obtain ⟨q4, hq4, h⟩ := xbind h
      refine xr_callV (pc' := 25) (C := 8) (As := [_]) (rest := _) rfl hu3 mC_259 mL_259 rfl (Nat.le_of_ble_eq_true rfl) rfl (Nat.le_of_ble_eq_true rfl) (TfM_runsInThought _ _ hq4) rfl ?_
      refine xr_iload_n (pc' := 26) rfl rfl rfl ?_
      rcases xite h with ⟨hc, h⟩ | ⟨hc, h⟩
      · refine xr_if_ne_f (pc' := 29) rfl hc rfl ?_
        refine xr_aload_n (pc' := 30) rfl rfl rfl ?_
        obtain ⟨v5, hv5, h⟩ := xbind h
        refine xr_getI (pc' := 33) rfl (by decide) hv5 rfl ?_
        refine xr_goto (t := 64) rfl ?_
        obtain ⟨rfl, rfl⟩ := xsome2 h
        exact xr_iret rfl mR_258
      · refine xr_if_ne_t (t := 36) rfl hc ?_
        refine xr_iload_n (pc' := 37) rfl rfl rfl ?_
        refine xr_iconst (v := 1) (pc' := 38) rfl (by decide) rfl ?_
        rcases xite h with ⟨hc, h⟩ | ⟨hc, h⟩
        · refine xr_icmp_ne_f (pc' := 41) rfl hc rfl ?_
          refine xr_aload_n (pc' := 42) rfl rfl rfl ?_
          obtain ⟨v6, hv6, h⟩ := xbind h
          refine xr_getI (pc' := 45) rfl (by decide) hv6 rfl ?_
          refine xr_goto (t := 64) rfl ?_
          obtain ⟨rfl, rfl⟩ := xsome2 h
          exact xr_iret rfl mR_258
        · refine xr_icmp_ne_t (t := 48) rfl hc ?_
          refine xr_iload_n (pc' := 49) rfl rfl rfl ?_
          refine xr_iconst (v := 2) (pc' := 50) rfl (by decide) rfl ?_
          rcases xite h with ⟨hc, h⟩ | ⟨hc, h⟩
          · refine xr_icmp_ne_f (pc' := 53) rfl hc rfl ?_
            refine xr_aload_n (pc' := 54) rfl rfl rfl ?_
            obtain ⟨v7, hv7, h⟩ := xbind h
            refine xr_getI (pc' := 57) rfl (by decide) hv7 rfl ?_
            refine xr_goto (t := 64) rfl ?_
            obtain ⟨rfl, rfl⟩ := xsome2 h
            exact xr_iret rfl mR_258
          · refine xr_icmp_ne_t (t := 60) rfl hc ?_
            refine xr_aload_n (pc' := 61) rfl rfl rfl ?_
            obtain ⟨v8, hv8, h⟩ := xbind h
            refine xr_getI (pc' := 64) rfl (by decide) hv8 rfl ?_
            obtain ⟨rfl, rfl⟩ := xsome2 h
            exact xr_iret rfl mR_258
-- 260: MagazineDepotModel.tuned(I)I
def fM_tuned_64 (k28 : xMem → Option xId → Int32 → Int32 → Int32 → Int32 → Option (Int32 × xMem)) (M : xMem) (l0 : Option xId) (l1 : Int32) (l2 : Int32) (l3 : Int32) (l4 : Int32)  : Option (Int32 × xMem) :=
  k28 M l0 l1 l2 l3 (l4 + 1)
set_option maxRecDepth 20000 in
theorem TfM_tuned_64 {M' : xMem} {r : Int32} (k28 : xMem → Option xId → Int32 → Int32 → Int32 → Int32 → Option (Int32 × xMem)) (hk28 : ∀ (M : xMem) (l0 : Option xId) (l1 : Int32) (l2 : Int32) (l3 : Int32) (l4 : Int32) , k28 M l0 l1 l2 l3 l4 = some (r, M') → xrun none 10 260 28 ([some (.inr (.inr l0)), some (.inl l1), some (.inl l2), some (.inl l3), some (.inl l4)]) ([]) M (some (.inl r), M')) (M : xMem) (l0 : Option xId) (l1 : Int32) (l2 : Int32) (l3 : Int32) (l4 : Int32)   (h : fM_tuned_64 k28 M l0 l1 l2 l3 l4  = some (r, M')) : xrun none 10 260 64 ([some (.inr (.inr l0)), some (.inl l1), some (.inl l2), some (.inl l3), some (.inl l4)]) ([]) M (some (.inl r), M') := by
  unfold fM_tuned_64 at h
  refine xr_iinc (c := 1) (pc' := 67) rfl (by decide) rfl rfl rfl ?_
  refine xr_goto (t := 28) rfl ?_
  exact hk28 M _ _ _ _ _  h
def fM_tuned_56 (k28 : xMem → Option xId → Int32 → Int32 → Int32 → Int32 → Option (Int32 × xMem)) (M : xMem) (l0 : Option xId) (l1 : Int32) (l4 : Int32)  : Option (Int32 × xMem) :=
  (xgI M l0 8 50).bind fun v6 =>
  fM_tuned_64 k28 M l0 l1 l4 v6 l4 
set_option maxRecDepth 20000 in
theorem TfM_tuned_56 {M' : xMem} {r : Int32} (k28 : xMem → Option xId → Int32 → Int32 → Int32 → Int32 → Option (Int32 × xMem)) (hk28 : ∀ (M : xMem) (l0 : Option xId) (l1 : Int32) (l2 : Int32) (l3 : Int32) (l4 : Int32) , k28 M l0 l1 l2 l3 l4 = some (r, M') → xrun none 10 260 28 ([some (.inr (.inr l0)), some (.inl l1), some (.inl l2), some (.inl l3), some (.inl l4)]) ([]) M (some (.inl r), M')) (M : xMem) (l0 : Option xId) (l1 : Int32) (l4 : Int32)  (o2 : Int32) (o3 : Int32) (h : fM_tuned_56 k28 M l0 l1 l4  = some (r, M')) : xrun none 10 260 56 ([some (.inr (.inr l0)), some (.inl l1), some (.inl o2), some (.inl o3), some (.inl l4)]) ([]) M (some (.inl r), M') := by
  unfold fM_tuned_56 at h
  refine xr_iload (pc' := 58) rfl rfl rfl ?_
  refine xr_istore_n (pc' := 59) rfl rfl rfl ?_
  refine xr_aload_n (pc' := 60) rfl rfl rfl ?_
  obtain ⟨v6, hv6, h⟩ := xbind h
  refine xr_getI (pc' := 63) rfl (by decide) hv6 rfl ?_
  refine xr_istore_n (pc' := 64) rfl rfl rfl ?_
  exact TfM_tuned_64 _ hk28 M _ _ _ _ _   h
def fM_tuned_28  : Nat → xMem → Option xId → Int32 → Int32 → Int32 → Int32 → Option (Int32 × xMem)
  | 0, _, _, _, _, _, _ => none
  | n + 1, M, l0, l1, l2, l3, l4 =>
    if (8 : Int32) < l4 then (
      if l1 = 0 then (
        some (l2, M))
      else
      some (l3, M))
    else
    (xob M l0 8).bind fun u3 =>
    (fM_runsInThought M u3 l4).bind fun q4 =>
    if l2 ≤ 0 then (
      fM_tuned_56 (fun M l0 l1 l2 l3 l4 => fM_tuned_28  n M l0 l1 l2 l3 l4) q4 l0 l1 l4 )
    else
    (xgI q4 l0 8 50).bind fun v5 =>
    if v5 < l3 then (
      fM_tuned_56 (fun M l0 l1 l2 l3 l4 => fM_tuned_28  n M l0 l1 l2 l3 l4) q4 l0 l1 l4 )
    else
    fM_tuned_64 (fun M l0 l1 l2 l3 l4 => fM_tuned_28  n M l0 l1 l2 l3 l4) q4 l0 l1 l2 l3 l4 
set_option maxRecDepth 20000 in
theorem TfM_tuned_28 {M' : xMem} {r : Int32}  : ∀ (n : Nat) (M : xMem) (l0 : Option xId) (l1 : Int32) (l2 : Int32) (l3 : Int32) (l4 : Int32) , fM_tuned_28  n M l0 l1 l2 l3 l4 = some (r, M') → xrun none 10 260 28 ([some (.inr (.inr l0)), some (.inl l1), some (.inl l2), some (.inl l3), some (.inl l4)]) ([]) M (some (.inl r), M') := by
  intro n
  induction n with
  | zero => intro M l0 l1 l2 l3 l4  h; unfold fM_tuned_28 at h; cases h
  | succ n ih =>
    intro M l0 l1 l2 l3 l4  h
    unfold fM_tuned_28 at h
    refine xr_iload (pc' := 30) rfl rfl rfl ?_
    refine xr_bipush (v := 8) (pc' := 32) rfl (by decide) rfl ?_
    rcases xite h with ⟨hc, h⟩ | ⟨hc, h⟩
    · refine xr_icmp_gt_t (t := 70) rfl hc ?_
      refine xr_iload_n (pc' := 71) rfl rfl rfl ?_
      rcases xite h with ⟨hc, h⟩ | ⟨hc, h⟩
      · refine xr_if_ne_f (pc' := 74) rfl hc rfl ?_
        refine xr_iload_n (pc' := 75) rfl rfl rfl ?_
        refine xr_goto (t := 79) rfl ?_
        obtain ⟨rfl, rfl⟩ := xsome2 h
        exact xr_iret rfl mR_260
      · refine xr_if_ne_t (t := 78) rfl hc ?_
        refine xr_iload_n (pc' := 79) rfl rfl rfl ?_
        obtain ⟨rfl, rfl⟩ := xsome2 h
        exact xr_iret rfl mR_260
    · refine xr_icmp_gt_f (pc' := 35) rfl hc rfl ?_
      refine xr_aload_n (pc' := 36) rfl rfl rfl ?_
      refine xr_iload (pc' := 38) rfl rfl rfl ?_
      obtain ⟨u3, hu3, h⟩ := xbind h
      obtain ⟨q4, hq4, h⟩ := xbind h
      refine xr_callV (pc' := 41) (C := 8) (As := [_]) (rest := _) rfl hu3 mC_259 mL_259 rfl (Nat.le_of_ble_eq_true rfl) rfl (Nat.le_of_ble_eq_true rfl) (TfM_runsInThought _ _ hq4) rfl ?_
      refine xr_iload_n (pc' := 42) rfl rfl rfl ?_
      rcases xite h with ⟨hc, h⟩ | ⟨hc, h⟩
      · refine xr_if_le_t (t := 56) rfl hc ?_
        exact TfM_tuned_56 _ (fun M l0 l1 l2 l3 l4  h => ih M l0 l1 l2 l3 l4  h) q4 _ _ _  _ _ h
      · refine xr_if_le_f (pc' := 45) rfl hc rfl ?_
        refine xr_aload_n (pc' := 46) rfl rfl rfl ?_
        obtain ⟨v5, hv5, h⟩ := xbind h
        refine xr_getI (pc' := 49) rfl (by decide) hv5 rfl ?_
        refine xr_iload_n (pc' := 50) rfl rfl rfl ?_
        rcases xite h with ⟨hc, h⟩ | ⟨hc, h⟩
        · refine xr_icmp_lt_t (t := 56) rfl hc ?_
          exact TfM_tuned_56 _ (fun M l0 l1 l2 l3 l4  h => ih M l0 l1 l2 l3 l4  h) q4 _ _ _  _ _ h
        · refine xr_icmp_lt_f (pc' := 53) rfl hc rfl ?_
          refine xr_goto (t := 64) rfl ?_
          exact TfM_tuned_64 _ (fun M l0 l1 l2 l3 l4  h => ih M l0 l1 l2 l3 l4  h) q4 _ _ _ _ _   h
def fM_tuned (M : xMem) (this : xId) (a0 : Int32) : Option (Int32 × xMem) :=
  (fM_isIn M a0 (0 : Int32) (1 : Int32)).bind fun q1 =>
  if q1.1 = 0 then (
    some ((-1 : Int32), q1.2))
  else
  (xgI q1.2 (some this) 8 46).bind fun v2 =>
  if v2 = 0 then (
    some ((-5 : Int32), q1.2))
  else
  fM_tuned_28  xF q1.2 (some this) a0 (0 : Int32) (0 : Int32) (1 : Int32)
set_option maxRecDepth 20000 in
theorem TfM_tuned {M M' : xMem} {r : Int32} (this : xId) (a0 : Int32) (h : fM_tuned M this a0 = some (r, M')) : xrun none 10 260 0 ([some (.inr (.inr (some this))), some (.inl a0), none, none, none]) ([]) M (some (.inl r), M') := by
  unfold fM_tuned at h
  refine xr_iload_n (pc' := 1) rfl rfl rfl ?_
  refine xr_iconst (v := 0) (pc' := 2) rfl (by decide) rfl ?_
  refine xr_iconst (v := 1) (pc' := 3) rfl (by decide) rfl ?_
  obtain ⟨q1, hq1, h⟩ := xbind h
  refine xr_callS (pc' := 6) (As := [_, _, _]) (rest := _) rfl (by decide) mL_163 rfl (Nat.le_of_ble_eq_true rfl) rfl (Nat.le_of_ble_eq_true rfl) (TfM_isIn _ _ _ hq1) rfl ?_
  rcases xite h with ⟨hc, h⟩ | ⟨hc, h⟩
  · refine xr_if_ne_f (pc' := 9) rfl hc rfl ?_
    refine xr_iconst (v := -1) (pc' := 10) rfl (by decide) rfl ?_
    obtain ⟨rfl, rfl⟩ := xsome2 h
    exact xr_iret rfl mR_260
  · refine xr_if_ne_t (t := 11) rfl hc ?_
    refine xr_aload_n (pc' := 12) rfl rfl rfl ?_
    obtain ⟨v2, hv2, h⟩ := xbind h
    refine xr_getI (pc' := 15) rfl (by decide) hv2 rfl ?_
    rcases xite h with ⟨hc, h⟩ | ⟨hc, h⟩
    · refine xr_if_ne_f (pc' := 18) rfl hc rfl ?_
      refine xr_bipush (v := -5) (pc' := 20) rfl (by decide) rfl ?_
      obtain ⟨rfl, rfl⟩ := xsome2 h
      exact xr_iret rfl mR_260
    · refine xr_if_ne_t (t := 21) rfl hc ?_
      refine xr_iconst (v := 0) (pc' := 22) rfl (by decide) rfl ?_
      refine xr_istore_n (pc' := 23) rfl rfl rfl ?_
      refine xr_iconst (v := 0) (pc' := 24) rfl (by decide) rfl ?_
      refine xr_istore_n (pc' := 25) rfl rfl rfl ?_
      refine xr_iconst (v := 1) (pc' := 26) rfl (by decide) rfl ?_
      refine xr_istore (pc' := 28) rfl rfl rfl ?_
      exact TfM_tuned_28   xF q1.2 _ _ _ _ _  h
-- 261: MagazineDepotModel.names(I)I
def fM_names (M : xMem) (this : xId) (a0 : Int32) : Option (Int32 × xMem) :=
  (fM_isIn M a0 (0 : Int32) (25 : Int32)).bind fun q1 =>
  if q1.1 = 0 then (
    some ((-1 : Int32), q1.2))
  else
  (xgR q1.2 (some this) 8 29).bind fun v2 =>
  (xaI q1.2 v2 a0).bind fun v3 =>
  if 0 ≤ v3 then (
    (xgR q1.2 (some this) 8 29).bind fun v4 =>
    (xaI q1.2 v4 a0).bind fun v5 =>
    some (v5, q1.2))
  else
  some ((-2 : Int32), q1.2)
set_option maxRecDepth 20000 in
theorem TfM_names {M M' : xMem} {r : Int32} (this : xId) (a0 : Int32) (h : fM_names M this a0 = some (r, M')) : xrun none 1 261 0 ([some (.inr (.inr (some this))), some (.inl a0)]) ([]) M (some (.inl r), M') := by
  unfold fM_names at h
  refine xr_iload_n (pc' := 1) rfl rfl rfl ?_
  refine xr_iconst (v := 0) (pc' := 2) rfl (by decide) rfl ?_
  refine xr_bipush (v := 25) (pc' := 4) rfl (by decide) rfl ?_
  obtain ⟨q1, hq1, h⟩ := xbind h
  refine xr_callS (pc' := 7) (As := [_, _, _]) (rest := _) rfl (by decide) mL_163 rfl (Nat.le_of_ble_eq_true rfl) rfl (Nat.le_of_ble_eq_true rfl) (TfM_isIn _ _ _ hq1) rfl ?_
  rcases xite h with ⟨hc, h⟩ | ⟨hc, h⟩
  · refine xr_if_ne_f (pc' := 10) rfl hc rfl ?_
    refine xr_iconst (v := -1) (pc' := 11) rfl (by decide) rfl ?_
    obtain ⟨rfl, rfl⟩ := xsome2 h
    exact xr_iret rfl mR_261
  · refine xr_if_ne_t (t := 12) rfl hc ?_
    refine xr_aload_n (pc' := 13) rfl rfl rfl ?_
    obtain ⟨v2, hv2, h⟩ := xbind h
    refine xr_getR (pc' := 16) rfl (by decide) hv2 rfl ?_
    refine xr_iload_n (pc' := 17) rfl rfl rfl ?_
    obtain ⟨v3, hv3, h⟩ := xbind h
    refine xr_aI (pc' := 18) rfl hv3 rfl ?_
    rcases xite h with ⟨hc, h⟩ | ⟨hc, h⟩
    · refine xr_if_ge_t (t := 26) rfl hc ?_
      refine xr_aload_n (pc' := 27) rfl rfl rfl ?_
      obtain ⟨v4, hv4, h⟩ := xbind h
      refine xr_getR (pc' := 30) rfl (by decide) hv4 rfl ?_
      refine xr_iload_n (pc' := 31) rfl rfl rfl ?_
      obtain ⟨v5, hv5, h⟩ := xbind h
      refine xr_aI (pc' := 32) rfl hv5 rfl ?_
      obtain ⟨rfl, rfl⟩ := xsome2 h
      exact xr_iret rfl mR_261
    · refine xr_if_ge_f (pc' := 21) rfl hc rfl ?_
      refine xr_bipush (v := -2) (pc' := 23) rfl (by decide) rfl ?_
      refine xr_goto (t := 32) rfl ?_
      obtain ⟨rfl, rfl⟩ := xsome2 h
      exact xr_iret rfl mR_261
-- 263: MagazineDepotModel.isBin(I)Z
def fM_isBin (M : xMem) (a0 : Int32) : Option (Int32 × xMem) :=
  (fM_isIn M a0 (0 : Int32) (3 : Int32)).bind fun q1 =>
  if q1.1 = 0 ∨ q1.1 = 1 then some (q1.1, q1.2) else none
set_option maxRecDepth 20000 in
theorem TfM_isBin {M M' : xMem} {r : Int32} (a0 : Int32) (h : fM_isBin M a0 = some (r, M')) : xrun none 1 263 0 ([some (.inl a0)]) ([]) M (some (.inl r), M') := by
  unfold fM_isBin at h
  refine xr_iload_n (pc' := 1) rfl rfl rfl ?_
  refine xr_iconst (v := 0) (pc' := 2) rfl (by decide) rfl ?_
  refine xr_iconst (v := 3) (pc' := 3) rfl (by decide) rfl ?_
  obtain ⟨q1, hq1, h⟩ := xbind h
  refine xr_callS (pc' := 6) (As := [_, _, _]) (rest := _) rfl (by decide) mL_163 rfl (Nat.le_of_ble_eq_true rfl) rfl (Nat.le_of_ble_eq_true rfl) (TfM_isIn _ _ _ hq1) rfl ?_
  rcases xite h with ⟨hc, h⟩ | ⟨hc, h⟩
  · obtain ⟨rfl, rfl⟩ := xsome2 h
    exact xr_zret rfl mR_263 hc
  · cases h
-- 262: MagazineDepotModel.bin(II)I
def fM_bin_24  : Nat → xMem → Option xId → Int32 → Int32 → Int32 → Option (Int32 × xMem)
  | 0, _, _, _, _, _ => none
  | n + 1, M, l0, l1, l2, l3 =>
    if (40 : Int32) ≤ l3 then (
      (xgR M l0 8 53).bind fun v2 =>
      (xuI M v2 l1 l2).bind fun M3 =>
      some ((1 : Int32), M3))
    else
    (xgR M l0 8 52).bind fun v4 =>
    (xuI M v4 (((40 : Int32) * l1) + l3) (-9 : Int32)).bind fun M5 =>
    fM_bin_24  n M5 l0 l1 l2 (l3 + 1)
set_option maxRecDepth 20000 in
theorem TfM_bin_24 {M' : xMem} {r : Int32}  : ∀ (n : Nat) (M : xMem) (l0 : Option xId) (l1 : Int32) (l2 : Int32) (l3 : Int32) , fM_bin_24  n M l0 l1 l2 l3 = some (r, M') → xrun none 2 262 24 ([some (.inr (.inr l0)), some (.inl l1), some (.inl l2), some (.inl l3)]) ([]) M (some (.inl r), M') := by
  intro n
  induction n with
  | zero => intro M l0 l1 l2 l3  h; unfold fM_bin_24 at h; cases h
  | succ n ih =>
    intro M l0 l1 l2 l3  h
    unfold fM_bin_24 at h
    refine xr_iload_n (pc' := 25) rfl rfl rfl ?_
    refine xr_bipush (v := 40) (pc' := 27) rfl (by decide) rfl ?_
    rcases xite h with ⟨hc, h⟩ | ⟨hc, h⟩
    · refine xr_icmp_ge_t (t := 49) rfl hc ?_
      refine xr_aload_n (pc' := 50) rfl rfl rfl ?_
      obtain ⟨v2, hv2, h⟩ := xbind h
      refine xr_getR (pc' := 53) rfl (by decide) hv2 rfl ?_
      refine xr_iload_n (pc' := 54) rfl rfl rfl ?_
      refine xr_iload_n (pc' := 55) rfl rfl rfl ?_
      obtain ⟨M3, hM3, h⟩ := xbind h
      refine xr_uI (pc' := 56) rfl hM3 rfl ?_
      refine xr_iconst (v := 1) (pc' := 57) rfl (by decide) rfl ?_
      obtain ⟨rfl, rfl⟩ := xsome2 h
      exact xr_iret rfl mR_262
    · refine xr_icmp_ge_f (pc' := 30) rfl hc rfl ?_
      refine xr_aload_n (pc' := 31) rfl rfl rfl ?_
      obtain ⟨v4, hv4, h⟩ := xbind h
      refine xr_getR (pc' := 34) rfl (by decide) hv4 rfl ?_
      refine xr_bipush (v := 40) (pc' := 36) rfl (by decide) rfl ?_
      refine xr_iload_n (pc' := 37) rfl rfl rfl ?_
      refine xr_imul (pc' := 38) rfl rfl ?_
      refine xr_iload_n (pc' := 39) rfl rfl rfl ?_
      refine xr_iadd (pc' := 40) rfl rfl ?_
      refine xr_bipush (v := -9) (pc' := 42) rfl (by decide) rfl ?_
      obtain ⟨M5, hM5, h⟩ := xbind h
      refine xr_uI (pc' := 43) rfl hM5 rfl ?_
      refine xr_iinc (c := 1) (pc' := 46) rfl (by decide) rfl rfl rfl ?_
      refine xr_goto (t := 24) rfl ?_
      exact ih M5 _ _ _ _  h
def fM_bin (M : xMem) (this : xId) (a0 : Int32) (a1 : Int32) : Option (Int32 × xMem) :=
  (fM_isBin M a0).bind fun q1 =>
  if q1.1 = 0 then (
    some ((-1 : Int32), q1.2))
  else
  if a1 ≤ (40 : Int32) then (
    if 0 ≤ a1 then (
      fM_bin_24  xF q1.2 (some this) a0 a1 (0 : Int32))
    else
    some ((-14 : Int32), q1.2))
  else
  some ((-1 : Int32), q1.2)
set_option maxRecDepth 20000 in
theorem TfM_bin {M M' : xMem} {r : Int32} (this : xId) (a0 : Int32) (a1 : Int32) (h : fM_bin M this a0 a1 = some (r, M')) : xrun none 2 262 0 ([some (.inr (.inr (some this))), some (.inl a0), some (.inl a1), none]) ([]) M (some (.inl r), M') := by
  unfold fM_bin at h
  refine xr_iload_n (pc' := 1) rfl rfl rfl ?_
  obtain ⟨q1, hq1, h⟩ := xbind h
  refine xr_callS (pc' := 4) (As := [_]) (rest := _) rfl (by decide) mL_263 rfl (Nat.le_of_ble_eq_true rfl) rfl (Nat.le_of_ble_eq_true rfl) (TfM_isBin _ hq1) rfl ?_
  rcases xite h with ⟨hc, h⟩ | ⟨hc, h⟩
  · refine xr_if_eq_t (t := 13) rfl hc ?_
    refine xr_iconst (v := -1) (pc' := 14) rfl (by decide) rfl ?_
    obtain ⟨rfl, rfl⟩ := xsome2 h
    exact xr_iret rfl mR_262
  · refine xr_if_eq_f (pc' := 7) rfl hc rfl ?_
    refine xr_iload_n (pc' := 8) rfl rfl rfl ?_
    refine xr_bipush (v := 40) (pc' := 10) rfl (by decide) rfl ?_
    rcases xite h with ⟨hc, h⟩ | ⟨hc, h⟩
    · refine xr_icmp_le_t (t := 15) rfl hc ?_
      refine xr_iload_n (pc' := 16) rfl rfl rfl ?_
      rcases xite h with ⟨hc, h⟩ | ⟨hc, h⟩
      · refine xr_if_ge_t (t := 22) rfl hc ?_
        refine xr_iconst (v := 0) (pc' := 23) rfl (by decide) rfl ?_
        refine xr_istore_n (pc' := 24) rfl rfl rfl ?_
        exact TfM_bin_24   xF q1.2 _ _ _ _  h
      · refine xr_if_ge_f (pc' := 19) rfl hc rfl ?_
        refine xr_bipush (v := -14) (pc' := 21) rfl (by decide) rfl ?_
        obtain ⟨rfl, rfl⟩ := xsome2 h
        exact xr_iret rfl mR_262
    · refine xr_icmp_le_f (pc' := 13) rfl hc rfl ?_
      refine xr_iconst (v := -1) (pc' := 14) rfl (by decide) rfl ?_
      obtain ⟨rfl, rfl⟩ := xsome2 h
      exact xr_iret rfl mR_262
-- 264: MagazineDepotModel.lay(III)I
def fM_lay_73  (M : xMem)  (s0 : Option xId) (s1 : Int32) (s2 : Int32) : Option (Int32 × xMem) :=
  (xuI M s0 s1 s2).bind fun M10 =>
  some ((1 : Int32), M10)
set_option maxRecDepth 20000 in
theorem TfM_lay_73 {M' : xMem} {r : Int32}  (M : xMem)  (s0 : Option xId) (s1 : Int32) (s2 : Int32) (o0 : Option xId) (o1 : Int32) (o2 : Int32) (o3 : Int32) (h : fM_lay_73  M  s0 s1 s2 = some (r, M')) : xrun none 3 264 73 ([some (.inr (.inr o0)), some (.inl o1), some (.inl o2), some (.inl o3)]) ([.inl s2, .inl s1, .inr (.inr s0)]) M (some (.inl r), M') := by
  unfold fM_lay_73 at h
  obtain ⟨M10, hM10, h⟩ := xbind h
  refine xr_uI (pc' := 74) rfl hM10 rfl ?_
  refine xr_iconst (v := 1) (pc' := 75) rfl (by decide) rfl ?_
  obtain ⟨rfl, rfl⟩ := xsome2 h
  exact xr_iret rfl mR_264
def fM_lay_22  (M : xMem) (l0 : Option xId) (l1 : Int32) (l2 : Int32) (l3 : Int32)  : Option (Int32 × xMem) :=
  (xgR M l0 8 53).bind fun v4 =>
  (xaI M v4 l1).bind fun v5 =>
  if 0 ≤ v5 then (
    (xgR M l0 8 53).bind fun v6 =>
    (xaI M v6 l1).bind fun v7 =>
    (fM_isIn M l2 (0 : Int32) (v7 - (1 : Int32))).bind fun q8 =>
    if q8.1 = 0 then (
      some ((-13 : Int32), q8.2))
    else
    (xgR q8.2 l0 8 52).bind fun v9 =>
    if 0 ≤ l3 then (
      fM_lay_73  q8.2  v9 (((40 : Int32) * l1) + l2) l3)
    else
    fM_lay_73  q8.2  v9 (((40 : Int32) * l1) + l2) (-9 : Int32))
  else
  some ((-11 : Int32), M)
set_option maxRecDepth 20000 in
theorem TfM_lay_22 {M' : xMem} {r : Int32}  (M : xMem) (l0 : Option xId) (l1 : Int32) (l2 : Int32) (l3 : Int32)   (h : fM_lay_22  M l0 l1 l2 l3  = some (r, M')) : xrun none 3 264 22 ([some (.inr (.inr l0)), some (.inl l1), some (.inl l2), some (.inl l3)]) ([]) M (some (.inl r), M') := by
  unfold fM_lay_22 at h
  refine xr_aload_n (pc' := 23) rfl rfl rfl ?_
  obtain ⟨v4, hv4, h⟩ := xbind h
  refine xr_getR (pc' := 26) rfl (by decide) hv4 rfl ?_
  refine xr_iload_n (pc' := 27) rfl rfl rfl ?_
  obtain ⟨v5, hv5, h⟩ := xbind h
  refine xr_aI (pc' := 28) rfl hv5 rfl ?_
  rcases xite h with ⟨hc, h⟩ | ⟨hc, h⟩
  · refine xr_if_ge_t (t := 34) rfl hc ?_
    refine xr_iload_n (pc' := 35) rfl rfl rfl ?_
    refine xr_iconst (v := 0) (pc' := 36) rfl (by decide) rfl ?_
    refine xr_aload_n (pc' := 37) rfl rfl rfl ?_
    obtain ⟨v6, hv6, h⟩ := xbind h
    refine xr_getR (pc' := 40) rfl (by decide) hv6 rfl ?_
    refine xr_iload_n (pc' := 41) rfl rfl rfl ?_
    obtain ⟨v7, hv7, h⟩ := xbind h
    refine xr_aI (pc' := 42) rfl hv7 rfl ?_
    refine xr_iconst (v := 1) (pc' := 43) rfl (by decide) rfl ?_
    refine xr_isub (pc' := 44) rfl rfl ?_
    obtain ⟨q8, hq8, h⟩ := xbind h
    refine xr_callS (pc' := 47) (As := [_, _, _]) (rest := _) rfl (by decide) mL_163 rfl (Nat.le_of_ble_eq_true rfl) rfl (Nat.le_of_ble_eq_true rfl) (TfM_isIn _ _ _ hq8) rfl ?_
    rcases xite h with ⟨hc, h⟩ | ⟨hc, h⟩
    · refine xr_if_ne_f (pc' := 50) rfl hc rfl ?_
      refine xr_bipush (v := -13) (pc' := 52) rfl (by decide) rfl ?_
      obtain ⟨rfl, rfl⟩ := xsome2 h
      exact xr_iret rfl mR_264
    · refine xr_if_ne_t (t := 53) rfl hc ?_
      refine xr_aload_n (pc' := 54) rfl rfl rfl ?_
      obtain ⟨v9, hv9, h⟩ := xbind h
      refine xr_getR (pc' := 57) rfl (by decide) hv9 rfl ?_
      refine xr_bipush (v := 40) (pc' := 59) rfl (by decide) rfl ?_
      refine xr_iload_n (pc' := 60) rfl rfl rfl ?_
      refine xr_imul (pc' := 61) rfl rfl ?_
      refine xr_iload_n (pc' := 62) rfl rfl rfl ?_
      refine xr_iadd (pc' := 63) rfl rfl ?_
      refine xr_iload_n (pc' := 64) rfl rfl rfl ?_
      rcases xite h with ⟨hc, h⟩ | ⟨hc, h⟩
      · refine xr_if_ge_t (t := 72) rfl hc ?_
        refine xr_iload_n (pc' := 73) rfl rfl rfl ?_
        exact TfM_lay_73   q8.2  _ _ _ _ _ _ _ h
      · refine xr_if_ge_f (pc' := 67) rfl hc rfl ?_
        refine xr_bipush (v := -9) (pc' := 69) rfl (by decide) rfl ?_
        refine xr_goto (t := 73) rfl ?_
        exact TfM_lay_73   q8.2  _ _ _ _ _ _ _ h
  · refine xr_if_ge_f (pc' := 31) rfl hc rfl ?_
    refine xr_bipush (v := -11) (pc' := 33) rfl (by decide) rfl ?_
    obtain ⟨rfl, rfl⟩ := xsome2 h
    exact xr_iret rfl mR_264
def fM_lay (M : xMem) (this : xId) (a0 : Int32) (a1 : Int32) (a2 : Int32) : Option (Int32 × xMem) :=
  (fM_isBin M a0).bind fun q1 =>
  if q1.1 = 0 then (
    some ((-1 : Int32), q1.2))
  else
  if a2 = (-1 : Int32) then (
    fM_lay_22  q1.2 (some this) a0 a1 a2 )
  else
  (xob q1.2 (some this) 8).bind fun u2 =>
  (fM_liveAt q1.2 u2 a2).bind fun q3 =>
  if 0 ≤ q3.1 then (
    fM_lay_22  q3.2 (some this) a0 a1 a2 )
  else
  some ((-1 : Int32), q3.2)
set_option maxRecDepth 20000 in
theorem TfM_lay {M M' : xMem} {r : Int32} (this : xId) (a0 : Int32) (a1 : Int32) (a2 : Int32) (h : fM_lay M this a0 a1 a2 = some (r, M')) : xrun none 3 264 0 ([some (.inr (.inr (some this))), some (.inl a0), some (.inl a1), some (.inl a2)]) ([]) M (some (.inl r), M') := by
  unfold fM_lay at h
  refine xr_iload_n (pc' := 1) rfl rfl rfl ?_
  obtain ⟨q1, hq1, h⟩ := xbind h
  refine xr_callS (pc' := 4) (As := [_]) (rest := _) rfl (by decide) mL_263 rfl (Nat.le_of_ble_eq_true rfl) rfl (Nat.le_of_ble_eq_true rfl) (TfM_isBin _ hq1) rfl ?_
  rcases xite h with ⟨hc, h⟩ | ⟨hc, h⟩
  · refine xr_if_eq_t (t := 20) rfl hc ?_
    refine xr_iconst (v := -1) (pc' := 21) rfl (by decide) rfl ?_
    obtain ⟨rfl, rfl⟩ := xsome2 h
    exact xr_iret rfl mR_264
  · refine xr_if_eq_f (pc' := 7) rfl hc rfl ?_
    refine xr_iload_n (pc' := 8) rfl rfl rfl ?_
    refine xr_iconst (v := -1) (pc' := 9) rfl (by decide) rfl ?_
    rcases xite h with ⟨hc, h⟩ | ⟨hc, h⟩
    · refine xr_icmp_eq_t (t := 22) rfl hc ?_
      exact TfM_lay_22   q1.2 _ _ _ _   h
    · refine xr_icmp_eq_f (pc' := 12) rfl hc rfl ?_
      refine xr_aload_n (pc' := 13) rfl rfl rfl ?_
      refine xr_iload_n (pc' := 14) rfl rfl rfl ?_
      obtain ⟨u2, hu2, h⟩ := xbind h
      obtain ⟨q3, hq3, h⟩ := xbind h
      refine xr_callV (pc' := 17) (C := 8) (As := [_]) (rest := _) rfl hu2 mC_187 mL_187 rfl (Nat.le_of_ble_eq_true rfl) rfl (Nat.le_of_ble_eq_true rfl) (TfM_liveAt _ _ hq3) rfl ?_
      rcases xite h with ⟨hc, h⟩ | ⟨hc, h⟩
      · refine xr_if_ge_t (t := 22) rfl hc ?_
        exact TfM_lay_22   q3.2 _ _ _ _   h
      · refine xr_if_ge_f (pc' := 20) rfl hc rfl ?_
        refine xr_iconst (v := -1) (pc' := 21) rfl (by decide) rfl ?_
        obtain ⟨rfl, rfl⟩ := xsome2 h
        exact xr_iret rfl mR_264
-- 265: MagazineDepotModel.at(II)I
def fM_at (M : xMem) (this : xId) (a0 : Int32) (a1 : Int32) : Option (Int32 × xMem) :=
  (fM_isBin M a0).bind fun q1 =>
  if q1.1 = 0 then (
    some ((-1 : Int32), q1.2))
  else
  (xgR q1.2 (some this) 8 53).bind fun v2 =>
  (xaI q1.2 v2 a0).bind fun v3 =>
  if 0 ≤ v3 then (
    (xgR q1.2 (some this) 8 53).bind fun v4 =>
    (xaI q1.2 v4 a0).bind fun v5 =>
    (fM_isIn q1.2 a1 (0 : Int32) (v5 - (1 : Int32))).bind fun q6 =>
    if q6.1 = 0 then (
      some ((-13 : Int32), q6.2))
    else
    (xgR q6.2 (some this) 8 52).bind fun v7 =>
    (xaI q6.2 v7 (((40 : Int32) * a0) + a1)).bind fun v8 =>
    if 0 ≤ v8 then (
      some (v8, q6.2))
    else
    some ((-11 : Int32), q6.2))
  else
  some ((-11 : Int32), q1.2)
set_option maxRecDepth 20000 in
theorem TfM_at {M M' : xMem} {r : Int32} (this : xId) (a0 : Int32) (a1 : Int32) (h : fM_at M this a0 a1 = some (r, M')) : xrun none 2 265 0 ([some (.inr (.inr (some this))), some (.inl a0), some (.inl a1), none]) ([]) M (some (.inl r), M') := by
  unfold fM_at at h
  refine xr_iload_n (pc' := 1) rfl rfl rfl ?_
  obtain ⟨q1, hq1, h⟩ := xbind h
  refine xr_callS (pc' := 4) (As := [_]) (rest := _) rfl (by decide) mL_263 rfl (Nat.le_of_ble_eq_true rfl) rfl (Nat.le_of_ble_eq_true rfl) (TfM_isBin _ hq1) rfl ?_
  rcases xite h with ⟨hc, h⟩ | ⟨hc, h⟩
  · refine xr_if_ne_f (pc' := 7) rfl hc rfl ?_
    refine xr_iconst (v := -1) (pc' := 8) rfl (by decide) rfl ?_
    obtain ⟨rfl, rfl⟩ := xsome2 h
    exact xr_iret rfl mR_265
  · refine xr_if_ne_t (t := 9) rfl hc ?_
    refine xr_aload_n (pc' := 10) rfl rfl rfl ?_
    obtain ⟨v2, hv2, h⟩ := xbind h
    refine xr_getR (pc' := 13) rfl (by decide) hv2 rfl ?_
    refine xr_iload_n (pc' := 14) rfl rfl rfl ?_
    obtain ⟨v3, hv3, h⟩ := xbind h
    refine xr_aI (pc' := 15) rfl hv3 rfl ?_
    rcases xite h with ⟨hc, h⟩ | ⟨hc, h⟩
    · refine xr_if_ge_t (t := 21) rfl hc ?_
      refine xr_iload_n (pc' := 22) rfl rfl rfl ?_
      refine xr_iconst (v := 0) (pc' := 23) rfl (by decide) rfl ?_
      refine xr_aload_n (pc' := 24) rfl rfl rfl ?_
      obtain ⟨v4, hv4, h⟩ := xbind h
      refine xr_getR (pc' := 27) rfl (by decide) hv4 rfl ?_
      refine xr_iload_n (pc' := 28) rfl rfl rfl ?_
      obtain ⟨v5, hv5, h⟩ := xbind h
      refine xr_aI (pc' := 29) rfl hv5 rfl ?_
      refine xr_iconst (v := 1) (pc' := 30) rfl (by decide) rfl ?_
      refine xr_isub (pc' := 31) rfl rfl ?_
      obtain ⟨q6, hq6, h⟩ := xbind h
      refine xr_callS (pc' := 34) (As := [_, _, _]) (rest := _) rfl (by decide) mL_163 rfl (Nat.le_of_ble_eq_true rfl) rfl (Nat.le_of_ble_eq_true rfl) (TfM_isIn _ _ _ hq6) rfl ?_
      rcases xite h with ⟨hc, h⟩ | ⟨hc, h⟩
      · refine xr_if_ne_f (pc' := 37) rfl hc rfl ?_
        refine xr_bipush (v := -13) (pc' := 39) rfl (by decide) rfl ?_
        obtain ⟨rfl, rfl⟩ := xsome2 h
        exact xr_iret rfl mR_265
      · refine xr_if_ne_t (t := 40) rfl hc ?_
        refine xr_aload_n (pc' := 41) rfl rfl rfl ?_
        obtain ⟨v7, hv7, h⟩ := xbind h
        refine xr_getR (pc' := 44) rfl (by decide) hv7 rfl ?_
        refine xr_bipush (v := 40) (pc' := 46) rfl (by decide) rfl ?_
        refine xr_iload_n (pc' := 47) rfl rfl rfl ?_
        refine xr_imul (pc' := 48) rfl rfl ?_
        refine xr_iload_n (pc' := 49) rfl rfl rfl ?_
        refine xr_iadd (pc' := 50) rfl rfl ?_
        obtain ⟨v8, hv8, h⟩ := xbind h
        refine xr_aI (pc' := 51) rfl hv8 rfl ?_
        refine xr_istore_n (pc' := 52) rfl rfl rfl ?_
        refine xr_iload_n (pc' := 53) rfl rfl rfl ?_
        rcases xite h with ⟨hc, h⟩ | ⟨hc, h⟩
        · refine xr_if_ge_t (t := 61) rfl hc ?_
          refine xr_iload_n (pc' := 62) rfl rfl rfl ?_
          obtain ⟨rfl, rfl⟩ := xsome2 h
          exact xr_iret rfl mR_265
        · refine xr_if_ge_f (pc' := 56) rfl hc rfl ?_
          refine xr_bipush (v := -11) (pc' := 58) rfl (by decide) rfl ?_
          refine xr_goto (t := 62) rfl ?_
          obtain ⟨rfl, rfl⟩ := xsome2 h
          exact xr_iret rfl mR_265
    · refine xr_if_ge_f (pc' := 18) rfl hc rfl ?_
      refine xr_bipush (v := -11) (pc' := 20) rfl (by decide) rfl ?_
      obtain ⟨rfl, rfl⟩ := xsome2 h
      exact xr_iret rfl mR_265
-- 267: MagazineDepotModel.poursOne(III)Z
def fM_poursOne_47  (M : xMem) (l0 : Option xId) (l1 : Int32) (l2 : Int32) (l3 : Int32) (s0 : Int32) : Option (Int32 × xMem) :=
  if s0 < 0 then (
    some ((0 : Int32), M))
  else
  (xob M l0 8).bind fun u8 =>
  (fM_isFit M u8 s0).bind fun q9 =>
  if q9.1 = 0 then (
    some ((0 : Int32), q9.2))
  else
  (xob q9.2 l0 8).bind fun u10 =>
  (fM_gives q9.2 u10 s0 l3).bind fun q11 =>
  (xgR q11 l0 8 52).bind fun v12 =>
  (xuI q11 v12 (((40 : Int32) * l1) + l2) (-9 : Int32)).bind fun M13 =>
  some ((1 : Int32), M13)
set_option maxRecDepth 20000 in
theorem TfM_poursOne_47 {M' : xMem} {r : Int32}  (M : xMem) (l0 : Option xId) (l1 : Int32) (l2 : Int32) (l3 : Int32) (s0 : Int32) (o4 : Int32) (o5 : Option xVal) (h : fM_poursOne_47  M l0 l1 l2 l3 s0 = some (r, M')) : xrun none 3 267 47 ([some (.inr (.inr l0)), some (.inl l1), some (.inl l2), some (.inl l3), some (.inl o4), o5]) ([.inl s0]) M (some (.inl r), M') := by
  unfold fM_poursOne_47 at h
  refine xr_istore (pc' := 49) rfl rfl rfl ?_
  refine xr_iload (pc' := 51) rfl rfl rfl ?_
  rcases xite h with ⟨hc, h⟩ | ⟨hc, h⟩
  · refine xr_if_lt_t (t := 63) rfl hc ?_
    refine xr_iconst (v := 0) (pc' := 64) rfl (by decide) rfl ?_
    obtain ⟨rfl, rfl⟩ := xsome2 h
    exact xr_zret rfl mR_267 (by decide)
  · refine xr_if_lt_f (pc' := 54) rfl hc rfl ?_
    refine xr_aload_n (pc' := 55) rfl rfl rfl ?_
    refine xr_iload (pc' := 57) rfl rfl rfl ?_
    obtain ⟨u8, hu8, h⟩ := xbind h
    obtain ⟨q9, hq9, h⟩ := xbind h
    refine xr_callV (pc' := 60) (C := 8) (As := [_]) (rest := _) rfl hu8 mC_189 mL_189 rfl (Nat.le_of_ble_eq_true rfl) rfl (Nat.le_of_ble_eq_true rfl) (TfM_isFit _ _ hq9) rfl ?_
    rcases xite h with ⟨hc, h⟩ | ⟨hc, h⟩
    · refine xr_if_ne_f (pc' := 63) rfl hc rfl ?_
      refine xr_iconst (v := 0) (pc' := 64) rfl (by decide) rfl ?_
      obtain ⟨rfl, rfl⟩ := xsome2 h
      exact xr_zret rfl mR_267 (by decide)
    · refine xr_if_ne_t (t := 65) rfl hc ?_
      refine xr_aload_n (pc' := 66) rfl rfl rfl ?_
      refine xr_iload (pc' := 68) rfl rfl rfl ?_
      refine xr_iload_n (pc' := 69) rfl rfl rfl ?_
      obtain ⟨u10, hu10, h⟩ := xbind h
      obtain ⟨q11, hq11, h⟩ := xbind h
      refine xr_callV (pc' := 72) (C := 8) (As := [_, _]) (rest := _) rfl hu10 mC_191 mL_191 rfl (Nat.le_of_ble_eq_true rfl) rfl (Nat.le_of_ble_eq_true rfl) (TfM_gives _ _ _ hq11) rfl ?_
      refine xr_aload_n (pc' := 73) rfl rfl rfl ?_
      obtain ⟨v12, hv12, h⟩ := xbind h
      refine xr_getR (pc' := 76) rfl (by decide) hv12 rfl ?_
      refine xr_bipush (v := 40) (pc' := 78) rfl (by decide) rfl ?_
      refine xr_iload_n (pc' := 79) rfl rfl rfl ?_
      refine xr_imul (pc' := 80) rfl rfl ?_
      refine xr_iload_n (pc' := 81) rfl rfl rfl ?_
      refine xr_iadd (pc' := 82) rfl rfl ?_
      refine xr_bipush (v := -9) (pc' := 84) rfl (by decide) rfl ?_
      obtain ⟨M13, hM13, h⟩ := xbind h
      refine xr_uI (pc' := 85) rfl hM13 rfl ?_
      refine xr_iconst (v := 1) (pc' := 86) rfl (by decide) rfl ?_
      obtain ⟨rfl, rfl⟩ := xsome2 h
      exact xr_zret rfl mR_267 (by decide)
def fM_poursOne (M : xMem) (this : xId) (a0 : Int32) (a1 : Int32) (a2 : Int32) : Option (Int32 × xMem) :=
  (xgR M (some this) 8 53).bind fun v1 =>
  (xaI M v1 a0).bind fun v2 =>
  (fM_isIn M a1 (0 : Int32) (v2 - (1 : Int32))).bind fun q3 =>
  if q3.1 = 0 then (
    some ((0 : Int32), q3.2))
  else
  (xgR q3.2 (some this) 8 52).bind fun v4 =>
  (xaI q3.2 v4 (((40 : Int32) * a0) + a1)).bind fun v5 =>
  if 0 ≤ v5 then (
    (xob q3.2 (some this) 8).bind fun u6 =>
    (fM_liveAt q3.2 u6 v5).bind fun q7 =>
    fM_poursOne_47  q7.2 (some this) a0 a1 a2 q7.1)
  else
  fM_poursOne_47  q3.2 (some this) a0 a1 a2 (-9 : Int32)
set_option maxRecDepth 20000 in
theorem TfM_poursOne {M M' : xMem} {r : Int32} (this : xId) (a0 : Int32) (a1 : Int32) (a2 : Int32) (h : fM_poursOne M this a0 a1 a2 = some (r, M')) : xrun none 3 267 0 ([some (.inr (.inr (some this))), some (.inl a0), some (.inl a1), some (.inl a2), none, none]) ([]) M (some (.inl r), M') := by
  unfold fM_poursOne at h
  refine xr_iload_n (pc' := 1) rfl rfl rfl ?_
  refine xr_iconst (v := 0) (pc' := 2) rfl (by decide) rfl ?_
  refine xr_aload_n (pc' := 3) rfl rfl rfl ?_
  obtain ⟨v1, hv1, h⟩ := xbind h
  refine xr_getR (pc' := 6) rfl (by decide) hv1 rfl ?_
  refine xr_iload_n (pc' := 7) rfl rfl rfl ?_
  obtain ⟨v2, hv2, h⟩ := xbind h
  refine xr_aI (pc' := 8) rfl hv2 rfl ?_
  refine xr_iconst (v := 1) (pc' := 9) rfl (by decide) rfl ?_
  refine xr_isub (pc' := 10) rfl rfl ?_
  obtain ⟨q3, hq3, h⟩ := xbind h
  refine xr_callS (pc' := 13) (As := [_, _, _]) (rest := _) rfl (by decide) mL_163 rfl (Nat.le_of_ble_eq_true rfl) rfl (Nat.le_of_ble_eq_true rfl) (TfM_isIn _ _ _ hq3) rfl ?_
  rcases xite h with ⟨hc, h⟩ | ⟨hc, h⟩
  · refine xr_if_ne_f (pc' := 16) rfl hc rfl ?_
    refine xr_iconst (v := 0) (pc' := 17) rfl (by decide) rfl ?_
    obtain ⟨rfl, rfl⟩ := xsome2 h
    exact xr_zret rfl mR_267 (by decide)
  · refine xr_if_ne_t (t := 18) rfl hc ?_
    refine xr_aload_n (pc' := 19) rfl rfl rfl ?_
    obtain ⟨v4, hv4, h⟩ := xbind h
    refine xr_getR (pc' := 22) rfl (by decide) hv4 rfl ?_
    refine xr_bipush (v := 40) (pc' := 24) rfl (by decide) rfl ?_
    refine xr_iload_n (pc' := 25) rfl rfl rfl ?_
    refine xr_imul (pc' := 26) rfl rfl ?_
    refine xr_iload_n (pc' := 27) rfl rfl rfl ?_
    refine xr_iadd (pc' := 28) rfl rfl ?_
    obtain ⟨v5, hv5, h⟩ := xbind h
    refine xr_aI (pc' := 29) rfl hv5 rfl ?_
    refine xr_istore (pc' := 31) rfl rfl rfl ?_
    refine xr_iload (pc' := 33) rfl rfl rfl ?_
    rcases xite h with ⟨hc, h⟩ | ⟨hc, h⟩
    · refine xr_if_ge_t (t := 41) rfl hc ?_
      refine xr_aload_n (pc' := 42) rfl rfl rfl ?_
      refine xr_iload (pc' := 44) rfl rfl rfl ?_
      obtain ⟨u6, hu6, h⟩ := xbind h
      obtain ⟨q7, hq7, h⟩ := xbind h
      refine xr_callV (pc' := 47) (C := 8) (As := [_]) (rest := _) rfl hu6 mC_187 mL_187 rfl (Nat.le_of_ble_eq_true rfl) rfl (Nat.le_of_ble_eq_true rfl) (TfM_liveAt _ _ hq7) rfl ?_
      exact TfM_poursOne_47   q7.2 _ _ _ _ _ _ _ h
    · refine xr_if_ge_f (pc' := 36) rfl hc rfl ?_
      refine xr_bipush (v := -9) (pc' := 38) rfl (by decide) rfl ?_
      refine xr_goto (t := 47) rfl ?_
      exact TfM_poursOne_47   q3.2 _ _ _ _ _ _ _ h
-- 266: MagazineDepotModel.pour(IIII)I
def fM_pour_30  : Nat → xMem → Option xId → Int32 → Int32 → Int32 → Int32 → Int32 → Option (Int32 × xMem)
  | 0, _, _, _, _, _, _, _ => none
  | n + 1, M, l0, l1, l2, l3, l4, l5 =>
    if l3 ≤ l5 then (
      some (l5, M))
    else
    (xob M l0 8).bind fun u4 =>
    (fM_poursOne M u4 l1 (l2 + l5) l4).bind fun q5 =>
    if q5.1 = 0 then (
      some (l5, q5.2))
    else
    fM_pour_30  n q5.2 l0 l1 l2 l3 l4 (l5 + 1)
set_option maxRecDepth 20000 in
theorem TfM_pour_30 {M' : xMem} {r : Int32}  : ∀ (n : Nat) (M : xMem) (l0 : Option xId) (l1 : Int32) (l2 : Int32) (l3 : Int32) (l4 : Int32) (l5 : Int32) , fM_pour_30  n M l0 l1 l2 l3 l4 l5 = some (r, M') → xrun none 4 266 30 ([some (.inr (.inr l0)), some (.inl l1), some (.inl l2), some (.inl l3), some (.inl l4), some (.inl l5)]) ([]) M (some (.inl r), M') := by
  intro n
  induction n with
  | zero => intro M l0 l1 l2 l3 l4 l5  h; unfold fM_pour_30 at h; cases h
  | succ n ih =>
    intro M l0 l1 l2 l3 l4 l5  h
    unfold fM_pour_30 at h
    refine xr_iload (pc' := 32) rfl rfl rfl ?_
    refine xr_iload_n (pc' := 33) rfl rfl rfl ?_
    rcases xite h with ⟨hc, h⟩ | ⟨hc, h⟩
    · refine xr_icmp_ge_t (t := 56) rfl hc ?_
      refine xr_iload (pc' := 58) rfl rfl rfl ?_
      obtain ⟨rfl, rfl⟩ := xsome2 h
      exact xr_iret rfl mR_266
    · refine xr_icmp_ge_f (pc' := 36) rfl hc rfl ?_
      refine xr_aload_n (pc' := 37) rfl rfl rfl ?_
      refine xr_iload_n (pc' := 38) rfl rfl rfl ?_
      refine xr_iload_n (pc' := 39) rfl rfl rfl ?_
      refine xr_iload (pc' := 41) rfl rfl rfl ?_
      refine xr_iadd (pc' := 42) rfl rfl ?_
      refine xr_iload (pc' := 44) rfl rfl rfl ?_
      obtain ⟨u4, hu4, h⟩ := xbind h
      obtain ⟨q5, hq5, h⟩ := xbind h
      refine xr_callV (pc' := 47) (C := 8) (As := [_, _, _]) (rest := _) rfl hu4 mC_267 mL_267 rfl (Nat.le_of_ble_eq_true rfl) rfl (Nat.le_of_ble_eq_true rfl) (TfM_poursOne _ _ _ _ hq5) rfl ?_
      rcases xite h with ⟨hc, h⟩ | ⟨hc, h⟩
      · refine xr_if_eq_t (t := 56) rfl hc ?_
        refine xr_iload (pc' := 58) rfl rfl rfl ?_
        obtain ⟨rfl, rfl⟩ := xsome2 h
        exact xr_iret rfl mR_266
      · refine xr_if_eq_f (pc' := 50) rfl hc rfl ?_
        refine xr_iinc (c := 1) (pc' := 53) rfl (by decide) rfl rfl rfl ?_
        refine xr_goto (t := 30) rfl ?_
        exact ih q5.2 _ _ _ _ _ _  h
def fM_pour (M : xMem) (this : xId) (a0 : Int32) (a1 : Int32) (a2 : Int32) (a3 : Int32) : Option (Int32 × xMem) :=
  (fM_isBin M a0).bind fun q1 =>
  if q1.1 = 0 then (
    some ((-1 : Int32), q1.2))
  else
  (fM_isIn q1.2 a2 (0 : Int32) (40 : Int32)).bind fun q2 =>
  if q2.1 = 0 then (
    some ((-1 : Int32), q2.2))
  else
  (fM_isProcessor q2.2 a3).bind fun q3 =>
  if q3.1 = 0 then (
    some ((-1 : Int32), q3.2))
  else
  fM_pour_30  xF q3.2 (some this) a0 a1 a2 a3 (0 : Int32)
set_option maxRecDepth 20000 in
theorem TfM_pour {M M' : xMem} {r : Int32} (this : xId) (a0 : Int32) (a1 : Int32) (a2 : Int32) (a3 : Int32) (h : fM_pour M this a0 a1 a2 a3 = some (r, M')) : xrun none 4 266 0 ([some (.inr (.inr (some this))), some (.inl a0), some (.inl a1), some (.inl a2), some (.inl a3), none]) ([]) M (some (.inl r), M') := by
  unfold fM_pour at h
  refine xr_iload_n (pc' := 1) rfl rfl rfl ?_
  obtain ⟨q1, hq1, h⟩ := xbind h
  refine xr_callS (pc' := 4) (As := [_]) (rest := _) rfl (by decide) mL_263 rfl (Nat.le_of_ble_eq_true rfl) rfl (Nat.le_of_ble_eq_true rfl) (TfM_isBin _ hq1) rfl ?_
  rcases xite h with ⟨hc, h⟩ | ⟨hc, h⟩
  · refine xr_if_eq_t (t := 25) rfl hc ?_
    refine xr_iconst (v := -1) (pc' := 26) rfl (by decide) rfl ?_
    obtain ⟨rfl, rfl⟩ := xsome2 h
    exact xr_iret rfl mR_266
  · refine xr_if_eq_f (pc' := 7) rfl hc rfl ?_
    refine xr_iload_n (pc' := 8) rfl rfl rfl ?_
    refine xr_iconst (v := 0) (pc' := 9) rfl (by decide) rfl ?_
    refine xr_bipush (v := 40) (pc' := 11) rfl (by decide) rfl ?_
    obtain ⟨q2, hq2, h⟩ := xbind h
    refine xr_callS (pc' := 14) (As := [_, _, _]) (rest := _) rfl (by decide) mL_163 rfl (Nat.le_of_ble_eq_true rfl) rfl (Nat.le_of_ble_eq_true rfl) (TfM_isIn _ _ _ hq2) rfl ?_
    rcases xite h with ⟨hc, h⟩ | ⟨hc, h⟩
    · refine xr_if_eq_t (t := 25) rfl hc ?_
      refine xr_iconst (v := -1) (pc' := 26) rfl (by decide) rfl ?_
      obtain ⟨rfl, rfl⟩ := xsome2 h
      exact xr_iret rfl mR_266
    · refine xr_if_eq_f (pc' := 17) rfl hc rfl ?_
      refine xr_iload (pc' := 19) rfl rfl rfl ?_
      obtain ⟨q3, hq3, h⟩ := xbind h
      refine xr_callS (pc' := 22) (As := [_]) (rest := _) rfl (by decide) mL_168 rfl (Nat.le_of_ble_eq_true rfl) rfl (Nat.le_of_ble_eq_true rfl) (TfM_isProcessor _ hq3) rfl ?_
      rcases xite h with ⟨hc, h⟩ | ⟨hc, h⟩
      · refine xr_if_ne_f (pc' := 25) rfl hc rfl ?_
        refine xr_iconst (v := -1) (pc' := 26) rfl (by decide) rfl ?_
        obtain ⟨rfl, rfl⟩ := xsome2 h
        exact xr_iret rfl mR_266
      · refine xr_if_ne_t (t := 27) rfl hc ?_
        refine xr_iconst (v := 0) (pc' := 28) rfl (by decide) rfl ?_
        refine xr_istore (pc' := 30) rfl rfl rfl ?_
        exact TfM_pour_30   xF q3.2 _ _ _ _ _ _  h
-- 268: MagazineDepotModel.shift(IIIII)I
def fM_shift_140  : Nat → xMem → Option xId → Int32 → Int32 → Int32 → Int32 → Option (Int32 × xMem)
  | 0, _, _, _, _, _, _ => none
  | n + 1, M, l0, l3, l4, l5, l6 =>
    if l5 ≤ l6 then (
      some (l5, M))
    else
    (xgR M l0 8 52).bind fun v22 =>
    (xgR M l0 8 54).bind fun v23 =>
    (xaI M v23 l6).bind fun v24 =>
    (xuI M v22 ((((40 : Int32) * l3) + l4) + l6) v24).bind fun M25 =>
    fM_shift_140  n M25 l0 l3 l4 l5 (l6 + 1)
set_option maxRecDepth 20000 in
theorem TfM_shift_140 {M' : xMem} {r : Int32}  : ∀ (n : Nat) (M : xMem) (l0 : Option xId) (l3 : Int32) (l4 : Int32) (l5 : Int32) (l6 : Int32) (o1 : Int32) (o2 : Int32), fM_shift_140  n M l0 l3 l4 l5 l6 = some (r, M') → xrun none 2 268 140 ([some (.inr (.inr l0)), some (.inl o1), some (.inl o2), some (.inl l3), some (.inl l4), some (.inl l5), some (.inl l6)]) ([]) M (some (.inl r), M') := by
  intro n
  induction n with
  | zero => intro M l0 l3 l4 l5 l6 o1 o2 h; unfold fM_shift_140 at h; cases h
  | succ n ih =>
    intro M l0 l3 l4 l5 l6 o1 o2 h
    unfold fM_shift_140 at h
    refine xr_iload (pc' := 142) rfl rfl rfl ?_
    refine xr_iload (pc' := 144) rfl rfl rfl ?_
    rcases xite h with ⟨hc, h⟩ | ⟨hc, h⟩
    · refine xr_icmp_ge_t (t := 175) rfl hc ?_
      refine xr_iload (pc' := 177) rfl rfl rfl ?_
      obtain ⟨rfl, rfl⟩ := xsome2 h
      exact xr_iret rfl mR_268
    · refine xr_icmp_ge_f (pc' := 147) rfl hc rfl ?_
      refine xr_aload_n (pc' := 148) rfl rfl rfl ?_
      obtain ⟨v22, hv22, h⟩ := xbind h
      refine xr_getR (pc' := 151) rfl (by decide) hv22 rfl ?_
      refine xr_bipush (v := 40) (pc' := 153) rfl (by decide) rfl ?_
      refine xr_iload_n (pc' := 154) rfl rfl rfl ?_
      refine xr_imul (pc' := 155) rfl rfl ?_
      refine xr_iload (pc' := 157) rfl rfl rfl ?_
      refine xr_iadd (pc' := 158) rfl rfl ?_
      refine xr_iload (pc' := 160) rfl rfl rfl ?_
      refine xr_iadd (pc' := 161) rfl rfl ?_
      refine xr_aload_n (pc' := 162) rfl rfl rfl ?_
      obtain ⟨v23, hv23, h⟩ := xbind h
      refine xr_getR (pc' := 165) rfl (by decide) hv23 rfl ?_
      refine xr_iload (pc' := 167) rfl rfl rfl ?_
      obtain ⟨v24, hv24, h⟩ := xbind h
      refine xr_aI (pc' := 168) rfl hv24 rfl ?_
      obtain ⟨M25, hM25, h⟩ := xbind h
      refine xr_uI (pc' := 169) rfl hM25 rfl ?_
      refine xr_iinc (c := 1) (pc' := 172) rfl (by decide) rfl rfl rfl ?_
      refine xr_goto (t := 140) rfl ?_
      exact ih M25 _ _ _ _ _ _ _ h
def fM_shift_103  : Nat → xMem → Option xId → Int32 → Int32 → Int32 → Int32 → Int32 → Int32 → Option (Int32 × xMem)
  | 0, _, _, _, _, _, _, _, _ => none
  | n + 1, M, l0, l1, l2, l3, l4, l5, l6 =>
    if l5 ≤ l6 then (
      fM_shift_140  xF M l0 l3 l4 l5 (0 : Int32))
    else
    (xgR M l0 8 54).bind fun v18 =>
    (xgR M l0 8 52).bind fun v19 =>
    (xaI M v19 ((((40 : Int32) * l1) + l2) + l6)).bind fun v20 =>
    (xuI M v18 l6 v20).bind fun M21 =>
    fM_shift_103  n M21 l0 l1 l2 l3 l4 l5 (l6 + 1)
set_option maxRecDepth 20000 in
theorem TfM_shift_103 {M' : xMem} {r : Int32}  : ∀ (n : Nat) (M : xMem) (l0 : Option xId) (l1 : Int32) (l2 : Int32) (l3 : Int32) (l4 : Int32) (l5 : Int32) (l6 : Int32) , fM_shift_103  n M l0 l1 l2 l3 l4 l5 l6 = some (r, M') → xrun none 2 268 103 ([some (.inr (.inr l0)), some (.inl l1), some (.inl l2), some (.inl l3), some (.inl l4), some (.inl l5), some (.inl l6)]) ([]) M (some (.inl r), M') := by
  intro n
  induction n with
  | zero => intro M l0 l1 l2 l3 l4 l5 l6  h; unfold fM_shift_103 at h; cases h
  | succ n ih =>
    intro M l0 l1 l2 l3 l4 l5 l6  h
    unfold fM_shift_103 at h
    refine xr_iload (pc' := 105) rfl rfl rfl ?_
    refine xr_iload (pc' := 107) rfl rfl rfl ?_
    rcases xite h with ⟨hc, h⟩ | ⟨hc, h⟩
    · refine xr_icmp_ge_t (t := 137) rfl hc ?_
      refine xr_iconst (v := 0) (pc' := 138) rfl (by decide) rfl ?_
      refine xr_istore (pc' := 140) rfl rfl rfl ?_
      exact TfM_shift_140   xF M _ _ _ _ _ _ _ h
    · refine xr_icmp_ge_f (pc' := 110) rfl hc rfl ?_
      refine xr_aload_n (pc' := 111) rfl rfl rfl ?_
      obtain ⟨v18, hv18, h⟩ := xbind h
      refine xr_getR (pc' := 114) rfl (by decide) hv18 rfl ?_
      refine xr_iload (pc' := 116) rfl rfl rfl ?_
      refine xr_aload_n (pc' := 117) rfl rfl rfl ?_
      obtain ⟨v19, hv19, h⟩ := xbind h
      refine xr_getR (pc' := 120) rfl (by decide) hv19 rfl ?_
      refine xr_bipush (v := 40) (pc' := 122) rfl (by decide) rfl ?_
      refine xr_iload_n (pc' := 123) rfl rfl rfl ?_
      refine xr_imul (pc' := 124) rfl rfl ?_
      refine xr_iload_n (pc' := 125) rfl rfl rfl ?_
      refine xr_iadd (pc' := 126) rfl rfl ?_
      refine xr_iload (pc' := 128) rfl rfl rfl ?_
      refine xr_iadd (pc' := 129) rfl rfl ?_
      obtain ⟨v20, hv20, h⟩ := xbind h
      refine xr_aI (pc' := 130) rfl hv20 rfl ?_
      obtain ⟨M21, hM21, h⟩ := xbind h
      refine xr_uI (pc' := 131) rfl hM21 rfl ?_
      refine xr_iinc (c := 1) (pc' := 134) rfl (by decide) rfl rfl rfl ?_
      refine xr_goto (t := 103) rfl ?_
      exact ih M21 _ _ _ _ _ _ _  h
def fM_shift (M : xMem) (this : xId) (a0 : Int32) (a1 : Int32) (a2 : Int32) (a3 : Int32) (a4 : Int32) : Option (Int32 × xMem) :=
  (fM_isBin M a0).bind fun q1 =>
  if q1.1 = 0 then (
    some ((-1 : Int32), q1.2))
  else
  (fM_isBin q1.2 a2).bind fun q2 =>
  if q2.1 = 0 then (
    some ((-1 : Int32), q2.2))
  else
  (xgR q2.2 (some this) 8 53).bind fun v3 =>
  (xaI q2.2 v3 a0).bind fun v4 =>
  if v4 < 0 then (
    some ((-11 : Int32), q2.2))
  else
  (xgR q2.2 (some this) 8 53).bind fun v5 =>
  (xaI q2.2 v5 a2).bind fun v6 =>
  if 0 ≤ v6 then (
    (xgR q2.2 (some this) 8 53).bind fun v7 =>
    (xaI q2.2 v7 a0).bind fun v8 =>
    (fM_isIn q2.2 a1 (0 : Int32) v8).bind fun q9 =>
    if q9.1 = 0 then (
      some ((-13 : Int32), q9.2))
    else
    (xgR q9.2 (some this) 8 53).bind fun v10 =>
    (xaI q9.2 v10 a2).bind fun v11 =>
    (fM_isIn q9.2 a3 (0 : Int32) v11).bind fun q12 =>
    if q12.1 = 0 then (
      some ((-13 : Int32), q12.2))
    else
    (xgR q12.2 (some this) 8 53).bind fun v13 =>
    (xaI q12.2 v13 a0).bind fun v14 =>
    (fM_isIn q12.2 a4 (0 : Int32) (v14 - a1)).bind fun q15 =>
    if q15.1 = 0 then (
      some ((-13 : Int32), q15.2))
    else
    (xgR q15.2 (some this) 8 53).bind fun v16 =>
    (xaI q15.2 v16 a2).bind fun v17 =>
    if a4 ≤ (v17 - a3) then (
      fM_shift_103  xF q15.2 (some this) a0 a1 a2 a3 a4 (0 : Int32))
    else
    some ((-13 : Int32), q15.2))
  else
  some ((-11 : Int32), q2.2)
set_option maxRecDepth 20000 in
theorem TfM_shift {M M' : xMem} {r : Int32} (this : xId) (a0 : Int32) (a1 : Int32) (a2 : Int32) (a3 : Int32) (a4 : Int32) (h : fM_shift M this a0 a1 a2 a3 a4 = some (r, M')) : xrun none 2 268 0 ([some (.inr (.inr (some this))), some (.inl a0), some (.inl a1), some (.inl a2), some (.inl a3), some (.inl a4), none]) ([]) M (some (.inl r), M') := by
  unfold fM_shift at h
  refine xr_iload_n (pc' := 1) rfl rfl rfl ?_
  obtain ⟨q1, hq1, h⟩ := xbind h
  refine xr_callS (pc' := 4) (As := [_]) (rest := _) rfl (by decide) mL_263 rfl (Nat.le_of_ble_eq_true rfl) rfl (Nat.le_of_ble_eq_true rfl) (TfM_isBin _ hq1) rfl ?_
  rcases xite h with ⟨hc, h⟩ | ⟨hc, h⟩
  · refine xr_if_eq_t (t := 14) rfl hc ?_
    refine xr_iconst (v := -1) (pc' := 15) rfl (by decide) rfl ?_
    obtain ⟨rfl, rfl⟩ := xsome2 h
    exact xr_iret rfl mR_268
  · refine xr_if_eq_f (pc' := 7) rfl hc rfl ?_
    refine xr_iload_n (pc' := 8) rfl rfl rfl ?_
    obtain ⟨q2, hq2, h⟩ := xbind h
    refine xr_callS (pc' := 11) (As := [_]) (rest := _) rfl (by decide) mL_263 rfl (Nat.le_of_ble_eq_true rfl) rfl (Nat.le_of_ble_eq_true rfl) (TfM_isBin _ hq2) rfl ?_
    rcases xite h with ⟨hc, h⟩ | ⟨hc, h⟩
    · refine xr_if_ne_f (pc' := 14) rfl hc rfl ?_
      refine xr_iconst (v := -1) (pc' := 15) rfl (by decide) rfl ?_
      obtain ⟨rfl, rfl⟩ := xsome2 h
      exact xr_iret rfl mR_268
    · refine xr_if_ne_t (t := 16) rfl hc ?_
      refine xr_aload_n (pc' := 17) rfl rfl rfl ?_
      obtain ⟨v3, hv3, h⟩ := xbind h
      refine xr_getR (pc' := 20) rfl (by decide) hv3 rfl ?_
      refine xr_iload_n (pc' := 21) rfl rfl rfl ?_
      obtain ⟨v4, hv4, h⟩ := xbind h
      refine xr_aI (pc' := 22) rfl hv4 rfl ?_
      rcases xite h with ⟨hc, h⟩ | ⟨hc, h⟩
      · refine xr_if_lt_t (t := 34) rfl hc ?_
        refine xr_bipush (v := -11) (pc' := 36) rfl (by decide) rfl ?_
        obtain ⟨rfl, rfl⟩ := xsome2 h
        exact xr_iret rfl mR_268
      · refine xr_if_lt_f (pc' := 25) rfl hc rfl ?_
        refine xr_aload_n (pc' := 26) rfl rfl rfl ?_
        obtain ⟨v5, hv5, h⟩ := xbind h
        refine xr_getR (pc' := 29) rfl (by decide) hv5 rfl ?_
        refine xr_iload_n (pc' := 30) rfl rfl rfl ?_
        obtain ⟨v6, hv6, h⟩ := xbind h
        refine xr_aI (pc' := 31) rfl hv6 rfl ?_
        rcases xite h with ⟨hc, h⟩ | ⟨hc, h⟩
        · refine xr_if_ge_t (t := 37) rfl hc ?_
          refine xr_iload_n (pc' := 38) rfl rfl rfl ?_
          refine xr_iconst (v := 0) (pc' := 39) rfl (by decide) rfl ?_
          refine xr_aload_n (pc' := 40) rfl rfl rfl ?_
          obtain ⟨v7, hv7, h⟩ := xbind h
          refine xr_getR (pc' := 43) rfl (by decide) hv7 rfl ?_
          refine xr_iload_n (pc' := 44) rfl rfl rfl ?_
          obtain ⟨v8, hv8, h⟩ := xbind h
          refine xr_aI (pc' := 45) rfl hv8 rfl ?_
          obtain ⟨q9, hq9, h⟩ := xbind h
          refine xr_callS (pc' := 48) (As := [_, _, _]) (rest := _) rfl (by decide) mL_163 rfl (Nat.le_of_ble_eq_true rfl) rfl (Nat.le_of_ble_eq_true rfl) (TfM_isIn _ _ _ hq9) rfl ?_
          rcases xite h with ⟨hc, h⟩ | ⟨hc, h⟩
          · refine xr_if_eq_t (t := 97) rfl hc ?_
            refine xr_bipush (v := -13) (pc' := 99) rfl (by decide) rfl ?_
            obtain ⟨rfl, rfl⟩ := xsome2 h
            exact xr_iret rfl mR_268
          · refine xr_if_eq_f (pc' := 51) rfl hc rfl ?_
            refine xr_iload (pc' := 53) rfl rfl rfl ?_
            refine xr_iconst (v := 0) (pc' := 54) rfl (by decide) rfl ?_
            refine xr_aload_n (pc' := 55) rfl rfl rfl ?_
            obtain ⟨v10, hv10, h⟩ := xbind h
            refine xr_getR (pc' := 58) rfl (by decide) hv10 rfl ?_
            refine xr_iload_n (pc' := 59) rfl rfl rfl ?_
            obtain ⟨v11, hv11, h⟩ := xbind h
            refine xr_aI (pc' := 60) rfl hv11 rfl ?_
            obtain ⟨q12, hq12, h⟩ := xbind h
            refine xr_callS (pc' := 63) (As := [_, _, _]) (rest := _) rfl (by decide) mL_163 rfl (Nat.le_of_ble_eq_true rfl) rfl (Nat.le_of_ble_eq_true rfl) (TfM_isIn _ _ _ hq12) rfl ?_
            rcases xite h with ⟨hc, h⟩ | ⟨hc, h⟩
            · refine xr_if_eq_t (t := 97) rfl hc ?_
              refine xr_bipush (v := -13) (pc' := 99) rfl (by decide) rfl ?_
              obtain ⟨rfl, rfl⟩ := xsome2 h
              exact xr_iret rfl mR_268
            · refine xr_if_eq_f (pc' := 66) rfl hc rfl ?_
              refine xr_iload (pc' := 68) rfl rfl rfl ?_
              refine xr_iconst (v := 0) (pc' := 69) rfl (by decide) rfl ?_
              refine xr_aload_n (pc' := 70) rfl rfl rfl ?_
              obtain ⟨v13, hv13, h⟩ := xbind h
              refine xr_getR (pc' := 73) rfl (by decide) hv13 rfl ?_
              refine xr_iload_n (pc' := 74) rfl rfl rfl ?_
              obtain ⟨v14, hv14, h⟩ := xbind h
              refine xr_aI (pc' := 75) rfl hv14 rfl ?_
              refine xr_iload_n (pc' := 76) rfl rfl rfl ?_
              refine xr_isub (pc' := 77) rfl rfl ?_
              obtain ⟨q15, hq15, h⟩ := xbind h
              refine xr_callS (pc' := 80) (As := [_, _, _]) (rest := _) rfl (by decide) mL_163 rfl (Nat.le_of_ble_eq_true rfl) rfl (Nat.le_of_ble_eq_true rfl) (TfM_isIn _ _ _ hq15) rfl ?_
              rcases xite h with ⟨hc, h⟩ | ⟨hc, h⟩
              · refine xr_if_eq_t (t := 97) rfl hc ?_
                refine xr_bipush (v := -13) (pc' := 99) rfl (by decide) rfl ?_
                obtain ⟨rfl, rfl⟩ := xsome2 h
                exact xr_iret rfl mR_268
              · refine xr_if_eq_f (pc' := 83) rfl hc rfl ?_
                refine xr_iload (pc' := 85) rfl rfl rfl ?_
                refine xr_aload_n (pc' := 86) rfl rfl rfl ?_
                obtain ⟨v16, hv16, h⟩ := xbind h
                refine xr_getR (pc' := 89) rfl (by decide) hv16 rfl ?_
                refine xr_iload_n (pc' := 90) rfl rfl rfl ?_
                obtain ⟨v17, hv17, h⟩ := xbind h
                refine xr_aI (pc' := 91) rfl hv17 rfl ?_
                refine xr_iload (pc' := 93) rfl rfl rfl ?_
                refine xr_isub (pc' := 94) rfl rfl ?_
                rcases xite h with ⟨hc, h⟩ | ⟨hc, h⟩
                · refine xr_icmp_le_t (t := 100) rfl hc ?_
                  refine xr_iconst (v := 0) (pc' := 101) rfl (by decide) rfl ?_
                  refine xr_istore (pc' := 103) rfl rfl rfl ?_
                  exact TfM_shift_103   xF q15.2 _ _ _ _ _ _ _  h
                · refine xr_icmp_le_f (pc' := 97) rfl hc rfl ?_
                  refine xr_bipush (v := -13) (pc' := 99) rfl (by decide) rfl ?_
                  obtain ⟨rfl, rfl⟩ := xsome2 h
                  exact xr_iret rfl mR_268
        · refine xr_if_ge_f (pc' := 34) rfl hc rfl ?_
          refine xr_bipush (v := -11) (pc' := 36) rfl (by decide) rfl ?_
          obtain ⟨rfl, rfl⟩ := xsome2 h
          exact xr_iret rfl mR_268
