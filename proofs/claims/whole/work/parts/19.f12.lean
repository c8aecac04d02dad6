/-! shallow functions of the methods (by program, out of the bytecode), and that a run is what they say -/
-- 270: MagazineDepotModel.freePages()I
def fM_freePages_25 (k4 : xMem → Option xId → Int32 → Int32 → Option (Int32 × xMem)) (M : xMem) (l0 : Option xId) (l2 : Int32) (s0 : Int32) (s1 : Int32) : Option (Int32 × xMem) :=
  k4 M l0 (s0 + s1) (l2 + 1)
set_option maxRecDepth 20000 in
theorem TfM_freePages_25 {M' : xMem} {r : Int32} (k4 : xMem → Option xId → Int32 → Int32 → Option (Int32 × xMem)) (hk4 : ∀ (M : xMem) (l0 : Option xId) (l1 : Int32) (l2 : Int32) , k4 M l0 l1 l2 = some (r, M') → xrun none 0 270 4 ([some (.inr (.inr l0)), some (.inl l1), some (.inl l2)]) ([]) M (some (.inl r), M')) (M : xMem) (l0 : Option xId) (l2 : Int32) (s0 : Int32) (s1 : Int32) (o1 : Int32) (h : fM_freePages_25 k4 M l0 l2 s0 s1 = some (r, M')) : xrun none 0 270 25 ([some (.inr (.inr l0)), some (.inl o1), some (.inl l2)]) ([.inl s1, .inl s0]) M (some (.inl r), M') := by
  unfold fM_freePages_25 at h
  refine xr_iadd (pc' := 26) rfl rfl ?_
  refine xr_istore_n (pc' := 27) rfl rfl rfl ?_
  refine xr_iinc (c := 1) (pc' := 30) rfl (by decide) rfl rfl rfl ?_
  refine xr_goto (t := 4) rfl ?_
  exact hk4 M _ _ _  h
def fM_freePages_4  : Nat → xMem → Option xId → Int32 → Int32 → Option (Int32 × xMem)
  | 0, _, _, _, _ => none
  | n + 1, M, l0, l1, l2 =>
    if (32 : Int32) ≤ l2 then (
      some (l1, M))
    else
    (xgR M l0 8 16).bind fun v1 =>
    (xaI M v1 l2).bind fun v2 =>
    if 0 ≤ v2 then (
      fM_freePages_25 (fun M l0 l1 l2 => fM_freePages_4  n M l0 l1 l2) M l0 l2 l1 (0 : Int32))
    else
    fM_freePages_25 (fun M l0 l1 l2 => fM_freePages_4  n M l0 l1 l2) M l0 l2 l1 (1 : Int32)
set_option maxRecDepth 20000 in
theorem TfM_freePages_4 {M' : xMem} {r : Int32}  : ∀ (n : Nat) (M : xMem) (l0 : Option xId) (l1 : Int32) (l2 : Int32) , fM_freePages_4  n M l0 l1 l2 = some (r, M') → xrun none 0 270 4 ([some (.inr (.inr l0)), some (.inl l1), some (.inl l2)]) ([]) M (some (.inl r), M') := by
  intro n
  induction n with
  | zero => intro M l0 l1 l2  h; unfold fM_freePages_4 at h; cases h
  | succ n ih =>
    intro M l0 l1 l2  h
    unfold fM_freePages_4 at h
    refine xr_iload_n (pc' := 5) rfl rfl rfl ?_
    refine xr_bipush (v := 32) (pc' := 7) rfl (by decide) rfl ?_
    rcases xite h with ⟨hc, h⟩ | ⟨hc, h⟩
    · refine xr_icmp_ge_t (t := 33) rfl hc ?_
      refine xr_iload_n (pc' := 34) rfl rfl rfl ?_
      obtain ⟨rfl, rfl⟩ := xsome2 h
      exact xr_iret rfl mR_270
    · refine xr_icmp_ge_f (pc' := 10) rfl hc rfl ?_
      refine xr_iload_n (pc' := 11) rfl rfl rfl ?_
      refine xr_aload_n (pc' := 12) rfl rfl rfl ?_
      obtain ⟨v1, hv1, h⟩ := xbind h
      refine xr_getR (pc' := 15) rfl (by decide) hv1 rfl ?_
      refine xr_iload_n (pc' := 16) rfl rfl rfl ?_
      obtain ⟨v2, hv2, h⟩ := xbind h
      refine xr_aI (pc' := 17) rfl hv2 rfl ?_
      rcases xite h with ⟨hc, h⟩ | ⟨hc, h⟩
      · refine xr_if_ge_t (t := 24) rfl hc ?_
        refine xr_iconst (v := 0) (pc' := 25) rfl (by decide) rfl ?_
        exact TfM_freePages_25 _ (fun M l0 l1 l2  h => ih M l0 l1 l2  h) M _ _ _ _ _ h
      · refine xr_if_ge_f (pc' := 20) rfl hc rfl ?_
        refine xr_iconst (v := 1) (pc' := 21) rfl (by decide) rfl ?_
        refine xr_goto (t := 25) rfl ?_
        exact TfM_freePages_25 _ (fun M l0 l1 l2  h => ih M l0 l1 l2  h) M _ _ _ _ _ h
def fM_freePages (M : xMem) (this : xId) : Option (Int32 × xMem) :=
  fM_freePages_4  xF M (some this) (0 : Int32) (0 : Int32)
set_option maxRecDepth 20000 in
theorem TfM_freePages {M M' : xMem} {r : Int32} (this : xId) (h : fM_freePages M this = some (r, M')) : xrun none 0 270 0 ([some (.inr (.inr (some this))), none, none]) ([]) M (some (.inl r), M') := by
  unfold fM_freePages at h
  refine xr_iconst (v := 0) (pc' := 1) rfl (by decide) rfl ?_
  refine xr_istore_n (pc' := 2) rfl rfl rfl ?_
  refine xr_iconst (v := 0) (pc' := 3) rfl (by decide) rfl ?_
  refine xr_istore_n (pc' := 4) rfl rfl rfl ?_
  exact TfM_freePages_4   xF M _ _ _  h
-- 271: MagazineDepotModel.manyNamed()I
def fM_manyNamed_25 (k4 : xMem → Option xId → Int32 → Int32 → Option (Int32 × xMem)) (M : xMem) (l0 : Option xId) (l2 : Int32) (s0 : Int32) (s1 : Int32) : Option (Int32 × xMem) :=
  k4 M l0 (s0 + s1) (l2 + 1)
set_option maxRecDepth 20000 in
theorem TfM_manyNamed_25 {M' : xMem} {r : Int32} (k4 : xMem → Option xId → Int32 → Int32 → Option (Int32 × xMem)) (hk4 : ∀ (M : xMem) (l0 : Option xId) (l1 : Int32) (l2 : Int32) , k4 M l0 l1 l2 = some (r, M') → xrun none 0 271 4 ([some (.inr (.inr l0)), some (.inl l1), some (.inl l2)]) ([]) M (some (.inl r), M')) (M : xMem) (l0 : Option xId) (l2 : Int32) (s0 : Int32) (s1 : Int32) (o1 : Int32) (h : fM_manyNamed_25 k4 M l0 l2 s0 s1 = some (r, M')) : xrun none 0 271 25 ([some (.inr (.inr l0)), some (.inl o1), some (.inl l2)]) ([.inl s1, .inl s0]) M (some (.inl r), M') := by
  unfold fM_manyNamed_25 at h
  refine xr_iadd (pc' := 26) rfl rfl ?_
  refine xr_istore_n (pc' := 27) rfl rfl rfl ?_
  refine xr_iinc (c := 1) (pc' := 30) rfl (by decide) rfl rfl rfl ?_
  refine xr_goto (t := 4) rfl ?_
  exact hk4 M _ _ _  h
def fM_manyNamed_4  : Nat → xMem → Option xId → Int32 → Int32 → Option (Int32 × xMem)
  | 0, _, _, _, _ => none
  | n + 1, M, l0, l1, l2 =>
    if (26 : Int32) ≤ l2 then (
      some (l1, M))
    else
    (xgR M l0 8 29).bind fun v1 =>
    (xaI M v1 l2).bind fun v2 =>
    if v2 < 0 then (
      fM_manyNamed_25 (fun M l0 l1 l2 => fM_manyNamed_4  n M l0 l1 l2) M l0 l2 l1 (0 : Int32))
    else
    fM_manyNamed_25 (fun M l0 l1 l2 => fM_manyNamed_4  n M l0 l1 l2) M l0 l2 l1 (1 : Int32)
set_option maxRecDepth 20000 in
theorem TfM_manyNamed_4 {M' : xMem} {r : Int32}  : ∀ (n : Nat) (M : xMem) (l0 : Option xId) (l1 : Int32) (l2 : Int32) , fM_manyNamed_4  n M l0 l1 l2 = some (r, M') → xrun none 0 271 4 ([some (.inr (.inr l0)), some (.inl l1), some (.inl l2)]) ([]) M (some (.inl r), M') := by
  intro n
  induction n with
  | zero => intro M l0 l1 l2  h; unfold fM_manyNamed_4 at h; cases h
  | succ n ih =>
    intro M l0 l1 l2  h
    unfold fM_manyNamed_4 at h
    refine xr_iload_n (pc' := 5) rfl rfl rfl ?_
    refine xr_bipush (v := 26) (pc' := 7) rfl (by decide) rfl ?_
    rcases xite h with ⟨hc, h⟩ | ⟨hc, h⟩
    · refine xr_icmp_ge_t (t := 33) rfl hc ?_
      refine xr_iload_n (pc' := 34) rfl rfl rfl ?_
      obtain ⟨rfl, rfl⟩ := xsome2 h
      exact xr_iret rfl mR_271
    · refine xr_icmp_ge_f (pc' := 10) rfl hc rfl ?_
      refine xr_iload_n (pc' := 11) rfl rfl rfl ?_
      refine xr_aload_n (pc' := 12) rfl rfl rfl ?_
      obtain ⟨v1, hv1, h⟩ := xbind h
      refine xr_getR (pc' := 15) rfl (by decide) hv1 rfl ?_
      refine xr_iload_n (pc' := 16) rfl rfl rfl ?_
      obtain ⟨v2, hv2, h⟩ := xbind h
      refine xr_aI (pc' := 17) rfl hv2 rfl ?_
      rcases xite h with ⟨hc, h⟩ | ⟨hc, h⟩
      · refine xr_if_lt_t (t := 24) rfl hc ?_
        refine xr_iconst (v := 0) (pc' := 25) rfl (by decide) rfl ?_
        exact TfM_manyNamed_25 _ (fun M l0 l1 l2  h => ih M l0 l1 l2  h) M _ _ _ _ _ h
      · refine xr_if_lt_f (pc' := 20) rfl hc rfl ?_
        refine xr_iconst (v := 1) (pc' := 21) rfl (by decide) rfl ?_
        refine xr_goto (t := 25) rfl ?_
        exact TfM_manyNamed_25 _ (fun M l0 l1 l2  h => ih M l0 l1 l2  h) M _ _ _ _ _ h
def fM_manyNamed (M : xMem) (this : xId) : Option (Int32 × xMem) :=
  fM_manyNamed_4  xF M (some this) (0 : Int32) (0 : Int32)
set_option maxRecDepth 20000 in
theorem TfM_manyNamed {M M' : xMem} {r : Int32} (this : xId) (h : fM_manyNamed M this = some (r, M')) : xrun none 0 271 0 ([some (.inr (.inr (some this))), none, none]) ([]) M (some (.inl r), M') := by
  unfold fM_manyNamed at h
  refine xr_iconst (v := 0) (pc' := 1) rfl (by decide) rfl ?_
  refine xr_istore_n (pc' := 2) rfl rfl rfl ?_
  refine xr_iconst (v := 0) (pc' := 3) rfl (by decide) rfl ?_
  refine xr_istore_n (pc' := 4) rfl rfl rfl ?_
  exact TfM_manyNamed_4   xF M _ _ _  h
-- 269: MagazineDepotModel.count(I)I
def fM_count (M : xMem) (this : xId) (a0 : Int32) : Option (Int32 × xMem) :=
  if a0 = 0 then (
    (xgI M (some this) 8 13).bind fun v1 =>
    some (v1, M))
  else
  if a0 = 1 then (
    (xob M (some this) 8).bind fun u2 =>
    (fM_manyMade M u2 ).bind fun q3 =>
    some (q3.1, q3.2))
  else
  if a0 = 2 then (
    (xob M (some this) 8).bind fun u4 =>
    (fM_freePages M u4 ).bind fun q5 =>
    some (q5.1, q5.2))
  else
  if a0 = 3 then (
    (xgI M (some this) 8 42).bind fun v6 =>
    some (v6, M))
  else
  if a0 = 4 then (
    (xgI M (some this) 8 14).bind fun v7 =>
    some (v7, M))
  else
  if a0 = 5 then (
    (xob M (some this) 8).bind fun u8 =>
    (fM_manyNamed M u8 ).bind fun q9 =>
    some (q9.1, q9.2))
  else
  if a0 = 6 then (
    (xob M (some this) 8).bind fun u10 =>
    (fM_liveNow M u10 ).bind fun q11 =>
    some (q11.1, q11.2))
  else
  if a0 = 7 then (
    (xob M (some this) 8).bind fun u12 =>
    (fM_manyHeld M u12 (-1 : Int32)).bind fun q13 =>
    some (q13.1, q13.2))
  else
  some ((-1 : Int32), M)
set_option maxRecDepth 20000 in
theorem TfM_count {M M' : xMem} {r : Int32} (this : xId) (a0 : Int32) (h : fM_count M this a0 = some (r, M')) : xrun none 2 269 0 ([some (.inr (.inr (some this))), some (.inl a0)]) ([]) M (some (.inl r), M') := by
  unfold fM_count at h
  refine xr_iload_n (pc' := 1) rfl rfl rfl ?_
  rcases xite h with ⟨hc1_0, h⟩ | ⟨hc1_0, h⟩
  · refine xr_tsw_in (t := 48) rfl (by rw [hc1_0]; decide) (by rw [hc1_0]; rfl) (by decide) ?_
    refine xr_aload_n (pc' := 49) rfl rfl rfl ?_
    obtain ⟨v1, hv1, h⟩ := xbind h
    refine xr_getI (pc' := 52) rfl (by decide) hv1 rfl ?_
    obtain ⟨rfl, rfl⟩ := xsome2 h
    exact xr_iret rfl mR_269
  rcases xite h with ⟨hc1_1, h⟩ | ⟨hc1_1, h⟩
  · refine xr_tsw_in (t := 53) rfl (by rw [hc1_1]; decide) (by rw [hc1_1]; rfl) (by decide) ?_
    refine xr_aload_n (pc' := 54) rfl rfl rfl ?_
    obtain ⟨u2, hu2, h⟩ := xbind h
    obtain ⟨q3, hq3, h⟩ := xbind h
    refine xr_callV (pc' := 57) (C := 8) (As := []) (rest := _) rfl hu2 mC_205 mL_205 rfl (Nat.le_of_ble_eq_true rfl) rfl (Nat.le_of_ble_eq_true rfl) (TfM_manyMade _  hq3) rfl ?_
    obtain ⟨rfl, rfl⟩ := xsome2 h
    exact xr_iret rfl mR_269
  rcases xite h with ⟨hc1_2, h⟩ | ⟨hc1_2, h⟩
  · refine xr_tsw_in (t := 58) rfl (by rw [hc1_2]; decide) (by rw [hc1_2]; rfl) (by decide) ?_
    refine xr_aload_n (pc' := 59) rfl rfl rfl ?_
    obtain ⟨u4, hu4, h⟩ := xbind h
    obtain ⟨q5, hq5, h⟩ := xbind h
    refine xr_callV (pc' := 62) (C := 8) (As := []) (rest := _) rfl hu4 mC_270 mL_270 rfl (Nat.le_of_ble_eq_true rfl) rfl (Nat.le_of_ble_eq_true rfl) (TfM_freePages _  hq5) rfl ?_
    obtain ⟨rfl, rfl⟩ := xsome2 h
    exact xr_iret rfl mR_269
  rcases xite h with ⟨hc1_3, h⟩ | ⟨hc1_3, h⟩
  · refine xr_tsw_in (t := 63) rfl (by rw [hc1_3]; decide) (by rw [hc1_3]; rfl) (by decide) ?_
    refine xr_aload_n (pc' := 64) rfl rfl rfl ?_
    obtain ⟨v6, hv6, h⟩ := xbind h
    refine xr_getI (pc' := 67) rfl (by decide) hv6 rfl ?_
    obtain ⟨rfl, rfl⟩ := xsome2 h
    exact xr_iret rfl mR_269
  rcases xite h with ⟨hc1_4, h⟩ | ⟨hc1_4, h⟩
  · refine xr_tsw_in (t := 68) rfl (by rw [hc1_4]; decide) (by rw [hc1_4]; rfl) (by decide) ?_
    refine xr_aload_n (pc' := 69) rfl rfl rfl ?_
    obtain ⟨v7, hv7, h⟩ := xbind h
    refine xr_getI (pc' := 72) rfl (by decide) hv7 rfl ?_
    obtain ⟨rfl, rfl⟩ := xsome2 h
    exact xr_iret rfl mR_269
  rcases xite h with ⟨hc1_5, h⟩ | ⟨hc1_5, h⟩
  · refine xr_tsw_in (t := 73) rfl (by rw [hc1_5]; decide) (by rw [hc1_5]; rfl) (by decide) ?_
    refine xr_aload_n (pc' := 74) rfl rfl rfl ?_
    obtain ⟨u8, hu8, h⟩ := xbind h
    obtain ⟨q9, hq9, h⟩ := xbind h
    refine xr_callV (pc' := 77) (C := 8) (As := []) (rest := _) rfl hu8 mC_271 mL_271 rfl (Nat.le_of_ble_eq_true rfl) rfl (Nat.le_of_ble_eq_true rfl) (TfM_manyNamed _  hq9) rfl ?_
    obtain ⟨rfl, rfl⟩ := xsome2 h
    exact xr_iret rfl mR_269
  rcases xite h with ⟨hc1_6, h⟩ | ⟨hc1_6, h⟩
  · refine xr_tsw_in (t := 78) rfl (by rw [hc1_6]; decide) (by rw [hc1_6]; rfl) (by decide) ?_
    refine xr_aload_n (pc' := 79) rfl rfl rfl ?_
    obtain ⟨u10, hu10, h⟩ := xbind h
    obtain ⟨q11, hq11, h⟩ := xbind h
    refine xr_callV (pc' := 82) (C := 8) (As := []) (rest := _) rfl hu10 mC_233 mL_233 rfl (Nat.le_of_ble_eq_true rfl) rfl (Nat.le_of_ble_eq_true rfl) (TfM_liveNow _  hq11) rfl ?_
    obtain ⟨rfl, rfl⟩ := xsome2 h
    exact xr_iret rfl mR_269
  rcases xite h with ⟨hc1_7, h⟩ | ⟨hc1_7, h⟩
  · refine xr_tsw_in (t := 83) rfl (by rw [hc1_7]; decide) (by rw [hc1_7]; rfl) (by decide) ?_
    refine xr_aload_n (pc' := 84) rfl rfl rfl ?_
    refine xr_iconst (v := -1) (pc' := 85) rfl (by decide) rfl ?_
    obtain ⟨u12, hu12, h⟩ := xbind h
    obtain ⟨q13, hq13, h⟩ := xbind h
    refine xr_callV (pc' := 88) (C := 8) (As := [_]) (rest := _) rfl hu12 mC_197 mL_197 rfl (Nat.le_of_ble_eq_true rfl) rfl (Nat.le_of_ble_eq_true rfl) (TfM_manyHeld _ _ hq13) rfl ?_
    obtain ⟨rfl, rfl⟩ := xsome2 h
    exact xr_iret rfl mR_269
  have hc1_0 := lv_neT hc1_0 (by decide : (0 : Int32).toInt = 0)
  have hc1_1 := lv_neT hc1_1 (by decide : (1 : Int32).toInt = 1)
  have hc1_2 := lv_neT hc1_2 (by decide : (2 : Int32).toInt = 2)
  have hc1_3 := lv_neT hc1_3 (by decide : (3 : Int32).toInt = 3)
  have hc1_4 := lv_neT hc1_4 (by decide : (4 : Int32).toInt = 4)
  have hc1_5 := lv_neT hc1_5 (by decide : (5 : Int32).toInt = 5)
  have hc1_6 := lv_neT hc1_6 (by decide : (6 : Int32).toInt = 6)
  have hc1_7 := lv_neT hc1_7 (by decide : (7 : Int32).toInt = 7)
  refine xr_tsw_out (t := 89) rfl (by omega) (by decide) ?_
  refine xr_iconst (v := -1) (pc' := 90) rfl (by decide) rfl ?_
  obtain ⟨rfl, rfl⟩ := xsome2 h
  exact xr_iret rfl mR_269
