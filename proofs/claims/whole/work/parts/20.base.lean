/-! what stays: how many cells, which references -/
def xRFk (k : Nat) : List Nat := match k with
  | 0 => [0, 0, 0, 0, 23, 25, 0, 0, 0, 0, 36, 38, 39, 0, 40]
  | 1 => [2, 11, 12, 13]
  | 2 => [3, 4, 5, 6, 7, 8, 9, 10]
  | 14 => [0, 0, 0, 0, 0, 0, 0, 0, 0, 0, 0, 0, 0, 0, 15, 16, 17, 19]
  | 17 => [18]
  | 19 => [20]
  | 21 => [22]
  | 23 => [24]
  | 26 => [27, 28, 29, 30, 31, 32, 0, 33]
  | 33 => [34]
  | 36 => [0, 0, 37]
  | 40 => [41, 43]
  | 44 => [45, 46, 47, 48, 49, 50, 51, 52, 53, 54, 55, 56, 57, 0, 0, 0, 58, 59, 60, 61, 62, 63, 64, 65, 66, 67, 68, 69, 70, 71, 72, 73, 0, 0, 0, 74, 0, 0, 75, 76, 77, 78, 0, 0, 0, 0, 0, 0, 0, 0, 0, 0, 79, 80, 81]
  | _ => []
def xRF (a : xId) (k : Nat) : Option xId :=
  if a.1 = 0 ∧ k < 3 then some (1, k, 0) else if a.1 = 11 then (if k < 4 then some (14, a.2.1, k) else none) else if a.1 = 12 then (if k < 24 then some (21, a.2.1, k) else none) else if a.1 = 41 then (if k < 4 then some (42, 0, k) else none)
  else match (xRFk a.1).getD k 0 with
    | 0 => none
    | t + 1 => some (t + 1, a.2.1, a.2.2)
def xmut (a : xId) (k : Nat) : Bool := (a.1 == 0 && (k == 7 || k == 8)) || (a.1 == 36 && (k == 3 || k == 4 || k == 5)) || (a.1 == 26 && k == 8)
/-- all is made, and the references stand as the constructors left them, but for those of a trace and of a run -/
def XW (M : xMem) : Prop := M.2.2.2.1 = 340 ∧ ∀ (a : xId) (q : Nat × Nat) (k : Nat), xsh a = some q → (q.1 ≤ 8 ∨ 23 ≤ q.1) → k < q.2 → xmut a k = false → M.2.2.1 a k = xRF a k
theorem XW_si {M : xMem} {a : xId} {k : Nat} {v : Int32} : XW (xsi M a k v) = XW M := rfl
theorem XW_sl {M : xMem} {a : xId} {k : Nat} {v : Int64} : XW (xsl M a k v) = XW M := rfl
theorem XW_sri {M : xMem} {a : xId} {g : Nat → Int32} : XW (xsri M a g) = XW M := rfl
theorem XW_srl {M : xMem} {a : xId} {g : Nat → Int64} : XW (xsrl M a g) = XW M := rfl
theorem XW.lt {M : xMem} (h : XW M) {a : xId} {q : Nat × Nat} (hs : xsh a = some q) : xnum a < M.2.2.2.1 := by
  rw [h.1]; exact (xsh_lt hs).2
theorem xis_w {M : xMem} (h : XW M) {a : xId} {t n : Nat} (hs : xsh a = some (t, n)) : xis M a t = some n := by
  unfold xis; rw [hs]; dsimp only; rw [if_pos ⟨rfl, h.lt hs⟩]
theorem xob_w {M : xMem} (h : XW M) {a : xId} {t n : Nat} (hs : xsh a = some (t, n)) : xob M (some a) t = some a := by
  unfold xob; dsimp only; rw [xis_w h hs]
theorem xgI_w {M : xMem} (h : XW M) {a : xId} {t n k : Nat} (hs : xsh a = some (t, n)) : xgI M (some a) t k = some (M.1 a k) := by
  unfold xgI; rw [xob_w h hs]; rfl
theorem xgL_w {M : xMem} (h : XW M) {a : xId} {t n k : Nat} (hs : xsh a = some (t, n)) : xgL M (some a) t k = some (M.2.1 a k) := by
  unfold xgL; rw [xob_w h hs]; rfl
theorem xgR_w {M : xMem} (h : XW M) {a : xId} {t n k : Nat} (hs : xsh a = some (t, n)) (ht : t ≤ 8) (hk : k < n) (hm : xmut a k = false) : xgR M (some a) t k = some (xRF a k) := by
  unfold xgR; rw [xob_w h hs]; show some (M.2.2.1 a k) = _; rw [h.2 a (t, n) k hs (Or.inl ht) hk hm]
theorem xgR_v {M : xMem} (h : XW M) {a : xId} {t n k : Nat} (hs : xsh a = some (t, n)) : xgR M (some a) t k = some (M.2.2.1 a k) := by
  unfold xgR; rw [xob_w h hs]; rfl
theorem xpI_w {M : xMem} (h : XW M) {a : xId} {t n k : Nat} {v : Int32} (hs : xsh a = some (t, n)) : xpI M (some a) t k v = some (xsi M a k v) := by
  unfold xpI; rw [xob_w h hs]; rfl
theorem xpL_w {M : xMem} (h : XW M) {a : xId} {t n k : Nat} {v : Int64} (hs : xsh a = some (t, n)) : xpL M (some a) t k v = some (xsl M a k v) := by
  unfold xpL; rw [xob_w h hs]; rfl
theorem xpR_w {M : xMem} (h : XW M) {a : xId} {t n k : Nat} {v : Option xId} (hs : xsh a = some (t, n)) : xpR M (some a) t k v = some (xsr M a k v) := by
  unfold xpR; rw [xob_w h hs]; rfl
theorem xpZ_w {M : xMem} (h : XW M) {a : xId} {t n k : Nat} {v : Int32} (hs : xsh a = some (t, n)) (hv : v = 0 ∨ v = 1) : xpZ M (some a) t k v = some (xsi M a k v) := by
  unfold xpZ; rw [xob_w h hs]; show (if v = 0 ∨ v = 1 then _ else _) = _; rw [if_pos hv]
theorem xar_w {M : xMem} (h : XW M) {a : xId} {t n : Nat} {i : Int32} (hs : xsh a = some (t, n)) (hi : vp_in i n) : xar M (some a) t i = some a := by
  unfold xar; dsimp only; rw [xis_w h hs]; exact if_pos hi
theorem xaI_w {M : xMem} (h : XW M) {a : xId} {n j : Nat} (hs : xsh a = some (20, n)) (hj : j < n) (hn : n < 2 ^ 31) : xaI M (some a) (nI j) = some (M.1 a j) := by
  unfold xaI; rw [xar_w h hs (vp_in_nI hj hn)]; show some (M.1 a (nI j).toNatClampNeg) = _; rw [nI_clamp (by omega)]
theorem xaZ_w {M : xMem} (h : XW M) {a : xId} {n j : Nat} (hs : xsh a = some (22, n)) (hj : j < n) (hn : n < 2 ^ 31) : xaZ M (some a) (nI j) = some (M.1 a j) := by
  unfold xaZ; rw [xar_w h hs (vp_in_nI hj hn)]; show some (M.1 a (nI j).toNatClampNeg) = _; rw [nI_clamp (by omega)]
theorem xaL_w {M : xMem} (h : XW M) {a : xId} {n j : Nat} (hs : xsh a = some (21, n)) (hj : j < n) (hn : n < 2 ^ 31) : xaL M (some a) (nI j) = some (M.2.1 a j) := by
  unfold xaL; rw [xar_w h hs (vp_in_nI hj hn)]; show some (M.2.1 a (nI j).toNatClampNeg) = _; rw [nI_clamp (by omega)]
theorem xaR_w {M : xMem} (h : XW M) {a : xId} {t n j : Nat} (hs : xsh a = some (t, n)) (ht : 23 ≤ t) (hj : j < n) (hn : n < 2 ^ 31) (hm : xmut a j = false) : xaR M t (some a) (nI j) = some (xRF a j) := by
  unfold xaR; rw [xar_w h hs (vp_in_nI hj hn)]; show some (M.2.2.1 a (nI j).toNatClampNeg) = _; rw [nI_clamp (by omega), h.2 a (t, n) j hs (Or.inr ht) hj hm]
theorem xuI_w {M : xMem} (h : XW M) {a : xId} {n j : Nat} {v : Int32} (hs : xsh a = some (20, n)) (hj : j < n) (hn : n < 2 ^ 31) : xuI M (some a) (nI j) v = some (xsi M a j v) := by
  unfold xuI; rw [xar_w h hs (vp_in_nI hj hn)]; show some (xsi M a (nI j).toNatClampNeg v) = _; rw [nI_clamp (by omega)]
theorem xuZ_w {M : xMem} (h : XW M) {a : xId} {n j : Nat} {v : Int32} (hs : xsh a = some (22, n)) (hj : j < n) (hn : n < 2 ^ 31) : xuZ M (some a) (nI j) v = some (xsi M a j (vp_nar .boolean v)) := by
  unfold xuZ; rw [xar_w h hs (vp_in_nI hj hn)]; show some (xsi M a (nI j).toNatClampNeg _) = _; rw [nI_clamp (by omega)]
theorem xuL_w {M : xMem} (h : XW M) {a : xId} {n j : Nat} {v : Int64} (hs : xsh a = some (21, n)) (hj : j < n) (hn : n < 2 ^ 31) : xuL M (some a) (nI j) v = some (xsl M a j v) := by
  unfold xuL; rw [xar_w h hs (vp_in_nI hj hn)]; show some (xsl M a (nI j).toNatClampNeg v) = _; rw [nI_clamp (by omega)]
theorem xal_w {M : xMem} (h : XW M) {a : xId} {t n : Nat} (hs : xsh a = some (t, n)) (h1 : 20 ≤ t) (h2 : t ≤ 22) : xal M (some a) = some (nI n) := by
  unfold xal; dsimp only; rw [hs]; dsimp only; rw [if_pos ⟨h1, h2, h.lt hs⟩]; rfl
/-! what is read behind a write -/
theorem xsi_1 {M : xMem} {a b : xId} {k j : Nat} {v : Int32} : (xsi M a k v).1 b j = if b = a ∧ j = k then v else M.1 b j := by
  show xup _ _ _ _ b j = _
  by_cases h : b = a
  · subst h; rw [xup_at]; by_cases hj : j = k <;> simp [hj]
  · rw [xup_ne h]; simp [h]
theorem xsi_2 {M : xMem} {a : xId} {k : Nat} {v : Int32} : (xsi M a k v).2 = M.2 := rfl
theorem xsl_1 {M : xMem} {a : xId} {k : Nat} {v : Int64} : (xsl M a k v).1 = M.1 := rfl
theorem xsl_2 {M : xMem} {a b : xId} {k j : Nat} {v : Int64} : (xsl M a k v).2.1 b j = if b = a ∧ j = k then v else M.2.1 b j := by
  show xup _ _ _ _ b j = _
  by_cases h : b = a
  · subst h; rw [xup_at]; by_cases hj : j = k <;> simp [hj]
  · rw [xup_ne h]; simp [h]
theorem xsl_3 {M : xMem} {a : xId} {k : Nat} {v : Int64} : (xsl M a k v).2.2 = M.2.2 := rfl
/-! what the kinds are -/
theorem sh_0 : xsh (0, 0, 0) = some (7, 15) := if_pos ⟨Nat.le_of_ble_eq_true rfl, Nat.le_of_ble_eq_true rfl⟩
theorem sh_1 {b : Nat} (hb : b < 3) : xsh (1, b, 0) = some (3, 8) := if_pos ⟨hb, Nat.le_of_ble_eq_true rfl⟩
theorem sh_2 {b : Nat} (hb : b < 3) : xsh (2, b, 0) = some (0, 8) := if_pos ⟨hb, Nat.le_of_ble_eq_true rfl⟩
theorem sh_3 {b : Nat} (hb : b < 3) : xsh (3, b, 0) = some (20, 32) := if_pos ⟨hb, Nat.le_of_ble_eq_true rfl⟩
theorem sh_4 {b : Nat} (hb : b < 3) : xsh (4, b, 0) = some (20, 32) := if_pos ⟨hb, Nat.le_of_ble_eq_true rfl⟩
theorem sh_5 {b : Nat} (hb : b < 3) : xsh (5, b, 0) = some (20, 32) := if_pos ⟨hb, Nat.le_of_ble_eq_true rfl⟩
theorem sh_6 {b : Nat} (hb : b < 3) : xsh (6, b, 0) = some (20, 32) := if_pos ⟨hb, Nat.le_of_ble_eq_true rfl⟩
theorem sh_7 {b : Nat} (hb : b < 3) : xsh (7, b, 0) = some (21, 32) := if_pos ⟨hb, Nat.le_of_ble_eq_true rfl⟩
theorem sh_8 {b : Nat} (hb : b < 3) : xsh (8, b, 0) = some (21, 32) := if_pos ⟨hb, Nat.le_of_ble_eq_true rfl⟩
theorem sh_9 {b : Nat} (hb : b < 3) : xsh (9, b, 0) = some (20, 1984) := if_pos ⟨hb, Nat.le_of_ble_eq_true rfl⟩
theorem sh_10 {b : Nat} (hb : b < 3) : xsh (10, b, 0) = some (20, 16) := if_pos ⟨hb, Nat.le_of_ble_eq_true rfl⟩
theorem sh_11 {b : Nat} (hb : b < 3) : xsh (11, b, 0) = some (23, 4) := if_pos ⟨hb, Nat.le_of_ble_eq_true rfl⟩
theorem sh_12 {b : Nat} (hb : b < 3) : xsh (12, b, 0) = some (24, 24) := if_pos ⟨hb, Nat.le_of_ble_eq_true rfl⟩
theorem sh_13 {b : Nat} (hb : b < 3) : xsh (13, b, 0) = some (22, 24) := if_pos ⟨hb, Nat.le_of_ble_eq_true rfl⟩
theorem sh_14 {b : Nat} (hb : b < 3) {i : Nat} (hi : i < 4) : xsh (14, b, i) = some (2, 18) := if_pos ⟨hb, hi⟩
theorem sh_15 {b : Nat} (hb : b < 3) {i : Nat} (hi : i < 4) : xsh (15, b, i) = some (20, 4) := if_pos ⟨hb, hi⟩
theorem sh_16 {b : Nat} (hb : b < 3) {i : Nat} (hi : i < 4) : xsh (16, b, i) = some (20, 4) := if_pos ⟨hb, hi⟩
theorem sh_17 {b : Nat} (hb : b < 3) {i : Nat} (hi : i < 4) : xsh (17, b, i) = some (4, 2) := if_pos ⟨hb, hi⟩
theorem sh_18 {b : Nat} (hb : b < 3) {i : Nat} (hi : i < 4) : xsh (18, b, i) = some (20, 24) := if_pos ⟨hb, hi⟩
theorem sh_19 {b : Nat} (hb : b < 3) {i : Nat} (hi : i < 4) : xsh (19, b, i) = some (4, 2) := if_pos ⟨hb, hi⟩
theorem sh_20 {b : Nat} (hb : b < 3) {i : Nat} (hi : i < 4) : xsh (20, b, i) = some (20, 24) := if_pos ⟨hb, hi⟩
theorem sh_21 {b : Nat} (hb : b < 3) {i : Nat} (hi : i < 24) : xsh (21, b, i) = some (4, 2) := if_pos ⟨hb, hi⟩
theorem sh_22 {b : Nat} (hb : b < 3) {i : Nat} (hi : i < 24) : xsh (22, b, i) = some (20, 8) := if_pos ⟨hb, hi⟩
theorem sh_23 : xsh (23, 0, 0) = some (4, 2) := if_pos ⟨Nat.le_of_ble_eq_true rfl, Nat.le_of_ble_eq_true rfl⟩
theorem sh_24 : xsh (24, 0, 0) = some (20, 400) := if_pos ⟨Nat.le_of_ble_eq_true rfl, Nat.le_of_ble_eq_true rfl⟩
theorem sh_25 : xsh (25, 0, 0) = some (20, 100) := if_pos ⟨Nat.le_of_ble_eq_true rfl, Nat.le_of_ble_eq_true rfl⟩
theorem sh_26 {i : Nat} (hi : i < 2) : xsh (26, 0, i) = some (6, 11) := if_pos ⟨Nat.le_of_ble_eq_true rfl, hi⟩
theorem sh_27 {i : Nat} (hi : i < 2) : xsh (27, 0, i) = some (20, 100) := if_pos ⟨Nat.le_of_ble_eq_true rfl, hi⟩
theorem sh_28 {i : Nat} (hi : i < 2) : xsh (28, 0, i) = some (20, 100) := if_pos ⟨Nat.le_of_ble_eq_true rfl, hi⟩
theorem sh_29 {i : Nat} (hi : i < 2) : xsh (29, 0, i) = some (20, 100) := if_pos ⟨Nat.le_of_ble_eq_true rfl, hi⟩
theorem sh_30 {i : Nat} (hi : i < 2) : xsh (30, 0, i) = some (20, 100) := if_pos ⟨Nat.le_of_ble_eq_true rfl, hi⟩
theorem sh_31 {i : Nat} (hi : i < 2) : xsh (31, 0, i) = some (20, 100) := if_pos ⟨Nat.le_of_ble_eq_true rfl, hi⟩
theorem sh_32 {i : Nat} (hi : i < 2) : xsh (32, 0, i) = some (20, 100) := if_pos ⟨Nat.le_of_ble_eq_true rfl, hi⟩
theorem sh_33 {i : Nat} (hi : i < 2) : xsh (33, 0, i) = some (4, 2) := if_pos ⟨Nat.le_of_ble_eq_true rfl, hi⟩
theorem sh_34 {i : Nat} (hi : i < 2) : xsh (34, 0, i) = some (20, 5) := if_pos ⟨Nat.le_of_ble_eq_true rfl, hi⟩
theorem sh_35 {i : Nat} (hi : i < 2) : xsh (35, 0, i) = some (20, 0) := if_pos ⟨Nat.le_of_ble_eq_true rfl, hi⟩
theorem sh_36 : xsh (36, 0, 0) = some (5, 6) := if_pos ⟨Nat.le_of_ble_eq_true rfl, Nat.le_of_ble_eq_true rfl⟩
theorem sh_37 : xsh (37, 0, 0) = some (20, 100) := if_pos ⟨Nat.le_of_ble_eq_true rfl, Nat.le_of_ble_eq_true rfl⟩
theorem sh_38 : xsh (38, 0, 0) = some (20, 26) := if_pos ⟨Nat.le_of_ble_eq_true rfl, Nat.le_of_ble_eq_true rfl⟩
theorem sh_39 : xsh (39, 0, 0) = some (20, 26) := if_pos ⟨Nat.le_of_ble_eq_true rfl, Nat.le_of_ble_eq_true rfl⟩
theorem sh_40 : xsh (40, 0, 0) = some (1, 2) := if_pos ⟨Nat.le_of_ble_eq_true rfl, Nat.le_of_ble_eq_true rfl⟩
theorem sh_41 : xsh (41, 0, 0) = some (25, 4) := if_pos ⟨Nat.le_of_ble_eq_true rfl, Nat.le_of_ble_eq_true rfl⟩
theorem sh_42 {i : Nat} (hi : i < 4) : xsh (42, 0, i) = some (20, 40) := if_pos ⟨Nat.le_of_ble_eq_true rfl, hi⟩
theorem sh_43 : xsh (43, 0, 0) = some (20, 4) := if_pos ⟨Nat.le_of_ble_eq_true rfl, Nat.le_of_ble_eq_true rfl⟩
theorem sh_44 : xsh (44, 0, 0) = some (8, 55) := if_pos ⟨Nat.le_of_ble_eq_true rfl, Nat.le_of_ble_eq_true rfl⟩
theorem sh_45 : xsh (45, 0, 0) = some (20, 4) := if_pos ⟨Nat.le_of_ble_eq_true rfl, Nat.le_of_ble_eq_true rfl⟩
theorem sh_46 : xsh (46, 0, 0) = some (20, 4) := if_pos ⟨Nat.le_of_ble_eq_true rfl, Nat.le_of_ble_eq_true rfl⟩
theorem sh_47 : xsh (47, 0, 0) = some (20, 4) := if_pos ⟨Nat.le_of_ble_eq_true rfl, Nat.le_of_ble_eq_true rfl⟩
theorem sh_48 : xsh (48, 0, 0) = some (20, 4) := if_pos ⟨Nat.le_of_ble_eq_true rfl, Nat.le_of_ble_eq_true rfl⟩
theorem sh_49 : xsh (49, 0, 0) = some (20, 4) := if_pos ⟨Nat.le_of_ble_eq_true rfl, Nat.le_of_ble_eq_true rfl⟩
theorem sh_50 : xsh (50, 0, 0) = some (20, 4) := if_pos ⟨Nat.le_of_ble_eq_true rfl, Nat.le_of_ble_eq_true rfl⟩
theorem sh_51 : xsh (51, 0, 0) = some (20, 4) := if_pos ⟨Nat.le_of_ble_eq_true rfl, Nat.le_of_ble_eq_true rfl⟩
theorem sh_52 : xsh (52, 0, 0) = some (20, 4) := if_pos ⟨Nat.le_of_ble_eq_true rfl, Nat.le_of_ble_eq_true rfl⟩
theorem sh_53 : xsh (53, 0, 0) = some (20, 4) := if_pos ⟨Nat.le_of_ble_eq_true rfl, Nat.le_of_ble_eq_true rfl⟩
theorem sh_54 : xsh (54, 0, 0) = some (20, 4) := if_pos ⟨Nat.le_of_ble_eq_true rfl, Nat.le_of_ble_eq_true rfl⟩
theorem sh_55 : xsh (55, 0, 0) = some (20, 4) := if_pos ⟨Nat.le_of_ble_eq_true rfl, Nat.le_of_ble_eq_true rfl⟩
theorem sh_56 : xsh (56, 0, 0) = some (20, 4) := if_pos ⟨Nat.le_of_ble_eq_true rfl, Nat.le_of_ble_eq_true rfl⟩
theorem sh_57 : xsh (57, 0, 0) = some (21, 4) := if_pos ⟨Nat.le_of_ble_eq_true rfl, Nat.le_of_ble_eq_true rfl⟩
theorem sh_58 : xsh (58, 0, 0) = some (20, 32) := if_pos ⟨Nat.le_of_ble_eq_true rfl, Nat.le_of_ble_eq_true rfl⟩
theorem sh_59 : xsh (59, 0, 0) = some (20, 32) := if_pos ⟨Nat.le_of_ble_eq_true rfl, Nat.le_of_ble_eq_true rfl⟩
theorem sh_60 : xsh (60, 0, 0) = some (20, 1984) := if_pos ⟨Nat.le_of_ble_eq_true rfl, Nat.le_of_ble_eq_true rfl⟩
theorem sh_61 : xsh (61, 0, 0) = some (20, 1984) := if_pos ⟨Nat.le_of_ble_eq_true rfl, Nat.le_of_ble_eq_true rfl⟩
theorem sh_62 : xsh (62, 0, 0) = some (20, 16) := if_pos ⟨Nat.le_of_ble_eq_true rfl, Nat.le_of_ble_eq_true rfl⟩
theorem sh_63 : xsh (63, 0, 0) = some (20, 16) := if_pos ⟨Nat.le_of_ble_eq_true rfl, Nat.le_of_ble_eq_true rfl⟩
theorem sh_64 : xsh (64, 0, 0) = some (20, 24) := if_pos ⟨Nat.le_of_ble_eq_true rfl, Nat.le_of_ble_eq_true rfl⟩
theorem sh_65 : xsh (65, 0, 0) = some (20, 24) := if_pos ⟨Nat.le_of_ble_eq_true rfl, Nat.le_of_ble_eq_true rfl⟩
theorem sh_66 : xsh (66, 0, 0) = some (20, 192) := if_pos ⟨Nat.le_of_ble_eq_true rfl, Nat.le_of_ble_eq_true rfl⟩
theorem sh_67 : xsh (67, 0, 0) = some (20, 96) := if_pos ⟨Nat.le_of_ble_eq_true rfl, Nat.le_of_ble_eq_true rfl⟩
theorem sh_68 : xsh (68, 0, 0) = some (20, 4) := if_pos ⟨Nat.le_of_ble_eq_true rfl, Nat.le_of_ble_eq_true rfl⟩
theorem sh_69 : xsh (69, 0, 0) = some (20, 96) := if_pos ⟨Nat.le_of_ble_eq_true rfl, Nat.le_of_ble_eq_true rfl⟩
theorem sh_70 : xsh (70, 0, 0) = some (20, 4) := if_pos ⟨Nat.le_of_ble_eq_true rfl, Nat.le_of_ble_eq_true rfl⟩
theorem sh_71 : xsh (71, 0, 0) = some (20, 26) := if_pos ⟨Nat.le_of_ble_eq_true rfl, Nat.le_of_ble_eq_true rfl⟩
theorem sh_72 : xsh (72, 0, 0) = some (20, 9200) := if_pos ⟨Nat.le_of_ble_eq_true rfl, Nat.le_of_ble_eq_true rfl⟩
theorem sh_73 : xsh (73, 0, 0) = some (21, 8) := if_pos ⟨Nat.le_of_ble_eq_true rfl, Nat.le_of_ble_eq_true rfl⟩
theorem sh_74 : xsh (74, 0, 0) = some (20, 400) := if_pos ⟨Nat.le_of_ble_eq_true rfl, Nat.le_of_ble_eq_true rfl⟩
theorem sh_75 : xsh (75, 0, 0) = some (20, 100) := if_pos ⟨Nat.le_of_ble_eq_true rfl, Nat.le_of_ble_eq_true rfl⟩
theorem sh_76 : xsh (76, 0, 0) = some (20, 100) := if_pos ⟨Nat.le_of_ble_eq_true rfl, Nat.le_of_ble_eq_true rfl⟩
theorem sh_77 : xsh (77, 0, 0) = some (20, 5) := if_pos ⟨Nat.le_of_ble_eq_true rfl, Nat.le_of_ble_eq_true rfl⟩
theorem sh_78 : xsh (78, 0, 0) = some (20, 5) := if_pos ⟨Nat.le_of_ble_eq_true rfl, Nat.le_of_ble_eq_true rfl⟩
theorem sh_79 : xsh (79, 0, 0) = some (20, 160) := if_pos ⟨Nat.le_of_ble_eq_true rfl, Nat.le_of_ble_eq_true rfl⟩
theorem sh_80 : xsh (80, 0, 0) = some (20, 4) := if_pos ⟨Nat.le_of_ble_eq_true rfl, Nat.le_of_ble_eq_true rfl⟩
theorem sh_81 : xsh (81, 0, 0) = some (20, 40) := if_pos ⟨Nat.le_of_ble_eq_true rfl, Nat.le_of_ble_eq_true rfl⟩
