/-! what was looked at, said of the first state -/
theorem zpr {a b : Option xVal} {x y : xMem} (h : some (a, x) = some (b, y)) : x = y := by cases h; rfl
theorem zG_00 : zG xM00 := ⟨fun a _ => zP_0 a, fun _ _ => rfl⟩
theorem zG_1 : zG xI1 := by
  obtain ⟨q, hq⟩ := Option.isSome_iff_exists.mp zr1
  obtain ⟨r, M'⟩ := q
  have h := zexec_ok _ _ _ _ _ _ _ _ _ _ hq
  have h1 : xrI1 = some (r, M') := h.1
  rw [xrI1_eq.1] at h1
  rw [zpr h1]
  exact h.2 (zG_nw zG_00 _ _)
theorem zG_3 : zG xI3 := by
  obtain ⟨q, hq⟩ := Option.isSome_iff_exists.mp zr3
  obtain ⟨r, M'⟩ := q
  have h := zexec_ok _ _ _ _ _ _ _ _ _ _ hq
  have h1 : xrI3 = some (r, M') := h.1
  rw [xrI3_eq.1] at h1
  rw [zpr h1]
  exact h.2 (zG_nw zG_1 _ _)
theorem zl1' : zc1 xI3 = true := by have h := zl1; rw [xrI3_eq.1] at h; exact h
theorem zl2' : zc2 xI3 = true := by have h := zl2; rw [xrI3_eq.1] at h; exact h
theorem zl3' : zc3 xI3 = true := by have h := zl3; rw [xrI3_eq.1] at h; exact h
theorem zall {f : Nat → Int32} {n : Nat} {v : Int32} (h : ((List.range n).all fun k => decide (f k = v)) = true) {k : Nat} (hk : k < n) : f k = v := of_decide_eq_true (List.all_eq_true.mp h k (List.mem_range.mpr hk))
theorem z_3 {b k : Nat} (hb : b < 3) (hk : k < 32) : xI3.1 (3, b, 0) k = -1 := by
  have h := zl1'
  unfold zc1 at h
  exact zall (f := fun k => xI3.1 (3, b, 0) k) (List.all_eq_true.mp h b (List.mem_range.mpr hb)) hk
theorem z_38 {k : Nat} (hk : k < 26) : xI3.1 (38, 0, 0) k = -1 := by
  have h := zl2'
  unfold zc2 at h
  simp only [Bool.and_eq_true] at h
  exact zall (f := fun k => xI3.1 (38, 0, 0) k) h.1 hk
theorem z_43 {k : Nat} (hk : k < 4) : xI3.1 (43, 0, 0) k = -1 := by
  have h := zl2'
  unfold zc2 at h
  simp only [Bool.and_eq_true] at h
  exact zall (f := fun k => xI3.1 (43, 0, 0) k) h.2.1 hk
theorem z_58 {k : Nat} (hk : k < 32) : xI3.1 (58, 0, 0) k = -9 := by
  have h := zl2'
  unfold zc2 at h
  simp only [Bool.and_eq_true] at h
  exact zall (f := fun k => xI3.1 (58, 0, 0) k) h.2.2 hk
theorem z_62 {k : Nat} (hk : k < 16) : xI3.1 (62, 0, 0) k = -9 := by
  have h := zl3'
  unfold zc3 at h
  simp only [Bool.and_eq_true] at h
  exact zall (f := fun k => xI3.1 (62, 0, 0) k) h.1 hk
theorem z_63 {k : Nat} (hk : k < 16) : xI3.1 (63, 0, 0) k = -9 := by
  have h := zl3'
  unfold zc3 at h
  simp only [Bool.and_eq_true] at h
  exact zall (f := fun k => xI3.1 (63, 0, 0) k) h.2.1 hk
theorem z_71 {k : Nat} (hk : k < 26) : xI3.1 (71, 0, 0) k = -9 := by
  have h := zl3'
  unfold zc3 at h
  simp only [Bool.and_eq_true] at h
  exact zall (f := fun k => xI3.1 (71, 0, 0) k) h.2.2.1 hk
theorem z_80 {k : Nat} (hk : k < 4) : xI3.1 (80, 0, 0) k = -9 := by
  have h := zl3'
  unfold zc3 at h
  simp only [Bool.and_eq_true] at h
  exact zall (f := fun k => xI3.1 (80, 0, 0) k) h.2.2.2 hk
/-- all other cells of ints -/
theorem z_0 {κ b i k : Nat} (h1 : zk1 κ = false) (h9 : zk9 κ = false) : xI3.1 (κ, b, i) k = 0 := by
  have h := zG_3.1 (κ, b, i) k
  unfold zP at h
  dsimp only at h
  rw [h1, h9, Bool.false_and, Bool.false_and, Bool.or_false, Bool.or_false] at h
  exact of_decide_eq_true h
theorem z_l (a : xId) (k : Nat) : xI3.2.1 a k = 0 := zG_3.2 a k
