/-! the constructors, run by the run that looks; the cells that they wrote -/
theorem zr1 : (zexec 3000 12 none 0 0 [some (.inr (.inr (some (0, 0, 0))))] [] xI0).isSome = true := by decide +kernel
theorem zr3 : (zexec 3000 12 none 154 0 [some (.inr (.inr (some (44, 0, 0)))), none] [] xI2).isSome = true := by decide +kernel
theorem zG_00 : zG xM00 := ⟨fun a _ => zP_0 a, fun _ _ => rfl⟩
theorem zG_1 : zG xI1 := by
  obtain ⟨q, hq⟩ := Option.isSome_iff_exists.mp zr1
  obtain ⟨r, M'⟩ := q
  have h := zexec_ok _ _ _ _ _ _ _ _ _ _ hq
  have h1 : xrI1 = some (r, M') := h.1
  rw [xrI1_eq.1] at h1
  have h2 := congrArg Prod.snd (Option.some.inj h1)
  have h2 : xI1 = M' := h2
  rw [h2]
  exact h.2 (zG_nw zG_00 _ _)
theorem zG_3 : zG xI3 := by
  obtain ⟨q, hq⟩ := Option.isSome_iff_exists.mp zr3
  obtain ⟨r, M'⟩ := q
  have h := zexec_ok _ _ _ _ _ _ _ _ _ _ hq
  have h1 : xrI3 = some (r, M') := h.1
  rw [xrI3_eq.1] at h1
  have h2 := congrArg Prod.snd (Option.some.inj h1)
  have h2 : xI3 = M' := h2
  rw [h2]
  exact h.2 (zG_nw zG_1 _ _)
/-- the cells that were written -/
def zc1 (M : xMem) : Bool := (List.range 3).all fun b => (List.range 32).all fun k => decide (M.1 (3, b, 0) k = -1)
def zc2 (M : xMem) : Bool := ((List.range 26).all fun k => decide (M.1 (38, 0, 0) k = -1)) && (((List.range 4).all fun k => decide (M.1 (43, 0, 0) k = -1)) && ((List.range 32).all fun k => decide (M.1 (58, 0, 0) k = -9)))
def zc3 (M : xMem) : Bool := ((List.range 16).all fun k => decide (M.1 (62, 0, 0) k = -9)) && (((List.range 16).all fun k => decide (M.1 (63, 0, 0) k = -9)) && (((List.range 26).all fun k => decide (M.1 (71, 0, 0) k = -9)) && ((List.range 4).all fun k => decide (M.1 (80, 0, 0) k = -9))))
theorem zl1 : (match xrI3 with | some (none, M) => zc1 M | _ => false) = true := by decide +kernel
theorem zl2 : (match xrI3 with | some (none, M) => zc2 M | _ => false) = true := by decide +kernel
theorem zl3 : (match xrI3 with | some (none, M) => zc3 M | _ => false) = true := by decide +kernel
theorem zl1' : zc1 xI3 = true := by have h := zl1; rw [xrI3_eq.1] at h; exact h
theorem zl2' : zc2 xI3 = true := by have h := zl2; rw [xrI3_eq.1] at h; exact h
theorem zl3' : zc3 xI3 = true := by have h := zl3; rw [xrI3_eq.1] at h; exact h
theorem zall {f : Nat → Int32} {n : Nat} {v : Int32} (h : ((List.range n).all fun k => decide (f k = v)) = true) {k : Nat} (hk : k < n) : f k = v := of_decide_eq_true (List.all_eq_true.mp h k (List.mem_range.mpr hk))
theorem z_3 {b k : Nat} (hb : b < 3) (hk : k < 32) : xI3.1 (3, b, 0) k = -1 := by
  have h := zl1'
  unfold zc1 at h
  exact zall (f := fun k => xI3.1 (3, b, 0) k) (List.all_eq_true.mp h b (List.mem_range.mpr hb)) hk
theorem z_38 {k : Nat} (hk : k < 26) : xI3.1 (38, 0, 0) k = -1 := by
  have h := zl2'
  unfold zc2 at h
  simp only [Bool.and_eq_true] at h
  exact zall (f := fun k => xI3.1 (38, 0, 0) k) h.1 hk
theorem z_43 {k : Nat} (hk : k < 4) : xI3.1 (43, 0, 0) k = -1 := by
  have h := zl2'
  unfold zc2 at h
  simp only [Bool.and_eq_true] at h
  exact zall (f := fun k => xI3.1 (43, 0, 0) k) h.2.1 hk
theorem z_58 {k : Nat} (hk : k < 32) : xI3.1 (58, 0, 0) k = -9 := by
  have h := zl2'
  unfold zc2 at h
  simp only [Bool.and_eq_true] at h
  exact zall (f := fun k => xI3.1 (58, 0, 0) k) h.2.2 hk
theorem z_62 {k : Nat} (hk : k < 16) : xI3.1 (62, 0, 0) k = -9 := by
  have h := zl3'
  unfold zc3 at h
  simp only [Bool.and_eq_true] at h
  exact zall (f := fun k => xI3.1 (62, 0, 0) k) h.1 hk
theorem z_63 {k : Nat} (hk : k < 16) : xI3.1 (63, 0, 0) k = -9 := by
  have h := zl3'
  unfold zc3 at h
  simp only [Bool.and_eq_true] at h
  exact zall (f := fun k => xI3.1 (63, 0, 0) k) h.2.1 hk
theorem z_71 {k : Nat} (hk : k < 26) : xI3.1 (71, 0, 0) k = -9 := by
  have h := zl3'
  unfold zc3 at h
  simp only [Bool.and_eq_true] at h
  exact zall (f := fun k => xI3.1 (71, 0, 0) k) h.2.2.1 hk
theorem z_80 {k : Nat} (hk : k < 4) : xI3.1 (80, 0, 0) k = -9 := by
  have h := zl3'
  unfold zc3 at h
  simp only [Bool.and_eq_true] at h
  exact zall (f := fun k => xI3.1 (80, 0, 0) k) h.2.2.2 hk
/-- all other cells of ints -/
theorem z_0 {κ b i k : Nat} (h1 : zk1 κ = false) (h9 : zk9 κ = false) : xI3.1 (κ, b, i) k = 0 := by
  have h := zG_3.1 (κ, b, i) k
  unfold zP at h
  dsimp only at h
  rw [h1, h9, Bool.false_and, Bool.false_and, Bool.or_false, Bool.or_false] at h
  exact of_decide_eq_true h
theorem z_l (a : xId) (k : Nat) : xI3.2.1 a k = 0 := zG_3.2 a k
