/-! the first state: what its cells are -/
def zI : List (Nat × Nat × Nat) := [(1, 1, 8), (3, 1, 32), (4, 1, 32), (5, 1, 32), (6, 1, 32), (13, 1, 24), (14, 4, 13), (15, 4, 4), (16, 4, 4), (17, 4, 2), (18, 4, 24), (19, 4, 2), (20, 4, 24), (21, 24, 2), (22, 24, 8)]
def zM : List (Nat × Nat) := [(45, 4), (46, 4), (47, 4), (48, 4), (49, 4), (50, 4), (51, 4), (52, 4), (53, 4), (54, 4), (55, 4), (56, 4), (58, 32), (59, 32), (62, 16), (63, 16), (64, 24), (65, 24), (66, 192), (67, 96), (68, 4), (69, 96), (70, 4)]
def zvM (κ : Nat) : Int32 := if κ = 58 ∨ κ = 62 ∨ κ = 63 then -9 else 0
def zAll (n : Nat) (p : Nat → Bool) : Bool := (List.range n).all p
theorem zAll_v {n k : Nat} {p : Nat → Bool} (h : zAll n p = true) (hk : k < n) : p k = true := List.all_eq_true.mp h k (List.mem_range.mpr hk)
def zB (b : Nat) (M : xMem) : Bool := zI.all (fun r => zAll r.2.1 (fun i => zAll r.2.2 (fun k => M.1 (r.1, b, i) k == (if r.1 = 3 then m1 else 0)))) && zAll 32 (fun k => M.2.1 (7, b, 0) k == 0) && zAll 32 (fun k => M.2.1 (8, b, 0) k == 0) && zAll 4 (fun i => M.2.1 (14, b, i) 13 == 0)
def zX (M : xMem) : Bool := zM.all (fun r => zAll r.2 (fun k => M.1 (r.1, 0, 0) k == zvM r.1)) && zAll 55 (fun k => M.1 (44, 0, 0) k == 0) && zAll 4 (fun k => M.2.1 (57, 0, 0) k == 0)
def zR (M : xMem) : Bool := zAll 26 (fun k => M.1 (38, 0, 0) k == m1) && zAll 26 (fun k => M.1 (71, 0, 0) k == -9) && zAll 100 (fun k => M.1 (25, 0, 0) k == M.1 (75, 0, 0) k) && zAll 4 (fun k => M.1 (43, 0, 0) k == m1) && zAll 4 (fun k => M.1 (80, 0, 0) k == -9) && zAll 4 (fun i => zAll 40 (fun k => M.1 (42, 0, i) k == 0)) && zAll 160 (fun k => M.1 (79, 0, 0) k == 0) && zAll 15 (fun k => M.1 (0, 0, 0) k == 0)
def zW (κ lo n : Nat) (M : xMem) : Bool := zAll n (fun k => M.1 (κ, 0, 0) (lo + k) == 0)
def zOn (p : xMem → Bool) : Bool := match xrI3 with
  | some (none, M) => p M
  | _ => false
theorem zOn_v {p : xMem → Bool} (h : zOn p = true) : p xI3 = true := by
  unfold zOn at h
  unfold xI3
  cases hq : xrI3 with
  | none => rw [hq] at h; cases h
  | some q =>
    obtain ⟨r, M⟩ := q
    rw [hq] at h
    cases r with
    | none => exact h
    | some v => cases h
theorem zini_B0 : zOn (zB 0) = true := by decide +kernel
