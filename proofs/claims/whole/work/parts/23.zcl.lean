/-! the constructors, run by the run that looks; the cells that they wrote -/
theorem zr1 : (zexec 3000 12 none 0 0 [some (.inr (.inr (some (0, 0, 0))))] [] xI0).isSome = true := by decide +kernel
theorem zr3 : (zexec 3000 12 none 154 0 [some (.inr (.inr (some (44, 0, 0)))), none] [] xI2).isSome = true := by decide +kernel
/-- the cells that were written -/
def zc1 (M : xMem) : Bool := (List.range 3).all fun b => (List.range 32).all fun k => decide (M.1 (3, b, 0) k = -1)
def zc2 (M : xMem) : Bool := ((List.range 26).all fun k => decide (M.1 (38, 0, 0) k = -1)) && (((List.range 4).all fun k => decide (M.1 (43, 0, 0) k = -1)) && ((List.range 32).all fun k => decide (M.1 (58, 0, 0) k = -9)))
def zc3 (M : xMem) : Bool := ((List.range 16).all fun k => decide (M.1 (62, 0, 0) k = -9)) && (((List.range 16).all fun k => decide (M.1 (63, 0, 0) k = -9)) && (((List.range 26).all fun k => decide (M.1 (71, 0, 0) k = -9)) && ((List.range 4).all fun k => decide (M.1 (80, 0, 0) k = -9))))
theorem zl1 : (match xrI3 with | some (none, M) => zc1 M | _ => false) = true := by decide +kernel
theorem zl2 : (match xrI3 with | some (none, M) => zc2 M | _ => false) = true := by decide +kernel
theorem zl3 : (match xrI3 with | some (none, M) => zc3 M | _ => false) = true := by decide +kernel
