/-! the objects are made: a closed run, worked out by the kernel -/
theorem xr_new {top : Option (Nat × (Nat → Int32))} {d i pc pc' : Nat} {ls : List (Option xVal)} {st : List xVal} {M : xMem} {res : Option xVal × xMem} {idx ci N pl n : Nat} (hf : xfind i pc = some (.new idx, 3, ci, N, pl)) (hn : M.2.2.2.1 = n) (hs : xsh (xid n) = some (ci, N)) (hl : n < xT) (hp : pc + 3 = pc')
    (kk : xrun top d i pc' ls (.inr (.inr (some (xid n))) :: st) (xnw M (xid n) N) res) : xrun top d i pc ls st M res := by
  subst hp
  subst hn
  exact xr_step hf (by unfold xstep; dsimp only; rw [if_pos ⟨hs, hl⟩]) kk
theorem xr_callI {top : Option (Nat × (Nat → Int32))} {d i pc pc' : Nat} {ls : List (Option xVal)} {M M1 : xMem} {res : Option xVal × xMem} {idx j pl m : Nat} {rest : List xVal} {d' : Nat} {a : xId} (hf : xfind i pc = some (.invokespecial idx, 3, j, 0, pl)) (hj : j ≠ 9999) (ha : (xsh a).isSome = true) (hm : xL j = m) (hcat : (rest.map xcat).sum ≤ 8) (hil : (xinit m [.inr (.inr (some a))]).length = m) (hd : d' + 1 ≤ d)
    (hc : xrun none d' j 0 (xinit m [.inr (.inr (some a))]) [] M (none, M1)) (hp : pc + 3 = pc') (kk : xrun top d i pc' ls rest M1 res) : xrun top d i pc ls (.inr (.inr (some a)) :: rest) M res := by
  subst hp
  subst hm
  obtain ⟨n1, hc⟩ := hc
  obtain ⟨n2, kk⟩ := kk
  refine ⟨n1 + n2 + 1, ?_⟩
  unfold xexec
  rw [hf]
  dsimp only
  rw [if_neg hj]
  refine xexec_call (vs := [.inr (.inr (some a))]) (rest := rest) (r1 := none) ?_ hil hd hc kk
  unfold xprep
  dsimp only
  rw [if_pos ⟨by rw [List.length_cons]; omega, hcat⟩]
  show (if (xsh a).isSome = true then some (([.inr (.inr (some a))] : List xVal), rest) else none) = _
  rw [if_pos ha]
def xM00 : xMem := (fun _ _ => 0, fun _ _ => 0, fun _ _ => none, 0, 0)
def xI0 : xMem := xnw xM00 (0, 0, 0) 15
def xrI1 : Option (Option xVal × xMem) := xexec 3000 12 none 0 0 [some (.inr (.inr (some (0, 0, 0))))] [] xI0
def xI1 : xMem := match xrI1 with
  | some q => q.2
  | none => xI0
def xI2 : xMem := xnw xI1 (44, 0, 0) 55
def xrI3 : Option (Option xVal × xMem) := xexec 3000 12 none 154 0 [some (.inr (.inr (some (44, 0, 0)))), none] [] xI2
def xI3 : xMem := match xrI3 with
  | some q => q.2
  | none => xI2
theorem xrI1_ok : (match xrI1 with | some (none, M) => M.2.2.2.1 == 302 | _ => false) = true := by decide +kernel
theorem xrI1_eq : xrI1 = some (none, xI1) ∧ xI1.2.2.2.1 = 302 := by
  have h := xrI1_ok
  unfold xI1
  cases hq : xrI1 with
  | none => rw [hq] at h; cases h
  | some q =>
    obtain ⟨r, M⟩ := q
    rw [hq] at h
    cases r with
    | none => exact ⟨rfl, of_decide_eq_true h⟩
    | some v => cases h
/-- the references of a memory are those of xRF -/
def xchkR (M : xMem) : Bool := (List.range 340).all fun c => match xsh (xid c) with
  | some q => if q.1 ≤ 8 ∨ 23 ≤ q.1 then (List.range q.2).all (fun k => xmut (xid c) k || decide (M.2.2.1 (xid c) k = xRF (xid c) k)) else true
  | none => true
def xchkI (M : xMem) : Bool := decide (M.2.2.2.1 = 340) && decide (M.2.2.2.2 ≤ 7302250) && xchkR M && decide (M.2.2.1 (0, 0, 0) 7 = some (26, 0, 0)) && decide (M.2.2.1 (0, 0, 0) 8 = some (26, 0, 1))
theorem xrI3_ok : (match xrI3 with | some (none, M) => xchkI M | _ => false) = true := by decide +kernel
theorem xrI3_eq : xrI3 = some (none, xI3) ∧ xchkI xI3 = true := by
  have h := xrI3_ok
  unfold xI3
  cases hq : xrI3 with
  | none => rw [hq] at h; cases h
  | some q =>
    obtain ⟨r, M⟩ := q
    rw [hq] at h
    cases r with
    | none => exact ⟨rfl, h⟩
    | some v => cases h
theorem xI3_W : XW xI3 := by
  have h := xrI3_eq.2
  unfold xchkI at h
  simp only [Bool.and_eq_true, decide_eq_true_eq] at h
  obtain ⟨⟨⟨⟨h1, h2⟩, h3⟩, h4⟩, h5⟩ := h
  refine ⟨h1, fun a q k hs hq hk hm => ?_⟩
  unfold xchkR at h3
  have h6 := List.all_eq_true.mp h3 (xnum a) (List.mem_range.mpr (xsh_lt hs).2)
  rw [(xsh_lt hs).1, hs] at h6
  dsimp only at h6
  rw [if_pos hq] at h6
  have h7 := List.all_eq_true.mp h6 k (List.mem_range.mpr hk)
  rw [hm] at h7
  simpa using h7
/-- the law comes to its loop with what was made -/
theorem xlaw_start {L : Nat} {xs : Nat → Int32} {res : Option xVal × xMem} (kk : xrun (some (L, xs)) 13 272 18 [some (.inr (.inr (some (99, 0, 0)))), some (.inr (.inr (some (0, 0, 0)))), some (.inr (.inr (some (44, 0, 0)))), some (.inl 0)] [] xI3 res) :
    xrun (some (L, xs)) 13 272 0 [some (.inr (.inr (some (99, 0, 0)))), none, none, none] [] xM00 res := by
  refine xr_new (n := 0) (pc' := 3) rfl rfl (by decide) (by decide) rfl ?_
  refine xr_dup_a (pc' := 4) rfl rfl ?_
  refine xr_callI (pc' := 7) (m := 1) (d' := 12) (M1 := xI1) (rest := [_]) rfl (by decide) (by decide) (by decide +kernel) (Nat.le_of_ble_eq_true rfl) rfl (by decide) ⟨3000, xrI1_eq.1⟩ rfl ?_
  refine xr_astore_n (pc' := 8) rfl rfl rfl ?_
  refine xr_new (n := 302) (pc' := 11) rfl xrI1_eq.2 (by decide) (by decide) rfl ?_
  refine xr_dup_a (pc' := 12) rfl rfl ?_
  refine xr_callI (pc' := 15) (m := 2) (d' := 12) (M1 := xI3) (rest := [_]) rfl (by decide) (by decide) (by decide +kernel) (Nat.le_of_ble_eq_true rfl) rfl (by decide) ⟨3000, xrI3_eq.1⟩ rfl ?_
  refine xr_astore_n (pc' := 16) rfl rfl rfl ?_
  refine xr_iconst (v := 0) (pc' := 17) rfl (by decide) rfl ?_
  refine xr_istore_n (pc' := 18) rfl rfl rfl ?_
  exact kk
