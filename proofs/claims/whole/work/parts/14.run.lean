/-! the run of a method as a function -/
def xfind (i pc : Nat) : Option xE := (xcode i).lookup pc
def xret (i : Nat) (ins : Instr) (st : List xVal) : Option (Option xVal) := match ins with
  | .return_ => (match st with
    | [] => (match xR i with
      | none => some none
      | _ => none)
    | _ => none)
  | .ireturn => (match st with
    | [.inl v] => (match xR i with
      | some .int => some (some (.inl v))
      | some .boolean => if v = 0 ∨ v = 1 then some (some (.inl v)) else none
      | _ => none)
    | _ => none)
  | .lreturn => (match st with
    | [.inr (.inl v)] => (match xR i with
      | some .long => some (some (.inr (.inl v)))
      | _ => none)
    | _ => none)
  | .areturn => (match st with
    | [.inr (.inr v)] => (match xR i with
      | some (.object _) => some (some (.inr (.inr v)))
      | some (.array _) => some (some (.inr (.inr v)))
      | _ => none)
    | _ => none)
  | _ => none
def xinit0 (vs : List xVal) : List (Option xVal) := vs.flatMap fun v => if xis2 v then [some v, none] else [some v]
def xinit (n : Nat) (vs : List xVal) : List (Option xVal) := xinit0 vs ++ List.replicate (n - (xinit0 vs).length) none
/-- the class of a method's receiver, as a number of xcl -/
def xmc (i : Nat) : Nat := match xcl.findIdx? (fun q => q.1 == (xY i).cls) with
  | some k => k
  | none => 99
/-- a call: the arguments (with the receiver), what stays on the stack -/
def xprep (en : xE) (st : List xVal) (M : xMem) : Option (List xVal × List xVal) :=
  let n := en.2.2.2.1 % 100
  match en.1 with
  | .invokestatic _ => if n ≤ st.length ∧ ((st.drop n).map xcat).sum ≤ 8 then some ((st.take n).reverse, st.drop n) else none
  | .invokevirtual _ => if n + 1 ≤ st.length ∧ ((st.drop (n + 1)).map xcat).sum ≤ 8 then (match st[n]? with
    | some (.inr (.inr (some a))) => (match xsh a with
      | some q => if xcl[q.1]?.map (fun r => r.1) = some (xY en.2.2.1).cls ∧ xnum a < M.2.2.2.1 then some ((st.take (n + 1)).reverse, st.drop (n + 1)) else none
      | none => none)
    | _ => none) else none
  | .invokespecial _ => if n + 1 ≤ st.length ∧ ((st.drop (n + 1)).map xcat).sum ≤ 8 then (match st[n]? with
    | some (.inr (.inr (some a))) => if (xsh a).isSome = true then some ((st.take (n + 1)).reverse, st.drop (n + 1)) else none
    | _ => none) else none
  | _ => none
def xtl (r : Option xVal) (st : List xVal) : List xVal := match r with
  | none => st
  | some v => v :: st
def xcall (run : Nat → Nat → List xVal → xMem → Option (Option xVal × xMem)) (go : List xVal → xMem → Option (Option xVal × xMem)) (d : Nat) (en : xE) (st : List xVal) (M : xMem) : Option (Option xVal × xMem) :=
  (xprep en st M).bind fun q => match d with
    | 0 => none
    | d' + 1 => if (xinit (xL en.2.2.1) q.1).length = xL en.2.2.1 then (run d' en.2.2.1 q.1 M).bind fun r => go (xtl r.1 q.2) r.2 else none
def xexec : Nat → Nat → Option (Nat × (Nat → Int32)) → Nat → Nat → List (Option xVal) → List xVal → xMem → Option (Option xVal × xMem)
  | 0, _, _, _, _, _, _, _ => none
  | n + 1, d, top, i, pc, ls, st, M => match xfind i pc with
    | none => none
    | some en => match en.1 with
      | .return_ => (xret i en.1 st).bind fun r => some (r, M)
      | .ireturn => (xret i en.1 st).bind fun r => some (r, M)
      | .lreturn => (xret i en.1 st).bind fun r => some (r, M)
      | .areturn => (xret i en.1 st).bind fun r => some (r, M)
      | .invokestatic _ => if en.2.2.1 = 9998 then (match st with
          | .inl k :: .inl dp :: .inr (.inr (some q)) :: .inl sp :: .inr (.inr (some a)) :: r => if (r.map xcat).sum ≤ 8 ∧ 1 ≤ d then (xcopy M k dp sp q a).bind fun M' => xexec n d top i (pc + 3) ls r M' else none
          | _ => none)
        else if en.2.2.1 = 9996 then (match st with
          | .inl y :: .inl x :: r => if (r.map xcat).sum ≤ 8 ∧ 1 ≤ d then xexec n d top i (pc + 3) ls (.inl (if y < x then y else x) :: r) M else none
          | _ => none)
        else if en.2.2.1 = 9997 then (match st with
          | .inl y :: .inl x :: r => if (r.map xcat).sum ≤ 8 ∧ 1 ≤ d then xexec n d top i (pc + 3) ls (.inl (if x < y then y else x) :: r) M else none
          | _ => none)
        else xcall (fun d' j vs M' => xexec n d' none j 0 (xinit (xL j) vs) [] M') (fun st' M' => xexec n d top i (pc + 3) ls st' M') d en st M
      | .invokevirtual _ => xcall (fun d' j vs M' => xexec n d' none j 0 (xinit (xL j) vs) [] M') (fun st' M' => xexec n d top i (pc + 3) ls st' M') d en st M
      | .invokespecial _ => if en.2.2.1 = 9999 then (match st with
          | .inr (.inr (some a)) :: r => if (r.map xcat).sum ≤ 8 ∧ 1 ≤ d then xexec n d top i (pc + 3) ls r M else none
          | _ => none)
        else xcall (fun d' j vs M' => xexec n d' none j 0 (xinit (xL j) vs) [] M') (fun st' M' => xexec n d top i (pc + 3) ls st' M') d en st M
      | _ => (xstep top en pc ls st M).bind fun q => xexec n d top i q.1 q.2.1 q.2.2.1 q.2.2.2
set_option maxHeartbeats 4000000 in
theorem xstep_le {top : Option (Nat × (Nat → Int32))} {en : xE} {pc : Nat} {ls : List (Option xVal)} {st : List xVal} {M : xMem} {q : xSt} (h : xstep top en pc ls st M = some q) : M.2.2.2.1 ≤ q.2.2.2.2.2.2.1 ∧ M.2.2.2.2 ≤ q.2.2.2.2.2.2.2 := by
  unfold xstep at h
  repeat' split at h
  all_goals first
    | (cases h; done)
    | (cases h; exact ⟨Nat.le_refl _, Nat.le_refl _⟩)
    | (cases h; exact ⟨Nat.le_succ _, Nat.le_add_right _ _⟩)
    | (cases h; exact ⟨Nat.le_add_right _ 5, Nat.le_add_right _ 164⟩)
    | (obtain ⟨x, h1, h2⟩ := Option.bind_eq_some_iff.mp h; cases h2; exact ⟨Nat.le_refl _, Nat.le_refl _⟩)
    | (obtain ⟨x, h1, h2⟩ := Option.bind_eq_some_iff.mp h; cases h2; have e9 := xpf_n h1; exact ⟨by rw [e9]; exact Nat.le_refl _, by rw [e9]; exact Nat.le_refl _⟩)
    | (obtain ⟨x, h1, h2⟩ := Option.bind_eq_some_iff.mp h; obtain ⟨y, h3, h4⟩ := Option.bind_eq_some_iff.mp h2; cases h4; exact ⟨Nat.le_refl _, Nat.le_refl _⟩)
theorem xcopy_n {M M' : xMem} {k dp sp : Int32} {q a : xId} (h : xcopy M k dp sp q a = some M') : M'.2.2.2 = M.2.2.2 := by
  unfold xcopy at h
  repeat' split at h
  all_goals first
    | (cases h; done)
    | (cases h; rfl)
theorem xcall_le {run : Nat → Nat → List xVal → xMem → Option (Option xVal × xMem)} {go : List xVal → xMem → Option (Option xVal × xMem)} {d : Nat} {en : xE} {st : List xVal} {M : xMem} {r : Option xVal} {M' : xMem} (h : xcall run go d en st M = some (r, M'))
    (h1 : ∀ d j vs r M', run d j vs M = some (r, M') → M.2.2.2.1 ≤ M'.2.2.2.1 ∧ M.2.2.2.2 ≤ M'.2.2.2.2) (h2 : ∀ st M1 r M', go st M1 = some (r, M') → M1.2.2.2.1 ≤ M'.2.2.2.1 ∧ M1.2.2.2.2 ≤ M'.2.2.2.2) : M.2.2.2.1 ≤ M'.2.2.2.1 ∧ M.2.2.2.2 ≤ M'.2.2.2.2 := by
  unfold xcall at h
  obtain ⟨q, -, h⟩ := Option.bind_eq_some_iff.mp h
  split at h
  next => cases h
  next =>
    split at h
    next =>
      obtain ⟨z, h3, h4⟩ := Option.bind_eq_some_iff.mp h
      have a1 := h1 _ _ _ _ _ h3
      have a2 := h2 _ _ _ _ h4
      exact ⟨Nat.le_trans a1.1 a2.1, Nat.le_trans a1.2 a2.2⟩
    next => cases h
theorem xexec_le : ∀ (n d : Nat) (top : Option (Nat × (Nat → Int32))) (i pc : Nat) (ls : List (Option xVal)) (st : List xVal) (M : xMem) (r : Option xVal) (M' : xMem), xexec n d top i pc ls st M = some (r, M') → M.2.2.2.1 ≤ M'.2.2.2.1 ∧ M.2.2.2.2 ≤ M'.2.2.2.2 := by
  intro n
  induction n with
  | zero => intro d top i pc ls st M r M' h; cases h
  | succ n ih =>
    intro d top i pc ls st M r M' h
    unfold xexec at h
    split at h
    next => cases h
    next en hen =>
      have hret : ∀ {o : Option (Option xVal)}, (o.bind fun r => some (r, M)) = some (r, M') → M.2.2.2.1 ≤ M'.2.2.2.1 ∧ M.2.2.2.2 ≤ M'.2.2.2.2 := by
        intro o ho
        obtain ⟨x, -, h2⟩ := Option.bind_eq_some_iff.mp ho
        cases h2
        exact ⟨Nat.le_refl _, Nat.le_refl _⟩
      have hcall : xcall (fun d' j vs M' => xexec n d' none j 0 (xinit (xL j) vs) [] M') (fun st' M' => xexec n d top i (pc + 3) ls st' M') d en st M = some (r, M') → M.2.2.2.1 ≤ M'.2.2.2.1 ∧ M.2.2.2.2 ≤ M'.2.2.2.2 := fun h => xcall_le h (fun _ _ _ _ _ h => ih _ _ _ _ _ _ _ _ _ h) (fun _ _ _ _ h => ih _ _ _ _ _ _ _ _ _ h)
      split at h
      next => exact hret h
      next => exact hret h
      next => exact hret h
      next => exact hret h
      next =>
        split at h
        next =>
          split at h
          next =>
            split at h
            next =>
              obtain ⟨x, h1, h2⟩ := Option.bind_eq_some_iff.mp h
              have a1 := ih _ _ _ _ _ _ _ _ _ h2
              rw [xcopy_n h1] at a1
              exact a1
            next => cases h
          next => cases h
        next =>
          split at h
          next =>
            split at h
            next =>
              split at h
              next => exact ih _ _ _ _ _ _ _ _ _ h
              next => cases h
            next => cases h
          next =>
            split at h
            next =>
              split at h
              next =>
                split at h
                next => exact ih _ _ _ _ _ _ _ _ _ h
                next => cases h
              next => cases h
            next => exact hcall h
      next => exact hcall h
      next =>
        split at h
        next =>
          split at h
          next =>
            split at h
            next => exact ih _ _ _ _ _ _ _ _ _ h
            next => cases h
          next => cases h
        next => exact hcall h
      next =>
        obtain ⟨q, h1, h2⟩ := Option.bind_eq_some_iff.mp h
        have a1 := xstep_le h1
        have a2 := ih _ _ _ _ _ _ _ _ _ h2
        exact ⟨Nat.le_trans a1.1 a2.1, Nat.le_trans a1.2 a2.2⟩
