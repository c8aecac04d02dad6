/-! the ints and longs of the first state: the constructors run once more, by a run that looks at what it writes -/
def zk1 (κ : Nat) : Bool := κ == 3 || κ == 38 || κ == 43
def zk9 (κ : Nat) : Bool := κ == 58 || κ == 62 || κ == 63 || κ == 71 || κ == 80
/-- what may be written: 0, and one number in some kinds -/
def zP (a : xId) (v : Int32) : Bool := decide (v = 0) || ((zk1 a.1 && decide (v = -1)) || (zk9 a.1 && decide (v = -9)))
def zOk (en : xE) (st : List xVal) : Bool := match en.1 with
  | .putfield _ => (match st with
    | .inl x :: .inr (.inr (some a)) :: _ => zP a x
    | .inl _ :: _ => false
    | .inr (.inl x) :: _ => decide (x = 0)
    | _ => true)
  | .iastore => (match st with
    | .inl x :: .inl _ :: .inr (.inr (some a)) :: _ => zP a x
    | _ => false)
  | .bastore => false
  | .lastore => false
  | _ => true
/-- every int of the memory is one that may be written, every long is 0 -/
def zG (M : xMem) : Prop := (∀ a k, zP a (M.1 a k) = true) ∧ ∀ a k, M.2.1 a k = 0
theorem zP_0 (a : xId) : zP a 0 = true := by unfold zP; rw [decide_eq_true rfl, Bool.true_or]
theorem zG_nw {M : xMem} (g : zG M) (a : xId) (n : Nat) : zG (xnw M a n) := by
  refine ⟨fun b k => ?_, fun b k => ?_⟩
  · show zP b (xrw M.1 a (fun _ => 0) b k) = true
    unfold xrw
    split
    next => exact zP_0 b
    next => exact g.1 b k
  · show xrw M.2.1 a (fun _ => 0) b k = 0
    unfold xrw
    split
    next => rfl
    next => exact g.2 b k
theorem zrw {f : xId → Nat → Int32} {a : xId} (h : ∀ b k, zP b (f b k) = true) : ∀ b k, zP b (xrw f a (fun _ => 0) b k) = true := by
  intro b k
  unfold xrw
  split
  next => exact zP_0 b
  next => exact h b k
theorem zG_mu {M : xMem} (g : zG M) : zG (xmu M) := ⟨zrw (zrw (zrw (zrw (zrw g.1)))), g.2⟩
theorem zG_si {M : xMem} {a : xId} {k : Nat} {v : Int32} (hv : zP a v = true) (g : zG M) : zG (xsi M a k v) := by
  refine ⟨fun b j => ?_, g.2⟩
  show zP b (xup M.1 a k v b j) = true
  unfold xup
  split
  next e =>
    subst e
    unfold va_up
    split
    next => exact hv
    next => exact g.1 b j
  next => exact g.1 b j
theorem zG_sl {M : xMem} {a : xId} {k : Nat} {v : Int64} (hv : v = 0) (g : zG M) : zG (xsl M a k v) := by
  refine ⟨g.1, fun b j => ?_⟩
  show xup M.2.1 a k v b j = 0
  unfold xup
  split
  next e =>
    subst e
    unfold va_up
    split
    next => exact hv
    next => exact g.2 b j
  next => exact g.2 b j
theorem xob_some {M : xMem} {r : Option xId} {t : Nat} {a : xId} (h : xob M r t = some a) : r = some a := by
  unfold xob at h
  split at h
  next => cases h
  next =>
    split at h
    next => cases h
    next => exact h
theorem xar_some {M : xMem} {r : Option xId} {t : Nat} {i : Int32} {a : xId} (h : xar M r t i = some a) : r = some a := by
  unfold xar at h
  split at h
  next => cases h
  next =>
    split at h
    next => cases h
    next =>
      split at h
      next => exact h
      next => cases h
theorem zG_put {top : Option (Nat × (Nat → Int32))} {idx : Nat} {e : Nat × Nat × Nat × Nat} {pc : Nat} {ls : List (Option xVal)} {st : List xVal} {M : xMem} {q : xSt} (h : xstep top (.putfield idx, e) pc ls st M = some q) (hz : zOk (.putfield idx, e) st = true) (g : zG M) : zG q.2.2.2 := by
  unfold xstep at h
  rcases st with _ | ⟨v, _ | ⟨w | w | r, rest⟩⟩
  · first | (cases h; done) | (dsimp only at h; cases h; done)
  · first | (cases h; done) | (dsimp only at h; cases h; done)
  · first | (cases h; done) | (dsimp only at h; cases h; done)
  · first | (cases h; done) | (dsimp only at h; cases h; done)
  · dsimp only at h
    obtain ⟨M', h1, h2⟩ := Option.bind_eq_some_iff.mp h
    cases h2
    show zG M'
    unfold xpf at h1
    split at h1
    next => cases h1
    next a ha =>
      have hr := xob_some ha
      subst hr
      rcases v with x | x | x
      · have hz : zP a x = true := hz
        split at h1 <;> first
          | (cases h1; done)
          | (rename_i e2; cases e2; done)
          | (rename_i e2; cases e2; cases h1; exact zG_si hz g)
          | (rename_i e2; cases e2; split at h1 <;> first | (cases h1; done) | (cases h1; exact zG_si hz g))
      · have hz : x = 0 := of_decide_eq_true hz
        split at h1 <;> first
          | (cases h1; done)
          | (rename_i e2; cases e2; done)
          | (rename_i e2; cases e2; cases h1; exact zG_sl hz g)
      · split at h1 <;> first
          | (cases h1; done)
          | (rename_i e2; cases e2; done)
          | (rename_i e2; cases e2; cases h1; exact ⟨g.1, g.2⟩)
theorem zG_ias {top : Option (Nat × (Nat → Int32))} {e : Nat × Nat × Nat × Nat} {pc : Nat} {ls : List (Option xVal)} {st : List xVal} {M : xMem} {q : xSt} (h : xstep top (.iastore, e) pc ls st M = some q) (hz : zOk (.iastore, e) st = true) (g : zG M) : zG q.2.2.2 := by
  unfold xstep at h
  rcases st with _ | ⟨x | x | x, _ | ⟨i | i | i, _ | ⟨w | w | r, rest⟩⟩⟩ <;> first
    | (cases h; done)
    | (dsimp only at h; cases h; done)
    | (dsimp only at h
       obtain ⟨a, h1, h2⟩ := Option.bind_eq_some_iff.mp h
       have hr := xar_some h1
       subst hr
       cases h2
       have hz : zP a x = true := hz
       exact zG_si hz g)
/-- what a step does to the memory -/
def zW (en : xE) (M M' : xMem) : Prop := (M'.1 = M.1 ∧ M'.2.1 = M.2.1) ∨ (∃ a n, M' = xnw M a n) ∨ M' = xmu M ∨ (∃ idx, en.1 = .putfield idx) ∨ en.1 = .iastore ∨ en.1 = .bastore ∨ en.1 = .lastore
set_option maxHeartbeats 4000000 in
theorem xstep_w {top : Option (Nat × (Nat → Int32))} {en : xE} {pc : Nat} {ls : List (Option xVal)} {st : List xVal} {M : xMem} {q : xSt} (h : xstep top en pc ls st M = some q) : zW en M q.2.2.2 := by
  unfold xstep at h
  repeat' split at h
  all_goals first
    | (cases h; done)
    | exact Or.inr (Or.inr (Or.inr (Or.inl ⟨_, by assumption⟩)))
    | (refine Or.inr (Or.inr (Or.inr (Or.inr (Or.inl ?_)))); assumption)
    | (refine Or.inr (Or.inr (Or.inr (Or.inr (Or.inr (Or.inl ?_))))); assumption)
    | (refine Or.inr (Or.inr (Or.inr (Or.inr (Or.inr (Or.inr ?_))))); assumption)
    | (cases h; exact Or.inl ⟨rfl, rfl⟩)
    | (cases h; exact Or.inr (Or.inl ⟨_, _, rfl⟩))
    | (cases h; exact Or.inr (Or.inr (Or.inl rfl)))
    | (obtain ⟨x, h1, h2⟩ := Option.bind_eq_some_iff.mp h; cases h2; exact Or.inl ⟨rfl, rfl⟩)
    | (obtain ⟨x, h1, h2⟩ := Option.bind_eq_some_iff.mp h; obtain ⟨y, h3, h4⟩ := Option.bind_eq_some_iff.mp h2; cases h4; exact Or.inl ⟨rfl, rfl⟩)
theorem zG_step {top : Option (Nat × (Nat → Int32))} {en : xE} {pc : Nat} {ls : List (Option xVal)} {st : List xVal} {M : xMem} {q : xSt} (h : xstep top en pc ls st M = some q) (hz : zOk en st = true) (g : zG M) : zG q.2.2.2 := by
  have hw := xstep_w h
  obtain ⟨ins, e⟩ := en
  rcases hw with ⟨h1, h2⟩ | ⟨a, n, h1⟩ | h1 | ⟨idx, h1⟩ | h1 | h1 | h1
  · exact ⟨fun b k => by rw [h1]; exact g.1 b k, fun b k => by rw [h2]; exact g.2 b k⟩
  · rw [h1]; exact zG_nw g a n
  · rw [h1]; exact zG_mu g
  · have h1 : ins = .putfield idx := h1
    subst h1
    exact zG_put h hz g
  · have h1 : ins = .iastore := h1
    subst h1
    exact zG_ias h hz g
  · have h1 : ins = .bastore := h1
    subst h1
    cases hz
  · have h1 : ins = .lastore := h1
    subst h1
    cases hz
/-- the run that looks -/
def zexec : Nat → Nat → Option (Nat × (Nat → Int32)) → Nat → Nat → List (Option xVal) → List xVal → xMem → Option (Option xVal × xMem)
  | 0, _, _, _, _, _, _, _ => none
  | n + 1, d, top, i, pc, ls, st, M => match xfind i pc with
    | none => none
    | some en => match en.1 with
      | .return_ => (xret i en.1 st).bind fun r => some (r, M)
      | .ireturn => (xret i en.1 st).bind fun r => some (r, M)
      | .lreturn => (xret i en.1 st).bind fun r => some (r, M)
      | .areturn => (xret i en.1 st).bind fun r => some (r, M)
      | .invokestatic _ => if en.2.2.1 = 9998 then none else if en.2.2.1 = 9996 then none else if en.2.2.1 = 9997 then none
        else xcall (fun d' j vs M' => zexec n d' none j 0 (xinit (xL j) vs) [] M') (fun st' M' => zexec n d top i (pc + 3) ls st' M') d en st M
      | .invokevirtual _ => xcall (fun d' j vs M' => zexec n d' none j 0 (xinit (xL j) vs) [] M') (fun st' M' => zexec n d top i (pc + 3) ls st' M') d en st M
      | .invokespecial _ => if en.2.2.1 = 9999 then (match st with
          | .inr (.inr (some a)) :: r => if (r.map xcat).sum ≤ 8 ∧ 1 ≤ d then zexec n d top i (pc + 3) ls r M else none
          | _ => none)
        else xcall (fun d' j vs M' => zexec n d' none j 0 (xinit (xL j) vs) [] M') (fun st' M' => zexec n d top i (pc + 3) ls st' M') d en st M
      | _ => if zOk en st = true then (xstep top en pc ls st M).bind fun q => zexec n d top i q.1 q.2.1 q.2.2.1 q.2.2.2 else none
theorem zcall_ok {run runz : Nat → Nat → List xVal → xMem → Option (Option xVal × xMem)} {go goz : List xVal → xMem → Option (Option xVal × xMem)} {d : Nat} {en : xE} {st : List xVal} {M : xMem} {r : Option xVal} {M' : xMem} (h : xcall runz goz d en st M = some (r, M'))
    (h1 : ∀ d j vs r M', runz d j vs M = some (r, M') → run d j vs M = some (r, M') ∧ (zG M → zG M')) (h2 : ∀ st M1 r M', goz st M1 = some (r, M') → go st M1 = some (r, M') ∧ (zG M1 → zG M')) : xcall run go d en st M = some (r, M') ∧ (zG M → zG M') := by
  unfold xcall at h ⊢
  obtain ⟨q, hq, h⟩ := Option.bind_eq_some_iff.mp h
  rw [hq, Option.bind_some]
  cases d with
  | zero => first | (cases h; done) | (dsimp only at h; cases h; done)
  | succ d =>
    dsimp only at h ⊢
    split at h
    next hl =>
      obtain ⟨z, h3, h4⟩ := Option.bind_eq_some_iff.mp h
      have a1 := h1 _ _ _ _ _ h3
      have a2 := h2 _ _ _ _ h4
      rw [if_pos hl, a1.1, Option.bind_some]
      exact ⟨a2.1, fun g => a2.2 (a1.2 g)⟩
    next => cases h
set_option maxHeartbeats 4000000 in
theorem zexec_ok : ∀ (n d : Nat) (top : Option (Nat × (Nat → Int32))) (i pc : Nat) (ls : List (Option xVal)) (st : List xVal) (M : xMem) (r : Option xVal) (M' : xMem), zexec n d top i pc ls st M = some (r, M') → xexec n d top i pc ls st M = some (r, M') ∧ (zG M → zG M') := by
  intro n
  induction n with
  | zero => intro d top i pc ls st M r M' h; cases h
  | succ n ih =>
    intro d top i pc ls st M r M' h
    unfold zexec at h
    unfold xexec
    split at h
    next => cases h
    next en hen =>
      rw [hen]
      dsimp only
      have hret : ∀ {o : Option (Option xVal)}, (o.bind fun r => some (r, M)) = some (r, M') → (o.bind fun r => some (r, M)) = some (r, M') ∧ (zG M → zG M') := by
        intro o ho
        obtain ⟨x, -, h2⟩ := Option.bind_eq_some_iff.mp ho
        refine ⟨ho, fun g => ?_⟩
        cases h2
        exact g
      have hcall : xcall (fun d' j vs M' => zexec n d' none j 0 (xinit (xL j) vs) [] M') (fun st' M' => zexec n d top i (pc + 3) ls st' M') d en st M = some (r, M') → xcall (fun d' j vs M' => xexec n d' none j 0 (xinit (xL j) vs) [] M') (fun st' M' => xexec n d top i (pc + 3) ls st' M') d en st M = some (r, M') ∧ (zG M → zG M') := fun h => zcall_ok h (fun _ _ _ _ _ h => ih _ _ _ _ _ _ _ _ _ h) (fun _ _ _ _ h => ih _ _ _ _ _ _ _ _ _ h)
      split at h
      next he => (try rw [he] at h); rw [he]; exact hret h
      next he => (try rw [he] at h); rw [he]; exact hret h
      next he => (try rw [he] at h); rw [he]; exact hret h
      next he => (try rw [he] at h); rw [he]; exact hret h
      next he =>
        rw [he]
        dsimp only
        split at h
        next => cases h
        next h8 =>
          split at h
          next => cases h
          next h6 =>
            split at h
            next => cases h
            next h7 => rw [if_neg h8, if_neg h6, if_neg h7]; exact hcall h
      next he => rw [he]; exact hcall h
      next he =>
        rw [he]
        dsimp only
        split at h
        next h9 =>
          rw [if_pos h9]
          split at h
          next =>
            split at h
            next hc => first
              | (dsimp only; rw [if_pos hc]; exact ih _ _ _ _ _ _ _ _ _ h)
              | (subst_vars; dsimp only; rw [if_pos hc]; exact ih _ _ _ _ _ _ _ _ _ h)
            next => cases h
          next => cases h
        next h9 => rw [if_neg h9]; exact hcall h
      next n1 n2 n3 n4 n5 n6 n7 =>
        split at h
        next hz =>
          obtain ⟨q, h1, h2⟩ := Option.bind_eq_some_iff.mp h
          have a1 := ih _ _ _ _ _ _ _ _ _ h2
          refine ⟨?_, fun g => a1.2 (zG_step h1 hz g)⟩
          split <;> first
            | (rw [h1, Option.bind_some]; exact a1.1)
            | (exfalso; apply n1; assumption)
            | (exfalso; apply n2; assumption)
            | (exfalso; apply n3; assumption)
            | (exfalso; apply n4; assumption)
            | (exfalso; apply n5; assumption)
            | (exfalso; apply n6; assumption)
            | (exfalso; apply n7; assumption)
        next => cases h
