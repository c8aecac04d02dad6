/-! the heap as the walked system's memory -/
/-- where a cell stands: E.1 the first cell of the system, E.2 the script -/
def xad (E : Nat × Nat) (a : xId) : Nat := if a.1 = 99 then E.2 else E.1 + xnum a
def xcv (E : Nat × Nat) : xVal → Value
  | .inl v => .int v
  | .inr (.inl v) => .long v
  | .inr (.inr r) => va_rf (r.map (xad E))
def xfv (E : Nat × Nat) (M : xMem) (t : Nat) (a : xId) (k : Nat) : Value := match xft t k with
  | 1 => .long (M.2.1 a k)
  | 2 => va_rf ((M.2.2.1 a k).map (xad E))
  | _ => .int (M.1 a k)
def xav (E : Nat × Nat) (M : xMem) (t : Nat) (a : xId) (j : Nat) : Value := if t = 21 then .long (M.2.1 a j) else if t = 20 ∨ t = 22 then .int (M.1 a j) else va_rf ((M.2.2.1 a j).map (xad E))
def xcell (D : va_G) (ac : Nat → ClassId) (E : Nat × Nat) (M : xMem) (H : Heap) (a : xId) (q : Nat × Nat) : Prop :=
  if q.1 ≤ 8 then t_OB (E.1 + xnum a) (D.1 q.1) q.2 (D.2 q.1) H (xfv E M q.1 a) else H[E.1 + xnum a]? = some (arrV (ac q.1) q.2 (xav E M q.1 a))
def xRep (D : va_G) (ac : Nat → ClassId) (E : Nat × Nat) (M : xMem) (H : Heap) : Prop := H.size = E.1 + M.2.2.2.1 ∧ ∀ (a : xId) (q : Nat × Nat), xsh a = some q → xnum a < M.2.2.2.1 → xcell D ac E M H a q
abbrev xtys (ac : Nat → ClassId) : List (ClassId × FieldType) := [(ac 20, .int), (ac 21, .long), (ac 22, .boolean), (ac 23, .object RX2), (ac 24, .object RX5), (ac 25, .array .int)]
theorem xad_sh {E : Nat × Nat} {a : xId} {q : Nat × Nat} (h : xsh a = some q) : xad E a = E.1 + xnum a := by
  unfold xad
  rw [if_neg]
  intro h9
  unfold xsh at h
  rw [h9] at h
  rw [if_neg (fun z => absurd z.1 (Nat.not_lt_zero _))] at h
  cases h
theorem xnum_inj {a b : xId} {q r : Nat × Nat} (ha : xsh a = some q) (hb : xsh b = some r) (h : xnum a = xnum b) : a = b := by
  rw [← (xsh_lt ha).1, ← (xsh_lt hb).1, h]
/-- the same cell and the same contents: the same picture -/
theorem xcell_kept {D : va_G} {ac : Nat → ClassId} {E : Nat × Nat} {M M' : xMem} {H H' : Heap} {a : xId} {q : Nat × Nat} (h : xcell D ac E M H a q) (hH : H'[E.1 + xnum a]? = H[E.1 + xnum a]?)
    (h1 : M'.1 a = M.1 a) (h2 : M'.2.1 a = M.2.1 a) (h3 : M'.2.2.1 a = M.2.2.1 a) : xcell D ac E M' H' a q := by
  have e1 : xfv E M' q.1 a = xfv E M q.1 a := by funext k; unfold xfv; rw [h1, h2, h3]
  have e2 : xav E M' q.1 a = xav E M q.1 a := by funext k; unfold xav; rw [h1, h2, h3]
  unfold xcell at h ⊢
  rw [e1, e2]
  split at h
  next hq => rw [if_pos hq]; exact h.kept hH
  next hq => rw [if_neg hq, hH]; exact h
/-- one cell's contents are written -/
theorem xRep_set {D : va_G} {ac : Nat → ClassId} {E : Nat × Nat} {M M' : xMem} {H H' : Heap} {a : xId} {q : Nat × Nat} (h : xRep D ac E M H) (ha : xsh a = some q) (hc : xcell D ac E M' H' a q)
    (hz : H'.size = H.size) (hn : M'.2.2.2.1 = M.2.2.2.1) (hH : ∀ x : Nat, x ≠ E.1 + xnum a → H'[x]? = H[x]?) (hM : ∀ b, b ≠ a → M'.1 b = M.1 b ∧ M'.2.1 b = M.2.1 b ∧ M'.2.2.1 b = M.2.2.1 b) : xRep D ac E M' H' := by
  refine ⟨by rw [hz, hn]; exact h.1, fun b r hb hlt => ?_⟩
  rw [hn] at hlt
  by_cases hba : b = a
  · subst hba
    cases ha.symm.trans hb
    exact hc
  · obtain ⟨m1, m2, m3⟩ := hM b hba
    refine xcell_kept (h.2 b r hb hlt) (hH _ (fun e => hba (xnum_inj hb ha (by omega)))) m1 m2 m3
/-- a cell is made -/
theorem xRep_new {D : va_G} {ac : Nat → ClassId} {E : Nat × Nat} {M : xMem} {H H' : Heap} {q : Nat × Nat} {z : Nat} (h : xRep D ac E M H) (ha : xsh (xid M.2.2.2.1) = some q) (hl : M.2.2.2.1 < xT) (hc : xcell D ac E (xnw M (xid M.2.2.2.1) z) H' (xid M.2.2.2.1) q)
    (hz : H'.size = H.size + 1) (hH : ∀ x : Nat, x < H.size → H'[x]? = H[x]?) : xRep D ac E (xnw M (xid M.2.2.2.1) z) H' := by
  refine ⟨by rw [hz, h.1]; rfl, fun b r hb hlt => ?_⟩
  by_cases hba : b = xid M.2.2.2.1
  · subst hba
    cases ha.symm.trans hb
    exact hc
  · have hlt2 : xnum b < M.2.2.2.1 + 1 := hlt
    have hne : xnum b ≠ M.2.2.2.1 := fun e => hba (by rw [← (xsh_lt hb).1, e])
    refine xcell_kept (h.2 b r hb (by omega)) (hH _ (by rw [h.1]; omega)) ?_ ?_ ?_
    all_goals (show xrw _ _ _ b = _; unfold xrw; rw [if_neg hba])
theorem xis_spec {M : xMem} {a : xId} {t n : Nat} (h : xis M a t = some n) : xsh a = some (t, n) ∧ xnum a < M.2.2.2.1 := by
  unfold xis at h
  split at h
  next => cases h
  next q hq =>
    split at h
    next hc =>
      obtain ⟨h1, h2⟩ := hc
      cases h
      exact ⟨by rw [hq, ← h1], h2⟩
    next => cases h
theorem xob_spec {M : xMem} {r : Option xId} {t : Nat} {a : xId} (h : xob M r t = some a) : r = some a ∧ ∃ n, xsh a = some (t, n) ∧ xnum a < M.2.2.2.1 := by
  unfold xob at h
  split at h
  next => cases h
  next b =>
    split at h
    next => cases h
    next n hn => cases h; exact ⟨rfl, n, xis_spec hn⟩
theorem xar_spec {M : xMem} {r : Option xId} {t : Nat} {i : Int32} {a : xId} (h : xar M r t i = some a) : r = some a ∧ ∃ n, xsh a = some (t, n) ∧ xnum a < M.2.2.2.1 ∧ vp_in i n := by
  unfold xar at h
  split at h
  next => cases h
  next b =>
    split at h
    next => cases h
    next n hn =>
      split at h
      next hc => cases h; exact ⟨rfl, n, (xis_spec hn).1, (xis_spec hn).2, hc⟩
      next => cases h
/-! locals -/
def xLR (E : Nat × Nat) (la : Array Slot) (ls : List (Option xVal)) : Prop := la.size = ls.length ∧ lv_wf la ∧ ∀ (k : Nat) (v : xVal), ls[k]? = some (some v) → la[k]? = some (.val (xcv E v))
def xlvk (E : Nat × Nat) (ls : List (Option xVal)) (k : Nat) : Option (Nat × Value) := match ls[k]? with
  | some (some v) => some (k, xcv E v)
  | _ => none
def xlv (E : Nat × Nat) (ls : List (Option xVal)) : List (Nat × Value) := (List.range ls.length).filterMap (xlvk E ls)
theorem xlv_mem {E : Nat × Nat} {ls : List (Option xVal)} {k : Nat} {v : xVal} (h : ls[k]? = some (some v)) : (k, xcv E v) ∈ xlv E ls := by
  refine List.mem_filterMap.mpr ⟨k, List.mem_range.mpr (List.getElem?_eq_some_iff.mp h).1, ?_⟩
  unfold xlvk
  rw [h]
theorem xlv_of {E : Nat × Nat} {ls : List (Option xVal)} {q : Nat × Value} (h : q ∈ xlv E ls) : ∃ v, ls[q.1]? = some (some v) ∧ q.2 = xcv E v := by
  obtain ⟨k, -, hk⟩ := List.mem_filterMap.mp h
  unfold xlvk at hk
  split at hk
  next v hv => cases hk; exact ⟨v, hv, rfl⟩
  next => cases hk
theorem xLR.has {E : Nat × Nat} {la : Array Slot} {ls : List (Option xVal)} (h : xLR E la ls) : lv_has la ls.length (xlv E ls) := by
  refine ⟨h.1, h.2.1, fun q hq => ?_⟩
  obtain ⟨v, h1, h2⟩ := xlv_of hq
  rw [h2]
  exact h.2.2 q.1 v h1
theorem xcv_cat (E : Nat × Nat) (v : xVal) : (xcv E v).category = if xis2 v then 2 else 1 := by
  obtain v | v | v := v
  · rfl
  · rfl
  · cases v <;> rfl
theorem xLR.st1 {E : Nat × Nat} {la' : Array Slot} {ls ls' : List (Option xVal)} {i : Nat} {v : xVal} (h : xst1 ls i v = some ls') (h' : lv_has la' ls.length ((i, xcv E v) :: (xlv E ls).filter (fun q => !(q.1 == i) && !(q.1 + 1 == i && q.2.category == 2)))) : xLR E la' ls' := by
  unfold xst1 at h
  split at h
  next hc =>
    obtain ⟨hi, hno⟩ := hc
    cases h
    obtain ⟨h1, h2, h3⟩ := h'
    refine ⟨by rw [List.length_set]; exact h1, h2, fun k w hk => ?_⟩
    by_cases hki : k = i
    · subst hki
      rw [List.getElem?_set_self hi] at hk
      cases hk
      exact h3 _ List.mem_cons_self
    · rw [List.getElem?_set_ne (Ne.symm hki)] at hk
      refine h3 (k, xcv E w) (List.mem_cons_of_mem _ (List.mem_filter.mpr ⟨xlv_mem hk, ?_⟩))
      simp only [Bool.and_eq_true, Bool.not_eq_true', beq_eq_false_iff_ne, Bool.and_eq_false_iff]
      refine ⟨hki, ?_⟩
      by_cases hk1 : k + 1 = i
      · right
        subst hk1
        unfold xnoL at hno
        simp only [hk] at hno
        rw [xcv_cat]
        simp at hno
        simp [hno]
      · exact Or.inl hk1
  next => cases h
theorem xLR.st2 {E : Nat × Nat} {la' : Array Slot} {ls ls' : List (Option xVal)} {i : Nat} {v : xVal} (h : xst2 ls i v = some ls') (h' : lv_has la' ls.length ((i, xcv E v) :: (xlv E ls).filter (fun q => !(q.1 == i) && (!(q.1 == i + 1) && !(q.1 + 1 == i && q.2.category == 2))))) : xLR E la' ls' := by
  unfold xst2 at h
  split at h
  next hc =>
    obtain ⟨hi, hno⟩ := hc
    cases h
    obtain ⟨h1, h2, h3⟩ := h'
    refine ⟨by rw [List.length_set, List.length_set]; exact h1, h2, fun k w hk => ?_⟩
    by_cases hk2 : k = i + 1
    · subst hk2
      rw [List.getElem?_set_self (by rw [List.length_set]; exact hi)] at hk
      cases hk
    rw [List.getElem?_set_ne (Ne.symm hk2)] at hk
    by_cases hki : k = i
    · subst hki
      rw [List.getElem?_set_self (by omega)] at hk
      cases hk
      exact h3 _ List.mem_cons_self
    · rw [List.getElem?_set_ne (Ne.symm hki)] at hk
      refine h3 (k, xcv E w) (List.mem_cons_of_mem _ (List.mem_filter.mpr ⟨xlv_mem hk, ?_⟩))
      simp only [Bool.and_eq_true, Bool.not_eq_true', beq_eq_false_iff_ne, Bool.and_eq_false_iff]
      refine ⟨hki, hk2, ?_⟩
      by_cases hk1 : k + 1 = i
      · right
        subst hk1
        unfold xnoL at hno
        simp only [hk] at hno
        rw [xcv_cat]
        simp at hno
        simp [hno]
      · exact Or.inl hk1
  next => cases h
theorem xLR.at {E : Nat × Nat} {la : Array Slot} {ls : List (Option xVal)} {k : Nat} {v : xVal} (h : xLR E la ls) (hk : xld ls k = some v) : la[k]? = some (.val (xcv E v)) := by
  refine h.2.2 k v ?_
  unfold xld at hk
  split at hk
  next o ho => rw [ho, hk]
  next => cases hk
