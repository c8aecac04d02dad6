/-! the run of a method is the machine's: for every method and depth at once -/
theorem xlookup_mem {pc : Nat} {en : xE} : ∀ L : List (Nat × xE), L.lookup pc = some en → (pc, en) ∈ L := by
  intro L
  induction L with
  | nil => intro h; cases h
  | cons q L ih =>
    obtain ⟨k, v⟩ := q
    intro h
    rw [List.lookup_cons] at h
    split at h
    next hk => cases h; have := beq_iff_eq.mp hk; subst this; exact List.mem_cons_self
    next => exact List.mem_cons_of_mem _ (ih h)
theorem xent {i pc : Nat} {en : xE} (hi : i < 273) (h : xfind i pc = some en) : decode (xB i) pc = .ok (en.1, en.2.1) ∧ (en.2.1 = xlen en.1 ∨ xlen en.1 = 0) ∧ xokL (xY i).cls (decide ((xY i).name = "<init>")) pc en = true := by
  have h1 := List.all_eq_true.mp (xe_all i hi) _ (xlookup_mem _ h)
  unfold xokE at h1
  simp only [Bool.and_eq_true, Bool.or_eq_true, decide_eq_true_eq] at h1
  exact ⟨h1.1.1, h1.1.2, h1.2⟩
theorem xmeth {j : Nat} (hj : j < 272) (h1 : plainName (xY j).cls = true) : Cond.code (xY j) (xB j) (xL j) (xR j) ∈ xALL ∧ Cond.initialized (xY j).cls ∈ xALL ∧ (if xSt? j = true then Cond.static (xY j) ∈ xALL else Cond.instanceMethod (xY j) ∈ xALL ∧ ((xY j).name = "<init>" ∨ Cond.selects (xY j).cls (xY j) (xY j) ∈ xALL)) ∧
    plainName (xY j).cls = true ∧ ((xY j).cls ≠ "java/lang/invoke/MethodHandle" ∧ (xY j).cls ≠ "java/lang/invoke/VarHandle") ∧ (parseMethodDescriptor (xY j).desc).map (fun d => d.parameters.length) = some (xAr j) ∧ xL j ≤ 18 := by
  have h2 := xm_all j hj h1
  unfold xokM at h2
  split at h2
  next => cases h2
  next q hq =>
    have e : xmt j = q := by unfold xmt; rw [List.getD_eq_getElem?_getD, hq]; rfl
    simp only [Bool.and_eq_true, decide_eq_true_eq] at h2
    obtain ⟨⟨⟨⟨⟨⟨a1, a2⟩, a3⟩, a4⟩, a5⟩, a6⟩, a7⟩ := h2
    unfold xY xB xL xR xSt? xAr
    rw [e]
    refine ⟨xhw_in a1, xhw_in a2, ?_, a4, a5, a6, a7⟩
    split at a3
    next hs => rw [if_pos hs]; exact xhw_in a3
    next hs =>
      rw [if_neg hs]
      simp only [Bool.and_eq_true, Bool.or_eq_true, decide_eq_true_eq] at a3
      exact ⟨xhw_in a3.1, a3.2.imp id xhw_in⟩
def xws (j : Nat) : List Cond := Cond.code (xY j) (xB j) (xL j) (xR j) :: xALL
theorem xgood {j : Nat} (hj : j < 272) (h1 : plainName (xY j).cls = true) : GoodIn xALL (xws j) := by
  intro w hw
  have hm : w ∈ xALL := (List.mem_cons.mp hw).elim (fun e => by rw [e]; exact (xmeth hj h1).1) id
  exact ⟨hm, good_of_word (List.mem_filter.mp hm).2⟩
/-- arrays of references can be made -/
def xAO (U : State) : Prop := va_AO RX2 U ∧ va_AO RX5 U ∧ (Cond.arrayOver (.array .int)).before #[] U = true
theorem xAOA_moved {u U : State} (hvm : u.vm.Alike U.vm) (h : (Cond.arrayOver (.array .int)).before #[] u = true) : (Cond.arrayOver (.array .int)).before #[] U = true := Jvm.Stand.arrayOver_alikeB hvm h
theorem xAO_moved {u U : State} (hvm : u.vm.Alike U.vm) (h : xAO u) : xAO U := ⟨h.1.moved hvm, h.2.1.moved hvm, xAOA_moved hvm h.2.2⟩
theorem xWd_of {args : Array Value} {s : State} (h : ∀ w ∈ xALL, w.before args s = true) (ho : xAO s) : xWd args s :=
  ⟨⟨va_AO.use ho.1, va_AO.use ho.2.1⟩, ho.2.2, h _ (xhw_in (p := 178) (by decide +kernel))⟩
theorem xcp_of {args : Array Value} {s : State} (h : ∀ w ∈ xALL, w.before args s = true) : (Cond.native arraycopyName).before args s = true ∧ (Cond.static arraycopyName).before args s = true ∧ (Cond.initialized "java/lang/System").before args s = true :=
  ⟨h _ (xhw_in (p := 721) (by decide +kernel)), h _ (xhw_in (p := 720) (by decide +kernel)), h _ (xhw_in (p := 125) (by decide +kernel))⟩
theorem xmm_of {args : Array Value} {s : State} (h : ∀ w ∈ xALL, w.before args s = true) : ((Cond.static Lib.Math.min.name).before args s = true ∧ (Cond.code Lib.Math.min.name Lib.Math.min.code 2 (some .int)).before args s = true) ∧ ((Cond.static Lib.Math.max.name).before args s = true ∧ (Cond.code Lib.Math.max.name Lib.Math.max.code 2 (some .int)).before args s = true) ∧ (Cond.initialized "java/lang/Math").before args s = true :=
  ⟨⟨h _ (xhw_in (p := 541) (by decide +kernel)), h _ (xhw_in (p := 542) (by decide +kernel))⟩, ⟨h _ (xhw_in (p := 717) (by decide +kernel)), h _ (xhw_in (p := 718) (by decide +kernel))⟩, h _ (xhw_in (p := 122) (by decide +kernel))⟩
theorem xob_of {args : Array Value} {s : State} (h : ∀ w ∈ xALL, w.before args s = true) : (Cond.instanceMethod objectInit).before args s = true ∧ (Cond.code objectInit ⟨#[0xb1]⟩ 1 none).before args s = true :=
  ⟨h _ (xhw_in (p := 132) (by decide +kernel)), h _ (xhw_in (p := 133) (by decide +kernel))⟩
/-- a method's start and end -/
def xPc (D : va_G) (ac : Nat → ClassId) (E : Nat × Nat) (vs : List xVal) (M : xMem) : Array Value → State → Prop := va_Pc (vs.map (xcv E)) (fun U => xRep D ac E M U.heap ∧ va_K D xcl (xtys ac) U ∧ xAO U ∧ ∀ w ∈ xNEST, va_Nw w U)
def xQc (D : va_G) (ac : Nat → ClassId) (E : Nat × Nat) (r : Option xVal) (M : xMem) : Array Value → State → Outcome → State → Prop := fun _ st o t => o = .returned (r.map (xcv E)) ∧ xRep D ac E M t.heap ∧ va_F (fun q : Nat => E.1 ≤ q) st t
def xSND (l : Launch) (n : Nat) : Prop := ∀ (d : Nat) (top : Option (Nat × (Nat → Int32))) (i pc : Nat) (ls : List (Option xVal)) (st : List xVal) (M : xMem) (r : Option xVal) (M' : xMem), xexec n d top i pc ls st M = some (r, M') → i < 273 →
  ∀ (p : Program) (e : Env) (R : Room) (s : State) (m : MethodId) (args : Array Value) (below : List Frame) (meth : Method) (c : Code) (Q : State → Prop) (D : va_G) (ac : Nat → ClassId) (E : Nat × Nat) (n0 z0 : Nat),
    xCtx p s m args meth c D ac E (xY i).cls (xB i) (xL i) (decide ((xY i).name = "<init>")) → xTop E s top → xAO s → ls.length = xL i → d ≤ R.frames → 37 * d ≤ R.locals → n0 ≤ M.2.2.2.1 → z0 ≤ M.2.2.2.2 → M'.2.2.2.1 - n0 ≤ R.cells → M'.2.2.2.2 - z0 ≤ R.slots →
    (∀ (pc : Nat) (ins : Instr) (st : List xVal) (H : Heap) (locs : List Loc) (la : Array Slot), decode (xB i) pc = .ok (ins, 1) → xret i ins st = some r → xRep D ac E M' H → va_S (fun q : Nat => E.1 ≤ q) s.heap H locs → W p l e R s m args below meth c H locs (M'.2.2.2.1 - n0) (M'.2.2.2.2 - z0) Q (F0 m pc la (st.map (xcv E)))) →
    xW p l e R s m args below meth c Q D ac E n0 z0 pc ls st M
theorem xNEST_moved {s U : State} (hW : s.WarmedH U.vm) (h : ∀ w ∈ xNEST, va_Nw w s) : ∀ w ∈ xNEST, va_Nw w U := by
  intro w hw
  have h1 := h w hw
  have h2 := (List.mem_filter.mp hw).2
  unfold xisN at h2
  split at h2
  next => exact va_Nw.warmM hW h1
  next => cases h2
theorem xNEST_same {s U : State} (hvm : s.vm = U.vm) (h : ∀ w ∈ xNEST, va_Nw w s) : ∀ w ∈ xNEST, va_Nw w U := by
  intro w hw
  have h1 := h w hw
  have h2 := (List.mem_filter.mp hw).2
  unfold xisN at h2
  split at h2
  next => exact va_Nw.same rfl hvm h1
  next => cases h2
theorem xPc_blind {D : va_G} {ac : Nat → ClassId} {E : Nat × Nat} {vs : List xVal} {M : xMem} : FrameBlind (xPc D ac E vs M) := by
  intro a U g mk q
  obtain ⟨q0, q1, q2, q4, q3⟩ := q
  exact ⟨q0, q1, va_K.moved (u := U) (U := U.calling g mk a) (Vm.Alike.refl U.vm) q2, xAO_moved (u := U) (U := U.calling g mk a) (Vm.Alike.refl U.vm) q4, xNEST_same (s := U) (U := U.calling g mk a) rfl q3⟩
theorem xinit_sl (E : Nat × Nat) : ∀ vs : List xVal, lg_sl (vs.map (xcv E)) = (xinit0 vs).map (fun o => match o with | some v => Slot.val (xcv E v) | none => Slot.second) := by
  intro vs
  induction vs with
  | nil => rfl
  | cons v vs ih =>
    have e1 : lg_sl ((v :: vs).map (xcv E)) = (if (xcv E v).category = 2 then [Slot.val (xcv E v), .second] else [.val (xcv E v)]) ++ lg_sl (vs.map (xcv E)) := rfl
    have e2 : xinit0 (v :: vs) = (if xis2 v then [some v, none] else [some v]) ++ xinit0 vs := rfl
    rw [e1, e2, List.map_append, ih, xcv_cat]
    congr 1
    cases xis2 v <;> rfl
theorem xinit_LR {E : Nat × Nat} {vs : List xVal} {n : Nat} (h : (xinit n vs).length = n) : xLR E ((lg_sl (vs.map (xcv E)) ++ List.replicate (n - (lg_sl (vs.map (xcv E))).length) Slot.unset).toArray) (xinit n vs) := by
  have hl : (lg_sl (vs.map (xcv E))).length = (xinit0 vs).length := by rw [xinit_sl, List.length_map]
  have h0 : (xinit0 vs).length ≤ n := by
    unfold xinit at h
    rw [List.length_append, List.length_replicate] at h
    omega
  obtain ⟨a1, a2, -⟩ := lv_entry (vs.map (xcv E)) (n := n) (by rw [hl]; exact h0)
  refine ⟨by rw [a1, h], a2, fun k v hk => ?_⟩
  unfold xinit at hk
  by_cases hlt : k < (xinit0 vs).length
  · rw [List.getElem?_append_left hlt] at hk
    rw [List.getElem?_toArray, List.getElem?_append_left (by rw [hl]; exact hlt), xinit_sl, List.getElem?_map, hk]
    rfl
  · rw [List.getElem?_append_right (by omega)] at hk
    have := List.eq_of_mem_replicate (List.mem_of_getElem? hk)
    cases this
/-- a method's contract, out of its run -/
theorem xmet_of {l : Launch} {n d j : Nat} {vs : List xVal} {M : xMem} {r : Option xVal} {M1 : xMem} (hS : xSND l n) (h : xexec n d none j 0 (xinit (xL j) vs) [] M = some (r, M1)) (hj : j < 272) (h1 : plainName (xY j).cls = true) (hlen : (xinit (xL j) vs).length = xL j) (D : va_G) (ac : Nat → ClassId) (E : Nat × Nat) :
    Met l (xY j) (xws j) ({ frames := d, cells := M1.2.2.2.1 - M.2.2.2.1, slots := M1.2.2.2.2 - M.2.2.2.2, locals := 37 * d }) (xPc D ac E vs M) (xQc D ac E r M1) (M1.2.2.2.1 - M.2.2.2.1) (M1.2.2.2.2 - M.2.2.2.2) (fun q => E.1 ≤ q) := by
  obtain ⟨m1, m2, m3, m4, m5, m6, m7⟩ := xmeth hj h1
  refine Met.ofW (cc := xB j) (maxL := xL j) (ret := xR j) m4 rfl ?_
  intro p e s m args below meth c s₁ B hml hv
  obtain ⟨rfl, hR, hK, hAO, hN⟩ := hv
  have hts := atoms_spec (ws := xws j) B.pre
  have hts2 : ∀ w ∈ xALL, w.before (vs.map (xcv E)).toArray s = true := fun w hw => hts w (List.mem_cons_of_mem _ hw)
  have hown : s.vm.findClass (xY j).cls = some m.cls := findClass_of_methodNamed B.named
  have hin : meth.name = (xY j).name := (name_of_methodNamed B.named B.method).1
  have hr := B.returns
  have hlocks := B.notSynchronized
  rw [lg_entry_eq]
  have C : xCtx p s m (vs.map (xcv E)).toArray meth c D ac E (xY j).cls (xB j) (xL j) (decide ((xY j).name = "<init>")) := ⟨B.exec, B.bytes, hml, hown, hts2, hK, hN, fun z => by rw [hin]; exact of_decide_eq_true z, by rw [hR.1]; exact Nat.le_add_right _ _⟩
  have k := hS d none j 0 (xinit (xL j) vs) [] M r M1 h (by omega) p e (headSpec (xws j) { frames := d, cells := M1.2.2.2.1 - M.2.2.2.1, slots := M1.2.2.2.2 - M.2.2.2.2, locals := 37 * d }).room s m (vs.map (xcv E)).toArray below meth c (MQ below (xQc D ac E r M1) (vs.map (xcv E)).toArray s (M1.2.2.2.1 - M.2.2.2.1) (M1.2.2.2.2 - M.2.2.2.2) (fun q => E.1 ≤ q)) D ac E M.2.2.2.1 M.2.2.2.2 C trivial hAO hlen (Nat.le_refl _) (Nat.le_refl _) (Nat.le_refl _) (Nat.le_refl _) (Nat.le_refl _) (Nat.le_refl _) ?_
  · have k2 := k s.heap [] _ hR va_S.rf (xinit_LR hlen)
    rw [Nat.sub_self, Nat.sub_self] at k2
    exact k2
  · intro pc ins st H locs la hdg hrt hR' hS'
    have hq : ∀ t : State, t.heap = H → s.WarmedH t.vm → xQc D ac E r M1 (vs.map (xcv E)).toArray s (.returned (r.map (xcv E))) t := fun t ht _ => ⟨rfl, by rw [ht]; exact hR', hS'.F ht⟩
    unfold xret at hrt
    split at hrt
    next =>
      split at hrt
      next =>
        split at hrt
        next hz => cases hrt; exact W.vret B.exec B.bytes (by rw [hr]; exact hz) hq hS'.2.2 hdg
        next => cases hrt
      next => cases hrt
    next =>
      split at hrt
      next v =>
        split at hrt
        next hz => cases hrt; exact W.iret B.exec B.bytes (by rw [hr]; exact hz) hq hS'.2.2 hdg
        next hz =>
          split at hrt
          next hv => cases hrt; exact W.zret B.exec B.bytes (ty := .boolean) (by rw [hr]; exact hz) (by rcases hv with rfl | rfl <;> rfl) hq hS'.2.2 hdg
          next => cases hrt
        next => cases hrt
      next => cases hrt
    next =>
      split at hrt
      next v =>
        split at hrt
        next hz => cases hrt; exact W.lret B.exec B.bytes (by rw [hr]; exact hz) hq hS'.2.2 hdg
        next => cases hrt
      next => cases hrt
    next =>
      split at hrt
      next v =>
        split at hrt
        next C9 hz => cases hrt; exact W.aret (v := va_rf (v.map (xad E))) B.exec B.bytes (by rw [hr]; exact hz) (Or.inl ⟨_, rfl⟩) (by cases v; exact Or.inl rfl; exact Or.inr ⟨_, rfl⟩) hq hS'.2.2 hdg
        next C9 hz => cases hrt; exact W.aret (v := va_rf (v.map (xad E))) B.exec B.bytes (by rw [hr]; exact hz) (Or.inr ⟨_, rfl⟩) (by cases v; exact Or.inl rfl; exact Or.inr ⟨_, rfl⟩) hq hS'.2.2 hdg
        next => cases hrt
      next => cases hrt
    next => cases hrt
theorem xsplit {st : List xVal} {n : Nat} {v : xVal} (h : st[n]? = some v) : (st.take (n + 1)).reverse = v :: (st.take n).reverse ∧ st = st.take n ++ v :: st.drop (n + 1) := by
  obtain ⟨hlt, hv⟩ := List.getElem?_eq_some_iff.mp h
  refine ⟨by rw [List.take_succ, h]; simp, ?_⟩
  have e := List.drop_eq_getElem_cons hlt
  rw [hv] at e
  rw [← e, List.take_append_drop]
section XC
variable {p : Program} {l : Launch} {e : Env} {R : Room} {s : State} {m : MethodId} {args : Array Value} {below : List Frame} {meth : Method} {c : Code} {Q : State → Prop} {D : va_G} {ac : Nat → ClassId} {E : Nat × Nat} {n0 z0 : Nat}
variable {own : String} {cc : ByteArray} {nL : Nat} {ini : Bool} {pc : Nat} {ls ls' : List (Option xVal)} {st rest : List xVal} {M M1 : xMem}
theorem xw_goes {r : Option xVal} {aa : Array Value} (hn0 : n0 ≤ M.2.2.2.1) (hz0 : z0 ≤ M.2.2.2.2) (hle : M.2.2.2.1 ≤ M1.2.2.2.1 ∧ M.2.2.2.2 ≤ M1.2.2.2.2)
    (hr : ∀ (H : Heap) (locs : List Loc) (la : Array Slot), xRep D ac E M H → va_S (fun q : Nat => E.1 ≤ q) s.heap H locs → xLR E la ls → va_Run p l e R s m args below meth c H locs (M.2.2.2.1 - n0) (M.2.2.2.2 - z0) (M1.2.2.2.1 - M.2.2.2.1) (M1.2.2.2.2 - M.2.2.2.2) (F0 m pc la (st.map (xcv E))) (rest.map (xcv E)) (xQc D ac E r M1 aa) (fun q => E.1 ≤ q))
    (kk : xW p l e R s m args below meth c Q D ac E n0 z0 (pc + 3) ls (xtl r rest) M1) : xW p l e R s m args below meth c Q D ac E n0 z0 pc ls st M := by
  intro H locs la hR hS hL T hT X
  obtain ⟨v, st₀, t, T', L, h0, X', hLf, e1, e2, ⟨hv, hR1, hF⟩, stp⟩ := hr H locs la hR hS hL T hT X
  have hv2 : v = r.map (xcv E) := by cases hv; rfl
  subst hv2
  have e5 : M.2.2.2.1 - n0 + (M1.2.2.2.1 - M.2.2.2.1) = M1.2.2.2.1 - n0 := by omega
  have e6 : M.2.2.2.2 - z0 + (M1.2.2.2.2 - M.2.2.2.2) = M1.2.2.2.2 - z0 := by omega
  rw [e5, e6] at X'
  obtain ⟨t2, a1, b1⟩ := kk T'.heap (locs ++ L) la (by rw [e1]; exact hR1) ⟨Nat.le_trans hS.1 (by rw [e1, ← h0]; exact hF.1), fun q h1 h2 => by
      rw [e1, hF.2 q (by rw [h0]; exact Nat.lt_of_lt_of_le h1 hS.1) h2, h0]
      exact hS.2.1 q h1 h2, fun q hq => by
      rcases List.mem_append.mp hq with h | h
      · exact hS.2.2 q h
      · exact hLf q h⟩ hL T' rfl X'
  refine ⟨t2, stp t2 ?_, b1⟩
  have e7 : (r.map (xcv E)).toList ++ rest.map (xcv E) = (xtl r rest).map (xcv E) := by cases r <;> rfl
  show Steps p.tables e below (T'.setTop { (F0 m pc la (st.map (xcv E))) with pc := pc + 3, stack := (r.map (xcv E)).toList ++ rest.map (xcv E) }) t2
  rw [e7]
  exact a1
end XC
