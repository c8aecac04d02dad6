/-! THE CLAIM OUT OF ONE WALK OF THE LAW'S BODY. Your part is whole_start (and what it stands on); all else here is the same for every law, but numbers. -/
def R_law : String := "MagazineDepotLaw"
def lw_P (b : Addr) (xs : List Int32) (args : Array Value) (s : State) : Prop := args = #[.ref b] ∧ s.IntsAt b xs ∧ xs.length ≤ 3072 ∧ (Jvm.Cond.and given_1 narrow_1).before args s = true
def lw_Q (_ : Array Value) (s : State) (o : Outcome) (t : State) : Prop := o = .returned (some (.int 1)) ∧ Framed s o t [] 600000 7302250
def lw_Z (below : List Frame) (a : Array Value) (s : State) : State → Prop := fun t => ∃ o, t.status = .running ∧ Ended t below o ∧ lw_Q a s o t
/-- the law's own end, with 1 on the stack, nothing written that was there before, its room as the claim has it -/
theorem lw_ret {p : Program} {l : Launch} {e : Env} {s : State} {m : MethodId} {below : List Frame} {meth : Method} {c : Code} {b : Nat} (hx : p.tables.exec = Jvm.exec) (hb : c.code = code) (hr : meth.sig.returnType = ret) (hlocks : meth.locks = false) {pc : Nat} {H : Heap} {ls : Array Slot} (hdg : decode code pc = .ok (.ireturn, 1)) : W p l e room_1 s m #[Value.ref b] below meth c H [] 600000 7302250 (lw_Z below #[Value.ref b] s) (F0 m pc ls [.int 1]) := by
  intro T hT X
  obtain ⟨fs, hret, hrun, hended, hW, hframe⟩ := X.leave (v := some (.int 1)) (hlocks := hlocks) (fun h => by rw [hr] at h; cases h)
  have hmeth' : T.vm.method? m = some meth := X.method'
  refine ⟨T.setFrames fs, ?_, .returned (some (.int 1)), hrun, hended, rfl, ⟨_, rfl⟩, hW, hframe⟩
  jvm_step X.here [X.here.top, hx, hb, hdg, hmeth', hr, ret, narrow_b1]
  (try refine ⟨rfl, ?_⟩); (try refine ⟨rfl, ?_⟩)
  first | (intro acts; rw [hret _ acts rfl rfl rfl]) | rw [hret _ _ rfl rfl rfl]
  exact Steps.refl _
/-- what holds at the law's entry: the machine, the code, the tables' words (any of lw_tbl by 'hts w (by decide +kernel)'), the script of L ints xs at the cell b, what the Statement gives of the start (any of its parts by flat_of_before) -/
def lw_At (p : Program) (s : State) (m : MethodId) (meth : Method) (c : Code) (b L : Nat) (xs : Nat → Int32) : Prop :=
  p.tables.exec = Jvm.exec ∧ c.code = code ∧ meth.sig.returnType = ret ∧ c.maxLocals = 4 ∧ s.vm.findClass R_law = some m.cls ∧ (∀ w ∈ lw_tbl, w.before #[Value.ref b] s = true) ∧ va_X b L xs s s.heap ∧ b < s.heap.size ∧ meth.locks = false ∧ (Jvm.Cond.and given_1 narrow_1).before #[Value.ref b] s = true
/-- what the law's run comes to: the pure half of the claim -/
def xPURE : Prop := ∀ (L : Nat) (xs : Nat → Int32), L ≤ 3072 → ∃ M' : xMem, xrun (some (L, xs)) 13 272 0 [some (.inr (.inr (some (99, 0, 0)))), none, none, none] [] xM00 (some (.inl 1), M') ∧ M'.2.2.2.1 ≤ 600000 ∧ M'.2.2.2.2 ≤ 7302250
theorem x272 : xY 272 = ⟨"MagazineDepotLaw", "law", "([I)Z"⟩ ∧ xB 272 = code ∧ xL 272 = 4 ∧ xR 272 = some .boolean := ⟨rfl, rfl, rfl, rfl⟩
theorem xarr_of {s : State} {args : Array Value} {ty : FieldType} (h : (Cond.arrayClass ty).before args s = true) : ∃ (c : ClassId) (k : Class) (comp : ClassId), s.vm.findClass ("[" ++ ty.toString) = some c ∧ s.vm.classes[c]? = some k ∧ k.kind = .array comp ty := Cond.arrayClass_spec h
theorem xwhole_start (hpure : xPURE) {p : Program} {e : Env} {s : State} {m : MethodId} {below : List Frame} {meth : Method} {c : Code} (l : Launch) {b L : Nat} {xs : Nat → Int32} (hL : L ≤ 3072) (C0 : lw_At p s m meth c b L xs) : W p l e room_1 s m #[Value.ref b] below meth c s.heap [] 0 0 (lw_Z below #[Value.ref b] s) (entryFrame m ([Value.ref b] : List Value).toArray 4) := by
  obtain ⟨hx, hb, hr, hml, hown, hts, hX, hbl, hlocks, hgv⟩ := id C0
  have htsA : ∀ w ∈ xALL, w.before #[Value.ref b] s = true := fun w hw => hts w (List.mem_filter.mp hw).1
  obtain ⟨c0, i0, k0⟩ := u_known (C := RX0) (T := TX0) (N := 8) (n := 8) htsA (xcl_ok (ci := 0) rfl).1 (htsA _ (xhw_in (p := 141) (by decide +kernel)))
  obtain ⟨c1, i1, k1⟩ := u_known (C := RX1) (T := TX1) (N := 2) (n := 2) htsA (xcl_ok (ci := 1) rfl).1 (htsA _ (xhw_in (p := 396) (by decide +kernel)))
  obtain ⟨c2, i2, k2⟩ := u_known (C := RX2) (T := TX2) (N := 18) (n := 18) htsA (xcl_ok (ci := 2) rfl).1 (htsA _ (xhw_in (p := 184) (by decide +kernel)))
  obtain ⟨c3, i3, k3⟩ := u_known (C := RX3) (T := TX3) (N := 8) (n := 8) htsA (xcl_ok (ci := 3) rfl).1 (htsA _ (xhw_in (p := 135) (by decide +kernel)))
  obtain ⟨c4, i4, k4⟩ := u_known (C := RX5) (T := TX5) (N := 2) (n := 2) htsA (xcl_ok (ci := 4) rfl).1 (htsA _ (xhw_in (p := 190) (by decide +kernel)))
  obtain ⟨c5, i5, k5⟩ := u_known (C := RX6) (T := TX6) (N := 6) (n := 6) htsA (xcl_ok (ci := 5) rfl).1 (htsA _ (xhw_in (p := 369) (by decide +kernel)))
  obtain ⟨c6, i6, k6⟩ := u_known (C := RX7) (T := TX7) (N := 11) (n := 11) htsA (xcl_ok (ci := 6) rfl).1 (htsA _ (xhw_in (p := 320) (by decide +kernel)))
  obtain ⟨c7, i7, k7⟩ := u_known (C := RX8) (T := TX8) (N := 15) (n := 15) htsA (xcl_ok (ci := 7) rfl).1 (htsA _ (xhw_in (p := 127) (by decide +kernel)))
  obtain ⟨c8, i8, k8⟩ := u_known (C := RX9) (T := TX9) (N := 55) (n := 55) htsA (xcl_ok (ci := 8) rfl).1 (htsA _ (xhw_in (p := 1084) (by decide +kernel)))
  obtain ⟨dC, dI, hKc⟩ : ∃ (dC : Nat → ClassId) (dI : Nat → Nat → Nat), ∀ (k : Nat) (q : vw_C), xcl[k]? = some q → u_Kn s q.1 q.2.1 q.2.2 (dC k) (dI k) := by
    refine ⟨fun k => if k = 0 then c0 else if k = 1 then c1 else if k = 2 then c2 else if k = 3 then c3 else if k = 4 then c4 else if k = 5 then c5 else if k = 6 then c6 else if k = 7 then c7 else c8,
      fun k => if k = 0 then i0 else if k = 1 then i1 else if k = 2 then i2 else if k = 3 then i3 else if k = 4 then i4 else if k = 5 then i5 else if k = 6 then i6 else if k = 7 then i7 else i8, ?_⟩
    intro k q hq
    match k, hq with
    | 0, hq => cases hq; exact k0
    | 1, hq => cases hq; exact k1
    | 2, hq => cases hq; exact k2
    | 3, hq => cases hq; exact k3
    | 4, hq => cases hq; exact k4
    | 5, hq => cases hq; exact k5
    | 6, hq => cases hq; exact k6
    | 7, hq => cases hq; exact k7
    | 8, hq => cases hq; exact k8
    | k + 9, hq => simp [xcl] at hq
  have o1 : (Cond.arrayOver (.object RX2)).before #[Value.ref b] s = true := hts _ (List.mem_of_getElem? (i := 181) (by decide +kernel))
  have o2 : (Cond.arrayOver (.object RX5)).before #[Value.ref b] s = true := hts _ (List.mem_of_getElem? (i := 183) (by decide +kernel))
  have o3 : (Cond.arrayOver (.array .int)).before #[Value.ref b] s = true := hts _ (List.mem_of_getElem? (i := 402) (by decide +kernel))
  obtain ⟨a20, ka20, m20, f20, g20, h20⟩ := xarr_of (ty := .int) (htsA _ (xhw_in (p := 178) (by decide +kernel)))
  obtain ⟨a21, ka21, m21, f21, g21, h21⟩ := xarr_of (ty := .long) (htsA _ (xhw_in (p := 179) (by decide +kernel)))
  obtain ⟨a22, ka22, m22, f22, g22, h22⟩ := xarr_of (ty := .boolean) (htsA _ (xhw_in (p := 207) (by decide +kernel)))
  obtain ⟨m23, a23, ka23, x1, x2, x3, x4, x5⟩ := Cond.arrayOver_spec o1
  obtain ⟨m24, a24, ka24, y1, y2, y3, y4, y5⟩ := Cond.arrayOver_spec o2
  obtain ⟨m25, a25, ka25, z1, z2, z3, z4, z5⟩ := Jvm.Stand.arrayOver_specB o3
  obtain ⟨ac, e20, e21, e22, e23, e24, e25⟩ : ∃ ac : Nat → ClassId, ac 20 = a20 ∧ ac 21 = a21 ∧ ac 22 = a22 ∧ ac 23 = a23 ∧ ac 24 = a24 ∧ ac 25 = a25 :=
    ⟨fun k => if k = 20 then a20 else if k = 21 then a21 else if k = 22 then a22 else if k = 23 then a23 else if k = 24 then a24 else a25, rfl, rfl, rfl, rfl, rfl, rfl⟩
  have hK : va_K (dC, dI) xcl (xtys ac) s := by
    refine ⟨hKc, fun k q hq => ?_⟩
    match k, hq with
    | 0, hq => cases hq; rw [e20]; exact ⟨fun n z => ⟨fun k h => (by cases h), ka20, g20, m20, h20⟩, f20⟩
    | 1, hq => cases hq; rw [e21]; exact ⟨fun n z => ⟨fun k h => (by cases h), ka21, g21, m21, h21⟩, f21⟩
    | 2, hq => cases hq; rw [e22]; exact ⟨fun n z => ⟨fun k h => (by cases h), ka22, g22, m22, h22⟩, f22⟩
    | 3, hq => cases hq; rw [e23]; exact ⟨fun n z => ⟨fun k h => (by cases h), ka23, x3, m23, x4⟩, ka23, m23, x3, x4, x1, x5⟩
    | 4, hq => cases hq; rw [e24]; exact ⟨fun n z => ⟨fun k h => (by cases h), ka24, y3, m24, y4⟩, ka24, m24, y3, y4, y1, y5⟩
    | 5, hq => cases hq; rw [e25]; exact ⟨fun n z => ⟨fun k h => (by cases h), ka25, z3, m25, z4⟩, z5⟩
    | k + 6, hq => simp [xtys] at hq
  have hN : ∀ w ∈ xNEST, va_Nw w s := by
    intro w hw
    have h1 := hts w (List.mem_filter.mp hw).1
    have h2 := (List.mem_filter.mp hw).2
    unfold xisN at h2
    split at h2
    next => exact va_Nw.of rfl h1
    next => cases h2
  obtain ⟨M', ⟨n, hrun⟩, hm1, hm2⟩ := hpure L xs hL
  have C : xCtx p s m #[Value.ref b] meth c (dC, dI) ac (s.heap.size, b) (xY 272).cls (xB 272) (xL 272) (decide ((xY 272).name = "<init>")) :=
    ⟨hx, hb, hml, hown, htsA, hK, hN, fun h => absurd h (by decide), Nat.le_refl _⟩
  have k := xsound l n 13 (some (L, xs)) 272 0 _ [] xM00 _ M' hrun (by decide) p e room_1 s m #[Value.ref b] below meth c (lw_Z below #[Value.ref b] s) (dC, dI) ac (s.heap.size, b) 0 0 C ⟨hX, hbl, hbl⟩ ⟨va_AO.of o1, va_AO.of o2, o3⟩ rfl (by decide) (by decide) (Nat.zero_le _) (Nat.zero_le _) hm1 hm2 ?_
  · have hLR := xinit_LR (E := (s.heap.size, b)) (vs := [.inr (.inr (some (99, 0, 0)))]) (n := 4) rfl
    rw [lg_entry_eq]
    exact k s.heap [] _ ⟨rfl, fun a q _ h => absurd h (Nat.not_lt_zero _)⟩ va_S.rf hLR
  · intro pc ins st H locs la hdg hrt hR' hS'
    unfold xret at hrt
    split at hrt
    next =>
      split at hrt
      next => split at hrt <;> cases hrt
      next => cases hrt
    next =>
      split at hrt
      next v =>
        have hv : v = 1 := by
          split at hrt
          next => cases hrt; rfl
          next =>
            split at hrt
            next => cases hrt; rfl
            next => cases hrt
          next => cases hrt
        subst hv
        refine va_forget (fun q hq => hS'.2.2 q hq) ?_
        refine W.widen (k := 600000) (n := 7302250) hm1 hm2 ?_
        exact lw_ret hx hb hr hlocks hdg
      next => cases hrt
    next =>
      split at hrt
      next => split at hrt <;> cases hrt
      next => cases hrt
    next =>
      split at hrt
      next => split at hrt <;> cases hrt
      next => cases hrt
    next => cases hrt
/-- the pure half, over the shallow function of the law's loop -/
theorem xpure_of (h : ∀ (L : Nat) (xs : Nat → Int32), L ≤ 3072 → ∃ M' : xMem, fL_law_18 L xs xF xI3 (some (0, 0, 0)) (some (44, 0, 0)) 0 = some (1, M') ∧ M'.2.2.2.1 ≤ 600000 ∧ M'.2.2.2.2 ≤ 7302250) : xPURE := by
  intro L xs hL
  obtain ⟨M', h1, h2⟩ := h L xs hL
  exact ⟨M', xlaw_start (TfL_law_18 L xs xF xI3 _ _ _ h1), h2⟩
theorem xpure2 (L : Nat) (xs : Nat → Int32) (hL : L ≤ 3072) : ∃ M' : xMem, fL_law_18 L xs xF xI3 (some (0, 0, 0)) (some (44, 0, 0)) 0 = some (1, M') ∧ M'.2.2.2.1 ≤ 600000 ∧ M'.2.2.2.2 ≤ 7302250 := xpure_ZF ZF_ini L xs hL
theorem xpure : xPURE := xpure_of xpure2
/-- YOUR PART: from the entry, for every script of at most 3072 ints, the law comes to its end with true -/
theorem whole_start {p : Program} {e : Env} {s : State} {m : MethodId} {below : List Frame} {meth : Method} {c : Code} (l : Launch) (hflags : l.flags = flags0) {b L : Nat} {xs : Nat → Int32} (hL : L ≤ 3072) (C0 : lw_At p s m meth c b L xs) : W p l e room_1 s m #[Value.ref b] below meth c s.heap [] 0 0 (lw_Z below #[Value.ref b] s) (entryFrame m ([Value.ref b] : List Value).toArray 4) := xwhole_start xpure l hL C0
-- ===== YOUR PART ENDS =====
set_option maxHeartbeats 4000000 in
theorem lw_walk (l : Launch) (hflags : l.flags = flags0) (b : Addr) (xs : List Int32) : MetFree l x (headSpec (Jvm.Cond.code x code maxLocals ret :: tables_1) room_1) (lw_P b xs) (fun _ _ _ _ _ => True) lw_Q := by
  refine MetFree.of_bodyS (code := code) (maxLocals := maxLocals) (ret := ret) (by decide) ?_ ?_
  · intro args s m h hn
    obtain ⟨meth, c, h1, h2, h3, h4, h5, h6, -, -⟩ := Cond.code_spec hn (atoms_spec (ws := Jvm.Cond.code x code maxLocals ret :: tables_1) h _ List.mem_cons_self)
    exact ⟨meth, c, h1, h2, h3, h4, h5, h6⟩
  · intro p e s m args below meth c s₁ B hml0 hP _
    obtain ⟨rfl, hx, hbd, hgv⟩ := hP
    obtain ⟨scr, harrAt, hlist, hof, hsmall⟩ := hx
    obtain ⟨hcb, hkn, -, -⟩ := State.arrayAt?_spec harrAt
    have hown : s.vm.findClass R_law = some m.cls := findClass_of_methodNamed B.named
    have hts0 : ∀ c ∈ (Jvm.Cond.code x code maxLocals ret :: tables_1), c.before #[Value.ref b] s = true := atoms_spec (ws := Jvm.Cond.code x code maxLocals ret :: tables_1) B.pre
    have hts : ∀ w ∈ lw_tbl, w.before #[Value.ref b] s = true := k2_hts_sels lw_privs (fun w hw => hts0 w (List.mem_cons_of_mem _ hw)) lw_privs_ok
    have hml : c.maxLocals = 4 := B.maxLocals_eq (hts0 _ List.mem_cons_self)
    have X₀ : Stand p l e room_1 s m #[Value.ref b] below meth c s₁ [] 0 0 := Stand.of_body B
    have hh0 : s₁.heap = s.heap := by rw [B.state]; rfl
    have hsz : scr.slots.size = xs.length := by rw [← Array.length_toList, hlist, List.length_map]
    have hval : ∀ j : Nat, j < xs.length → scr.slots[j]? = some (.int (xs.getD j 0)) := fun j hj => by
      rw [← Array.getElem?_toList, hlist]
      simp [hj]
    have hbl : b < s.heap.size := (Array.getElem?_eq_some_iff.mp hcb).1
    have hX : va_X b xs.length (fun j => xs.getD j 0) s s.heap := ⟨scr, hcb, hof, hkn, hsz, hval⟩
    have K : W p l e room_1 s m #[Value.ref b] below meth c s₁.heap [] 0 0 (lw_Z below #[Value.ref b] s) (entryFrame m ([Value.ref b] : List Value).toArray 4) := by
      rw [hh0]
      exact whole_start l hflags hbd ⟨B.exec, B.bytes, B.returns, hml, hown, hts, hX, hbl, B.notSynchronized, hgv⟩
    obtain ⟨t, a1, o, b1, b2, b3⟩ := K s₁ rfl X₀
    exact ⟨t, o, a1, b1, b2, b3⟩
theorem lw_pre_spec {args : Array Value} {s : State} (h : (Jvm.Cond.and given_1 narrow_1).before args s = true) (hr : rest_1_c.before args s = true) : ∃ (b : Addr) (xs : List Int32), lw_P b xs args s := by
  have hs := flat_of_before _ h
  have hq := flat_of_before _ hr
  have hc : (Cond.count 1).before args s = true := hs _ (by decide +kernel)
  have harr : (Cond.arrayOf (.arg 0) .int).before args s = true := hs _ (by decide +kernel)
  have hle : (Cond.le (.length (.arg 0)) (.int 3072)).before args s = true := hs _ (by decide +kernel)
  have hlen : (Cond.isInt (.length (.arg 0))).before args s = true := hq _ (by decide +kernel)
  have hall : (Cond.all (.arg 0) (.isInt (.elem (.arg 0) (.index 0)))).before args s = true := hq _ (by decide +kernel)
  obtain ⟨b, xs, hb, hx⟩ := State.ints_of_pre rfl harr hlen hall
  have hsm : xs.length < 2 ^ 31 := hx.choose_spec.2.2.2
  have hev : (Term.length (.arg 0)).eval args s none [] s = some (.int xs.length.toInt32) := hx.length_eval hb
  have hv := Cond.le_ints hev (show (Term.int 3072).eval args s none [] s = some (.int 3072) from rfl)
  have hd : xs.length.toInt32 ≤ 3072 := by
    simpa [Cond.before, Cond.holds, hv] using hle
  have hN : xs.length ≤ 3072 := (Int32.ofNat_le_ofNat hsm (by decide)).mp (show Int32.ofNat xs.length ≤ Int32.ofNat 3072 from hd)
  exact ⟨b, xs, Cond.one_arg hc (show args[0]? = some (.ref b) from hb), hx, hN, h⟩
theorem lw_comes (l : Launch) (hflags : l.flags = flags0) : Comes l x (Jvm.Cond.code x code maxLocals ret :: tables_1) room_1 (fun tb e args s => Calls_1 tb e args s ∧ rest_1 tb e args s ∧ Pre_1 tb e args s)
    (fun _ _ args s o t => lw_Q args s o t) := by
  intro p e ha hc hk s m args below hf hfit hheap happ hpre
  obtain ⟨b, xs, hP⟩ := lw_pre_spec hpre.2.2 hpre.2.1
  obtain ⟨k, o, h1, h2, h3, hQ⟩ := lw_walk l hflags b xs p e ha hc hk s m args below hf ((Spec.applies_iff_loose hf).mp happ).1 hP trivial
  exact ⟨k, o, h1, h2, h3, hQ⟩
theorem lw_frame {s t : State} {o : Outcome} {args : Array Value} (h : Framed s o t [] 600000 7302250) :
    Framed s o t (fieldLocs frame_1_writes args s ++ arrayLocs frame_1_arrays args s ++ staticLocs frame_1_statics s) 600000 7302250 := h
theorem lw_limb (L : Cond) (hL : ∀ (args : Array Value) (s t : State), L.after args s (.returned (some (.int 1))) t = true) :
    ArmFor flags0 classFile x code maxLocals ret World_1 tables_1 room_1 Calls_1 rest_1 Pre_1
      (fun tb e a s o t => postC L tb e a s o t ∧ Framed s o t (fieldLocs frame_1_writes a s ++ arrayLocs frame_1_arrays a s ++ staticLocs frame_1_statics s) 600000 7302250) := by
  intro l hflags _ _ p e ha hc hk s m args below hf hfit hheap happ hpre
  obtain ⟨k, o, h1, h2, h3, rfl, hF⟩ := lw_comes l hflags p e ha hc hk s m args below hf hfit hheap happ hpre
  exact ⟨k, _, h1, h2, h3, hL args s _, lw_frame hF⟩
theorem i_vc : Claimed_1_1 ∧ Claimed_1_2 := ⟨lw_limb limb_1_1 (fun args s t => by simp [limb_1_1, Cond.after, Cond.holds, Cond.value]), lw_limb limb_1_2 (fun args s t => Cond.after_iff.mpr (by
  first | (rw [show limb_1_2 = Cond.eq .result (.int 1) from rfl, Cond.eq_ints (x := 1) (y := 1) rfl rfl]; simp; done) | (simp [limb_1_2, Cond.value, Term.eval]; done)))⟩
