/-! each step of the walked system is the machine's -/
section XS
variable {p : Program} {l : Launch} {e : Env} {R : Room} {s : State} {m : MethodId} {args : Array Value} {below : List Frame} {meth : Method} {c : Code} {Q : State → Prop} {D : va_G} {ac : Nat → ClassId} {E : Nat × Nat} {n0 z0 : Nat}
variable {own : String} {cc : ByteArray} {nL : Nat} {ini : Bool} {pc : Nat} {ls ls' : List (Option xVal)} {st st' : List xVal} {M M' : xMem} {top : Option (Nat × (Nat → Int32))}
def xW (p : Program) (l : Launch) (e : Env) (R : Room) (s : State) (m : MethodId) (args : Array Value) (below : List Frame) (meth : Method) (c : Code) (Q : State → Prop) (D : va_G) (ac : Nat → ClassId) (E : Nat × Nat) (n0 z0 : Nat) (pc : Nat) (ls : List (Option xVal)) (st : List xVal) (M : xMem) : Prop :=
  ∀ (H : Heap) (locs : List Loc) (la : Array Slot), xRep D ac E M H → va_S (fun q : Nat => E.1 ≤ q) s.heap H locs → xLR E la ls → W p l e R s m args below meth c H locs (M.2.2.2.1 - n0) (M.2.2.2.2 - z0) Q (F0 m pc la (st.map (xcv E)))
def xCtx (p : Program) (s : State) (m : MethodId) (args : Array Value) (meth : Method) (c : Code) (D : va_G) (ac : Nat → ClassId) (E : Nat × Nat) (own : String) (cc : ByteArray) (nL : Nat) (ini : Bool) : Prop :=
  p.tables.exec = Jvm.exec ∧ c.code = cc ∧ c.maxLocals = nL ∧ s.vm.findClass own = some m.cls ∧ (∀ w ∈ xALL, w.before args s = true) ∧ va_K D xcl (xtys ac) s ∧ (∀ w ∈ xNEST, va_Nw w s) ∧ (ini = true → meth.name = "<init>") ∧ E.1 ≤ s.heap.size
/-- the script, where the law walks -/
def xTop (E : Nat × Nat) (s : State) (top : Option (Nat × (Nat → Int32))) : Prop := match top with
  | none => True
  | some t => va_X E.2 t.1 t.2 s s.heap ∧ E.2 < s.heap.size ∧ E.2 < E.1
theorem xw_ifc (C : xCtx p s m args meth c D ac E own cc nL ini) {cd : Jvm.ClassFile.Cond} {off : Int} {tgt : Nat} {x : Int32} (hd : decode cc pc = .ok (.ifCond cd off, 3)) (ht : (pc : Int) + off = (tgt : Int))
    (k : xW p l e R s m args below meth c Q D ac E n0 z0 (if xcnd cd x 0 then tgt else pc + 3) ls st M) : xW p l e R s m args below meth c Q D ac E n0 z0 pc ls (.inl x :: st) M := by
  intro H locs la hR hS hL
  have kk := k H locs la hR hS hL
  unfold xcnd at kk
  cases cd with
  | eq => exact lv_if_eq C.1 C.2.1 hd ht (fun h => by simpa [h] using kk) (fun h => by simpa [h] using kk)
  | ne => exact lv_if_ne C.1 C.2.1 hd ht (fun h => by simpa [h] using kk) (fun h => by simpa [h] using kk)
  | lt => exact lv_if_lt C.1 C.2.1 hd ht (fun h => by simpa [h] using kk) (fun h => by simpa [h] using kk)
  | ge => exact lv_if_ge C.1 C.2.1 hd ht (fun h => by simpa [h] using kk) (fun h => by simpa [h] using kk)
  | gt => exact lv_if_gt C.1 C.2.1 hd ht (fun h => by simpa [h] using kk) (fun h => by simpa [h] using kk)
  | le => exact lv_if_le C.1 C.2.1 hd ht (fun h => by simpa [h] using kk) (fun h => by simpa [h] using kk)
theorem xw_icmp (C : xCtx p s m args meth c D ac E own cc nL ini) {cd : Jvm.ClassFile.Cond} {off : Int} {tgt : Nat} {x y : Int32} (hd : decode cc pc = .ok (.if_icmp cd off, 3)) (ht : (pc : Int) + off = (tgt : Int))
    (k : xW p l e R s m args below meth c Q D ac E n0 z0 (if xcnd cd x y then tgt else pc + 3) ls st M) : xW p l e R s m args below meth c Q D ac E n0 z0 pc ls (.inl y :: .inl x :: st) M := by
  intro H locs la hR hS hL
  have kk := k H locs la hR hS hL
  unfold xcnd at kk
  cases cd with
  | eq => exact lv_icmp_eq C.1 C.2.1 hd ht (fun h => by simpa [h] using kk) (fun h => by simpa [h] using kk)
  | ne => exact lv_icmp_ne C.1 C.2.1 hd ht (fun h => by simpa [h] using kk) (fun h => by simpa [h] using kk)
  | lt => exact lv_icmp_lt C.1 C.2.1 hd ht (fun h => by simpa [h] using kk) (fun h => by simpa [h] using kk)
  | ge => exact lv_icmp_ge C.1 C.2.1 hd ht (fun h => by simpa [h] using kk) (fun h => by simpa [h] using kk)
  | gt => exact lv_icmp_gt C.1 C.2.1 hd ht (fun h => by simpa [h] using kk) (fun h => by simpa [h] using kk)
  | le => exact lv_icmp_le C.1 C.2.1 hd ht (fun h => by simpa [h] using kk) (fun h => by simpa [h] using kk)
theorem xw_aload (C : xCtx p s m args meth c D ac E own cc nL ini) {i : Nat} {x : Option xId} (hd : decode cc pc = .ok (.aload i, 2)) (hi : xld ls i = some (.inr (.inr x)))
    (k : xW p l e R s m args below meth c Q D ac E n0 z0 (pc + 2) ls (.inr (.inr x) :: st) M) : xW p l e R s m args below meth c Q D ac E n0 z0 pc ls st M := by
  intro H locs la hR hS hL
  have h := hL.at hi
  have kk := k H locs la hR hS hL
  cases x with
  | none => exact lv_aloadN C.1 C.2.1 hd h kk
  | some a => exact lv_aload C.1 C.2.1 hd h kk
theorem xw_aload_n (C : xCtx p s m args meth c D ac E own cc nL ini) {i : Fin 4} {x : Option xId} (hd : decode cc pc = .ok (.aload_n i, 1)) (hi : xld ls i = some (.inr (.inr x)))
    (k : xW p l e R s m args below meth c Q D ac E n0 z0 (pc + 1) ls (.inr (.inr x) :: st) M) : xW p l e R s m args below meth c Q D ac E n0 z0 pc ls st M := by
  intro H locs la hR hS hL
  have h := hL.at hi
  have kk := k H locs la hR hS hL
  cases x with
  | none => exact lv_aload_nN C.1 C.2.1 hd rfl h kk
  | some a => exact lv_aload_n C.1 C.2.1 hd rfl h kk
theorem xw_astore (C : xCtx p s m args meth c D ac E own cc nL ini) {i : Nat} {x : Option xId} (hd : decode cc pc = .ok (.astore i, 2)) (hi : xst1 ls i (.inr (.inr x)) = some ls')
    (k : xW p l e R s m args below meth c Q D ac E n0 z0 (pc + 2) ls' st M) : xW p l e R s m args below meth c Q D ac E n0 z0 pc ls (.inr (.inr x) :: st) M := by
  intro H locs la hR hS hL
  have hlt : i < ls.length := by
    unfold xst1 at hi
    split at hi
    next hc => exact hc.1
    next => cases hi
  cases x with
  | none => exact lv_astoreN C.1 C.2.1 hd hL.has hlt rfl (fun la' h' => k H locs la' hR hS (xLR.st1 hi h'))
  | some a => exact lv_astore C.1 C.2.1 hd hL.has hlt rfl (fun la' h' => k H locs la' hR hS (xLR.st1 hi h'))
theorem xw_astore_n (C : xCtx p s m args meth c D ac E own cc nL ini) {i : Fin 4} {x : Option xId} (hd : decode cc pc = .ok (.astore_n i, 1)) (hi : xst1 ls i (.inr (.inr x)) = some ls')
    (k : xW p l e R s m args below meth c Q D ac E n0 z0 (pc + 1) ls' st M) : xW p l e R s m args below meth c Q D ac E n0 z0 pc ls (.inr (.inr x) :: st) M := by
  intro H locs la hR hS hL
  have hlt : (i : Nat) < ls.length := by
    unfold xst1 at hi
    split at hi
    next hc => exact hc.1
    next => cases hi
  cases x with
  | none => exact lv_astore_nN C.1 C.2.1 hd rfl hL.has hlt rfl (fun la' h' => k H locs la' hR hS (xLR.st1 hi h'))
  | some a => exact lv_astore_n C.1 C.2.1 hd rfl hL.has hlt rfl (fun la' h' => k H locs la' hR hS (xLR.st1 hi h'))
theorem xst1_lt {i : Nat} {v : xVal} (hi : xst1 ls i v = some ls') : i < ls.length := by
  unfold xst1 at hi
  split at hi
  next hc => exact hc.1
  next => cases hi
theorem xst2_lt {i : Nat} {v : xVal} (hi : xst2 ls i v = some ls') : i + 1 < ls.length := by
  unfold xst2 at hi
  split at hi
  next hc => exact hc.1
  next => cases hi
theorem xw_iinc (C : xCtx p s m args meth c D ac E own cc nL ini) {i : Nat} {n : Int} {x : Int32} (hd : decode cc pc = .ok (.iinc i n, 3)) (hx : xld ls i = some (.inl x)) (hi : xst1 ls i (.inl (x + Int32.ofInt n)) = some ls')
    (k : xW p l e R s m args below meth c Q D ac E n0 z0 (pc + 3) ls' st M) : xW p l e R s m args below meth c Q D ac E n0 z0 pc ls st M := by
  intro H locs la hR hS hL
  have hm : (i, xcv E (.inl x)) ∈ xlv E ls := by
    refine xlv_mem ?_
    unfold xld at hx
    split at hx
    next o ho => rw [ho, hx]
    next => cases hx
  obtain ⟨kp, hkp⟩ := List.getElem?_of_mem hm
  exact lv_iinc C.1 C.2.1 hd hL.has hkp rfl (xst1_lt hi) rfl (fun la' h' => k H locs la' hR hS (xLR.st1 hi h'))
theorem xcl_N {a : xId} {q : Nat × Nat} (h : xsh a = some q) (ht : q.1 ≤ 8) : ∃ r : vw_C, xcl[q.1]? = some r ∧ r.2.2 = q.2 := by
  have key : ∀ k, k < 82 → (xkT k).1 ≤ 8 → ∃ r : vw_C, xcl[(xkT k).1]? = some r ∧ r.2.2 = (xkT k).2.1 := by
    intro k hk
    have h0 : ∀ k, k < 82 → (xkT k).1 ≤ 8 → (xcl.map (fun r => r.2.2))[(xkT k).1]? = some (xkT k).2.1 := by decide +kernel
    intro h1
    have h2 := h0 k hk h1
    rw [List.getElem?_map] at h2
    cases hr : xcl[(xkT k).1]? with
    | none => rw [hr] at h2; cases h2
    | some r => rw [hr] at h2; exact ⟨r, rfl, Option.some.inj h2⟩
  obtain ⟨k, b, i⟩ := a
  have hk : k < 82 := by
    by_cases hk : k < 82
    · exact hk
    · exfalso
      have h3 : xkT k = (99, 0, 0, 0) := by
        unfold xkT
        split <;> first | rfl | omega
      unfold xsh at h
      rw [h3] at h
      rw [if_neg (fun z => absurd z.1 (Nat.not_lt_zero _))] at h
      cases h
  unfold xsh at h
  split at h
  next => cases h; exact key k hk ht
  next => cases h
theorem xkT_le {a : xId} {q : Nat × Nat} (h : xsh a = some q) : q.1 ≤ 8 ∨ (20 ≤ q.1 ∧ q.1 ≤ 25) := by
  have key : ∀ k, k < 82 → (xkT k).1 ≤ 8 ∨ (20 ≤ (xkT k).1 ∧ (xkT k).1 ≤ 25) := by decide +kernel
  obtain ⟨k, b, i⟩ := a
  by_cases hk : k < 82
  · unfold xsh at h
    split at h
    next => cases h; exact key k hk
    next => cases h
  · exfalso
    have h3 : xkT k = (99, 0, 0, 0) := by
      unfold xkT
      split <;> first | rfl | omega
    unfold xsh at h
    rw [h3] at h
    rw [if_neg (fun z => absurd z.1 (Nat.not_lt_zero _))] at h
    cases h
end XS
theorem xu_all : ∀ w ∈ u_ws RX0 TX0 8 ++ (u_ws RX1 TX1 2 ++ (u_ws RX2 TX2 18 ++ (u_ws RX3 TX3 8 ++ (u_ws RX5 TX5 2 ++ (u_ws RX6 TX6 6 ++ (u_ws RX7 TX7 11 ++ (u_ws RX8 TX8 15 ++ u_ws RX9 TX9 55))))))), w ∈ xALL := by
  have h : (u_ws RX0 TX0 8 ++ (u_ws RX1 TX1 2 ++ (u_ws RX2 TX2 18 ++ (u_ws RX3 TX3 8 ++ (u_ws RX5 TX5 2 ++ (u_ws RX6 TX6 6 ++ (u_ws RX7 TX7 11 ++ (u_ws RX8 TX8 15 ++ u_ws RX9 TX9 55)))))))).all (fun w => decide (w ∈ lw_tbl) && goodWord w) = true := by decide +kernel
  intro w hw
  have h1 := List.all_eq_true.mp h w hw
  simp only [Bool.and_eq_true, decide_eq_true_eq] at h1
  exact List.mem_filter.mpr h1
/-- what is known of a class of the system -/
theorem xcl_ok {ci : Nat} {q : vw_C} (h : xcl[ci]? = some q) : (∀ w ∈ u_ws q.1 q.2.1 q.2.2, w ∈ xALL) ∧ (∀ k, k < q.2.2 → parseFieldDescriptor (q.2.1 k).2.2.1 = some (xty ci k)) ∧ (∀ a, a < q.2.2 → ∀ b, b < q.2.2 → a ≠ b → (q.2.1 a).2.1 ≠ (q.2.1 b).2.1) := by
  have u := xu_all
  match ci, h with
  | 0, h => cases h; exact ⟨fun w hw => u w (by simp only [List.mem_append]; exact Or.inl hw), tyX0_ok, nmX0⟩
  | 1, h => cases h; exact ⟨fun w hw => u w (by simp only [List.mem_append]; exact Or.inr (Or.inl hw)), tyX1_ok, nmX1⟩
  | 2, h => cases h; exact ⟨fun w hw => u w (by simp only [List.mem_append]; exact Or.inr (Or.inr (Or.inl hw))), tyX2_ok, nmX2⟩
  | 3, h => cases h; exact ⟨fun w hw => u w (by simp only [List.mem_append]; exact Or.inr (Or.inr (Or.inr (Or.inl hw)))), tyX3_ok, nmX3⟩
  | 4, h => cases h; exact ⟨fun w hw => u w (by simp only [List.mem_append]; exact Or.inr (Or.inr (Or.inr (Or.inr (Or.inl hw))))), tyX5_ok, nmX5⟩
  | 5, h => cases h; exact ⟨fun w hw => u w (by simp only [List.mem_append]; exact Or.inr (Or.inr (Or.inr (Or.inr (Or.inr (Or.inl hw)))))), tyX6_ok, nmX6⟩
  | 6, h => cases h; exact ⟨fun w hw => u w (by simp only [List.mem_append]; exact Or.inr (Or.inr (Or.inr (Or.inr (Or.inr (Or.inr (Or.inl hw))))))), tyX7_ok, nmX7⟩
  | 7, h => cases h; exact ⟨fun w hw => u w (by simp only [List.mem_append]; exact Or.inr (Or.inr (Or.inr (Or.inr (Or.inr (Or.inr (Or.inr (Or.inl hw)))))))), tyX8_ok, nmX8⟩
  | 8, h => cases h; exact ⟨fun w hw => u w (by simp only [List.mem_append]; exact Or.inr (Or.inr (Or.inr (Or.inr (Or.inr (Or.inr (Or.inr (Or.inr hw)))))))), tyX9_ok, nmX9⟩
  | n + 9, h => simp [xcl] at h
def xisR : FieldType → Bool
  | .object _ => true
  | .array _ => true
  | _ => false
/-- what a field's number says of its type -/
theorem xft_ok {ci k : Nat} {q : vw_C} (h : xcl[ci]? = some q) (hk : k < q.2.2) : (xft ci k = 0 ∧ xty ci k = .int) ∨ (xft ci k = 1 ∧ xty ci k = .long) ∨ (xft ci k = 2 ∧ xisR (xty ci k) = true) ∨ (xft ci k = 3 ∧ xty ci k = .boolean) := by
  have key : ∀ ci, ci < 9 → ∀ k, k < (xcl.map (fun r => r.2.2)).getD ci 0 → (xft ci k = 0 ∧ xty ci k = .int) ∨ (xft ci k = 1 ∧ xty ci k = .long) ∨ (xft ci k = 2 ∧ xisR (xty ci k) = true) ∨ (xft ci k = 3 ∧ xty ci k = .boolean) := by decide +kernel
  have hlt : ci < 9 := (List.getElem?_eq_some_iff.mp h).1
  refine key ci hlt k ?_
  rw [List.getD_eq_getElem?_getD, List.getElem?_map, h]
  exact hk
