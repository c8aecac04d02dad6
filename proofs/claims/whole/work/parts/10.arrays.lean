/-! arrays, and what is made -/
section XA
variable {p : Program} {l : Launch} {e : Env} {R : Room} {s : State} {m : MethodId} {args : Array Value} {below : List Frame} {meth : Method} {c : Code} {Q : State → Prop} {D : va_G} {ac : Nat → ClassId} {E : Nat × Nat} {n0 z0 : Nat}
variable {own : String} {cc : ByteArray} {nL : Nat} {ini : Bool} {pc : Nat} {ls ls' : List (Option xVal)} {st st' : List xVal} {M M' : xMem} {top : Option (Nat × (Nat → Int32))}
theorem xArr_of {U : State} (hK : va_K D xcl (xtys ac) U) : ArrOfT U (ac 20) .int ∧ ArrOfT U (ac 21) .long ∧ ArrOfT U (ac 22) .boolean ∧ ArrOfT U (ac 23) (.object RX2) ∧ ArrOfT U (ac 24) (.object RX5) ∧ ArrOfT U (ac 25) (.array .int) :=
  ⟨(hK.2 0 _ rfl).1, (hK.2 1 _ rfl).1, (hK.2 2 _ rfl).1, (hK.2 3 _ rfl).1, (hK.2 4 _ rfl).1, (hK.2 5 _ rfl).1⟩
theorem xw_iald (C : xCtx p s m args meth c D ac E own cc nL ini) {r : Option xId} {i : Int32} {a : xId} (hd : decode cc pc = .ok (.iaload, 1)) (ha : xar M r 20 i = some a)
    (kk : xW p l e R s m args below meth c Q D ac E n0 z0 (pc + 1) ls (.inl (M.1 a i.toNatClampNeg) :: st) M) : xW p l e R s m args below meth c Q D ac E n0 z0 pc ls (.inl i :: .inr (.inr r) :: st) M := by
  intro H locs la hR hS hL
  obtain ⟨rfl, n, hsh, hlt, hin⟩ := xar_spec ha
  have hcell := xRep_arr hR hsh hlt (by decide)
  have hlt2 : i.toNatClampNeg < n := Nat.not_le.mp fun q => hin (Or.inr q)
  show W p l e R s m args below meth c H locs _ _ Q (F0 m pc la (.int i :: .ref (xad E a) :: st.map (xcv E)))
  rw [xad_sh hsh]
  exact W.iald (v := .int (M.1 a i.toNatClampNeg)) C.1 C.2.1 hcell ((xArr_of C.2.2.2.2.2.1).1 n _) (fun q => by cases q) (by rw [arrV_size]; exact hin) (by rw [arrV_read _ _ hlt2]; rfl) rfl rfl hd (kk H locs la hR hS hL)
theorem xw_bald (C : xCtx p s m args meth c D ac E own cc nL ini) {r : Option xId} {i : Int32} {a : xId} (hd : decode cc pc = .ok (.baload, 1)) (ha : xar M r 22 i = some a)
    (kk : xW p l e R s m args below meth c Q D ac E n0 z0 (pc + 1) ls (.inl (M.1 a i.toNatClampNeg) :: st) M) : xW p l e R s m args below meth c Q D ac E n0 z0 pc ls (.inl i :: .inr (.inr r) :: st) M := by
  intro H locs la hR hS hL
  obtain ⟨rfl, n, hsh, hlt, hin⟩ := xar_spec ha
  have hcell := xRep_arr hR hsh hlt (by decide)
  have hlt2 : i.toNatClampNeg < n := Nat.not_le.mp fun q => hin (Or.inr q)
  show W p l e R s m args below meth c H locs _ _ Q (F0 m pc la (.int i :: .ref (xad E a) :: st.map (xcv E)))
  rw [xad_sh hsh]
  exact W.zald (v := .int (M.1 a i.toNatClampNeg)) C.1 C.2.1 hcell ((xArr_of C.2.2.2.2.2.1).2.2.1 n _) (fun q => by cases q) (by rw [arrV_size]; exact hin) (by rw [arrV_read _ _ hlt2]; rfl) rfl rfl hd (kk H locs la hR hS hL)
theorem xw_lald (C : xCtx p s m args meth c D ac E own cc nL ini) {r : Option xId} {i : Int32} {a : xId} (hd : decode cc pc = .ok (.laload, 1)) (ha : xar M r 21 i = some a)
    (kk : xW p l e R s m args below meth c Q D ac E n0 z0 (pc + 1) ls (.inr (.inl (M.2.1 a i.toNatClampNeg)) :: st) M) : xW p l e R s m args below meth c Q D ac E n0 z0 pc ls (.inl i :: .inr (.inr r) :: st) M := by
  intro H locs la hR hS hL
  obtain ⟨rfl, n, hsh, hlt, hin⟩ := xar_spec ha
  have hcell := xRep_arr hR hsh hlt (by decide)
  have hlt2 : i.toNatClampNeg < n := Nat.not_le.mp fun q => hin (Or.inr q)
  show W p l e R s m args below meth c H locs _ _ Q (F0 m pc la (.int i :: .ref (xad E a) :: st.map (xcv E)))
  rw [xad_sh hsh]
  exact W.lald (v := .long (M.2.1 a i.toNatClampNeg)) C.1 C.2.1 hcell ((xArr_of C.2.2.2.2.2.1).2.1 n _) (fun q => by cases q) (by rw [arrV_size]; exact hin) (by rw [arrV_read _ _ hlt2]; rfl) rfl rfl hd (kk H locs la hR hS hL)
theorem xw_aald (C : xCtx p s m args meth c D ac E own cc nL ini) {t : Nat} {r : Option xId} {i : Int32} {a : xId} (ht : t = 23 ∨ t = 24 ∨ t = 25) (hd : decode cc pc = .ok (.aaload, 1)) (ha : xar M r t i = some a)
    (kk : xW p l e R s m args below meth c Q D ac E n0 z0 (pc + 1) ls (.inr (.inr (M.2.2.1 a i.toNatClampNeg)) :: st) M) : xW p l e R s m args below meth c Q D ac E n0 z0 pc ls (.inl i :: .inr (.inr r) :: st) M := by
  intro H locs la hR hS hL
  obtain ⟨rfl, n, hsh, hlt, hin⟩ := xar_spec ha
  have hcell := xRep_arr hR hsh hlt (by omega)
  have hlt2 : i.toNatClampNeg < n := Nat.not_le.mp fun q => hin (Or.inr q)
  have hA := xArr_of C.2.2.2.2.2.1
  have hv : xav E M t a i.toNatClampNeg = va_rf ((M.2.2.1 a i.toNatClampNeg).map (xad E)) := by
    unfold xav
    rw [if_neg (by omega), if_neg (by omega)]
  show W p l e R s m args below meth c H locs _ _ Q (F0 m pc la (.int i :: .ref (xad E a) :: st.map (xcv E)))
  rw [xad_sh hsh]
  have go : ∀ ty : FieldType, ArrOfT s (ac t) ty → ty.isReference = true → W p l e R s m args below meth c H locs (M.2.2.2.1 - n0) (M.2.2.2.2 - z0) Q (F0 m pc la (.int i :: .ref (E.1 + xnum a) :: st.map (xcv E))) := fun ty h1 h2 =>
    W.aald (v := va_rf ((M.2.2.1 a i.toNatClampNeg).map (xad E))) C.1 C.2.1 hcell (h1 n _) h2 (fun q => by cases q) (by rw [arrV_size]; exact hin) (by rw [arrV_read _ _ hlt2, hv]) rfl rfl hd (kk H locs la hR hS hL)
  rcases ht with rfl | rfl | rfl
  · exact go _ hA.2.2.2.1 rfl
  · exact go _ hA.2.2.2.2.1 rfl
  · exact go _ hA.2.2.2.2.2 rfl
theorem xup_ne {α : Type} {f : xId → Nat → α} {a b : xId} {k : Nat} {x : α} (h : b ≠ a) : xup f a k x b = f b := by unfold xup; rw [if_neg h]
theorem xup_at {α : Type} {f : xId → Nat → α} {a : xId} {k j : Nat} {x : α} : xup f a k x a j = if j = k then x else f a j := by unfold xup; rw [if_pos rfl]; rfl
theorem xrw_ne {α : Type} {f : xId → Nat → α} {a b : xId} {g : Nat → α} (h : b ≠ a) : xrw f a g b = f b := by unfold xrw; rw [if_neg h]
theorem xrw_at {α : Type} {f : xId → Nat → α} {a : xId} {g : Nat → α} : xrw f a g a = g := by unfold xrw; rw [if_pos rfl]
theorem xw_iast (C : xCtx p s m args meth c D ac E own cc nL ini) {r : Option xId} {i x : Int32} {a : xId} (hd : decode cc pc = .ok (.iastore, 1)) (ha : xar M r 20 i = some a)
    (kk : xW p l e R s m args below meth c Q D ac E n0 z0 (pc + 1) ls st (xsi M a i.toNatClampNeg x)) : xW p l e R s m args below meth c Q D ac E n0 z0 pc ls (.inl x :: .inl i :: .inr (.inr r) :: st) M := by
  intro H locs la hR hS hL
  obtain ⟨rfl, n, hsh, hlt, hin⟩ := xar_spec ha
  have hcell := xRep_arr hR hsh hlt (by decide)
  show W p l e R s m args below meth c H locs _ _ Q (F0 m pc la (.int x :: .int i :: .ref (xad E a) :: st.map (xcv E)))
  rw [xad_sh hsh]
  refine W.iast C.1 C.2.1 hcell ((xArr_of C.2.2.2.2.2.1).1 n _) (fun q => by cases q) (by rw [arrV_size]; exact hin) rfl rfl hd fun H' e1 e2 e3 => ?_
  refine kk H' _ la (xRep_set hR hsh ?_ e2 rfl e3 fun b hb => ⟨xup_ne hb, rfl, rfl⟩) (hS.put e2 e3 (Nat.le_add_right _ _)) hL
  unfold xcell
  rw [if_neg (show ¬ 20 ≤ 8 by decide), e1, arrV_store]
  refine congrArg (fun f => some (arrV (ac 20) n f)) (funext fun j => ?_)
  show updV _ _ _ j = Value.int (xup _ _ _ _ a j)
  rw [xup_at]
  by_cases hj : j = i.toNatClampNeg
  · rw [if_pos hj]; simp [updV, hj]
  · rw [if_neg hj]; simp [updV, hj, xav]
theorem xw_bast (C : xCtx p s m args meth c D ac E own cc nL ini) {r : Option xId} {i x : Int32} {a : xId} (hd : decode cc pc = .ok (.bastore, 1)) (ha : xar M r 22 i = some a)
    (kk : xW p l e R s m args below meth c Q D ac E n0 z0 (pc + 1) ls st (xsi M a i.toNatClampNeg (vp_nar .boolean x))) : xW p l e R s m args below meth c Q D ac E n0 z0 pc ls (.inl x :: .inl i :: .inr (.inr r) :: st) M := by
  intro H locs la hR hS hL
  obtain ⟨rfl, n, hsh, hlt, hin⟩ := xar_spec ha
  have hcell := xRep_arr hR hsh hlt (by decide)
  show W p l e R s m args below meth c H locs _ _ Q (F0 m pc la (.int x :: .int i :: .ref (xad E a) :: st.map (xcv E)))
  rw [xad_sh hsh]
  refine W.zast C.1 C.2.1 hcell ((xArr_of C.2.2.2.2.2.1).2.2.1 n _) (fun q => by cases q) (by rw [arrV_size]; exact hin) rfl rfl hd fun H' e1 e2 e3 => ?_
  refine kk H' _ la (xRep_set hR hsh ?_ e2 rfl e3 fun b hb => ⟨xup_ne hb, rfl, rfl⟩) (hS.put e2 e3 (Nat.le_add_right _ _)) hL
  unfold xcell
  rw [if_neg (show ¬ 22 ≤ 8 by decide), e1, arrV_store]
  refine congrArg (fun f => some (arrV (ac 22) n f)) (funext fun j => ?_)
  show updV _ _ _ j = Value.int (xup _ _ _ _ a j)
  rw [xup_at]
  by_cases hj : j = i.toNatClampNeg
  · rw [if_pos hj]; simp [updV, hj, vp_nar]; try rfl
  · rw [if_neg hj]; simp [updV, hj, xav]
theorem xw_last (C : xCtx p s m args meth c D ac E own cc nL ini) {r : Option xId} {i : Int32} {x : Int64} {a : xId} (hd : decode cc pc = .ok (.lastore, 1)) (ha : xar M r 21 i = some a)
    (kk : xW p l e R s m args below meth c Q D ac E n0 z0 (pc + 1) ls st (xsl M a i.toNatClampNeg x)) : xW p l e R s m args below meth c Q D ac E n0 z0 pc ls (.inr (.inl x) :: .inl i :: .inr (.inr r) :: st) M := by
  intro H locs la hR hS hL
  obtain ⟨rfl, n, hsh, hlt, hin⟩ := xar_spec ha
  have hcell := xRep_arr hR hsh hlt (by decide)
  show W p l e R s m args below meth c H locs _ _ Q (F0 m pc la (.long x :: .int i :: .ref (xad E a) :: st.map (xcv E)))
  rw [xad_sh hsh]
  refine W.last C.1 C.2.1 hcell ((xArr_of C.2.2.2.2.2.1).2.1 n _) (fun q => by cases q) (by rw [arrV_size]; exact hin) rfl rfl hd fun H' e1 e2 e3 => ?_
  refine kk H' _ la (xRep_set hR hsh ?_ e2 rfl e3 fun b hb => ⟨rfl, xup_ne hb, rfl⟩) (hS.put e2 e3 (Nat.le_add_right _ _)) hL
  unfold xcell
  rw [if_neg (show ¬ 21 ≤ 8 by decide), e1, arrV_store]
  refine congrArg (fun f => some (arrV (ac 21) n f)) (funext fun j => ?_)
  show updV _ _ _ j = Value.long (xup _ _ _ _ a j)
  rw [xup_at]
  by_cases hj : j = i.toNatClampNeg
  · rw [if_pos hj]; simp [updV, hj]
  · rw [if_neg hj]; simp [updV, hj, xav]
theorem xw_aast (C : xCtx p s m args meth c D ac E own cc nL ini) {t u : Nat} {r : Option xId} {i : Int32} {a v : xId} (ht : (t = 23 ∧ u = 2) ∨ (t = 24 ∧ u = 4)) (hd : decode cc pc = .ok (.aastore, 1)) (ha : xar M r t i = some a) {v0 : Option xId} (hv : xob M v0 u = some v)
    (kk : xW p l e R s m args below meth c Q D ac E n0 z0 (pc + 1) ls st (xsr M a i.toNatClampNeg (some v))) : xW p l e R s m args below meth c Q D ac E n0 z0 pc ls (.inr (.inr v0) :: .inl i :: .inr (.inr r) :: st) M := by
  intro H locs la hR hS hL
  obtain ⟨rfl, n, hsh, hlt, hin⟩ := xar_spec ha
  obtain ⟨rfl, nv, hshv, hltv⟩ := xob_spec hv
  have hcell := xRep_arr hR hsh hlt (by omega)
  have hob := xRep_obj hR hshv hltv (by omega)
  obtain ⟨cellV, g1, g2, g3, -⟩ := hob
  obtain ⟨hx, hb, -, -, -, hK, -⟩ := C
  have hlt2 : i.toNatClampNeg < n := Nat.not_le.mp fun q => hin (Or.inr q)
  have h0 : ¬ i < 0 := fun q => hin (Or.inl q)
  show W p l e R s m args below meth c H locs _ _ Q (F0 m pc la (.ref (xad E v) :: .int i :: .ref (xad E a) :: st.map (xcv E)))
  rw [xad_sh hsh, xad_sh hshv]
  have go : ∀ (kA : Class) (comp : ClassId) (C : String), s.vm.classes[ac t]? = some kA → kA.kind = .array comp (.object C) → s.vm.findClass C = some comp → ClassAt s C (D.1 u) →
      W p l e R s m args below meth c H locs (M.2.2.2.1 - n0) (M.2.2.2.2 - z0) Q (F0 m pc la (.ref (E.1 + xnum v) :: .int i :: .ref (E.1 + xnum a) :: st.map (xcv E))) := by
    intro kA comp C k1 k2 k3 hcls
    have hcomp : comp = D.1 u := Option.some.inj (k3.symm.trans hcls.1)
    subst hcomp
    obtain ⟨kC, hkC, -⟩ := id hcls.2
    refine W.aast hx hb hcell (fun q h => by cases h) (fun h => by cases h) k1 k2 rfl hkC ⟨h0, by rw [arrV_size]; exact hlt2⟩ g1 (fun q h => by rw [g3] at h; cases h) (by rw [g2]; exact hkC) (by rw [g2]; exact va_assign hcls) rfl rfl hd fun H' e1 e2 e3 => ?_
    refine kk H' _ la (xRep_set hR hsh ?_ e2 rfl e3 fun b hb => ⟨rfl, rfl, xup_ne hb⟩) (hS.put e2 e3 (Nat.le_add_right _ _)) hL
    unfold xcell
    rw [if_neg (show ¬ t ≤ 8 by omega), e1, arrV_store]
    refine congrArg (fun f => some (arrV (ac t) n f)) (funext fun j => ?_)
    have e4 : ∀ M1 : xMem, xav E M1 t a j = va_rf ((M1.2.2.1 a j).map (xad E)) := fun M1 => by unfold xav; rw [if_neg (by omega), if_neg (by omega)]
    rw [e4]
    show updV _ _ _ j = va_rf (Option.map _ (xup _ _ _ _ a j))
    rw [xup_at]
    by_cases hj : j = i.toNatClampNeg
    · rw [if_pos hj]; simp [updV, hj, va_rf, xad_sh hshv]
    · rw [if_neg hj]; simp only [updV, hj, if_false]; exact e4 M
  rcases ht with ⟨rfl, rfl⟩ | ⟨rfl, rfl⟩
  · obtain ⟨kA, comp, k1, k2, k3, -⟩ := (hK.2 3 _ rfl).2
    exact go kA comp _ k1 k2 k3 (hK.1 2 _ rfl).2
  · obtain ⟨kA, comp, k1, k2, k3, -⟩ := (hK.2 4 _ rfl).2
    exact go kA comp _ k1 k2 k3 (hK.1 4 _ rfl).2
theorem xw_alen (C : xCtx p s m args meth c D ac E own cc nL ini) {a : xId} {t n : Nat} (hd : decode cc pc = .ok (.arraylength, 1)) (hsh : xsh a = some (t, n)) (hlt : xnum a < M.2.2.2.1) (h1 : 20 ≤ t) (h2 : t ≤ 22)
    (kk : xW p l e R s m args below meth c Q D ac E n0 z0 (pc + 1) ls (.inl (Int32.ofNat n) :: st) M) : xW p l e R s m args below meth c Q D ac E n0 z0 pc ls (.inr (.inr (some a)) :: st) M := by
  intro H locs la hR hS hL
  have hcell := xRep_arr hR hsh hlt (by omega)
  have hA := xArr_of C.2.2.2.2.2.1
  show W p l e R s m args below meth c H locs _ _ Q (F0 m pc la (.ref (xad E a) :: st.map (xcv E)))
  rw [xad_sh hsh]
  have go : ∀ ty : FieldType, ArrOfT s (ac t) ty → W p l e R s m args below meth c H locs (M.2.2.2.1 - n0) (M.2.2.2.2 - z0) Q (F0 m pc la (.ref (E.1 + xnum a) :: st.map (xcv E))) := fun ty h3 =>
    W.alen (n := Int32.ofNat n) C.1 C.2.1 hcell (h3 n _) (by rw [arrV_size] <;> rfl) rfl rfl hd (kk H locs la hR hS hL)
  rcases (by omega : t = 20 ∨ t = 21 ∨ t = 22) with rfl | rfl | rfl
  · exact go _ hA.1
  · exact go _ hA.2.1
  · exact go _ hA.2.2.1
/-- the law's script -/
theorem xw_sld (C : xCtx p s m args meth c D ac E own cc nL ini) {t : Nat × (Nat → Int32)} {i : Int32} (hT : xTop E s (some t)) (hd : decode cc pc = .ok (.iaload, 1)) (hi : xinR i t.1)
    (kk : xW p l e R s m args below meth c Q D ac E n0 z0 (pc + 1) ls (.inl (t.2 i.toNatClampNeg) :: st) M) : xW p l e R s m args below meth c Q D ac E n0 z0 pc ls (.inl i :: .inr (.inr (some (99, 0, 0))) :: st) M := by
  intro H locs la hR hS hL
  exact va_sld C.1 C.2.1 hT.1 hT.2.1 (Nat.not_le.mpr hT.2.2) hS hi hd (kk H locs la hR hS hL)
theorem xw_slen (C : xCtx p s m args meth c D ac E own cc nL ini) {t : Nat × (Nat → Int32)} (hT : xTop E s (some t)) (hd : decode cc pc = .ok (.arraylength, 1))
    (kk : xW p l e R s m args below meth c Q D ac E n0 z0 (pc + 1) ls (.inl (Int32.ofNat t.1) :: st) M) : xW p l e R s m args below meth c Q D ac E n0 z0 pc ls (.inr (.inr (some (99, 0, 0))) :: st) M := by
  intro H locs la hR hS hL
  exact va_slen C.1 C.2.1 hT.1 hT.2.1 (Nat.not_le.mpr hT.2.2) hS hd (kk H locs la hR hS hL)
end XA
