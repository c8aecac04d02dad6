/-! what is made; System.arraycopy -/
/-- System.arraycopy over (n, destPos, dest, srcPos, src) -/
def xcopy (M : xMem) (n dp sp : Int32) (d a : xId) : Option xMem := match xsh a, xsh d with
  | some q, some r => if q.1 = r.1 ∧ xnum a < M.2.2.2.1 ∧ xnum d < M.2.2.2.1 ∧ ¬ sp < 0 ∧ ¬ dp < 0 ∧ ¬ n < 0 ∧ sp.toNatClampNeg + n.toNatClampNeg ≤ q.2 ∧ dp.toNatClampNeg + n.toNatClampNeg ≤ r.2 then
      (if q.1 = 20 then some (xsri M d (va_cpy (M.1 a) (M.1 d) sp.toNatClampNeg dp.toNatClampNeg n.toNatClampNeg)) else if q.1 = 21 then some (xsrl M d (va_cpy (M.2.1 a) (M.2.1 d) sp.toNatClampNeg dp.toNatClampNeg n.toNatClampNeg)) else none)
    else none
  | _, _ => none
section XM
variable {p : Program} {l : Launch} {e : Env} {R : Room} {s : State} {m : MethodId} {args : Array Value} {below : List Frame} {meth : Method} {c : Code} {Q : State → Prop} {D : va_G} {ac : Nat → ClassId} {E : Nat × Nat} {n0 z0 : Nat}
variable {own : String} {cc : ByteArray} {nL : Nat} {ini : Bool} {pc : Nat} {ls ls' : List (Option xVal)} {st st' : List xVal} {M M' : xMem} {top : Option (Nat × (Nat → Int32))}
theorem xS_push {H H' : Heap} {locs : List Loc} (hS : va_S (fun q : Nat => E.1 ≤ q) s.heap H locs) (hz : H.size ≤ H'.size) (ho : ∀ q : Nat, q < H.size → H'[q]? = H[q]?) : va_S (fun q : Nat => E.1 ≤ q) s.heap H' locs :=
  ⟨Nat.le_trans hS.1 hz, fun x h1 h2 => (ho x (Nat.lt_of_lt_of_le h1 hS.1)).trans (hS.2.1 x h1 h2), hS.2.2⟩
theorem xnum_id {n : Nat} (h : n < xT) : xnum (xid n) = n := (xnum_ok n h).1
theorem xw_new (C : xCtx p s m args meth c D ac E own cc nL ini) {idx ci N pl : Nat} (hd : decode cc pc = .ok (.new idx, 3)) (hok : xokL own ini pc (.new idx, 3, ci, N, pl) = true) (hsh : xsh (xid M.2.2.2.1) = some (ci, N)) (hlt : M.2.2.2.1 < xT) (hn0 : n0 ≤ M.2.2.2.1) (hz0 : z0 ≤ M.2.2.2.2)
    (hc : M.2.2.2.1 + 1 - n0 ≤ R.cells) (hs : M.2.2.2.2 + N - z0 ≤ R.slots) (kk : xW p l e R s m args below meth c Q D ac E n0 z0 (pc + 3) ls (.inr (.inr (some (xid M.2.2.2.1))) :: st) (xnw M (xid M.2.2.2.1) N)) : xW p l e R s m args below meth c Q D ac E n0 z0 pc ls st M := by
  intro H locs la hR hS hL
  dsimp only [xokL] at hok
  split at hok
  next q w hq hw =>
    simp only [Bool.and_eq_true, decide_eq_true_eq] at hok
    obtain ⟨⟨⟨hN, h1⟩, h2⟩, h3⟩ := hok
    obtain ⟨hx, hb, hml, hown, hts, hK, -⟩ := C
    have hci : ci < 9 := (List.getElem?_eq_some_iff.mp hq).1
    obtain ⟨hin, hty, hnm⟩ := xcl_ok hq
    have hKn := hK.1 ci _ hq
    subst hN
    refine W.newcK hx hb hown (hts _ (xhw_in h1)) (hts _ (xhw_in h2)) (hts _ (xhw_in h3)) rfl hd (by omega) (by omega) hKn.2.1 (h := E.1 + M.2.2.2.1) hR.1 fun H1 kC hkC e1 z1 o1 => ?_
    have hnum := xnum_id hlt
    have hR1 := xRep_new (z := q.2.2) hR hsh hlt (H' := H1) (by
      unfold xcell
      rw [if_pos (show ci ≤ 8 by omega), hnum]
      refine (u_born (xty ci) hts hin hKn hkC e1 hty).to fun j hj => ?_
      have hf := xft_ok hq hj
      unfold xfv
      rcases hf with ⟨f1, f2⟩ | ⟨f1, f2⟩ | ⟨f1, f2⟩ | ⟨f1, f2⟩
      · rw [f1, f2]; show _ = Value.int (xrw _ _ _ _ j); rw [xrw_at]; rfl
      · rw [f1, f2]; show _ = Value.long (xrw _ _ _ _ j); rw [xrw_at]; rfl
      · rw [f1]; show _ = va_rf (Option.map _ (xrw _ _ _ _ j)); rw [xrw_at]; generalize xty ci j = ty at f2 ⊢; cases ty <;> first | (cases f2; done) | rfl
      · rw [f1, f2]; show _ = Value.int (xrw _ _ _ _ j); rw [xrw_at]; rfl) (by rw [z1, hR.1]) (fun x hx => o1 x (by rw [← hR.1]; exact hx))
    have k2 := kk H1 locs la hR1 (xS_push hS (by rw [z1, hR.1]; omega) (fun x hx => o1 x (by rw [← hR.1]; exact hx))) hL
    have e2 : xad E (xid M.2.2.2.1) = E.1 + M.2.2.2.1 := by rw [xad_sh hsh, hnum]
    have e3 : (xnw M (xid M.2.2.2.1) q.2.2).2.2.2.1 - n0 = M.2.2.2.1 - n0 + 1 := by show M.2.2.2.1 + 1 - n0 = _; omega
    have e4 : (xnw M (xid M.2.2.2.1) q.2.2).2.2.2.2 - z0 = M.2.2.2.2 - z0 + q.2.2 := by show M.2.2.2.2 + q.2.2 - z0 = _; omega
    rw [e3, e4] at k2
    rw [← e2]
    exact k2
  next => cases hok
theorem xw_newa (C : xCtx p s m args meth c D ac E own cc nL ini) {at_ : ArrayType} {t pl : Nat} {n : Int32} (hd : decode cc pc = .ok (.newarray at_, 2)) (hok : xokL own ini pc (.newarray at_, 2, t, 0, pl) = true) (hn : ¬ n < 0) (hsh : xsh (xid M.2.2.2.1) = some (t, n.toNatClampNeg)) (hlt : M.2.2.2.1 < xT) (hn0 : n0 ≤ M.2.2.2.1) (hz0 : z0 ≤ M.2.2.2.2)
    (hc : M.2.2.2.1 + 1 - n0 ≤ R.cells) (hs : M.2.2.2.2 + n.toNatClampNeg - z0 ≤ R.slots) (hbig : n.toNatClampNeg ≤ 10000) (kk : xW p l e R s m args below meth c Q D ac E n0 z0 (pc + 2) ls (.inr (.inr (some (xid M.2.2.2.1))) :: st) (xnw M (xid M.2.2.2.1) n.toNatClampNeg)) : xW p l e R s m args below meth c Q D ac E n0 z0 pc ls (.inl n :: st) M := by
  intro H locs la hR hS hL
  have hnum := xnum_id hlt
  obtain ⟨hx, hb, hml, hown, hts, hK, -⟩ := C
  have go : ∀ ty : FieldType, newarray.typeOf at_ = ty → xhw pl (.arrayClass ty) = true → s.vm.findClass ("[" ++ ty.toString) = some (ac t) → 20 ≤ t → t ≤ 22 → (∀ j, xav E (xnw M (xid M.2.2.2.1) n.toNatClampNeg) t (xid M.2.2.2.1) j = defaultValue ty) → componentBytes ty ≤ 8 →
      W p l e R s m args below meth c H locs (M.2.2.2.1 - n0) (M.2.2.2.2 - z0) Q (F0 m pc la (.int n :: st.map (xcv E))) := by
    intro ty hty hw hfc ht1 ht2 hdv hcb
    subst hty
    refine va_newaK hx hb (hts _ (xhw_in hw)) rfl hd rfl hn rfl (Nat.le_trans (Nat.mul_le_mul hbig hcb) (by decide)) (by omega) (by omega) (h := E.1 + M.2.2.2.1) hR.1 fun H1 cA e1 z1 o1 hAr hNm => ?_
    have hcA : cA = ac t := Option.some.inj (hNm.symm.trans hfc)
    subst hcA
    have hR1 := xRep_new (z := n.toNatClampNeg) hR hsh hlt (H' := H1) (by
      unfold xcell
      rw [if_neg (show ¬ t ≤ 8 by omega), hnum, e1]
      refine congrArg (fun f => some (arrV (ac t) n.toNatClampNeg f)) (funext fun j => (hdv j).symm)) (by rw [z1, hR.1]) (fun x hx => o1 x (by rw [← hR.1]; exact hx))
    have k2 := kk H1 locs la hR1 (xS_push hS (by rw [z1, hR.1]; omega) (fun x hx => o1 x (by rw [← hR.1]; exact hx))) hL
    have e2 : xad E (xid M.2.2.2.1) = E.1 + M.2.2.2.1 := by rw [xad_sh hsh, hnum]
    have e3 : (xnw M (xid M.2.2.2.1) n.toNatClampNeg).2.2.2.1 - n0 = M.2.2.2.1 - n0 + 1 := by show M.2.2.2.1 + 1 - n0 = _; omega
    have e4 : (xnw M (xid M.2.2.2.1) n.toNatClampNeg).2.2.2.2 - z0 = M.2.2.2.2 - z0 + n.toNatClampNeg := by show M.2.2.2.2 + n.toNatClampNeg - z0 = _; omega
    rw [e3, e4] at k2
    rw [← e2]
    exact k2
  cases at_ <;> dsimp only [xokL] at hok <;> first | (cases hok; done) | skip
  · simp only [Bool.and_eq_true, decide_eq_true_eq] at hok
    obtain ⟨rfl, hw⟩ := hok
    refine go .boolean rfl hw (hK.2 2 _ rfl).2 (by decide) (by decide) (fun j => ?_) (by decide)
    show Value.int (xrw _ _ _ _ j) = _
    rw [xrw_at]; rfl
  · simp only [Bool.and_eq_true, decide_eq_true_eq] at hok
    obtain ⟨rfl, hw⟩ := hok
    refine go .int rfl hw (hK.2 0 _ rfl).2 (by decide) (by decide) (fun j => ?_) (by decide)
    show Value.int (xrw _ _ _ _ j) = _
    rw [xrw_at]; rfl
  · simp only [Bool.and_eq_true, decide_eq_true_eq] at hok
    obtain ⟨rfl, hw⟩ := hok
    refine go .long rfl hw (hK.2 1 _ rfl).2 (by decide) (by decide) (fun j => ?_) (by decide)
    show Value.long (xrw _ _ _ _ j) = _
    rw [xrw_at]; rfl
theorem xw_anew (C : xCtx p s m args meth c D ac E own cc nL ini) {idx t pl : Nat} {n : Int32} (hd : decode cc pc = .ok (.anewarray idx, 3)) (hok : xokL own ini pc (.anewarray idx, 3, t, 0, pl) = true) (hov : (Cond.arrayOver (.object RX2)).before args s = true ∧ (Cond.arrayOver (.object RX5)).before args s = true) (hn : ¬ n < 0) (hsh : xsh (xid M.2.2.2.1) = some (t, n.toNatClampNeg)) (hlt : M.2.2.2.1 < xT) (hn0 : n0 ≤ M.2.2.2.1) (hz0 : z0 ≤ M.2.2.2.2)
    (hc : M.2.2.2.1 + 1 - n0 ≤ R.cells) (hs : M.2.2.2.2 + n.toNatClampNeg - z0 ≤ R.slots) (hbig : n.toNatClampNeg ≤ 10000) (kk : xW p l e R s m args below meth c Q D ac E n0 z0 (pc + 3) ls (.inr (.inr (some (xid M.2.2.2.1))) :: st) (xnw M (xid M.2.2.2.1) n.toNatClampNeg)) : xW p l e R s m args below meth c Q D ac E n0 z0 pc ls (.inl n :: st) M := by
  intro H locs la hR hS hL
  have hnum := xnum_id hlt
  obtain ⟨hx, hb, hml, hown, hts, hK, -⟩ := C
  have go : ∀ C : String, (Cond.arrayOver (.object C)).before args s = true → xhw pl (.classLink own idx C) = true → s.vm.findClass ("[" ++ (FieldType.object C).toString) = some (ac t) → 23 ≤ t →
      W p l e R s m args below meth c H locs (M.2.2.2.1 - n0) (M.2.2.2.2 - z0) Q (F0 m pc la (.int n :: st.map (xcv E))) := by
    intro C hov hw hfc ht
    refine W.anew hx hb hown (hts _ (xhw_in hw)) hov rfl hd rfl hn (by omega) (by omega) (by omega) fun cA kA comp f1 f2 f3 f4 => ?_
    have hcA : cA = ac t := Option.some.inj (f1.symm.trans hfc)
    subst hcA
    generalize hH1 : H.push ({ cls := ac t, slots := Array.replicate n.toNatClampNeg .null, vm := .none } : Cell) = H1
    have z1 : H1.size = H.size + 1 := by rw [← hH1, Array.size_push]
    have e1 : H1[H.size]? = some (arrV (ac t) n.toNatClampNeg (fun _ => .null)) := by rw [← hH1, Array.getElem?_push_size, ← arrV_new]
    have o1 : ∀ q : Nat, q < H.size → H1[q]? = H[q]? := fun q hq => by rw [← hH1, Array.getElem?_push, if_neg (Nat.ne_of_lt hq)]
    have hR1 := xRep_new (z := n.toNatClampNeg) hR hsh hlt (H' := H1) (by
      unfold xcell
      rw [if_neg (show ¬ t ≤ 8 by omega), hnum, ← hR.1, e1]
      refine congrArg (fun f => some (arrV (ac t) n.toNatClampNeg f)) (funext fun j => ?_)
      unfold xav
      rw [if_neg (by omega), if_neg (by omega)]
      show _ = va_rf (Option.map _ (xrw _ _ _ _ j))
      rw [xrw_at]; rfl) z1 o1
    have k2 := kk H1 locs la hR1 (xS_push hS (by omega) o1) hL
    have e2 : xad E (xid M.2.2.2.1) = H.size := by rw [xad_sh hsh, hnum, hR.1]
    have e3 : (xnw M (xid M.2.2.2.1) n.toNatClampNeg).2.2.2.1 - n0 = M.2.2.2.1 - n0 + 1 := by show M.2.2.2.1 + 1 - n0 = _; omega
    have e4 : (xnw M (xid M.2.2.2.1) n.toNatClampNeg).2.2.2.2 - z0 = M.2.2.2.2 - z0 + n.toNatClampNeg := by show M.2.2.2.2 + n.toNatClampNeg - z0 = _; omega
    rw [e3, e4] at k2
    rw [← e2]
    exact k2
  dsimp only [xokL] at hok
  simp only [Bool.or_eq_true, Bool.and_eq_true, decide_eq_true_eq] at hok
  rcases hok with ⟨rfl, hw⟩ | ⟨rfl, hw⟩
  · obtain ⟨kA, comp, k1, k2, k3, k4⟩ := (hK.2 3 _ rfl).2
    exact go _ hov.1 hw k4 (by decide)
  · obtain ⟨kA, comp, k1, k2, k3, k4⟩ := (hK.2 4 _ rfl).2
    exact go _ hov.2 hw k4 (by decide)
theorem xw_copy (C : xCtx p s m args meth c D ac E own cc nL ini) {idx : Nat} {n dp sp : Int32} {d a : xId} (hd : decode cc pc = .ok (.invokestatic idx, 3)) (hlen : ls.length = nL) (hlink : (Cond.methodLink own idx arraycopyName).before args s = true) (hnat : (Cond.native arraycopyName).before args s = true) (hstat : (Cond.static arraycopyName).before args s = true) (hinit : (Cond.initialized "java/lang/System").before args s = true)
    (hv : xcopy M n dp sp d a = some M') (hframes : 1 ≤ R.frames) (hlocals : 26 ≤ R.locals) (hcat : (st.map xcat).sum ≤ 8)
    (kk : xW p l e R s m args below meth c Q D ac E n0 z0 (pc + 3) ls st M') : xW p l e R s m args below meth c Q D ac E n0 z0 pc ls (.inl n :: .inl dp :: .inr (.inr (some d)) :: .inl sp :: .inr (.inr (some a)) :: st) M := by
  intro H locs la hR hS hL
  have nn : ∀ z : Int32, ¬ z < 0 → z.toInt = (z.toNatClampNeg : Int) := by
    intro z hz
    have hz0 : (0 : Int) ≤ z.toInt := by
      have := Int32.not_lt.mp hz
      simpa using Int32.le_iff_toInt_le.mp this
    show z.toInt = ((z.toInt.toNat : Nat) : Int)
    omega
  have hcat2 : ((st.map (xcv E)).map fun v => v.category).sum ≤ 8 := by
    rw [List.map_map]
    have e9 : ((fun v : Value => v.category) ∘ xcv E) = xcat := funext fun v => xcv_cat E v
    rw [e9]
    exact hcat
  obtain ⟨hx, hb, hml, hown, hts, hK, -⟩ := C
  have hA := xArr_of hK
  unfold xcopy at hv
  split at hv
  next q r hq hr =>
    split at hv
    next hc =>
      obtain ⟨hqr, hla, hld, h1, h2, h3, h4, h5⟩ := hc
      have go : ∀ (ty : FieldType) (M' : xMem), refKind ty = false → ArrOfT s (ac q.1) ty → ¬ q.1 ≤ 8 → (∀ j, fits ty (xav E M q.1 a j) = true) → (∀ (vm : Vm) (T : State) (cm : ClassId) j, (T.setVm vm).takes cm (xav E M q.1 a j)) →
          xRep D ac E M' (H.setIfInBounds (E.1 + xnum d) (arrV (ac q.1) r.2 (va_cpy (xav E M q.1 a) (xav E M q.1 d) sp.toNatClampNeg dp.toNatClampNeg n.toNatClampNeg))) → M'.2.2.2 = M.2.2.2 →
          xW p l e R s m args below meth c Q D ac E n0 z0 (pc + 3) ls st M' → W p l e R s m args below meth c H locs (M.2.2.2.1 - n0) (M.2.2.2.2 - z0) Q (F0 m pc la (.int n :: .int dp :: .ref (E.1 + xnum d) :: .int sp :: .ref (E.1 + xnum a) :: st.map (xcv E))) := by
        intro ty M' hprim hAr h8 hfit htk hR' hn2 kk
        have hc0 : H[E.1 + xnum a]? = some (arrV (ac q.1) q.2 (xav E M q.1 a)) := xRep_arr hR (t := q.1) (N := q.2) hq hla h8
        have hc1 : H[E.1 + xnum d]? = some (arrV (ac q.1) r.2 (xav E M q.1 d)) := by rw [hqr]; exact xRep_arr hR (t := r.1) (N := r.2) hr hld (by omega)
        intro T hT X
        obtain ⟨-, k0, hk0, cm0, hkk0⟩ := hAr q.2 (xav E M q.1 a)
        obtain ⟨-, k1, hk1, cm1, hkk1⟩ := hAr r.2 (xav E M q.1 d)
        obtain ⟨vm', X', step⟩ := X.arraycopy hx hown hlink hnat hstat hinit (src := E.1 + xnum a) (dst := E.1 + xnum d) (srcPos := sp) (destPos := dp) (n := n) (by rw [hT]; exact hc0) (by rw [hT]; exact hc1)
          (fun _ h => by cases h) (fun _ h => by cases h) (fun h => by cases h) (fun h => by cases h) hk0 hk1 hkk0 hkk1 (by simp [hprim]) h1 h2 h3
          (by rw [nn sp h1, nn n h3, arrV_size]; omega) (by rw [nn dp h2, nn n h3, arrV_size]; omega)
          (fun vm₁ _ i hi => by
            have e : (arrV (ac q.1) q.2 (xav E M q.1 a)).slots.getD (sp.toNatClampNeg + i) .null = xav E M q.1 a (sp.toNatClampNeg + i) := by
              rw [Array.getD_eq_getD_getElem?, arrV_read _ _ (by omega)]
              rfl
            rw [e]
            exact ⟨hfit _, htk _ _ _ _⟩)
          (g := F0 m pc la (.int n :: .int dp :: .ref (E.1 + xnum d) :: .int sp :: .ref (E.1 + xnum a) :: st.map (xcv E))) rfl (by rw [hml, ← hlen]; exact hL.1) (rest := st.map (xcv E)) rfl (by rw [hb]; exact hd) hframes
          (by show 2 * 0 + _ + (7 + 11) ≤ _; omega)
        have e1 : copied (arrV (ac q.1) q.2 (xav E M q.1 a)) (arrV (ac q.1) r.2 (xav E M q.1 d)) sp dp n = arrV (ac q.1) r.2 (va_cpy (xav E M q.1 a) (xav E M q.1 d) sp.toNatClampNeg dp.toNatClampNeg n.toNatClampNeg) := va_copied (fun z : Value => z) (ac q.1) (ac q.1) _ _ h4
        rw [e1] at X' step
        have oq : ∀ x : Nat, x ≠ E.1 + xnum d → (H.setIfInBounds (E.1 + xnum d) (arrV (ac q.1) r.2 (va_cpy (xav E M q.1 a) (xav E M q.1 d) sp.toNatClampNeg dp.toNatClampNeg n.toNatClampNeg)))[x]? = H[x]? := fun x hx => by simp [Array.getElem?_setIfInBounds, Ne.symm hx]
        have k2 := kk _ (locs ++ ((arrV (ac q.1) q.2 (xav E M q.1 a)).stretch sp.toNatClampNeg n.toNatClampNeg).zipIdx.map fun q => ⟨E.1 + xnum d, dp.toNatClampNeg + q.2⟩) la hR' ⟨by simp; exact hS.1, fun x g1 g2 => by
            rw [oq x (fun e => g2 (by rw [e]; exact Nat.le_add_right _ _))]
            exact hS.2.1 x g1 g2, fun x hx => by
            rcases List.mem_append.mp hx with h | h
            · exact hS.2.2 x h
            · obtain ⟨z, -, hz⟩ := List.mem_map.mp h
              rw [← hz]
              exact Nat.le_add_right _ _⟩ hL
        rw [hn2] at k2
        obtain ⟨t, a1, b1⟩ := k2 _ (by rw [← hT]; rfl) X'
        exact ⟨t, step t a1, b1⟩
      show W p l e R s m args below meth c H locs _ _ Q (F0 m pc la (.int n :: .int dp :: .ref (xad E d) :: .int sp :: .ref (xad E a) :: st.map (xcv E)))
      rw [xad_sh hq, xad_sh hr]
      have hl9 : E.1 + xnum d < H.size := by rw [hR.1]; omega
      have oq9 : ∀ (x : Nat) (Z : Cell), x ≠ E.1 + xnum d → (H.setIfInBounds (E.1 + xnum d) Z)[x]? = H[x]? := fun x Z hx => by simp [Array.getElem?_setIfInBounds, Ne.symm hx]
      split at hv
      next hq20 =>
        cases hv
        refine go .int (xsri M d (va_cpy (M.1 a) (M.1 d) sp.toNatClampNeg dp.toNatClampNeg n.toNatClampNeg)) rfl (by rw [hq20]; exact hA.1) (by omega) (fun j => by rw [hq20]; rfl) (fun vm T cm j => by rw [hq20]; exact trivial) ?_ rfl kk
        refine xRep_set hR hr ?_ (by simp) rfl (fun x hx => oq9 x _ hx) (fun b hb => ⟨xrw_ne hb, rfl, rfl⟩)
        unfold xcell
        rw [if_neg (show ¬ r.1 ≤ 8 by omega)]
        rw [show (H.setIfInBounds (E.1 + xnum d) (arrV (ac q.1) r.2 (va_cpy (xav E M q.1 a) (xav E M q.1 d) sp.toNatClampNeg dp.toNatClampNeg n.toNatClampNeg)))[E.1 + xnum d]? = some (arrV (ac q.1) r.2 (va_cpy (xav E M q.1 a) (xav E M q.1 d) sp.toNatClampNeg dp.toNatClampNeg n.toNatClampNeg)) by simp [Array.getElem?_setIfInBounds, hl9]]
        rw [← hqr, hq20]
        refine congrArg (fun f => some (arrV (ac 20) r.2 f)) (funext fun j => ?_)
        show _ = Value.int (xrw _ _ _ _ j)
        rw [xrw_at]
        unfold va_cpy
        split <;> rfl
      next hq20 =>
        split at hv
        next hq21 =>
          cases hv
          refine go .long (xsrl M d (va_cpy (M.2.1 a) (M.2.1 d) sp.toNatClampNeg dp.toNatClampNeg n.toNatClampNeg)) rfl (by rw [hq21]; exact hA.2.1) (by omega) (fun j => by rw [hq21]; rfl) (fun vm T cm j => by rw [hq21]; exact trivial) ?_ rfl kk
          refine xRep_set hR hr ?_ (by simp) rfl (fun x hx => oq9 x _ hx) (fun b hb => ⟨rfl, xrw_ne hb, rfl⟩)
          unfold xcell
          rw [if_neg (show ¬ r.1 ≤ 8 by omega)]
          rw [show (H.setIfInBounds (E.1 + xnum d) (arrV (ac q.1) r.2 (va_cpy (xav E M q.1 a) (xav E M q.1 d) sp.toNatClampNeg dp.toNatClampNeg n.toNatClampNeg)))[E.1 + xnum d]? = some (arrV (ac q.1) r.2 (va_cpy (xav E M q.1 a) (xav E M q.1 d) sp.toNatClampNeg dp.toNatClampNeg n.toNatClampNeg)) by simp [Array.getElem?_setIfInBounds, hl9]]
          rw [← hqr, hq21]
          refine congrArg (fun f => some (arrV (ac 21) r.2 f)) (funext fun j => ?_)
          show _ = Value.long (xrw _ _ _ _ j)
          rw [xrw_at]
          unfold va_cpy
          split <;> rfl
        next => cases hv
    next => cases hv
  next => cases hv
end XM
