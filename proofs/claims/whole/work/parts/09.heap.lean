/-! the steps that read and write cells -/
section XH
variable {p : Program} {l : Launch} {e : Env} {R : Room} {s : State} {m : MethodId} {args : Array Value} {below : List Frame} {meth : Method} {c : Code} {Q : State → Prop} {D : va_G} {ac : Nat → ClassId} {E : Nat × Nat} {n0 z0 : Nat}
variable {own : String} {cc : ByteArray} {nL : Nat} {ini : Bool} {pc : Nat} {ls ls' : List (Option xVal)} {st st' : List xVal} {M M' : xMem} {top : Option (Nat × (Nat → Int32))}
/-- an object's cell -/
theorem xRep_obj {H : Heap} (hR : xRep D ac E M H) {a : xId} {t N : Nat} (h : xsh a = some (t, N)) (hlt : xnum a < M.2.2.2.1) (ht : t ≤ 8) : t_OB (E.1 + xnum a) (D.1 t) N (D.2 t) H (xfv E M t a) := by
  have h1 := hR.2 a (t, N) h hlt
  unfold xcell at h1
  rw [if_pos ht] at h1
  exact h1
theorem xRep_arr {H : Heap} (hR : xRep D ac E M H) {a : xId} {t N : Nat} (h : xsh a = some (t, N)) (hlt : xnum a < M.2.2.2.1) (ht : ¬ t ≤ 8) : H[E.1 + xnum a]? = some (arrV (ac t) N (xav E M t a)) := by
  have h1 := hR.2 a (t, N) h hlt
  unfold xcell at h1
  rw [if_neg ht] at h1
  exact h1
theorem xgf_val {a : xId} {t k : Nat} {v : xVal} {r : Option xId} (h : xgf M r t k = some v) : ∃ a n, r = some a ∧ xsh a = some (t, n) ∧ xnum a < M.2.2.2.1 ∧ xcv E v = xfv E M t a k := by
  unfold xgf at h
  split at h
  next => cases h
  next a ha =>
    obtain ⟨h1, n, h2, h3⟩ := xob_spec ha
    refine ⟨a, n, h1, h2, h3, ?_⟩
    unfold xfv
    generalize xft t k = z at h ⊢
    match z, h with
    | 0, h => cases h; rfl
    | 1, h => cases h; rfl
    | 2, h => cases h; rfl
    | z + 3, h => cases h; rfl
theorem xw_get (C : xCtx p s m args meth c D ac E own cc nL ini) {idx ci k pl : Nat} {r : Option xId} {v : xVal} (hd : decode cc pc = .ok (.getfield idx, 3)) (hok : xokL own ini pc (.getfield idx, 3, ci, k, pl) = true) (hv : xgf M r ci k = some v)
    (kk : xW p l e R s m args below meth c Q D ac E n0 z0 (pc + 3) ls (v :: st) M) : xW p l e R s m args below meth c Q D ac E n0 z0 pc ls (.inr (.inr r) :: st) M := by
  intro H locs la hR hS hL
  obtain ⟨a, n, rfl, hsh, hlt, hcv⟩ := xgf_val (E := E) (a := (0, 0, 0)) hv
  have hk2 := kk H locs la hR hS hL
  dsimp only [xokL] at hok
  split at hok
  next q hq =>
    simp only [Bool.and_eq_true, decide_eq_true_eq] at hok
    obtain ⟨hk, hw⟩ := hok
    have hci : ci < 9 := (List.getElem?_eq_some_iff.mp hq).1
    have hob := xRep_obj hR hsh hlt (by omega)
    obtain ⟨q', hq', hN⟩ := xcl_N hsh (show ci ≤ 8 by omega)
    cases hq.symm.trans hq'
    obtain ⟨cell, q1, q2, q3, q4⟩ := hob
    obtain ⟨hx, hb, hml, hown, hts, hK, -⟩ := C
    obtain ⟨hS2, hfc, kC, hkC, hkind⟩ := hK.1 ci _ hq
    obtain ⟨cf, kf, fi, f, hi, hsl⟩ := hS2 k hk
    have hin := (xcl_ok hq).1
    show W p l e R s m args below meth c H locs _ _ Q (F0 m pc la (.ref (xad E a) :: st.map (xcv E)))
    rw [xad_sh hsh]
    refine W.getf hx hb hown (hts _ (xhw_in hw)) hi (u_facts hfc hkC (u_lays hts hin hk) hi).1 q1 (by rw [q3]; exact fun h => by cases h) (v := xcv E v) ?_ rfl rfl hd hk2
    rw [hsl, q4 k (by have h9 : q.2.2 = n := hN; omega), hcv]
  next => cases hok
theorem xRef_ok {ty : FieldType} (h : xisR ty = true) (r : Option Nat) : narrow ty (va_rf r) = va_rf r ∧ fits ty (va_rf r) = true := by
  cases ty <;> first | (cases h; done) | (cases r <;> exact ⟨rfl, rfl⟩)
/-- what a field is given fits it, and what the memory is then -/
theorem xpf_val {t k : Nat} {v : xVal} {r : Option xId} {q : vw_C} (h : xpf M r t k v = some M') (hq : xcl[t]? = some q) (hk : k < q.2.2) : ∃ a n, r = some a ∧ xsh a = some (t, n) ∧ xnum a < M.2.2.2.1 ∧ narrow (xty t k) (xcv E v) = xcv E v ∧ fits (xty t k) (xcv E v) = true ∧ M'.2.2.2 = M.2.2.2 ∧
    (∀ j, j < q.2.2 → xfv E M' t a j = if j = k then xcv E v else xfv E M t a j) ∧ ∀ b, b ≠ a → M'.1 b = M.1 b ∧ M'.2.1 b = M.2.1 b ∧ M'.2.2.1 b = M.2.2.1 b := by
  unfold xpf at h
  split at h
  next => cases h
  next a ha =>
    obtain ⟨h1, n, h2, h3⟩ := xob_spec ha
    refine ⟨a, n, h1, h2, h3, ?_⟩
    have hty := xft_ok hq hk
    have hup : ∀ {α : Type} (f : xId → Nat → α) (x : α) (b : xId), b ≠ a → xup f a k x b = f b := fun f x b hb => by unfold xup; rw [if_neg hb]
    have hat : ∀ {α : Type} (f : xId → Nat → α) (x : α) (j : Nat), xup f a k x a j = if j = k then x else f a j := fun f x j => by unfold xup; rw [if_pos rfl]; rfl
    split at h
    next x hx =>
      cases h
      rcases hty with ⟨t1, t2⟩ | ⟨t1, t2⟩ | ⟨t1, t2⟩ | ⟨t1, t2⟩ <;> (try (exfalso; omega))
      refine ⟨by rw [t2]; rfl, by rw [t2]; rfl, rfl, fun j hj => ?_, fun b hb => ⟨hup _ _ b hb, rfl, rfl⟩⟩
      by_cases hjk : j = k
      · subst hjk; rw [if_pos rfl]; unfold xfv; rw [t1]; show Value.int (xup _ _ _ _ a j) = _; rw [hat, if_pos rfl]; rfl
      · rw [if_neg hjk]; unfold xfv; show (match xft t j with | 1 => _ | 2 => _ | _ => Value.int (xup _ _ _ _ a j)) = _; rw [hat, if_neg hjk]; rfl
    next x hx =>
      cases h
      rcases hty with ⟨t1, t2⟩ | ⟨t1, t2⟩ | ⟨t1, t2⟩ | ⟨t1, t2⟩ <;> (try (exfalso; omega))
      refine ⟨by rw [t2]; rfl, by rw [t2]; rfl, rfl, fun j hj => ?_, fun b hb => ⟨rfl, hup _ _ b hb, rfl⟩⟩
      by_cases hjk : j = k
      · subst hjk; rw [if_pos rfl]; unfold xfv; rw [t1]; show Value.long (xup _ _ _ _ a j) = _; rw [hat, if_pos rfl]; rfl
      · rw [if_neg hjk]; unfold xfv; show (match xft t j with | 1 => Value.long (xup _ _ _ _ a j) | 2 => _ | _ => _) = _; rw [hat, if_neg hjk]; rfl
    next x hx =>
      cases h
      rcases hty with ⟨t1, t2⟩ | ⟨t1, t2⟩ | ⟨t1, t2⟩ | ⟨t1, t2⟩ <;> (try (exfalso; omega))
      refine ⟨(xRef_ok t2 _).1, (xRef_ok t2 _).2, rfl, fun j hj => ?_, fun b hb => ⟨rfl, rfl, hup _ _ b hb⟩⟩
      by_cases hjk : j = k
      · subst hjk; rw [if_pos rfl]; unfold xfv; rw [t1]; show va_rf (Option.map _ (xup _ _ _ _ a j)) = _; rw [hat, if_pos rfl]; rfl
      · rw [if_neg hjk]; unfold xfv; show (match xft t j with | 1 => _ | 2 => va_rf (Option.map _ (xup _ _ _ _ a j)) | _ => _) = _; rw [hat, if_neg hjk]; rfl
    next x hx =>
      split at h
      next hb =>
        cases h
        rcases hty with ⟨t1, t2⟩ | ⟨t1, t2⟩ | ⟨t1, t2⟩ | ⟨t1, t2⟩ <;> (try (exfalso; omega))
        refine ⟨by rw [t2]; rcases hb with rfl | rfl <;> rfl, by rw [t2]; rcases hb with rfl | rfl <;> rfl, rfl, fun j hj => ?_, fun b hb => ⟨hup _ _ b hb, rfl, rfl⟩⟩
        by_cases hjk : j = k
        · subst hjk; rw [if_pos rfl]; unfold xfv; rw [t1]; show Value.int (xup _ _ _ _ a j) = _; rw [hat, if_pos rfl]; rfl
        · rw [if_neg hjk]; unfold xfv; show (match xft t j with | 1 => _ | 2 => _ | _ => Value.int (xup _ _ _ _ a j)) = _; rw [hat, if_neg hjk]; rfl
      next => cases h
    next => cases h
theorem xw_put (C : xCtx p s m args meth c D ac E own cc nL ini) {idx ci k pl : Nat} {r : Option xId} {v : xVal} (hd : decode cc pc = .ok (.putfield idx, 3)) (hok : xokL own ini pc (.putfield idx, 3, ci, k, pl) = true) (hv : xpf M r ci k v = some M')
    (kk : xW p l e R s m args below meth c Q D ac E n0 z0 (pc + 3) ls st M') : xW p l e R s m args below meth c Q D ac E n0 z0 pc ls (v :: .inr (.inr r) :: st) M := by
  intro H locs la hR hS hL
  dsimp only [xokL] at hok
  split at hok
  next q hq =>
    simp only [Bool.and_eq_true, decide_eq_true_eq] at hok
    obtain ⟨⟨hk, hw⟩, hfin⟩ := hok
    obtain ⟨a, n, rfl, hsh, hlt, hnar, hfit, hn2, hfv, hoth⟩ := xpf_val (E := E) hv hq hk
    have hci : ci < 9 := (List.getElem?_eq_some_iff.mp hq).1
    have hob := xRep_obj hR hsh hlt (by omega)
    obtain ⟨q', hq', hN⟩ := xcl_N hsh (show ci ≤ 8 by omega)
    cases hq.symm.trans hq'
    obtain ⟨cell, q1, q2, q3, q4⟩ := hob
    obtain ⟨hx, hb, hml, hown, hts, hK, -, hini, hEs⟩ := C
    obtain ⟨hin, hty, hnm⟩ := xcl_ok hq
    have hap := va_apart (own := own) hts hin (xty ci) hty hnm hK hq
    obtain ⟨hS2, hfc, kC, hkC, hkind⟩ := hK.1 ci _ hq
    obtain ⟨cf, kf, fi, f, hi, hsl⟩ := hS2 k hk
    have hst := (u_facts hfc hkC (u_lays hts hin hk) hi).1
    have hslot : cell.slots[D.2 ci k]? = some (xfv E M ci a k) := q4 k (by have h9 : q.2.2 = n := hN; omega)
    have fin : ∀ H' : Heap, H'[E.1 + xnum a]? = some (cell.setSlot (D.2 ci k) (xcv E v)) → H'.size = H.size → (∀ q : Nat, q ≠ E.1 + xnum a → H'[q]? = H[q]?) → W p l e R s m args below meth c H' (locs ++ [⟨E.1 + xnum a, D.2 ci k⟩]) (M.2.2.2.1 - n0) (M.2.2.2.2 - z0) Q (F0 m (pc + 3) la (st.map (xcv E))) := by
      intro H' e1 e2 e3
      have hk3 := kk H' (locs ++ [⟨E.1 + xnum a, D.2 ci k⟩]) la (xRep_set hR hsh (by
        unfold xcell
        rw [if_pos (show ci ≤ 8 by omega)]
        refine t_OB.to (V := updV (xfv E M ci a) k (xcv E v)) ⟨_, e1, q2, q3, ?_⟩ (fun j hj => ?_)
        · have := t_set (V := xfv E M ci a) (N := n) q4 (fun x y hx hy => hap x y (by have h9 : q.2.2 = n := hN; omega) (by have h9 : q.2.2 = n := hN; omega)) (k := k) (by have h9 : q.2.2 = n := hN; omega) (xcv E v)
          exact this
        · rw [hfv j (by have h9 : q.2.2 = n := hN; omega)]
          rfl) e2 (by rw [hn2]) e3 hoth) (hS.put e2 e3 (Nat.le_add_right _ _)) hL
      rw [hn2] at hk3
      exact hk3
    show W p l e R s m args below meth c H locs _ _ Q (F0 m pc la (xcv E v :: .ref (xad E a) :: st.map (xcv E)))
    rw [xad_sh hsh]
    have hlay := hts _ (hin _ (u_in_lay hk))
    by_cases hf2 : (q.2.1 k).2.2.2 = true
    · unfold u_lay at hlay
      rw [if_pos hf2] at hlay
      rw [hf2] at hfin
      simp only [Bool.not_true, Bool.false_or, Bool.and_eq_true, decide_eq_true_eq] at hfin
      have hcf : m.cls = cf := by
        obtain ⟨_, _, c', _, _, _, -, -, hf', -, -, -, hown2, -⟩ := Cond.laysFinal_spec hlay
        have e1 : c' = cf := by have := hi.symm.trans hf'; simp at this; exact this.1.symm
        rw [hfin.2] at hown2
        rw [← e1]; exact Option.some.inj (hown.symm.trans hown2)
      have h6 := u_fits hfc hkC hkind (Or.inr hlay) hi (hty k hk) hnar hfit
      refine W.putFinK hx hb hown (hts _ (xhw_in hw)) hi hst hcf (hini hfin.1) (by rw [q2]; exact h6) q1 q3 (by rw [hsl]; exact k2_hasslot hslot) rfl rfl hd fun H' e1 e2 e3 => ?_
      rw [hsl] at e1 ⊢
      exact fin H' e1 e2 e3
    · unfold u_lay at hlay
      rw [if_neg hf2] at hlay
      have h6 := u_store hfc hkC hkind hlay hi (hty k hk) hnar hfit
      refine W.putK hx hb (f := f) ⟨hown, hts _ (xhw_in hw), ⟨_, _, _, hi⟩, hst⟩ (by rw [q2]; exact h6) q1 q3 (by rw [hsl]; exact k2_hasslot hslot) rfl rfl hd fun H' e1 e2 e3 => ?_
      rw [hsl] at e1 ⊢
      exact fin H' e1 e2 e3
  next => cases hok
end XH
