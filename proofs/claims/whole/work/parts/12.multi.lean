/-! new int[4][40] -/
section XN
variable {p : Program} {l : Launch} {e : Env} {R : Room} {s : State} {m : MethodId} {args : Array Value} {below : List Frame} {meth : Method} {c : Code} {Q : State → Prop} {D : va_G} {ac : Nat → ClassId} {E : Nat × Nat} {n0 z0 : Nat}
variable {own : String} {cc : ByteArray} {nL : Nat} {ini : Bool} {pc : Nat} {ls ls' : List (Option xVal)} {st st' : List xVal} {M M' : xMem} {top : Option (Nat × (Nat → Int32))}
theorem xmu_out (cA : ClassId) (h0 : Nat) : Jvm.Free.Multi.outerC cA 4 h0 4 = arrV cA 4 (fun j => va_rf (if j < 4 then some (h0 + 1 + j) else none)) := by
  show (((({ cls := cA, slots := Array.replicate 4 .null, vm := .none } : Cell).setSlot 0 (.ref (h0 + 1 + 0))).setSlot 1 (.ref (h0 + 1 + 1))).setSlot 2 (.ref (h0 + 1 + 2))).setSlot 3 (.ref (h0 + 1 + 3)) = _
  rw [arrV_new, arrV_store, arrV_store, arrV_store, arrV_store]
  refine congrArg (arrV cA 4) (funext fun j => ?_)
  match j with
  | 0 => rfl
  | 1 => rfl
  | 2 => rfl
  | 3 => rfl
  | j + 4 =>
    have h4 : ¬ j + 4 < 4 := by omega
    simp [updV, va_rf, h4]
theorem xmu_r : (xmu M).2.2.1 (41, 0, 0) = fun j => if j < 4 then some (42, 0, j) else none := by
  unfold xmu; dsimp only; rw [xrw_at]
theorem xmu_i0 : (xmu M).1 (42, 0, 0) = fun _ => 0 := by
  unfold xmu; dsimp only; rw [xrw_ne (by decide), xrw_ne (by decide), xrw_ne (by decide), xrw_at]
theorem xmu_i1 : (xmu M).1 (42, 0, 1) = fun _ => 0 := by
  unfold xmu; dsimp only; rw [xrw_ne (by decide), xrw_ne (by decide), xrw_at]
theorem xmu_i2 : (xmu M).1 (42, 0, 2) = fun _ => 0 := by
  unfold xmu; dsimp only; rw [xrw_ne (by decide), xrw_at]
theorem xmu_i3 : (xmu M).1 (42, 0, 3) = fun _ => 0 := by
  unfold xmu; dsimp only; rw [xrw_at]
theorem xav_25 {a : xId} {j : Nat} : xav E M 25 a j = va_rf ((M.2.2.1 a j).map (xad E)) := by
  unfold xav; rw [if_neg (by decide), if_neg (by decide)]
theorem xav_20 {a : xId} {j : Nat} : xav E M 20 a j = .int (M.1 a j) := by
  unfold xav; rw [if_neg (by decide), if_pos (Or.inl rfl)]
theorem xw_multi (C : xCtx p s m args meth c D ac E own cc nL ini) {idx d pl t b : Nat} (hd : decode cc pc = .ok (.multianewarray idx d, 4)) (hok : xokL own ini pc (.multianewarray idx d, 4, t, b, pl) = true) (hov : (Cond.arrayOver (.array .int)).before args s = true) (hai : (Cond.arrayClass .int).before args s = true) (hM : M.2.2.2.1 = 296) (hn0 : n0 ≤ M.2.2.2.1) (hz0 : z0 ≤ M.2.2.2.2)
    (hc : M.2.2.2.1 + 5 - n0 ≤ R.cells) (hs : M.2.2.2.2 + 164 - z0 ≤ R.slots) (kk : xW p l e R s m args below meth c Q D ac E n0 z0 (pc + 4) ls (.inr (.inr (some (41, 0, 0))) :: st) (xmu M)) : xW p l e R s m args below meth c Q D ac E n0 z0 pc ls (.inl 40 :: .inl 4 :: st) M := by
  intro H locs la hR hS hL
  obtain ⟨hx, hb, hml, hown, hts, hK, -⟩ := C
  dsimp only [xokL] at hok
  simp only [Bool.and_eq_true, decide_eq_true_eq] at hok
  obtain ⟨rfl, hw⟩ := hok
  intro T hT Xs
  obtain ⟨vm₁, cA, comp, -, fA, fC, -, -, X', step⟩ := Xs.multianewarray2F hx hown (ty := .int) (hts _ (xhw_in hw)) hov hai (g := F0 m pc la (.int 40 :: .int 4 :: st.map (xcv E))) rfl (by rw [hb]; exact hd) rfl (by decide) (by decide) (by decide) (by decide) (by decide) rfl rfl
    (by show _ + (1 + 4) ≤ _; omega) (by show _ + (4 + 4 * 40) ≤ _; omega)
  have ecA : cA = ac 25 := Option.some.inj (fA.symm.trans (hK.2 5 _ rfl).2)
  have ecC : comp = ac 20 := Option.some.inj (fC.symm.trans (hK.2 0 _ rfl).2)
  subst ecA
  subst ecC
  change Stand p l e R s m args below meth c (Jvm.Free.Multi.fill (T.setVm vm₁) (ac 25) (ac 20) 4 40 (defaultValue .int) 4) locs _ _ at X'
  generalize hF : Jvm.Free.Multi.fill (T.setVm vm₁) (ac 25) (ac 20) 4 40 (defaultValue .int) 4 = F at X'
  have hTh : (T.setVm vm₁).heap = H := hT
  obtain ⟨f1, f2, -, -⟩ := Jvm.Free.Multi.fill_facts (T.setVm vm₁) (ac 25) (ac 20) 4 40 (defaultValue .int) 4
  rw [hF, hTh] at f1 f2
  have hold : ∀ x : Nat, x < H.size → F.heap[x]? = H[x]? := fun x hx => by
    have := Jvm.Free.Multi.fill_old (T.setVm vm₁) (ac 25) (ac 20) 4 40 (defaultValue .int) (a := x) (by rw [hTh]; exact hx) 4
    rw [hF, hTh] at this
    exact this
  have hrow : ∀ j : Nat, j < 4 → F.heap[H.size + 1 + j]? = some (arrV (ac 20) 40 (fun _ => .int 0)) := fun j hj => by
    have := Jvm.Free.Multi.fill_inner (T.setVm vm₁) (ac 25) (ac 20) 4 40 (defaultValue .int) 4 j hj
    rw [hF, hTh] at this
    rw [this]
    show some ({ cls := ac 20, slots := Array.replicate 40 (.int 0), vm := .none } : Cell) = _
    rw [arrV_new]
  have hsz : H.size = E.1 + 296 := by rw [hR.1, hM]
  have hR1 : xRep D ac E (xmu M) F.heap := by
    refine ⟨by rw [f1, hsz]; show _ = E.1 + (M.2.2.2.1 + 5); rw [hM], fun a q ha hlt => ?_⟩
    have hlt2 : xnum a < M.2.2.2.1 + 5 := hlt
    have hnum := xsh_lt ha
    rcases (by omega : xnum a < 296 ∨ xnum a = 296 ∨ xnum a = 297 ∨ xnum a = 298 ∨ xnum a = 299 ∨ xnum a = 300) with h | h | h | h | h | h
    · have hne : ∀ z : xId, 296 ≤ xnum z → a ≠ z := fun z hz e => by rw [e] at h; omega
      refine xcell_kept (hR.2 a q ha (by omega)) (hold _ (by rw [hsz]; omega)) ?_ rfl ?_
      · show xrw (xrw (xrw (xrw (xrw _ _ _) _ _) _ _) _ _) _ _ a = _
        rw [xrw_ne (hne _ (by decide)), xrw_ne (hne _ (by decide)), xrw_ne (hne _ (by decide)), xrw_ne (hne _ (by decide)), xrw_ne (hne _ (by decide))]
      · show xrw _ _ _ a = _
        rw [xrw_ne (hne _ (by decide))]
    · have ea : a = (41, 0, 0) := by rw [← hnum.1, h]; decide
      subst ea
      have eq : q = (25, 4) := Option.some.inj (ha.symm.trans (by decide))
      subst eq
      unfold xcell
      rw [if_neg (by decide), h, ← hsz, f2, xmu_out]
      dsimp only
      refine congrArg (fun f => some (arrV (ac 25) 4 f)) (funext fun j => ?_)
      rw [xav_25, xmu_r]
      dsimp only
      by_cases hj : j < 4
      · rw [if_pos hj, if_pos hj]
        show Value.ref _ = Value.ref (xad E (42, 0, j))
        unfold xad
        rw [if_neg (by show ¬ (42 = 99); decide)]
        show Value.ref _ = Value.ref (E.1 + (297 + j))
        rw [hsz, show E.1 + 296 + 1 + j = E.1 + (297 + j) by omega]
      · rw [if_neg hj, if_neg hj]; rfl
    all_goals
      have ea : a = (42, 0, xnum a - 297) := by rw [← hnum.1, h]; decide
      rw [h] at ea
      subst ea
      have eq : q = (20, 40) := Option.some.inj (ha.symm.trans (by decide))
      subst eq
      unfold xcell
      rw [if_neg (by decide)]
    · rw [show E.1 + xnum (42, 0, 297 - 297) = H.size + 1 + 0 by rw [hsz, h], hrow 0 (by decide)]
      dsimp only
      refine congrArg (fun f => some (arrV (ac 20) 40 f)) (funext fun j => ?_)
      rw [xav_20, show (42, 0, 297 - 297) = ((42, 0, 0) : xId) from rfl, xmu_i0]
    · rw [show E.1 + xnum (42, 0, 298 - 297) = H.size + 1 + 1 by rw [hsz, h], hrow 1 (by decide)]
      dsimp only
      refine congrArg (fun f => some (arrV (ac 20) 40 f)) (funext fun j => ?_)
      rw [xav_20, show (42, 0, 298 - 297) = ((42, 0, 1) : xId) from rfl, xmu_i1]
    · rw [show E.1 + xnum (42, 0, 299 - 297) = H.size + 1 + 2 by rw [hsz, h], hrow 2 (by decide)]
      dsimp only
      refine congrArg (fun f => some (arrV (ac 20) 40 f)) (funext fun j => ?_)
      rw [xav_20, show (42, 0, 299 - 297) = ((42, 0, 2) : xId) from rfl, xmu_i2]
    · rw [show E.1 + xnum (42, 0, 300 - 297) = H.size + 1 + 3 by rw [hsz, h], hrow 3 (by decide)]
      dsimp only
      refine congrArg (fun f => some (arrV (ac 20) 40 f)) (funext fun j => ?_)
      rw [xav_20, show (42, 0, 300 - 297) = ((42, 0, 3) : xId) from rfl, xmu_i3]
  have k2 := kk F.heap locs la hR1 ⟨Nat.le_trans hS.1 (by rw [f1]; omega), fun x h1 h2 => (hold x (Nat.lt_of_lt_of_le h1 hS.1)).trans (hS.2.1 x h1 h2), hS.2.2⟩ hL
  have e3 : (xmu M).2.2.2.1 - n0 = M.2.2.2.1 - n0 + 1 + 4 := by show M.2.2.2.1 + 5 - n0 = _; omega
  have e4 : (xmu M).2.2.2.2 - z0 = M.2.2.2.2 - z0 + 4 + 4 * 40 := by show M.2.2.2.2 + 164 - z0 = _; omega
  rw [e3, e4] at k2
  have e2 : xcv E (.inr (.inr (some (41, 0, 0)))) = .ref T.heap.size := by
    show Value.ref (xad E (41, 0, 0)) = _
    rw [hT, hsz]
    rfl
  obtain ⟨t, a1, b1⟩ := k2 F rfl X'
  refine ⟨t, step t ?_, b1⟩
  show Steps p.tables e below ((Jvm.Free.Multi.fill (T.setVm vm₁) (ac 25) (ac 20) 4 40 (defaultValue .int) 4).setTop _) t
  rw [hF, ← e2]
  exact a1
end XN
