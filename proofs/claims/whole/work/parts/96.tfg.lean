/-! thinks and forgets -/
def kpX (a : xId) (x : Nat) : Prop := a.1 < 44 ∨ a.1 = 75 ∨ a.1 = 76 ∨ a.1 = 79 ∨ a.1 = 80 ∨ (a.1 = 44 ∧ (x = 32 ∨ x = 42 ∨ x = 43 ∨ x = 46 ∨ x = 49)) ∨ (a.1 = 72 ∧ x < 4600)
def kpL (a : xId) (x : Nat) : Prop := a.1 < 44 ∨ (a.1 = 73 ∧ x < 4)
def AgX (X R : xMem) : Prop := (∀ a x, kpX a x → R.1 a x = X.1 a x) ∧ (∀ a x, kpL a x → R.2.1 a x = X.2.1 a x) ∧ R.2.2 = X.2.2
theorem AgX.rfl' {X : xMem} : AgX X X := ⟨fun _ _ _ => rfl, fun _ _ _ => rfl, rfl⟩
theorem AgX.tr {X Y Z : xMem} (h : AgX X Y) (h2 : AgX Y Z) : AgX X Z := ⟨fun a x hk => (h2.1 a x hk).trans (h.1 a x hk), fun a x hx => (h2.2.1 a x hx).trans (h.2.1 a x hx), h2.2.2.trans h.2.2⟩
theorem AgX.W {X Y : xMem} (h : AgX X Y) (hW : XW X) : XW Y := by
  unfold XW at hW ⊢; rw [h.2.2]; exact hW
theorem mL_none {κ : Nat} (h : ∀ r ∈ mQ, r.1 ≠ κ) : mL κ = none := by
  cases hm : mL κ with
  | none => rfl
  | some r => exact absurd rfl (h _ (mL_mem (q := r.1) (B := r.2.1) (t := r.2.2) hm))
theorem kpX_out {d : Int32} {s : xS} {X : xMem} {a : xId} {x : Nat} (h : kpX a x) : (mM d s X).1 a x = X.1 a x := by
  obtain ⟨κ, p1, p2⟩ := a
  unfold kpX at h
  dsimp only at h
  have hq : ∀ r ∈ mQ, 45 ≤ r.1 ∧ r.1 ≤ 70 := by decide
  by_cases h44 : κ = 44
  · subst h44
    show (if (p1, p2) = (0, 0) then if (44 : Nat) = 44 then (if x = 13 then _ else if x = 14 then _ else if x = 15 then _ else X.1 (44, p1, p2) x) else _ else X.1 (44, p1, p2) x) = _
    by_cases hp : (p1, p2) = (0, 0)
    · rw [if_pos hp, if_pos rfl, if_neg (by omega), if_neg (by omega), if_neg (by omega)]
    · rw [if_neg hp]
  · exact mM_out (mL_none (fun r hr e => by have := hq r hr; omega)) h44 (by omega)
theorem mM_L {d : Int32} {s : xS} {X : xMem} {a : xId} {x : Nat} (h : a.1 ≠ 57) : (mM d s X).2.1 a x = X.2.1 a x := if_neg (fun e => h (by rw [e.1]))
theorem KPm.to {w : Nat} {K X X' : xMem} (h : KPm w K X) (h1 : ∀ x, 4600 * w ≤ x → x < 4600 * w + 4600 → X'.1 (72, 0, 0) x = X.1 (72, 0, 0) x) (h2 : ∀ x, 4 * w ≤ x → x < 4 * w + 4 → X'.2.1 (73, 0, 0) x = X.2.1 (73, 0, 0) x) : KPm w K X' := by
  refine ⟨fun r hr x hx => ?_, ?_, ?_, fun hw x hx => ?_, fun c hc => ?_⟩
  · have hl := offs_le hr
    rw [tot_LK] at hl
    rw [h1 _ (by omega) (by omega)]; exact h.1 r hr x hx
  · rw [h1 _ (by omega) (by omega)]; exact h.2.1
  · rw [h1 _ (by omega) (by omega)]; exact h.2.2.1
  · rw [h1 _ (by omega) (by omega)]; exact h.2.2.2.1 hw x hx
  · rw [h2 _ (by omega) (by omega)]; exact h.2.2.2.2 c hc
theorem mM_72 {d : Int32} {s : xS} {X : xMem} {x : Nat} : (mM d s X).1 (72, 0, 0) x = X.1 (72, 0, 0) x := mM_out (by decide) (by decide) (by decide)
theorem mM_71 {d : Int32} {s : xS} {X : xMem} {x : Nat} : (mM d s X).1 (71, 0, 0) x = X.1 (71, 0, 0) x := mM_out (by decide) (by decide) (by decide)
theorem KPm.un {w : Nat} {K : xMem} {d : Int32} {s : xS} {X : xMem} (h : KPm w K (mM d s X)) : KPm w K X := h.to (fun x _ _ => mM_72.symm) (fun x _ _ => (mM_L (show (73 : Nat) ≠ 57 by decide)).symm)
theorem KPm.ov {w : Nat} {K : xMem} {d : Int32} {s : xS} {X : xMem} (h : KPm w K X) : KPm w K (mM d s X) := h.to (fun x _ _ => mM_72) (fun x _ _ => mM_L (show (73 : Nat) ≠ 57 by decide))
/-- an all-passing to what is kept leaves the state's cells -/
theorem FrK_abs {w : Nat} {d : Int32} {s : xS} {X F : xMem} (hF : FrK w (mM d s X) F) : mM d s F = F := by
  have h44 : ∀ x, x ≠ 33 → x ≠ 34 → F.1 (44, 0, 0) x = (mM d s X).1 (44, 0, 0) x := fun x a1 a2 => hF.1 _ _ (fun e => by omega) (fun e => absurd e.1 (by decide))
  exact mM_of (fun r hr x hx => hF.1 _ _ (fun e => (LK_ok r hr).2 (Prod.mk.inj e.1).1) (fun e => (LK_ok r hr).1 (Prod.mk.inj e.1).1)) (h44 _ (by decide) (by decide)) (h44 _ (by decide) (by decide)) ((h44 15 (by decide) (by decide)).trans rfl) (fun c hc => hF.2.1 _ _ (fun e => absurd e.1 (by decide)))
theorem M_thinks {d : Int32} {s : xS} {X : xMem} (hW : XW X) : ∃ F, fM_thinks (mM d s X) (44, 0, 0) = some (mM d s F) ∧ AgX X F ∧ KPm 1 (mM d s X) F ∧ (∀ x, F.1 (71, 0, 0) x = X.1 (71, 0, 0) x) := by
  have hW' : XW (mM d s X) := hW
  obtain ⟨F, h1, h2, h3⟩ := M_allTo (w := 1) hW' (by decide)
  refine ⟨F, ?_, ⟨fun a x hk => ?_, fun a x hx => ?_, h3.2.2⟩, h2, fun x => ?_⟩
  · unfold fM_thinks
    rw [FrK_abs h3, xob_w hW' sh_44, Option.bind_some, show fM_passesAll (mM d s X) (44, 0, 0) (1 : Int32) (1 : Int32) = some F from h1, Option.bind_some]
  · rw [h3.1 a x (fun e => by
      have e1 : a.1 = 44 := by rw [e.1]
      unfold kpX at hk; omega) (fun e => by
      have e1 : a.1 = 72 := by rw [e.1]
      unfold kpX at hk; omega)]
    exact kpX_out hk
  · rw [h3.2.1 _ _ (fun e => by
      have e1 : a.1 = 73 := by rw [e.1]
      unfold kpL at hx; omega)]
    exact mM_L (by unfold kpL at hx; omega)
  · rw [h3.1 _ _ (fun e => absurd e.1 (by decide)) (fun e => absurd e.1 (by decide))]; exact mM_71
theorem inLK_44 {x : Nat} : ¬ inLK (44, 0, 0) x := fun ⟨r, hr, e, _⟩ => (LK_ok r hr).2 (Prod.mk.inj e).1.symm
theorem kpX_LK {a : xId} {x : Nat} (h : kpX a x) : ¬ inLK a x := fun ⟨r, hr, e, _⟩ => by
  have h1 : ∀ r ∈ LK, 45 ≤ r.1 ∧ r.1 ≤ 70 := by decide
  have := h1 r hr
  have e1 : a.1 = r.1 := by rw [e]
  unfold kpX at h; omega
theorem sub_add_i (a b : Int32) : b + (a - b) = a := by
  rw [Int32.add_comm, Int32.sub_add_cancel]
theorem M_forgets {d d2 : Int32} {s0 s2 : xS} {X0 F : xMem} (hW : XW X0) (hA : AgX X0 F) (hK : KPm 1 (mM d s0 X0) F) : ∃ R, fM_forgets (mM d2 s2 F) (44, 0, 0) = some (mM (nI (s2.1 19 2) + d2 - nI (s0.1 19 2)) s0 R) ∧ AgX X0 R ∧ (∀ x, x < 26 → R.1 (71, 0, 0) x = X0.1 (71, 0, 0) x) ∧ ∀ k, 15 < k → k ≠ 33 → k ≠ 34 → R.1 (44, 0, 0) k = F.1 (44, 0, 0) k := by
  have hW' : XW (mM d2 s2 F) := hA.W hW
  obtain ⟨R, h1, h2, h13, h14, h71, h57, hf, hl, h22⟩ := M_allFr (w := 1) hW' (by decide) hK.ov
  have e15 : R.1 (44, 0, 0) 15 = nI (s2.1 19 2) + d2 := by
    rw [hf _ _ inLK_44 (fun e => by omega) (fun e => absurd e.2.1 (by decide))]; rfl
  have ha : mM (nI (s2.1 19 2) + d2 - nI (s0.1 19 2)) s0 R = R := mM_of h2 h13 h14 (e15.trans (sub_add_i _ _).symm) h57
  refine ⟨R, ?_, ⟨fun a x hk => ?_, fun a x hx => ?_, h22.trans hA.2.2⟩, fun x hx => ?_, fun k a1 a2 a3 => ?_⟩
  · unfold fM_forgets
    rw [ha, xob_w hW' sh_44, Option.bind_some, show fM_passesAll (mM d2 s2 F) (44, 0, 0) (1 : Int32) (0 : Int32) = some R from h1, Option.bind_some]
  · rw [hf a x (kpX_LK hk) (fun e => by
      have e1 : a.1 = 44 := by rw [e.1]
      unfold kpX at hk; omega) (fun e => by
      have e1 : a.1 = 71 := by rw [e.2.1]
      unfold kpX at hk; omega), kpX_out hk]
    exact hA.1 a x hk
  · rw [hl _ _ (fun e => by
      have e1 : a.1 = 57 := by rw [e.1]
      unfold kpL at hx; omega), mM_L (by unfold kpL at hx; omega)]
    exact hA.2.1 a x hx
  · rw [h71 rfl x hx]; exact mM_71
  · rw [hf _ _ inLK_44 (fun e => by omega) (fun e => absurd e.2.1 (by decide))]; exact mM_oF (by omega)
