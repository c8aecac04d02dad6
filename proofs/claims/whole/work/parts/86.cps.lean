/-! copies: what of a block has been copied -/
def cpS (B b : Nat) (S S2 : Nat → Nat → Nat → Bool) (M : xMem) : xMem :=
  (fun a k => if a.2.1 = B ∧ S a.1 a.2.2 k = true then M.1 (a.1, b, a.2.2) k else M.1 a k,
   fun a k => if a.2.1 = B ∧ S2 a.1 a.2.2 k = true then M.2.1 (a.1, b, a.2.2) k else M.2.1 a k, M.2.2)
theorem cpS_1 {B b : Nat} {S S2 : Nat → Nat → Nat → Bool} {M : xMem} {κ B' i k : Nat} : (cpS B b S S2 M).1 (κ, B', i) k = if B' = B ∧ S κ i k = true then M.1 (κ, b, i) k else M.1 (κ, B', i) k := rfl
theorem cpS_W {B b : Nat} {S S2 : Nat → Nat → Nat → Bool} {M : xMem} (h : XW M) : XW (cpS B b S S2 M) := h
theorem cpS_src {B b : Nat} {S S2 : Nat → Nat → Nat → Bool} {M : xMem} (h : b ≠ B) {κ i k : Nat} : (cpS B b S S2 M).1 (κ, b, i) k = M.1 (κ, b, i) k := if_neg (fun e => h e.1)
def sAdd (S : Nat → Nat → Nat → Bool) (κ i n : Nat) : Nat → Nat → Nat → Bool := fun κ' i' k => S κ' i' k || decide (κ' = κ ∧ i' = i ∧ k < n)
theorem cpS_row {B b : Nat} {S S2 : Nat → Nat → Nat → Bool} {M : xMem} {κ i n : Nat} (h : b ≠ B) : xsri (cpS B b S S2 M) (κ, B, i) (va_cpy ((cpS B b S S2 M).1 (κ, b, i)) ((cpS B b S S2 M).1 (κ, B, i)) 0 0 n) = cpS B b (sAdd S κ i n) S2 M := by
  refine Prod.ext ?_ rfl
  funext a k
  obtain ⟨κ', B', i'⟩ := a
  rw [xsri_1]
  by_cases ha : ((κ', B', i') : xId) = (κ, B, i)
  · obtain ⟨rfl, rfl, rfl⟩ : κ' = κ ∧ B' = B ∧ i' = i := ⟨(Prod.mk.inj ha).1, (Prod.mk.inj (Prod.mk.inj ha).2).1, (Prod.mk.inj (Prod.mk.inj ha).2).2⟩
    rw [if_pos rfl]
    show (if 0 ≤ k ∧ k < 0 + n then (cpS B' b S S2 M).1 (κ', b, i') (0 + (k - 0)) else (cpS B' b S S2 M).1 (κ', B', i') k) = _
    by_cases hk : k < n
    · rw [if_pos ⟨Nat.zero_le _, by omega⟩, cpS_src h, Nat.zero_add, Nat.sub_zero, cpS_1, if_pos (show B' = B' ∧ sAdd S κ' i' n κ' i' k = true from ⟨rfl, by unfold sAdd; rw [decide_eq_true ⟨rfl, rfl, hk⟩, Bool.or_true]⟩)]
    · have e : sAdd S κ' i' n κ' i' k = S κ' i' k := by unfold sAdd; rw [decide_eq_false (fun e => hk e.2.2), Bool.or_false]
      rw [if_neg (fun e => hk (by omega)), cpS_1, cpS_1, e]
  · rw [if_neg ha, cpS_1, cpS_1]
    by_cases hB : B' = B
    · subst hB
      have e : sAdd S κ i n κ' i' k = S κ' i' k := by
        unfold sAdd
        rw [decide_eq_false (fun e => ha (by rw [e.1, e.2.1])), Bool.or_false]
      rw [e]
    · rw [if_neg (fun e => hB e.1), if_neg (fun e => hB e.1)]
theorem cpS_cpy {B b : Nat} {S S2 : Nat → Nat → Nat → Bool} {M : xMem} {κ i n N : Nat} (hW : XW M) (h : b ≠ B) (hs : xsh (κ, b, i) = some (20, N)) (hs2 : xsh (κ, B, i) = some (20, N)) (hn : n ≤ N) (hN : N < 2 ^ 31) : xcpy (cpS B b S S2 M) (nI n) (nI 0) (nI 0) (some (κ, B, i)) (some (κ, b, i)) = some (cpS B b (sAdd S κ i n) S2 M) := by
  rw [xcpy_w (cpS_W hW) hs hs2 (by omega) (by omega) hN hN, cpS_row h]
