/-! copies: a depot's parts -/
def sOne (S : Nat → Nat → Nat → Bool) (κ i k : Nat) : Nat → Nat → Nat → Bool := fun κ' i' k' => S κ' i' k' || decide (κ' = κ ∧ i' = i ∧ k' = k)
theorem cpS_nil {B b : Nat} {M : xMem} : cpS B b (fun _ _ _ => false) (fun _ _ _ => false) M = M := by
  refine Prod.ext ?_ (Prod.ext ?_ rfl)
  · funext a k
    exact if_neg (fun e => by cases e.2)
  · funext a k
    exact if_neg (fun e => by cases e.2)
theorem cpS_2 {B b : Nat} {S S2 : Nat → Nat → Nat → Bool} {M : xMem} {κ B' i k : Nat} : (cpS B b S S2 M).2.1 (κ, B', i) k = if B' = B ∧ S2 κ i k = true then M.2.1 (κ, b, i) k else M.2.1 (κ, B', i) k := rfl
theorem cpS_src2 {B b : Nat} {S S2 : Nat → Nat → Nat → Bool} {M : xMem} (h : b ≠ B) {κ i k : Nat} : (cpS B b S S2 M).2.1 (κ, b, i) k = M.2.1 (κ, b, i) k := if_neg (fun e => h e.1)
theorem cpS_one {B b : Nat} {S S2 : Nat → Nat → Nat → Bool} {M : xMem} {κ i k : Nat} : xsi (cpS B b S S2 M) (κ, B, i) k (M.1 (κ, b, i) k) = cpS B b (sOne S κ i k) S2 M := by
  refine Prod.ext ?_ rfl
  funext a j
  obtain ⟨κ', B', i'⟩ := a
  rw [xsi_1, cpS_1, cpS_1]
  by_cases he : ((κ', B', i') : xId) = (κ, B, i) ∧ j = k
  · obtain ⟨e1, rfl⟩ := he
    obtain ⟨rfl, rfl, rfl⟩ : κ' = κ ∧ B' = B ∧ i' = i := ⟨(Prod.mk.inj e1).1, (Prod.mk.inj (Prod.mk.inj e1).2).1, (Prod.mk.inj (Prod.mk.inj e1).2).2⟩
    rw [if_pos ⟨rfl, rfl⟩, if_pos (show B' = B' ∧ sOne S κ' i' j κ' i' j = true from ⟨rfl, by unfold sOne; rw [decide_eq_true ⟨rfl, rfl, rfl⟩, Bool.or_true]⟩)]
  · rw [if_neg he]
    by_cases hB : B' = B
    · subst hB
      have e : sOne S κ i k κ' i' j = S κ' i' j := by
        unfold sOne
        rw [decide_eq_false (fun e => he ⟨by rw [e.1, e.2.1], e.2.2⟩), Bool.or_false]
      rw [e]
    · rw [if_neg (fun e => hB e.1), if_neg (fun e => hB e.1)]
theorem cpS_oneL {B b : Nat} {S S2 : Nat → Nat → Nat → Bool} {M : xMem} {κ i k : Nat} : xsl (cpS B b S S2 M) (κ, B, i) k (M.2.1 (κ, b, i) k) = cpS B b S (sOne S2 κ i k) M := by
  refine Prod.ext rfl (Prod.ext ?_ rfl)
  funext a j
  obtain ⟨κ', B', i'⟩ := a
  rw [xsl_2, cpS_2, cpS_2]
  by_cases he : ((κ', B', i') : xId) = (κ, B, i) ∧ j = k
  · obtain ⟨e1, rfl⟩ := he
    obtain ⟨rfl, rfl, rfl⟩ : κ' = κ ∧ B' = B ∧ i' = i := ⟨(Prod.mk.inj e1).1, (Prod.mk.inj (Prod.mk.inj e1).2).1, (Prod.mk.inj (Prod.mk.inj e1).2).2⟩
    rw [if_pos ⟨rfl, rfl⟩, if_pos (show B' = B' ∧ sOne S2 κ' i' j κ' i' j = true from ⟨rfl, by unfold sOne; rw [decide_eq_true ⟨rfl, rfl, rfl⟩, Bool.or_true]⟩)]
  · rw [if_neg he]
    by_cases hB : B' = B
    · subst hB
      have e : sOne S2 κ i k κ' i' j = S2 κ' i' j := by
        unfold sOne
        rw [decide_eq_false (fun e => he ⟨by rw [e.1, e.2.1], e.2.2⟩), Bool.or_false]
      rw [e]
    · rw [if_neg (fun e => hB e.1), if_neg (fun e => hB e.1)]
theorem xsrl_2 {M : xMem} {a b : xId} {g : Nat → Int64} {k : Nat} : (xsrl M a g).2.1 b k = if b = a then g k else M.2.1 b k := by
  show (if b = a then g else M.2.1 b) k = _
  split <;> rfl
theorem xcpyL_w {M : xMem} {a d : xId} {n dp sp N1 N2 : Nat} (hW : XW M) (hs1 : xsh a = some (21, N1)) (hs2 : xsh d = some (21, N2)) (h1 : sp + n ≤ N1) (h2 : dp + n ≤ N2) (hN1 : N1 < 2 ^ 31) (hN2 : N2 < 2 ^ 31) : xcpy M (nI n) (nI dp) (nI sp) (some d) (some a) = some (xsrl M d (va_cpy (M.2.1 a) (M.2.1 d) sp dp n)) := by
  show xcopy M (nI n) (nI dp) (nI sp) d a = _
  unfold xcopy
  rw [hs1, hs2]
  dsimp only
  rw [nI_clamp (by omega), nI_clamp (by omega), nI_clamp (by omega)]
  rw [if_pos ⟨rfl, hW.lt hs1, hW.lt hs2, nI_pos (by omega), nI_pos (by omega), nI_pos (by omega), h1, h2⟩, if_neg (by decide), if_pos rfl]
theorem cpS_rowL {B b : Nat} {S S2 : Nat → Nat → Nat → Bool} {M : xMem} {κ i n : Nat} (h : b ≠ B) : xsrl (cpS B b S S2 M) (κ, B, i) (va_cpy ((cpS B b S S2 M).2.1 (κ, b, i)) ((cpS B b S S2 M).2.1 (κ, B, i)) 0 0 n) = cpS B b S (sAdd S2 κ i n) M := by
  refine Prod.ext rfl (Prod.ext ?_ rfl)
  funext a k
  obtain ⟨κ', B', i'⟩ := a
  rw [xsrl_2]
  by_cases ha : ((κ', B', i') : xId) = (κ, B, i)
  · obtain ⟨rfl, rfl, rfl⟩ : κ' = κ ∧ B' = B ∧ i' = i := ⟨(Prod.mk.inj ha).1, (Prod.mk.inj (Prod.mk.inj ha).2).1, (Prod.mk.inj (Prod.mk.inj ha).2).2⟩
    rw [if_pos rfl]
    show (if 0 ≤ k ∧ k < 0 + n then (cpS B' b S S2 M).2.1 (κ', b, i') (0 + (k - 0)) else (cpS B' b S S2 M).2.1 (κ', B', i') k) = _
    by_cases hk : k < n
    · rw [if_pos ⟨Nat.zero_le _, by omega⟩, cpS_src2 h, Nat.zero_add, Nat.sub_zero, cpS_2, if_pos (show B' = B' ∧ sAdd S2 κ' i' n κ' i' k = true from ⟨rfl, by unfold sAdd; rw [decide_eq_true ⟨rfl, rfl, hk⟩, Bool.or_true]⟩)]
    · have e : sAdd S2 κ' i' n κ' i' k = S2 κ' i' k := by unfold sAdd; rw [decide_eq_false (fun e => hk e.2.2), Bool.or_false]
      rw [if_neg (fun e => hk (by omega)), cpS_2, cpS_2, e]
  · rw [if_neg ha, cpS_2, cpS_2]
    by_cases hB : B' = B
    · subst hB
      have e : sAdd S2 κ i n κ' i' k = S2 κ' i' k := by
        unfold sAdd
        rw [decide_eq_false (fun e => ha (by rw [e.1, e.2.1])), Bool.or_false]
      rw [e]
    · rw [if_neg (fun e => hB e.1), if_neg (fun e => hB e.1)]
theorem cpS_cpyL {B b : Nat} {S S2 : Nat → Nat → Nat → Bool} {M : xMem} {κ i n N : Nat} (hW : XW M) (h : b ≠ B) (hs : xsh (κ, b, i) = some (21, N)) (hs2 : xsh (κ, B, i) = some (21, N)) (hn : n ≤ N) (hN : N < 2 ^ 31) : xcpy (cpS B b S S2 M) (nI n) (nI 0) (nI 0) (some (κ, B, i)) (some (κ, b, i)) = some (cpS B b S (sAdd S2 κ i n) M) := by
  rw [xcpyL_w (cpS_W hW) hs hs2 (by omega) (by omega) hN hN, cpS_rowL h]
def sAr (S : Nat → Nat → Nat → Bool) : Nat → Nat → Nat → Bool := sAdd (sAdd (sAdd (sAdd (sAdd S 3 0 32) 4 0 32) 5 0 32) 6 0 32) 9 0 1984
def sAr2 (S2 : Nat → Nat → Nat → Bool) : Nat → Nat → Nat → Bool := sAdd (sAdd S2 7 0 32) 8 0 32
theorem cpS_R2 {B b x k : Nat} {S S2 : Nat → Nat → Nat → Bool} {M : xMem} (hW : XW M) (hx : x < 3) (hk : k < 8) : xgR (cpS B b S S2 M) (some (2, x, 0)) 0 k = some (xRF (2, x, 0) k) := xgR_w (cpS_W hW) (sh_2 hx) (by decide) hk rfl
theorem D_copyA {B b : Nat} {S S2 : Nat → Nat → Nat → Bool} {M : xMem} (hW : XW M) (h : b ≠ B) (hb : b < 3) (hB : B < 3) : fA_copyFrom (cpS B b S S2 M) (2, B, 0) (some (2, b, 0)) = some (cpS B b (sAr S) (sAr2 S2) M) := by
  have eR : ∀ x k, xRF (2, x, 0) k = match (xRFk 2).getD k 0 with
    | 0 => none
    | t + 1 => some (t + 1, x, 0) := fun x k => rfl
  unfold fA_copyFrom
  rw [kl_32, kl_0, kl_1984]
  rw [cpS_R2 hW hb (by decide), Option.bind_some, cpS_R2 hW hB (by decide), Option.bind_some]
  rw [show xcpy (cpS B b S S2 M) (nI 32) (nI 0) (nI 0) (xRF (2, B, 0) 0) (xRF (2, b, 0) 0) = _ from cpS_cpy hW h (sh_3 hb) (sh_3 hB) (Nat.le_refl _) (by decide), Option.bind_some]
  rw [cpS_R2 hW hb (by decide), Option.bind_some, cpS_R2 hW hB (by decide), Option.bind_some]
  rw [show xcpy (cpS B b _ S2 M) (nI 32) (nI 0) (nI 0) (xRF (2, B, 0) 1) (xRF (2, b, 0) 1) = _ from cpS_cpy hW h (sh_4 hb) (sh_4 hB) (Nat.le_refl _) (by decide), Option.bind_some]
  rw [cpS_R2 hW hb (by decide), Option.bind_some, cpS_R2 hW hB (by decide), Option.bind_some]
  rw [show xcpy (cpS B b _ S2 M) (nI 32) (nI 0) (nI 0) (xRF (2, B, 0) 2) (xRF (2, b, 0) 2) = _ from cpS_cpy hW h (sh_5 hb) (sh_5 hB) (Nat.le_refl _) (by decide), Option.bind_some]
  rw [cpS_R2 hW hb (by decide), Option.bind_some, cpS_R2 hW hB (by decide), Option.bind_some]
  rw [show xcpy (cpS B b _ S2 M) (nI 32) (nI 0) (nI 0) (xRF (2, B, 0) 3) (xRF (2, b, 0) 3) = _ from cpS_cpy hW h (sh_6 hb) (sh_6 hB) (Nat.le_refl _) (by decide), Option.bind_some]
  rw [cpS_R2 hW hb (by decide), Option.bind_some, cpS_R2 hW hB (by decide), Option.bind_some]
  rw [show xcpy (cpS B b _ S2 M) (nI 32) (nI 0) (nI 0) (xRF (2, B, 0) 4) (xRF (2, b, 0) 4) = _ from cpS_cpyL hW h (sh_7 hb) (sh_7 hB) (Nat.le_refl _) (by decide), Option.bind_some]
  rw [cpS_R2 hW hb (by decide), Option.bind_some, cpS_R2 hW hB (by decide), Option.bind_some]
  rw [show xcpy (cpS B b _ _ M) (nI 32) (nI 0) (nI 0) (xRF (2, B, 0) 5) (xRF (2, b, 0) 5) = _ from cpS_cpyL hW h (sh_8 hb) (sh_8 hB) (Nat.le_refl _) (by decide), Option.bind_some]
  rw [cpS_R2 hW hb (by decide), Option.bind_some, cpS_R2 hW hB (by decide), Option.bind_some]
  rw [show xcpy (cpS B b _ _ M) (nI 1984) (nI 0) (nI 0) (xRF (2, B, 0) 6) (xRF (2, b, 0) 6) = _ from cpS_cpy hW h (sh_9 hb) (sh_9 hB) (Nat.le_refl _) (by decide), Option.bind_some]
  rfl
theorem D_copyP {B b κ i N n : Nat} {S S2 : Nat → Nat → Nat → Bool} {M : xMem} (hW : XW M) (h : b ≠ B) (hs : xsh (κ, b, i) = some (4, 2)) (hs2 : xsh (κ, B, i) = some (4, 2)) (hm : ∀ x, xmut (κ, x, i) 0 = false) (hr : ∀ x, xRF (κ, x, i) 0 = some (κ + 1, x, i)) (hs3 : xsh (κ + 1, b, i) = some (20, N)) (hs4 : xsh (κ + 1, B, i) = some (20, N)) (hN : N < 2 ^ 31) (hv : M.1 (κ, b, i) 1 = nI n) (hn : n ≤ N) : fP_copyFrom (cpS B b S S2 M) (κ, B, i) (some (κ, b, i)) = some (cpS B b (sOne (sAdd S (κ + 1) i n) κ i 1) S2 M) := by
  have hif : (if nI N < nI n then nI N else nI n) = nI n := if_neg (fun e => by rw [nI_ltI hN (by omega)] at e; omega)
  unfold fP_copyFrom
  rw [kl_0, xgI_w (cpS_W hW) hs, Option.bind_some, cpS_src h, hv, xgR_w (cpS_W hW) hs2 (by decide) (by decide) (hm B), Option.bind_some, hr, xal_w (cpS_W hW) hs4 (by decide) (by decide), Option.bind_some, hif, xgR_w (cpS_W hW) hs (by decide) (by decide) (hm b), Option.bind_some, hr, Option.bind_some, cpS_cpy hW h hs3 hs4 hn hN, Option.bind_some, xpI_w (cpS_W hW) hs2, Option.bind_some, ← hv, cpS_one]
