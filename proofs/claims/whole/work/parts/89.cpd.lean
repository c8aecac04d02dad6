/-! copies: caches, and a whole depot -/
theorem sOne_add {S : Nat → Nat → Nat → Bool} {κ i n : Nat} : sOne (sAdd S κ i n) κ i n = sAdd S κ i (n + 1) := by
  funext κ' i' k
  unfold sOne sAdd
  rw [Bool.or_assoc, ← Bool.decide_or]
  congr 1
  refine decide_eq_decide.mpr ⟨fun h => ?_, fun h => ?_⟩
  · rcases h with h | h
    · exact ⟨h.1, h.2.1, by omega⟩
    · exact ⟨h.1, h.2.1, by omega⟩
  · by_cases h2 : k < n
    · exact Or.inl ⟨h.1, h.2.1, h2⟩
    · exact Or.inr ⟨h.1, h.2.1, by omega⟩
theorem sAdd_0 {S : Nat → Nat → Nat → Bool} {κ i : Nat} : sAdd S κ i 0 = S := by
  funext κ' i' k
  unfold sAdd
  rw [decide_eq_false (fun e => Nat.not_lt_zero _ e.2.2), Bool.or_false]
def sC (S : Nat → Nat → Nat → Bool) (i a e : Nat) : Nat → Nat → Nat → Bool := sAdd (sAdd (sOne (sAdd (sOne (sAdd (sAdd S 14 i 13) 18 i a) 17 i 1) 20 i e) 19 i 1) 15 i 4) 16 i 4
theorem D_copyC {B b i a e : Nat} {S S2 : Nat → Nat → Nat → Bool} {M : xMem} (hW : XW M) (h : b ≠ B) (hb : b < 3) (hB : B < 3) (hi : i < 4) (ha : M.1 (17, b, i) 1 = nI a) (ha2 : a ≤ 24) (he : M.1 (19, b, i) 1 = nI e) (he2 : e ≤ 24) : fC_copyFrom (cpS B b S S2 M) (14, B, i) (some (14, b, i)) = some (cpS B b (sC S i a e) (sOne S2 14 i 13) M) := by
  have hs := sh_14 hb hi
  have hs2 := sh_14 hB hi
  have hm : ∀ x k, xmut (14, x, i) k = false := fun x k => rfl
  have gI : ∀ S S2 k, xgI (cpS B b S S2 M) (some (14, b, i)) 2 k = some (M.1 (14, b, i) k) := fun S S2 k => by rw [xgI_w (cpS_W hW) hs, cpS_src h]
  have pI : ∀ S S2 k, xpI (cpS B b S S2 M) (some (14, B, i)) 2 k (M.1 (14, b, i) k) = some (cpS B b (sOne S 14 i k) S2 M) := fun S S2 k => by rw [xpI_w (cpS_W hW) hs2, cpS_one]
  have gR : ∀ S S2 k, k < 18 → xgR (cpS B b S S2 M) (some (14, b, i)) 2 k = some (xRF (14, b, i) k) := fun S S2 k hk => xgR_w (cpS_W hW) hs (by decide) hk rfl
  have gR2 : ∀ S S2 k, k < 18 → xgR (cpS B b S S2 M) (some (14, B, i)) 2 k = some (xRF (14, B, i) k) := fun S S2 k hk => xgR_w (cpS_W hW) hs2 (by decide) hk rfl
  unfold fC_copyFrom
  rw [gI, Option.bind_some, pI, Option.bind_some]
  rw [gI, Option.bind_some, pI, Option.bind_some]
  rw [gI, Option.bind_some, pI, Option.bind_some]
  rw [gI, Option.bind_some, pI, Option.bind_some]
  rw [gI, Option.bind_some, pI, Option.bind_some]
  rw [gI, Option.bind_some, pI, Option.bind_some]
  rw [gI, Option.bind_some, pI, Option.bind_some]
  rw [gI, Option.bind_some, pI, Option.bind_some]
  rw [gI, Option.bind_some, pI, Option.bind_some]
  rw [gI, Option.bind_some, pI, Option.bind_some]
  rw [gI, Option.bind_some, pI, Option.bind_some]
  rw [gI, Option.bind_some, pI, Option.bind_some]
  rw [gI, Option.bind_some, pI, Option.bind_some]
  have e14 : sOne (sOne (sOne (sOne (sOne (sOne (sOne (sOne (sOne (sOne (sOne (sOne (sOne S 14 i 0) 14 i 1) 14 i 2) 14 i 3) 14 i 4) 14 i 5) 14 i 6) 14 i 7) 14 i 8) 14 i 9) 14 i 10) 14 i 11) 14 i 12 = sAdd S 14 i 13 := by
    rw [show sOne S 14 i 0 = sAdd S 14 i (0 + 1) from by rw [← sOne_add, sAdd_0]]
    simp only [sOne_add, Nat.reduceAdd]
  rw [e14]
  rw [xgL_w (cpS_W hW) hs, Option.bind_some, cpS_src2 h, xpL_w (cpS_W hW) hs2, Option.bind_some, cpS_oneL]
  rw [gR2 _ _ 16 (by decide), Option.bind_some, gR _ _ 16 (by decide), Option.bind_some]
  rw [show xob (cpS B b (sAdd S 14 i 13) (sOne S2 14 i 13) M) (xRF (14, B, i) 16) 4 = some (17, B, i) from xob_w (cpS_W hW) (sh_17 hB hi), Option.bind_some]
  rw [show fP_copyFrom (cpS B b (sAdd S 14 i 13) (sOne S2 14 i 13) M) (17, B, i) (xRF (14, b, i) 16) = _ from D_copyP hW h (sh_17 hb hi) (sh_17 hB hi) (fun _ => rfl) (fun _ => rfl) (sh_18 hb hi) (sh_18 hB hi) (by decide) ha ha2, Option.bind_some]
  rw [gR2 _ _ 17 (by decide), Option.bind_some, gR _ _ 17 (by decide), Option.bind_some]
  rw [show xob (cpS B b (sOne (sAdd (sAdd S 14 i 13) 18 i a) 17 i 1) (sOne S2 14 i 13) M) (xRF (14, B, i) 17) 4 = some (19, B, i) from xob_w (cpS_W hW) (sh_19 hB hi), Option.bind_some]
  rw [show fP_copyFrom (cpS B b (sOne (sAdd (sAdd S 14 i 13) 18 i a) 17 i 1) (sOne S2 14 i 13) M) (19, B, i) (xRF (14, b, i) 17) = _ from D_copyP hW h (sh_19 hb hi) (sh_19 hB hi) (fun _ => rfl) (fun _ => rfl) (sh_20 hb hi) (sh_20 hB hi) (by decide) he he2, Option.bind_some]
  rw [gR _ _ 14 (by decide), Option.bind_some, gR2 _ _ 14 (by decide), Option.bind_some, kl_4, kl_0]
  rw [show xcpy (cpS B b (sOne (sAdd (sOne (sAdd (sAdd S 14 i 13) 18 i a) 17 i 1) 20 i e) 19 i 1) (sOne S2 14 i 13) M) (nI 4) (nI 0) (nI 0) (xRF (14, B, i) 14) (xRF (14, b, i) 14) = _ from cpS_cpy hW h (sh_15 hb hi) (sh_15 hB hi) (Nat.le_refl _) (by decide), Option.bind_some]
  rw [gR _ _ 15 (by decide), Option.bind_some, gR2 _ _ 15 (by decide), Option.bind_some]
  rw [show xcpy (cpS B b (sAdd (sOne (sAdd (sOne (sAdd (sAdd S 14 i 13) 18 i a) 17 i 1) 20 i e) 19 i 1) 15 i 4) (sOne S2 14 i 13) M) (nI 4) (nI 0) (nI 0) (xRF (14, B, i) 15) (xRF (14, b, i) 15) = _ from cpS_cpy hW h (sh_16 hb hi) (sh_16 hB hi) (Nat.le_refl _) (by decide), Option.bind_some]
  rfl
def sCs (S : Nat → Nat → Nat → Bool) (A E : Nat → Nat) : Nat → Nat → Nat → Nat → Bool
  | 0 => S
  | n + 1 => sC (sCs S A E n) n (A n) (E n)
def sCs2 (S2 : Nat → Nat → Nat → Bool) : Nat → Nat → Nat → Nat → Bool
  | 0 => S2
  | n + 1 => sOne (sCs2 S2 n) 14 n 13
def sMs (S : Nat → Nat → Nat → Bool) (G : Nat → Nat) : Nat → Nat → Nat → Nat → Bool
  | 0 => S
  | n + 1 => sOne (sOne (sAdd (sMs S G n) 22 n (G n)) 21 n 1) 13 0 n
def sD (S : Nat → Nat → Nat → Bool) : Nat → Nat → Nat → Bool := sOne (sOne (sOne (sOne S 1 0 4) 1 0 5) 1 0 6) 1 0 7
theorem D_copyM {B b : Nat} {S2 : Nat → Nat → Nat → Bool} {G : Nat → Nat} {M : xMem} (hW : XW M) (h : b ≠ B) (hb : b < 3) (hB : B < 3) (hG : ∀ i, i < 24 → M.1 (21, b, i) 1 = nI (G i) ∧ G i ≤ 8) (hz : ∀ i, i < 24 → M.1 (13, b, 0) i = 0 ∨ M.1 (13, b, 0) i = 1) : ∀ e i n S, i + e = 24 → e < n → fD_copyFrom_41 n (cpS B b (sMs S G i) S2 M) (some (1, B, 0)) (some (1, b, 0)) (nI i) = some (cpS B b (sD (sMs S G 24)) S2 M) := by
  have hs := sh_1 hb
  have hs2 := sh_1 hB
  intro e
  induction e with
  | zero =>
    intro i n S hi hn
    obtain ⟨n, rfl⟩ : ∃ m, n = m + 1 := ⟨n - 1, by omega⟩
    have hi : i = 24 := by omega
    subst hi
    have gI : ∀ S S2 k, xgI (cpS B b S S2 M) (some (1, b, 0)) 3 k = some (M.1 (1, b, 0) k) := fun S S2 k => by rw [xgI_w (cpS_W hW) hs, cpS_src h]
    have pI : ∀ S S2 k, xpI (cpS B b S S2 M) (some (1, B, 0)) 3 k (M.1 (1, b, 0) k) = some (cpS B b (sOne S 1 0 k) S2 M) := fun S S2 k => by rw [xpI_w (cpS_W hW) hs2, cpS_one]
    unfold fD_copyFrom_41
    rw [kl_24, if_pos (nI_le (Nat.le_refl _) (by decide))]
    rw [gI, Option.bind_some, pI, Option.bind_some]
    rw [gI, Option.bind_some, pI, Option.bind_some]
    rw [gI, Option.bind_some, pI, Option.bind_some]
    rw [gI, Option.bind_some, pI, Option.bind_some]
    rfl
  | succ e ih =>
    intro i n S hi hn
    obtain ⟨n, rfl⟩ : ∃ m, n = m + 1 := ⟨n - 1, by omega⟩
    have hi2 : i < 24 := by omega
    have gR : ∀ S S2 k, k < 8 → xgR (cpS B b S S2 M) (some (1, b, 0)) 3 k = some (xRF (1, b, 0) k) := fun S S2 k hk => xgR_w (cpS_W hW) hs (by decide) hk rfl
    have gR2 : ∀ S S2 k, k < 8 → xgR (cpS B b S S2 M) (some (1, B, 0)) 3 k = some (xRF (1, B, 0) k) := fun S S2 k hk => xgR_w (cpS_W hW) hs2 (by decide) hk rfl
    have ar : ∀ S S2 x, x < 3 → xaR (cpS B b S S2 M) 24 (xRF (1, x, 0) 2) (nI i) = some (some (21, x, i)) := fun S S2 x hx => by
      rw [show xaR (cpS B b S S2 M) 24 (xRF (1, x, 0) 2) (nI i) = _ from xaR_w (cpS_W hW) (sh_12 hx) (by decide) hi2 (by decide) rfl]
      exact congrArg some (show (if i < 24 then some (21, x, i) else none) = some (21, x, i) from if_pos hi2)
    unfold fD_copyFrom_41
    rw [kl_24, if_neg (show ¬ nI 24 ≤ nI i from by rw [nI_leI (by decide) (by omega)]; omega)]
    rw [gR2 _ _ 2 (by decide), Option.bind_some, ar _ _ _ hB, Option.bind_some, gR _ _ 2 (by decide), Option.bind_some, ar _ _ _ hb, Option.bind_some, xob_w (cpS_W hW) (sh_21 hB hi2), Option.bind_some]
    rw [D_copyP hW h (sh_21 hb hi2) (sh_21 hB hi2) (fun _ => rfl) (fun _ => rfl) (sh_22 hb hi2) (sh_22 hB hi2) (by decide) (hG i hi2).1 (hG i hi2).2, Option.bind_some]
    rw [gR2 _ _ 3 (by decide), Option.bind_some, gR _ _ 3 (by decide), Option.bind_some]
    have hv : vp_nar .boolean (M.1 (13, b, 0) i) = M.1 (13, b, 0) i := by rcases hz i hi2 with e | e <;> rw [e] <;> rfl
    rw [show xaZ (cpS B b (sOne (sAdd (sMs S G i) (21 + 1) i (G i)) 21 i 1) S2 M) (xRF (1, b, 0) 3) (nI i) = _ from xaZ_w (cpS_W hW) (sh_13 hb) hi2 (by decide), Option.bind_some, cpS_src h]
    rw [show xuZ (cpS B b (sOne (sAdd (sMs S G i) (21 + 1) i (G i)) 21 i 1) S2 M) (xRF (1, B, 0) 3) (nI i) (M.1 (13, b, 0) i) = _ from xuZ_w (cpS_W hW) (sh_13 hB) hi2 (by decide), Option.bind_some, hv, cpS_one, kl_1, nI_add]
    exact ih (i + 1) n S (by omega) (by omega)
theorem D_copyCs {B b : Nat} {G A E : Nat → Nat} {M : xMem} (hW : XW M) (h : b ≠ B) (hb : b < 3) (hB : B < 3) (hA : ∀ i, i < 4 → M.1 (17, b, i) 1 = nI (A i) ∧ A i ≤ 24) (hE : ∀ i, i < 4 → M.1 (19, b, i) 1 = nI (E i) ∧ E i ≤ 24) (hG : ∀ i, i < 24 → M.1 (21, b, i) 1 = nI (G i) ∧ G i ≤ 8) (hz : ∀ i, i < 24 → M.1 (13, b, 0) i = 0 ∨ M.1 (13, b, 0) i = 1) : ∀ e i n S S2, i + e = 4 → e < n → fD_copyFrom_13 n (cpS B b (sCs S A E i) (sCs2 S2 i) M) (some (1, B, 0)) (some (1, b, 0)) (nI i) = some (cpS B b (sD (sMs (sCs S A E 4) G 24)) (sCs2 S2 4) M) := by
  have hs := sh_1 hb
  have hs2 := sh_1 hB
  intro e
  induction e with
  | zero =>
    intro i n S S2 hi hn
    obtain ⟨n, rfl⟩ : ∃ m, n = m + 1 := ⟨n - 1, by omega⟩
    have hi : i = 4 := by omega
    subst hi
    unfold fD_copyFrom_13
    rw [kl_4, if_pos (nI_le (Nat.le_refl _) (by decide)), kl_0]
    exact D_copyM hW h hb hB hG hz 24 0 xF (sCs S A E 4) rfl (by unfold xF; omega)
  | succ e ih =>
    intro i n S S2 hi hn
    obtain ⟨n, rfl⟩ : ∃ m, n = m + 1 := ⟨n - 1, by omega⟩
    have hi2 : i < 4 := by omega
    have gR : ∀ S S2 k, k < 8 → xgR (cpS B b S S2 M) (some (1, b, 0)) 3 k = some (xRF (1, b, 0) k) := fun S S2 k hk => xgR_w (cpS_W hW) hs (by decide) hk rfl
    have gR2 : ∀ S S2 k, k < 8 → xgR (cpS B b S S2 M) (some (1, B, 0)) 3 k = some (xRF (1, B, 0) k) := fun S S2 k hk => xgR_w (cpS_W hW) hs2 (by decide) hk rfl
    have ar : ∀ S S2 x, x < 3 → xaR (cpS B b S S2 M) 23 (xRF (1, x, 0) 1) (nI i) = some (some (14, x, i)) := fun S S2 x hx => by
      rw [show xaR (cpS B b S S2 M) 23 (xRF (1, x, 0) 1) (nI i) = _ from xaR_w (cpS_W hW) (sh_11 hx) (by decide) hi2 (by decide) rfl]
      exact congrArg some (show (if i < 4 then some (14, x, i) else none) = some (14, x, i) from if_pos hi2)
    unfold fD_copyFrom_13
    rw [kl_4, if_neg (show ¬ nI 4 ≤ nI i from by rw [nI_leI (by decide) (by omega)]; omega)]
    rw [gR2 _ _ 1 (by decide), Option.bind_some, ar _ _ _ hB, Option.bind_some, gR _ _ 1 (by decide), Option.bind_some, ar _ _ _ hb, Option.bind_some, xob_w (cpS_W hW) (sh_14 hB hi2), Option.bind_some]
    rw [D_copyC hW h hb hB hi2 (hA i hi2).1 (hA i hi2).2 (hE i hi2).1 (hE i hi2).2, Option.bind_some, kl_1, nI_add]
    exact ih (i + 1) n S S2 (by omega) (by omega)
theorem D_copyD {B b : Nat} {G A E : Nat → Nat} {M : xMem} (hW : XW M) (h : b ≠ B) (hb : b < 3) (hB : B < 3) (hA : ∀ i, i < 4 → M.1 (17, b, i) 1 = nI (A i) ∧ A i ≤ 24) (hE : ∀ i, i < 4 → M.1 (19, b, i) 1 = nI (E i) ∧ E i ≤ 24) (hG : ∀ i, i < 24 → M.1 (21, b, i) 1 = nI (G i) ∧ G i ≤ 8) (hz : ∀ i, i < 24 → M.1 (13, b, 0) i = 0 ∨ M.1 (13, b, 0) i = 1) : fD_copyFrom M (1, B, 0) (some (1, b, 0)) = some (cpS B b (sD (sMs (sCs (sAr (fun _ _ _ => false)) A E 4) G 24)) (sCs2 (sAr2 (fun _ _ _ => false)) 4) M) := by
  have h0 : M = cpS B b (fun _ _ _ => false) (fun _ _ _ => false) M := cpS_nil.symm
  unfold fD_copyFrom
  rw [show xgR M (some (1, B, 0)) 3 0 = some (some (2, B, 0)) from (xgR_w hW (sh_1 hB) (by decide) (by decide) rfl).trans rfl, Option.bind_some, show xgR M (some (1, b, 0)) 3 0 = some (some (2, b, 0)) from (xgR_w hW (sh_1 hb) (by decide) (by decide) rfl).trans rfl, Option.bind_some, xob_w hW (sh_2 hB), Option.bind_some]
  rw [show fA_copyFrom M (2, B, 0) (some (2, b, 0)) = fA_copyFrom (cpS B b (fun _ _ _ => false) (fun _ _ _ => false) M) (2, B, 0) (some (2, b, 0)) from by rw [← h0], D_copyA hW h hb hB, Option.bind_some, kl_0]
  exact D_copyCs hW h hb hB hA hE hG hz 4 0 xF _ _ rfl (by unfold xF; omega)
