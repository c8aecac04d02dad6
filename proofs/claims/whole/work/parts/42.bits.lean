/-! ===== drawers: more things than places ===== -/
theorem fb_holes : ∀ (m n : Nat) (f : Nat → Nat), (∀ i, i < n → f i < m) → (∀ i j, i < j → j < n → f i ≠ f j) → n ≤ m := by
  intro m
  induction m with
  | zero =>
    intro n f h1 _
    rcases Nat.eq_zero_or_pos n with h | h
    · omega
    · exact absurd (h1 0 h) (Nat.not_lt_zero _)
  | succ m ih =>
    intro n f h1 h2
    by_cases hx : ∃ i, i < n ∧ f i = m
    · obtain ⟨a, ha, hfa⟩ := hx
      have hg := ih (n - 1) (fun i => if i < a then f i else f (i + 1)) (by
        intro i hi
        by_cases q : i < a
        · simp only [if_pos q]
          have b1 := h1 i (by omega)
          have b2 := h2 i a q ha
          omega
        · simp only [if_neg q]
          have b1 := h1 (i + 1) (by omega)
          have b2 := h2 a (i + 1) (by omega) (by omega)
          omega) (by
        intro i j hij hj
        by_cases q : i < a
        · by_cases r : j < a
          · simp only [if_pos q, if_pos r]
            exact h2 i j hij (by omega)
          · simp only [if_pos q, if_neg r]
            exact h2 i (j + 1) (by omega) (by omega)
        · have r : ¬ j < a := by omega
          simp only [if_neg q, if_neg r]
          exact h2 (i + 1) (j + 1) (by omega) (by omega))
      omega
    · have hg := ih n f (fun i hi => by
        have b1 := h1 i hi
        have b2 : f i ≠ m := fun e => hx ⟨i, hi, e⟩
        omega) h2
      omega
/-- two of them in one place -/
theorem fb_twice {m n : Nat} {f : Nat → Nat} (h : ∀ i, i < n → f i < m) (hm : m < n) : ∃ i j, i < j ∧ j < n ∧ f i = f j := by
  refine Classical.byContradiction fun hx => ?_
  have := fb_holes m n f h (fun i j hij hj e => hx ⟨i, j, hij, hj, e⟩)
  omega
/-- as many as places, none twice: each place is taken -/
theorem fb_onto {n : Nat} {f : Nat → Nat} (h : ∀ i, i < n → f i < n) (h2 : ∀ i j, i < j → j < n → f i ≠ f j) {y : Nat} (hy : y < n) : ∃ i, i < n ∧ f i = y := by
  refine Classical.byContradiction fun hx => ?_
  have hne : ∀ i, i < n → f i ≠ y := fun i hi e => hx ⟨i, hi, e⟩
  have := fb_holes (n - 1) n (fun i => if f i < y then f i else f i - 1) (by
    intro i hi
    have b1 := h i hi
    have b2 := hne i hi
    by_cases q : f i < y
    · simp only [if_pos q]; omega
    · simp only [if_neg q]; omega) (by
    intro i j hij hj
    have b1 := hne i (by omega)
    have b2 := hne j hj
    have b3 := h2 i j hij hj
    by_cases q : f i < y
    · by_cases r : f j < y
      · simp only [if_pos q, if_pos r]; exact b3
      · simp only [if_pos q, if_neg r]; omega
    · by_cases r : f j < y
      · simp only [if_neg q, if_pos r]; omega
      · simp only [if_neg q, if_neg r]; omega)
  omega
/-! ===== how many places have a property ===== -/
def fb_ct (p : Nat → Bool) : Nat → Nat
  | 0 => 0
  | n + 1 => fb_ct p n + (if p n then 1 else 0)
theorem fb_ct_succ (p : Nat → Bool) (n : Nat) : fb_ct p (n + 1) = fb_ct p n + (if p n then 1 else 0) := rfl
theorem fb_ct_le (p : Nat → Bool) : ∀ n, fb_ct p n ≤ n
  | 0 => Nat.le_refl _
  | n + 1 => by
    have h := fb_ct_le p n
    rw [fb_ct_succ]
    split <;> omega
theorem fb_ct_step (p : Nat → Bool) (m : Nat) : ∀ n, fb_ct p m ≤ fb_ct p (m + n)
  | 0 => Nat.le_refl _
  | n + 1 => by
    have h := fb_ct_step p m n
    show fb_ct p m ≤ fb_ct p (m + n + 1)
    rw [fb_ct_succ]
    omega
theorem fb_ct_mono (p : Nat → Bool) {m n : Nat} (h : m ≤ n) : fb_ct p m ≤ fb_ct p n := by
  have := fb_ct_step p m (n - m)
  rwa [Nat.add_sub_cancel' h] at this
theorem fb_ct_cong {p q : Nat → Bool} : ∀ {n : Nat}, (∀ k, k < n → p k = q k) → fb_ct p n = fb_ct q n
  | 0, _ => rfl
  | n + 1, h => by
    rw [fb_ct_succ, fb_ct_succ, fb_ct_cong (fun k hk => h k (by omega)), h n (by omega)]
/-- one place changed -/
theorem fb_ct_out (p : Nat → Bool) (b : Bool) {i n : Nat} (h : n ≤ i) : fb_ct (fun k => if k = i then b else p k) n = fb_ct p n :=
  fb_ct_cong fun k hk => if_neg (by omega)
theorem fb_ct_upd (p : Nat → Bool) (b : Bool) {i : Nat} : ∀ {n : Nat}, i < n → fb_ct (fun k => if k = i then b else p k) n + (if p i then 1 else 0) = fb_ct p n + (if b then 1 else 0)
  | 0, h => absurd h (Nat.not_lt_zero i)
  | n + 1, h => by
    rw [fb_ct_succ, fb_ct_succ]
    rcases Nat.lt_or_ge i n with q | q
    · have := fb_ct_upd p b q
      have e : (if n = i then b else p n) = p n := if_neg (by omega)
      rw [e]
      omega
    · have e : i = n := by omega
      subst e
      rw [fb_ct_out p b (Nat.le_refl _)]
      simp only [if_true]
      omega
theorem fb_ct_sub {p q : Nat → Bool} : ∀ {n : Nat}, (∀ k, k < n → p k = true → q k = true) → fb_ct p n ≤ fb_ct q n
  | 0, _ => Nat.le_refl _
  | n + 1, h => by
    have h1 := fb_ct_sub (n := n) (p := p) (q := q) (fun k hk => h k (by omega))
    have h2 := h n (by omega)
    rw [fb_ct_succ, fb_ct_succ]
    cases hp : p n <;> cases hq : q n <;> simp_all <;> omega
theorem fb_ct_or {p q : Nat → Bool} : ∀ {n : Nat}, (∀ k, k < n → ¬ (p k = true ∧ q k = true)) → fb_ct (fun k => p k || q k) n = fb_ct p n + fb_ct q n
  | 0, _ => rfl
  | n + 1, h => by
    have h1 := fb_ct_or (n := n) (p := p) (q := q) (fun k hk => h k (by omega))
    have h2 := h n (by omega)
    rw [fb_ct_succ, fb_ct_succ, fb_ct_succ, h1]
    cases hp : p n <;> cases hq : q n <;> simp_all <;> omega
theorem fb_ct_not (p : Nat → Bool) : ∀ n, fb_ct p n + fb_ct (fun k => !p k) n = n
  | 0 => rfl
  | n + 1 => by
    have h := fb_ct_not p n
    rw [fb_ct_succ, fb_ct_succ]
    cases p n <;> simp <;> omega
theorem fb_ct_split (p : Nat → Bool) (m : Nat) : ∀ n, fb_ct p (m + n) = fb_ct p m + fb_ct (fun k => p (m + k)) n
  | 0 => rfl
  | n + 1 => by
    have h := fb_ct_split p m n
    show fb_ct p (m + n + 1) = _
    rw [fb_ct_succ, fb_ct_succ, h, Nat.add_assoc]
theorem fb_ct_zero {p : Nat → Bool} : ∀ {n : Nat}, fb_ct p n = 0 ↔ ∀ k, k < n → p k = false
  | 0 => ⟨fun _ k hk => absurd hk (Nat.not_lt_zero k), fun _ => rfl⟩
  | n + 1 => by
    have h := fb_ct_zero (p := p) (n := n)
    rw [fb_ct_succ]
    constructor
    · intro e k hk
      have e1 : fb_ct p n = 0 := by omega
      rcases Nat.lt_or_ge k n with q | q
      · exact h.mp e1 k q
      · have ek : k = n := by omega
        subst ek
        cases hp : p k
        · rfl
        · simp [hp] at e
    · intro a
      rw [h.mpr (fun k hk => a k (by omega)), a n (by omega)]
      rfl
theorem fb_ct_pos {p : Nat → Bool} {n : Nat} : 0 < fb_ct p n ↔ ∃ k, k < n ∧ p k = true := by
  constructor
  · intro h
    refine Classical.byContradiction fun hx => ?_
    have := fb_ct_zero.mpr (fun k hk => by
      cases hp : p k
      · rfl
      · exact absurd ⟨k, hk, hp⟩ hx : ∀ k, k < n → p k = false)
    omega
  · rintro ⟨k, hk, hp⟩
    rcases Nat.eq_zero_or_pos (fb_ct p n) with e | e
    · have := fb_ct_zero.mp e k hk
      rw [this] at hp
      cases hp
    · exact e
theorem fb_ct_all {p : Nat → Bool} {n : Nat} : fb_ct p n = n ↔ ∀ k, k < n → p k = true := by
  have h := fb_ct_not p n
  constructor
  · intro e k hk
    have z : fb_ct (fun k => !p k) n = 0 := by omega
    have := fb_ct_zero.mp z k hk
    cases hp : p k
    · simp [hp] at this
    · rfl
  · intro a
    have z : fb_ct (fun k => !p k) n = 0 := fb_ct_zero.mpr (fun k hk => by simp [a k hk])
    omega
/-- the k-th place with the property -/
theorem fb_ct_kth {p : Nat → Bool} {k : Nat} : ∀ {n : Nat}, k < fb_ct p n → ∃ i, i < n ∧ p i = true ∧ fb_ct p i = k
  | 0, h => absurd h (Nat.not_lt_zero k)
  | n + 1, h => by
    rcases Nat.lt_or_ge k (fb_ct p n) with q | q
    · obtain ⟨i, h1, h2⟩ := fb_ct_kth q
      exact ⟨i, by omega, h2⟩
    · rw [fb_ct_succ] at h
      cases hp : p n
      · simp [hp] at h; omega
      · simp [hp] at h
        exact ⟨n, by omega, hp, by omega⟩
theorem fb_ct_kth_one {p : Nat → Bool} {i j : Nat} (hi : p i = true) (hj : p j = true) (e : fb_ct p i = fb_ct p j) : i = j := by
  have key : ∀ a b : Nat, a < b → p a = true → fb_ct p a < fb_ct p b := by
    intro a b hab ha
    have h := fb_ct_mono p (show a + 1 ≤ b from hab)
    rw [fb_ct_succ, ha] at h
    simp at h
    omega
  rcases Nat.lt_trichotomy i j with q | q | q
  · have := key i j q hi; omega
  · exact q
  · have := key j i q hj; omega
/-! ===== bits of a long that isn't negative ===== -/
theorem fb_andL (a b : Nat) : lN a &&& lN b = lN (a &&& b) := by
  apply Int64.toBitVec_inj.1
  show BitVec.ofNat 64 a &&& BitVec.ofNat 64 b = BitVec.ofNat 64 (a &&& b)
  apply BitVec.eq_of_getLsbD_eq
  intro i hi
  simp [hi]
theorem fb_orL (a b : Nat) : lN a ||| lN b = lN (a ||| b) := by
  apply Int64.toBitVec_inj.1
  show BitVec.ofNat 64 a ||| BitVec.ofNat 64 b = BitVec.ofNat 64 (a ||| b)
  apply BitVec.eq_of_getLsbD_eq
  intro i hi
  simp [hi]
theorem fb_xorL (a b : Nat) : lN a ^^^ lN b = lN (a ^^^ b) := by
  apply Int64.toBitVec_inj.1
  show BitVec.ofNat 64 a ^^^ BitVec.ofNat 64 b = BitVec.ofNat 64 (a ^^^ b)
  apply BitVec.eq_of_getLsbD_eq
  intro i hi
  simp [hi]
theorem fb_xorI (a b : Nat) : nI a ^^^ nI b = nI (a ^^^ b) := by
  apply Int32.toBitVec_inj.1
  show BitVec.ofNat 32 a ^^^ BitVec.ofNat 32 b = BitVec.ofNat 32 (a ^^^ b)
  apply BitVec.eq_of_getLsbD_eq
  intro i hi
  simp [hi]
theorem fb_maskL (n k : Nat) : lN n &&& lN (2 ^ k - 1) = lN (n % 2 ^ k) := by rw [fb_andL, Nat.and_two_pow_sub_one_eq_mod]
theorem fb_or_sumL {a k : Nat} (b : Nat) (h : a < 2 ^ k) : lN (2 ^ k * b) ||| lN a = lN (2 ^ k * b + a) := by rw [fb_orL, Nat.two_pow_add_eq_or_of_lt h]
theorem fb_lN_inj {a b : Nat} (ha : a < 2 ^ 63) (hb : b < 2 ^ 63) : lN a = lN b ↔ a = b := by
  constructor
  · intro h
    have h1 : (BitVec.ofNat 64 a).toNat = (BitVec.ofNat 64 b).toNat := congrArg (fun x : Int64 => x.toBitVec.toNat) h
    rw [BitVec.toNat_ofNat, BitVec.toNat_ofNat, Nat.mod_eq_of_lt (by omega), Nat.mod_eq_of_lt (by omega)] at h1
    exact h1
  · rintro rfl; rfl
theorem fb_bit_nat (n j : Nat) : n &&& 2 ^ j = 0 ↔ n.testBit j = false := by
  constructor
  · intro h
    have h1 : (n &&& 2 ^ j).testBit j = false := by rw [h]; simp
    rw [Nat.testBit_and] at h1
    simpa using h1
  · intro h
    apply Nat.eq_of_testBit_eq
    intro i
    rw [Nat.testBit_and]
    by_cases hi : j = i
    · subst hi; simp [h]
    · first | (simp [Nat.testBit_two_pow, hi]; done) | (simp [Nat.testBit_two_pow_of_ne hi]; done)
/-- one bit of a long -/
theorem fb_bitL {n j : Nat} (hj : j < 63) : lN n &&& lN (2 ^ j) = 0 ↔ n.testBit j = false := by
  have h2 : (2 : Nat) ^ j < 2 ^ 63 := Nat.pow_lt_pow_right (by decide) hj
  have hle : n &&& 2 ^ j ≤ 2 ^ j := Nat.and_le_right
  rw [fb_andL, ← fb_bit_nat, show (0 : Int64) = lN 0 from rfl]
  exact fb_lN_inj (by omega) (by decide)
/-- a bit set, a bit taken off -/
theorem fb_bit_set (n j i : Nat) : (n ||| 2 ^ j).testBit i = (n.testBit i || decide (i = j)) := by
  rw [Nat.testBit_or]
  by_cases h : j = i
  · subst h; simp
  · have h2 : ¬ i = j := fun e => h e.symm
    first | (simp [Nat.testBit_two_pow, h, h2]; done) | (simp [Nat.testBit_two_pow_of_ne h, h2]; done)
theorem fb_bit_flip (n j i : Nat) : (n ^^^ 2 ^ j).testBit i = (n.testBit i ^^ decide (i = j)) := by
  rw [Nat.testBit_xor]
  by_cases h : j = i
  · subst h; simp
  · have h2 : ¬ i = j := fun e => h e.symm
    first | (simp [Nat.testBit_two_pow, h, h2]; done) | (simp [Nat.testBit_two_pow_of_ne h, h2]; done)
/-! ===== lN n to 2^64: shifts, and, or, masks, one bit ===== -/
theorem wb_tb (n : Nat) : (lN n).toBitVec = BitVec.ofNat 64 n := rfl
theorem wb_inj {a b : Int64} (h : a.toBitVec = b.toBitVec) : a = b := Int64.toBitVec_inj.mp h
theorem wb_tn {n : Nat} (h : n < 2 ^ 64) : (lN n).toBitVec.toNat = n := by rw [wb_tb, BitVec.toNat_ofNat, Nat.mod_eq_of_lt h]
theorem wb_of (x : Int64) : ∃ n, n < 2 ^ 64 ∧ x = lN n := ⟨x.toBitVec.toNat, x.toBitVec.isLt, wb_inj (by rw [wb_tb]; simp)⟩
theorem wb_of32 (x : Int32) : ∃ n, n < 2 ^ 32 ∧ x = nI n := ⟨x.toBitVec.toNat, x.toBitVec.isLt, Int32.toBitVec_inj.mp (by show _ = BitVec.ofNat 32 _; simp)⟩
theorem wb_c : ∀ k, k < 64 → ((nI k).toInt64 &&& 63) = lN k := by decide +kernel
theorem wb_cu : ∀ k, k < 64 → ((nI k).toInt64.toUInt64 &&& Int64.toUInt64 63) = UInt64.ofNat k := by decide +kernel
theorem wb_sm : ∀ k, k < 64 → (BitVec.ofNat 64 k).smod 64 = BitVec.ofNat 64 k := by decide +kernel
theorem wb_pw {a b : Nat} (h : a ≤ b) : 2 ^ b = 2 ^ a * 2 ^ (b - a) := by rw [← Nat.pow_add]; congr 1; omega
theorem wb_lt2 {a b : Nat} (h : a < b) : 2 ^ a < 2 ^ b := Nat.pow_lt_pow_right (by decide) h
theorem wb_mod (n : Nat) : lN n = lN (n % 2 ^ 64) := wb_inj (by rw [wb_tb, wb_tb]; apply BitVec.eq_of_toNat_eq; rw [BitVec.toNat_ofNat, BitVec.toNat_ofNat, Nat.mod_mod])
theorem wb_shr {n k : Nat} (hn : n < 2 ^ 64) (hk : k < 64) : ((lN n).toUInt64 >>> ((nI k).toInt64.toUInt64 &&& Int64.toUInt64 63)).toInt64 = lN (n / 2 ^ k) := by
  rw [wb_cu k hk]
  apply wb_inj
  apply BitVec.eq_of_toNat_eq
  show ((lN n).toUInt64 >>> UInt64.ofNat k).toNat = (BitVec.ofNat 64 _).toNat
  have h1 : (UInt64.ofNat k).toNat = k := by
    show (BitVec.ofNat 64 k).toNat = k
    rw [BitVec.toNat_ofNat, Nat.mod_eq_of_lt (by omega)]
  have h2 : (lN n).toUInt64.toNat = n := wb_tn hn
  rw [UInt64.toNat_shiftRight, h1, h2, Nat.mod_eq_of_lt hk, Nat.shiftRight_eq_div_pow, BitVec.toNat_ofNat, Nat.mod_eq_of_lt (Nat.lt_of_le_of_lt (Nat.div_le_self _ _) hn)]
theorem wb_shl (n : Nat) {k : Nat} (hk : k < 64) : lN n <<< ((nI k).toInt64 &&& 63) = lN (n * 2 ^ k) := by
  rw [wb_c k hk]
  apply wb_inj
  rw [Int64.toBitVec_shiftLeft, wb_tb, wb_tb, wb_tb, wb_sm k hk]
  apply BitVec.eq_of_toNat_eq
  rw [BitVec.shiftLeft_eq', BitVec.toNat_shiftLeft, BitVec.toNat_ofNat, BitVec.toNat_ofNat, BitVec.toNat_ofNat, Nat.mod_eq_of_lt (show k < 2 ^ 64 by omega), Nat.shiftLeft_eq, Nat.mul_mod, Nat.mod_mod, ← Nat.mul_mod]
theorem wb_and {a b : Nat} (ha : a < 2 ^ 64) (hb : b < 2 ^ 64) : lN a &&& lN b = lN (a &&& b) := by
  apply wb_inj
  rw [Int64.toBitVec_and, wb_tb, wb_tb, wb_tb]
  apply BitVec.eq_of_toNat_eq
  rw [BitVec.toNat_and, BitVec.toNat_ofNat, BitVec.toNat_ofNat, BitVec.toNat_ofNat, Nat.mod_eq_of_lt ha, Nat.mod_eq_of_lt hb, Nat.mod_eq_of_lt (Nat.and_lt_two_pow _ hb)]
theorem wb_or {a b : Nat} (ha : a < 2 ^ 64) (hb : b < 2 ^ 64) : lN a ||| lN b = lN (a ||| b) := by
  apply wb_inj
  rw [Int64.toBitVec_or, wb_tb, wb_tb, wb_tb]
  apply BitVec.eq_of_toNat_eq
  rw [BitVec.toNat_or, BitVec.toNat_ofNat, BitVec.toNat_ofNat, BitVec.toNat_ofNat, Nat.mod_eq_of_lt ha, Nat.mod_eq_of_lt hb, Nat.mod_eq_of_lt (Nat.or_lt_two_pow ha hb)]
theorem wb_mask {n k : Nat} (hn : n < 2 ^ 64) (hk : k < 64) : lN n &&& lN (2 ^ k - 1) = lN (n % 2 ^ k) := by
  rw [wb_and hn (by have := wb_lt2 hk; omega), Nat.and_two_pow_sub_one_eq_mod]
theorem wb_a1 {n : Nat} (hn : n < 2 ^ 64) : lN n &&& 1 = lN (n % 2) := wb_mask (k := 1) hn (by decide)
theorem wb_bit {n k : Nat} (hn : n < 2 ^ 64) (hk : k < 64) : ((lN n).toUInt64 >>> ((nI k).toInt64.toUInt64 &&& Int64.toUInt64 63)).toInt64 &&& 1 = lN (n / 2 ^ k % 2) := by
  rw [wb_shr hn hk, wb_a1 (Nat.lt_of_le_of_lt (Nat.div_le_self _ _) hn)]
theorem fb_andI (a b : Nat) : nI a &&& nI b = nI (a &&& b) := by
  apply Int32.toBitVec_inj.mp
  rw [Int32.toBitVec_and]
  apply BitVec.eq_of_toNat_eq
  show (BitVec.ofNat 32 a &&& BitVec.ofNat 32 b).toNat = (BitVec.ofNat 32 (a &&& b)).toNat
  rw [BitVec.toNat_and, BitVec.toNat_ofNat, BitVec.toNat_ofNat, BitVec.toNat_ofNat, Nat.and_mod_two_pow]
theorem fb_maskI (n k : Nat) : nI n &&& nI (2 ^ k - 1) = nI (n % 2 ^ k) := by rw [fb_andI, Nat.and_two_pow_sub_one_eq_mod]
/-! ===== masks of 62 places ===== -/
theorem msk_lt (f : Nat → Bool) : ∀ n, msk f n < 2 ^ n
  | 0 => by show 0 < 1; omega
  | n + 1 => by
    have := msk_lt f n
    show msk f n + (if f n then 2 ^ n else 0) < 2 ^ (n + 1)
    rw [Nat.pow_succ]
    split <;> omega
theorem msk_bit (f : Nat → Bool) : ∀ n k, (msk f n).testBit k = (decide (k < n) && f k)
  | 0, k => by show Nat.testBit 0 k = _; simp
  | n + 1, k => by
    have h := msk_lt f n
    have ih := msk_bit f n k
    show (msk f n + (if f n then 2 ^ n else 0)).testBit k = _
    have e : msk f n + (if f n then 2 ^ n else 0) = 2 ^ n * (if f n then 1 else 0) + msk f n := by split <;> omega
    rw [e, Nat.testBit_two_pow_mul_add _ h]
    by_cases h1 : k < n
    · rw [if_pos h1, ih]; simp [h1, Nat.lt_succ_of_lt h1]
    · rw [if_neg h1]
      by_cases h2 : k = n
      · subst h2
        cases f k <;> simp
      · have h3 : ¬ k < n + 1 := by omega
        have h4 : k - n ≠ 0 := by omega
        have h5 : Nat.testBit 1 (k - n) = false := by
          obtain ⟨e', he⟩ : ∃ e', k - n = e' + 1 := ⟨k - n - 1, by omega⟩
          rw [he, Nat.testBit_succ]; simp
        cases f n <;> simp [h3, h5]
theorem msk_eq {f : Nat → Bool} {a n : Nat} (h : a < 2 ^ n) (hb : ∀ k, k < n → a.testBit k = f k) : a = msk f n := by
  apply Nat.eq_of_testBit_eq
  intro k
  rw [msk_bit]
  by_cases h1 : k < n
  · rw [hb k h1]; simp [h1]
  · rw [Nat.testBit_lt_two_pow (Nat.lt_of_lt_of_le h (Nat.pow_le_pow_right (by decide) (by omega)))]; simp [h1]
theorem msk_cong {f g : Nat → Bool} {n : Nat} (h : ∀ k, k < n → f k = g k) : msk f n = msk g n :=
  msk_eq (msk_lt f n) (fun k hk => by rw [msk_bit]; simp [hk, h k hk])
theorem msk64 (f : Nat → Bool) : msk f 62 < 2 ^ 62 := msk_lt f 62
theorem msk_0 {f : Nat → Bool} {n : Nat} : msk f n = 0 ↔ ∀ k, k < n → f k = false := by
  constructor
  · intro h k hk
    have := msk_bit f n k
    rw [h] at this
    simpa [hk] using this.symm
  · intro h
    rw [msk_cong (g := fun _ => false) h]
    clear h
    induction n with
    | zero => rfl
    | succ n ih => show msk _ n + 0 = 0; rw [ih]
theorem mk_bit {k : Nat} (hk : k < 62) : ((1 : Int64) <<< (Int32.toInt64 (nI k) &&& 63)) = lN (2 ^ k) := by
  have := wb_shl 1 (k := k) (by omega)
  rw [Nat.one_mul] at this
  exact this
theorem mk_or {f : Nat → Bool} {k : Nat} (hk : k < 62) : lN (msk f 62) ||| lN (2 ^ k) = lN (msk (fun j => f j || decide (j = k)) 62) := by
  rw [fb_orL]
  congr 1
  refine msk_eq (Nat.or_lt_two_pow (msk_lt f 62) (Nat.pow_lt_pow_right (by decide) hk)) (fun j hj => ?_)
  rw [fb_bit_set, msk_bit]
  simp [hj]
theorem mk_m1 : (-1 : Int64) = lN (2 ^ 64 - 1) := by decide +kernel
theorem mk_off {f : Nat → Bool} {k : Nat} (hk : k < 62) : lN (msk f 62) &&& (lN (2 ^ k) ^^^ (-1 : Int64)) = lN (msk (fun j => f j && !decide (j = k)) 62) := by
  rw [mk_m1, fb_xorL, fb_andL]
  congr 1
  have h64 : ∀ j, (2 ^ 64 - 1).testBit j = decide (j < 64) := fun j => Nat.testBit_two_pow_sub_one 64 j
  refine msk_eq (Nat.lt_of_le_of_lt Nat.and_le_left (msk_lt f 62)) (fun j hj => ?_)
  have h1 : (2 ^ k).testBit j = decide (k = j) := by
    by_cases e : k = j
    · subst e; simp
    · simp [Nat.testBit_two_pow_of_ne e, e]
  rw [Nat.testBit_and, Nat.testBit_xor, h64, h1, msk_bit]
  have h2 : j < 64 := by omega
  by_cases e : k = j
  · subst e; simp [h2, hj]
  · have e2 : ¬ j = k := fun h => e h.symm
    simp [h2, hj, e, e2]
theorem mk_is {f : Nat → Bool} {k : Nat} (hk : k < 62) : (lg_cmp (lN (msk f 62) &&& lN (2 ^ k)) (0 : Int64) = 0) = (f k = false) := by
  refine propext ?_
  rw [lg_cmp_eq, fb_bitL (by omega), msk_bit]
  simp [hk]
theorem lN_0 {a : Nat} (h : a < 2 ^ 63) : (lN a = (0 : Int64)) ↔ a = 0 := fb_lN_inj (b := 0) h (by decide)
theorem mk_z {f : Nat → Bool} : (lg_cmp (lN (msk f 62)) (0 : Int64) = 0) = (∀ k, k < 62 → f k = false) := by
  refine propext ?_
  rw [lg_cmp_eq, lN_0 (Nat.lt_trans (msk64 f) (by decide)), msk_0]
theorem mk_all {n : Nat} (hn : n ≤ 62) : ((1 : Int64) <<< (Int32.toInt64 (nI n) &&& 63)) - (1 : Int64) = lN (msk (fun k => decide (k < n)) 62) := by
  have h := wb_shl 1 (k := n) (by omega)
  rw [Nat.one_mul] at h
  have h2 : ((1 : Int64) <<< (Int32.toInt64 (nI n) &&& 63)) = lN (2 ^ n) := h
  rw [h2]
  have h3 : lN (2 ^ n) - lN 1 = lN (2 ^ n - 1) := lN_sub (Nat.two_pow_pos n)
  rw [show (1 : Int64) = lN 1 from rfl, h3]
  congr 1
  refine msk_eq ?_ (fun k hk => Nat.testBit_two_pow_sub_one n k)
  have : 2 ^ n ≤ 2 ^ 62 := Nat.pow_le_pow_right (by decide) hn
  have := Nat.two_pow_pos n
  omega
theorem mk_eqm {f g : Nat → Bool} : (lg_cmp (lN (msk f 62)) (lN (msk g 62)) = 0) = (∀ k, k < 62 → f k = g k) := by
  refine propext ?_
  rw [lg_cmp_eq, fb_lN_inj (Nat.lt_trans (msk64 f) (by decide)) (Nat.lt_trans (msk64 g) (by decide))]
  constructor
  · intro h k hk
    have h1 := msk_bit f 62 k
    rw [h, msk_bit] at h1
    simpa [hk] using h1.symm
  · exact msk_cong
theorem lN_neg {a : Nat} (h0 : 0 < a) (h : a < 2 ^ 64) : -(lN a) = lN (2 ^ 64 - a) := by
  have h1 : lN (2 ^ 64 - a) + lN a = 0 := by
    rw [lN_add, show 2 ^ 64 - a + a = 2 ^ 64 from by omega]
    decide +kernel
  rw [← Int64.zero_sub, ← h1, Int64.add_sub_cancel]
/-- the lowest place -/
theorem mk_low {f : Nat → Bool} {j : Nat} (hj : j < 62) (h1 : f j = true) (h2 : ∀ k, k < j → f k = false) : (lN (msk f 62) &&& (-(lN (msk f 62)))) = lN (2 ^ j) := by
  have hl := msk64 f
  have hb := msk_bit f 62
  generalize msk f 62 = a at hl hb ⊢
  have hbj : a.testBit j = true := by rw [hb]; simp [hj, h1]
  have h0 : 0 < a := by
    rcases Nat.eq_zero_or_pos a with e | e
    · rw [e] at hbj; simp at hbj
    · exact e
  rw [lN_neg h0 (by omega), fb_andL]
  congr 1
  obtain ⟨c, rfl⟩ : ∃ c, a = c + 1 := ⟨a - 1, by omega⟩
  -- a is 2 ^ j * (2 * m + 1)
  have hm : (c + 1) % 2 ^ j = 0 := by
    apply Nat.eq_of_testBit_eq
    intro k
    rw [Nat.testBit_mod_two_pow, hb]
    by_cases hk : k < j
    · simp [hk, h2 k hk]
    · simp [hk]
  have hq : c + 1 = 2 ^ j * ((c + 1) / 2 ^ j) := by have := Nat.div_add_mod (c + 1) (2 ^ j); omega
  generalize hx : (c + 1) / 2 ^ j = x at hq
  have hodd : x % 2 = 1 := by
    have h3 : x.testBit 0 = true := by rw [← hx, Nat.testBit_div_two_pow, Nat.zero_add]; exact hbj
    rw [Nat.testBit_zero] at h3
    simpa using h3
  have h2j := Nat.two_pow_pos j
  obtain ⟨y, rfl⟩ : ∃ y, x = 2 * y + 1 := ⟨x / 2, by omega⟩
  have hc : c = 2 ^ j * (2 * y) + (2 ^ j - 1) := by
    rw [Nat.mul_add, Nat.mul_one] at hq; omega
  apply Nat.eq_of_testBit_eq
  intro k
  rw [Nat.testBit_and, Nat.testBit_two_pow_sub_succ (by omega)]
  have hck : c.testBit k = if k < j then true else (2 * y).testBit (k - j) := by
    rw [hc, Nat.testBit_two_pow_mul_add _ (by omega)]
    split
    next h => rw [Nat.testBit_two_pow_sub_one]; simp [h]
    next => rfl
  have hak : (c + 1).testBit k = if k < j then false else (2 * y + 1).testBit (k - j) := by
    have : c + 1 = 2 ^ j * (2 * y + 1) + 0 := by omega
    rw [this, Nat.testBit_two_pow_mul_add _ h2j]
    split
    next => simp
    next => rfl
  rw [hck, hak]
  by_cases hk : k < j
  · rw [if_pos hk, if_pos hk, Bool.false_and, Nat.testBit_two_pow_of_ne (by omega)]
  · rw [if_neg hk, if_neg hk]
    by_cases hkj : k = j
    · subst hkj
      have hk64 : k < 64 := by omega
      rw [Nat.sub_self, Nat.testBit_zero, Nat.testBit_zero, Nat.testBit_two_pow_self]
      simp [hk64]
    · have e1 : k - j = (k - j - 1) + 1 := by omega
      rw [e1, Nat.testBit_succ, Nat.testBit_succ, Nat.testBit_two_pow_of_ne (by omega), show (2 * y + 1) / 2 = y from by omega, show 2 * y / 2 = y from by omega]
      cases y.testBit (k - j - 1) <;> simp
/-! ===== how many bits ===== -/
def bcv (a0 : Int64) : Int32 :=
  let x1 : Int64 := (((a0 - ((xlushr a0 (1 : Int32)) &&& (6148914691236517205 : Int64))) &&& (3689348814741910323 : Int64)) + ((xlushr (a0 - ((xlushr a0 (1 : Int32)) &&& (6148914691236517205 : Int64))) (2 : Int32)) &&& (3689348814741910323 : Int64)))
  let x2 : Int64 := (((x1 + (xlushr x1 (4 : Int32))) &&& (1085102592571150095 : Int64)) + (xlushr ((x1 + (xlushr x1 (4 : Int32))) &&& (1085102592571150095 : Int64)) (8 : Int32)))
  let x3 : Int64 := ((x2 + (xlushr x2 (16 : Int32))) + (xlushr (x2 + (xlushr x2 (16 : Int32))) (32 : Int32)))
  (Int64.toInt32 x3) &&& (127 : Int32)
theorem J_bc {M : xMem} {v : Int64} : fJ_bitCount M v = some (bcv v, M) := rfl
theorem bc_low : ∀ j, j < 62 → bcv (lN (2 ^ j) - 1) = nI j := by decide +kernel
def mk2 (c : Nat) : Nat → Nat
  | 0 => 0
  | k + 1 => 256 * mk2 c k + c
def bg1 (k X : Nat) : Nat := X - ((X / 2) &&& mk2 0x55 k)
def bg2 (k Y : Nat) : Nat := (Y &&& mk2 0x33 k) + ((Y / 4) &&& mk2 0x33 k)
def bg3 (k Z : Nat) : Nat := (Z + Z / 16) &&& mk2 0x0f k
def bgg (L : Nat) : Nat := bg3 1 (bg2 1 (bg1 1 L))
theorem and_256 {H L P Q : Nat} (hL : L < 256) (hQ : Q < 256) : (256 * H + L) &&& (256 * P + Q) = 256 * (H &&& P) + (L &&& Q) := by
  have h256 : 256 = 2 ^ 8 := rfl
  apply Nat.eq_of_testBit_eq
  intro k
  rw [Nat.testBit_and, h256, Nat.testBit_two_pow_mul_add _ hL, Nat.testBit_two_pow_mul_add _ hQ, Nat.testBit_two_pow_mul_add _ (Nat.lt_of_le_of_lt Nat.and_le_left hL)]
  split
  · rw [Nat.testBit_and]
  · rw [Nat.testBit_and]
theorem bf1 : ∀ L, L < 256 → ∀ b, b < 2 → (128 * b + L / 2) &&& 0x55 = (L / 2) &&& 0x55 := by decide +kernel
theorem bf2 : ∀ L, L < 256 → ∀ b, b < 4 → (64 * b + L / 4) &&& 0x33 = (L / 4) &&& 0x33 := by decide +kernel
theorem bf3 : ∀ L, L < 69 → ∀ b, b < 5 → (16 * b + L + L / 16) &&& 0x0f = (L + L / 16) &&& 0x0f ∧ 16 * b + L + L / 16 < 256 := by decide +kernel
theorem bf4 : ∀ L, L < 256 → (L / 2) &&& 0x55 ≤ L ∧ bg2 1 (bg1 1 L) < 69 ∧ bg2 1 (bg1 1 L) % 16 < 5 ∧ bgg L ≤ 8 ∧ bg1 1 L < 256 := by decide +kernel
theorem bs1 {k H L : Nat} (hL : L < 256) : bg1 (k + 1) (256 * H + L) = 256 * bg1 k H + bg1 1 L := by
  have h1 : (256 * H + L) / 2 = 256 * (H / 2) + (128 * (H % 2) + L / 2) := by omega
  have h2 := bf1 L hL (H % 2) (by omega)
  have h3 := (bf4 L hL).1
  have h4 : (H / 2) &&& mk2 0x55 k ≤ H / 2 := Nat.and_le_left
  have e1 : bg1 1 L = L - ((L / 2) &&& 0x55) := rfl
  rw [e1]
  unfold bg1
  show 256 * H + L - ((256 * H + L) / 2 &&& (256 * mk2 0x55 k + 0x55)) = _
  rw [h1, and_256 (by omega) (by decide), h2]
  omega
theorem bs2 {k H L : Nat} (hL : L < 256) : bg2 (k + 1) (256 * H + L) = 256 * bg2 k H + bg2 1 L := by
  have h1 : (256 * H + L) / 4 = 256 * (H / 4) + (64 * (H % 4) + L / 4) := by omega
  have h2 := bf2 L hL (H % 4) (by omega)
  have e1 : bg2 1 L = (L &&& 0x33) + ((L / 4) &&& 0x33) := rfl
  rw [e1]
  unfold bg2
  show ((256 * H + L) &&& (256 * mk2 0x33 k + 0x33)) + ((256 * H + L) / 4 &&& (256 * mk2 0x33 k + 0x33)) = _
  rw [h1, and_256 hL (by decide), and_256 (by omega) (by decide), h2]
  omega
theorem bs3 {k A B : Nat} (hA : A % 16 < 5) (hB : B < 69) : bg3 (k + 1) (256 * A + B) = 256 * bg3 k A + bg3 1 B := by
  have h1 : 256 * A + B + (256 * A + B) / 16 = 256 * (A + A / 16) + (16 * (A % 16) + B + B / 16) := by omega
  obtain ⟨h2, h3⟩ := bf3 B hB (A % 16) hA
  have e1 : bg3 1 B = (B + B / 16) &&& 0x0f := rfl
  rw [e1]
  unfold bg3
  show ((256 * A + B + (256 * A + B) / 16) &&& (256 * mk2 0x0f k + 0x0f)) = _
  rw [h1, and_256 h3 (by decide), h2]
def bsm : Nat → Nat → Nat
  | 0, _ => 0
  | k + 1, X => 256 * bsm k (X / 256) + bgg (X % 256)
theorem bs_all : ∀ k X, X < 256 ^ k → bg3 k (bg2 k (bg1 k X)) = bsm k X ∧ bg2 k (bg1 k X) % 16 < 5
  | 0, X, h => by
    have : X = 0 := by simpa using h
    subst this
    exact ⟨rfl, by decide⟩
  | k + 1, X, h => by
    have hH : X / 256 < 256 ^ k := by
      rw [Nat.pow_succ] at h
      exact Nat.div_lt_of_lt_mul (by omega)
    obtain ⟨i1, i2⟩ := bs_all k (X / 256) hH
    have hL : X % 256 < 256 := Nat.mod_lt _ (by decide)
    have hX : X = 256 * (X / 256) + X % 256 := by omega
    obtain ⟨-, g2, g3, -, g5⟩ := bf4 _ hL
    have e1 : bg1 (k + 1) X = 256 * bg1 k (X / 256) + bg1 1 (X % 256) := by
      conv => lhs; rw [hX]
      exact bs1 hL
    rw [e1, bs2 g5, bs3 i2 g2, i1]
    exact ⟨rfl, by omega⟩
theorem bct_byte : ∀ L, L < 256 → bgg L = fb_ct (fun k => L.testBit k) 8 := by decide +kernel
def bpc : Nat → Nat → Nat
  | 0, _ => 0
  | k + 1, X => bgg (X % 256) + bpc k (X / 256)
theorem bpc_ct : ∀ k X, bpc k X = fb_ct (fun j => X.testBit j) (8 * k)
  | 0, X => rfl
  | k + 1, X => by
    show bgg (X % 256) + bpc k (X / 256) = _
    rw [bpc_ct k, bct_byte _ (Nat.mod_lt _ (by decide)), show 8 * (k + 1) = 8 + 8 * k from by omega, fb_ct_split]
    congr 1
    · refine fb_ct_cong (fun j hj => ?_)
      rw [show (256 : Nat) = 2 ^ 8 from rfl, Nat.testBit_mod_two_pow]; simp [hj]
    · refine fb_ct_cong (fun j hj => ?_)
      rw [show (256 : Nat) = 2 ^ 8 from rfl, Nat.testBit_div_two_pow, Nat.add_comm]
theorem dv1 {T A e : Nat} (h : T = 256 * A + e) (he : e < 256) : T / 256 = A := by omega
theorem dv2 {T A e : Nat} (h : T = 65536 * A + e) (he : e < 65536) : T / 65536 = A := by omega
theorem dv3 {T A e : Nat} (h : T = 4294967296 * A + e) (he : e < 4294967296) : T / 4294967296 = A := by omega
theorem dv4 {T A e : Nat} (h : T = 256 * A + e) (he : e < 128) : T % 128 = e := by omega
theorem bsum8 {e0 e1 e2 e3 e4 e5 e6 e7 T : Nat} (h0 : e0 ≤ 8) (h1 : e1 ≤ 8) (h2 : e2 ≤ 8) (h3 : e3 ≤ 8) (h4 : e4 ≤ 8) (h5 : e5 ≤ 8) (h6 : e6 ≤ 8) (h7 : e7 ≤ 8)
    (hT : T = 256 * (256 * (256 * (256 * (256 * (256 * (256 * e7 + e6) + e5) + e4) + e3) + e2) + e1) + e0) : (T + T / 256 + (T + T / 256) / 65536 + (T + T / 256 + (T + T / 256) / 65536) / 4294967296) % 128 = e0 + (e1 + (e2 + (e3 + (e4 + (e5 + (e6 + e7)))))) := by
  obtain ⟨A6, g6⟩ : ∃ A, A = 256 * e7 + e6 := ⟨_, rfl⟩
  rw [← g6] at hT
  obtain ⟨A5, g5⟩ : ∃ A, A = 256 * A6 + e5 := ⟨_, rfl⟩
  rw [← g5] at hT
  obtain ⟨A4, g4⟩ : ∃ A, A = 256 * A5 + e4 := ⟨_, rfl⟩
  rw [← g4] at hT
  obtain ⟨A3, g3⟩ : ∃ A, A = 256 * A4 + e3 := ⟨_, rfl⟩
  rw [← g3] at hT
  obtain ⟨A2, g2⟩ : ∃ A, A = 256 * A3 + e2 := ⟨_, rfl⟩
  rw [← g2] at hT
  obtain ⟨A1, g1⟩ : ∃ A, A = 256 * A2 + e1 := ⟨_, rfl⟩
  rw [← g1] at hT
  have hu : T / 256 = A1 := dv1 hT (by omega)
  rw [hu]
  have hv : (T + A1) / 65536 = A2 + A3 := dv2 (e := 256 * (e1 + e2) + (e0 + e1)) (by omega) (by omega)
  rw [hv]
  have hw : (T + A1 + (A2 + A3)) / 4294967296 = A4 + A5 + A6 + e7 := dv3 (e := 16777216 * (e3 + e4 + e5 + e6) + 65536 * (e2 + e3 + e4 + e5) + 256 * (e1 + e2 + e3 + e4) + (e0 + e1 + e2 + e3)) (by omega) (by omega)
  rw [hw]
  exact dv4 (A := A1 + A2 + A3 + A4 + A5 + A6 + e7) (by omega) (by omega)
theorem bsm8 {X : Nat} : bsm 8 X = 256 * (256 * (256 * (256 * (256 * (256 * (256 * bgg (X / 256 / 256 / 256 / 256 / 256 / 256 / 256 % 256) + bgg (X / 256 / 256 / 256 / 256 / 256 / 256 % 256)) + bgg (X / 256 / 256 / 256 / 256 / 256 % 256)) + bgg (X / 256 / 256 / 256 / 256 % 256)) + bgg (X / 256 / 256 / 256 % 256)) + bgg (X / 256 / 256 % 256)) + bgg (X / 256 % 256)) + bgg (X % 256) := by
  simp only [bsm, Nat.mul_zero, Nat.zero_add]
theorem bpc8' {X : Nat} : bpc 8 X = bgg (X % 256) + (bgg (X / 256 % 256) + (bgg (X / 256 / 256 % 256) + (bgg (X / 256 / 256 / 256 % 256) + (bgg (X / 256 / 256 / 256 / 256 % 256) + (bgg (X / 256 / 256 / 256 / 256 / 256 % 256) + (bgg (X / 256 / 256 / 256 / 256 / 256 / 256 % 256) + bgg (X / 256 / 256 / 256 / 256 / 256 / 256 / 256 % 256))))))) := by
  simp only [bpc, Nat.add_zero]
theorem bgg8 (Y : Nat) : bgg (Y % 256) ≤ 8 := (bf4 _ (Nat.mod_lt _ (by decide))).2.2.2.1
theorem bpc8 {X T : Nat} (hT : T = bsm 8 X) : (T + T / 256 + (T + T / 256) / 65536 + (T + T / 256 + (T + T / 256) / 65536) / 4294967296) % 128 = bpc 8 X := by
  rw [bpc8']
  exact bsum8 (bgg8 _) (bgg8 _) (bgg8 _) (bgg8 _) (bgg8 _) (bgg8 _) (bgg8 _) (bgg8 _) (hT.trans bsm8)
theorem xlu {a k : Nat} {y : Int32} (hy : y = nI k) (hk : k < 64) (ha : a < 2 ^ 64) : xlushr (lN a) y = lN (a / 2 ^ k) := by
  subst hy; exact wb_shr ha hk
theorem bc_all {X : Nat} (h : X < 2 ^ 63) : bcv (lN X) = nI (fb_ct (fun j => X.testBit j) 64) := by
  have h8 : X < 256 ^ 8 := by omega
  obtain ⟨c1, -⟩ := bs_all 8 X h8
  have c2 := bpc8 c1
  have m5 : (6148914691236517205 : Int64) = lN (mk2 0x55 8) := by decide +kernel
  have m3 : (3689348814741910323 : Int64) = lN (mk2 0x33 8) := by decide +kernel
  have mf : (1085102592571150095 : Int64) = lN (mk2 0x0f 8) := by decide +kernel
  have b3 : mk2 0x33 8 < 2 ^ 62 := by decide +kernel
  have bf : mk2 0x0f 8 < 2 ^ 60 := by decide +kernel
  have l1 : (X / 2) &&& mk2 0x55 8 ≤ X := Nat.le_trans Nat.and_le_left (Nat.div_le_self _ _)
  have q1 : bg1 8 X < 2 ^ 63 := by unfold bg1; omega
  have q2 : bg2 8 (bg1 8 X) < 2 ^ 63 := by
    unfold bg2
    have r1 : bg1 8 X &&& mk2 0x33 8 ≤ mk2 0x33 8 := Nat.and_le_right
    have r2 : bg1 8 X / 4 &&& mk2 0x33 8 ≤ mk2 0x33 8 := Nat.and_le_right
    omega
  have q3 : bg3 8 (bg2 8 (bg1 8 X)) < 2 ^ 60 := Nat.lt_of_le_of_lt Nat.and_le_right bf
  have f1 : lN X - (xlushr (lN X) (1 : Int32) &&& (6148914691236517205 : Int64)) = lN (bg1 8 X) := by
    rw [xlu (y := (1 : Int32)) (k := 1) kl_1 (by decide) (by omega), m5, fb_andL, lN_sub l1]; rfl
  have f2 : (lN (bg1 8 X) &&& (3689348814741910323 : Int64)) + (xlushr (lN (bg1 8 X)) (2 : Int32) &&& (3689348814741910323 : Int64)) = lN (bg2 8 (bg1 8 X)) := by
    rw [xlu (y := (2 : Int32)) (k := 2) kl_2 (by decide) (by omega), m3, fb_andL, fb_andL, lN_add]; rfl
  have f3 : (lN (bg2 8 (bg1 8 X)) + xlushr (lN (bg2 8 (bg1 8 X))) (4 : Int32)) &&& (1085102592571150095 : Int64) = lN (bg3 8 (bg2 8 (bg1 8 X))) := by
    rw [xlu (y := (4 : Int32)) (k := 4) kl_4 (by decide) (by omega), mf, lN_add, fb_andL]; rfl
  unfold bcv
  dsimp only
  rw [f1, f2, f3]
  generalize bg3 8 (bg2 8 (bg1 8 X)) = T at q3 c2 ⊢
  rw [xlu (y := (8 : Int32)) (k := 8) kl_8 (by decide) (by omega), lN_add, xlu (y := (16 : Int32)) (k := 16) kl_16 (by decide) (by omega), lN_add, xlu (y := (32 : Int32)) (k := 32) kl_32 (by decide) (by omega), lN_add]
  have e : ∀ n : Nat, Int64.toInt32 (lN n) = nI n := fun n => Int64.toInt32_ofNat
  rw [e]
  have e2 : ∀ n : Nat, nI n &&& (127 : Int32) = nI (n % 128) := fun n => by
    rw [show (127 : Int32) = nI 127 from by decide]
    have := fb_maskI n 7
    exact this
  rw [e2]
  rw [bpc_ct] at c2
  rw [show (2 : Nat) ^ 8 = 256 from rfl, show (2 : Nat) ^ 16 = 65536 from rfl, show (2 : Nat) ^ 32 = 4294967296 from rfl, c2]
theorem bc_msk {f : Nat → Bool} : bcv (lN (msk f 62)) = nI (fb_ct f 62) := by
  rw [bc_all (Nat.lt_trans (msk64 f) (by decide))]
  congr 1
  have e : fb_ct (fun j => (msk f 62).testBit j) (62 + 2) = fb_ct f 62 := by
    rw [fb_ct_split]
    have h0 : fb_ct (fun k => (msk f 62).testBit (62 + k)) 2 = 0 := by
      rw [fb_ct_zero]
      intro k hk
      rw [msk_bit, decide_eq_false (by omega), Bool.false_and]
    rw [h0, Nat.add_zero]
    refine fb_ct_cong (fun k hk => ?_)
    rw [msk_bit]; simp [hk]
  exact e
