/-! lines -/
def scN (Y : xMem) (n : Nat) (f : Nat → Nat) : xMem := (fun a k => if a = (10, 0, 0) ∧ k < n then nI (f k) else Y.1 a k, Y.2)
theorem sc_1 {t : xS} {Y : xMem} {a : xId} {k : Nat} : (cM 0 t Y).1 a k = if a.2.1 = 0 then (cI t a.1 a.2.2 k).getD (Y.1 a k) else Y.1 a k := rfl
theorem scN_w {t : xS} {Y : xMem} {n m j v : Nat} {f g : Nat → Nat} (hj : j < m) (hv : g j = v) (hg : ∀ k, k < m → k ≠ j → k < n ∧ g k = f k) (hm : n ≤ m) : xsi (cM 0 t (scN Y n f)) (10, 0, 0) j (nI v) = cM 0 t (scN Y m g) := by
  refine Prod.ext ?_ rfl
  funext a k
  rw [xsi_1, sc_1, sc_1]
  by_cases ha : a = (10, 0, 0)
  · subst ha
    have hc : cI t 10 0 k = none := rfl
    show (if (10, 0, 0) = ((10, 0, 0) : xId) ∧ k = j then nI v else if 0 = 0 then (cI t 10 0 k).getD ((scN Y n f).1 (10, 0, 0) k) else (scN Y n f).1 (10, 0, 0) k) = (if 0 = 0 then (cI t 10 0 k).getD ((scN Y m g).1 (10, 0, 0) k) else (scN Y m g).1 (10, 0, 0) k)
    rw [if_pos rfl, if_pos rfl, hc]
    show (if (10, 0, 0) = ((10, 0, 0) : xId) ∧ k = j then nI v else if (10, 0, 0) = ((10, 0, 0) : xId) ∧ k < n then nI (f k) else Y.1 (10, 0, 0) k) = if (10, 0, 0) = ((10, 0, 0) : xId) ∧ k < m then nI (g k) else Y.1 (10, 0, 0) k
    by_cases hk : k = j
    · rw [if_pos ⟨rfl, hk⟩, if_pos ⟨rfl, by omega⟩, hk, hv]
    · rw [if_neg (fun e => hk e.2)]
      by_cases hk2 : k < m
      · have h1 := hg k hk2 hk
        rw [if_pos ⟨rfl, h1.1⟩, if_pos ⟨rfl, hk2⟩, h1.2]
      · rw [if_neg (fun e => hk2 (Nat.lt_of_lt_of_le e.2 hm)), if_neg (fun e => hk2 e.2)]
  · have e1 : (scN Y n f).1 a k = Y.1 a k := if_neg (fun e => ha e.1)
    have e2 : (scN Y m g).1 a k = Y.1 a k := if_neg (fun e => ha e.1)
    rw [if_neg (fun e => ha e.1), e1, e2]
theorem scN_r {t : xS} {Y : xMem} {n j : Nat} {f : Nat → Nat} (hW : XW Y) (hj : j < 16) (hn : j < n) : xaI (cM 0 t (scN Y n f)) (some (10, 0, 0)) (nI j) = some (nI (f j)) := by
  rw [xaI_w (M := cM 0 t (scN Y n f)) hW (sh_10 (by decide)) hj (by decide), sc_1]
  show some (if 0 = 0 then (cI t 10 0 j).getD ((scN Y n f).1 (10, 0, 0) j) else _) = _
  rw [if_pos rfl, show cI t 10 0 j = none from rfl]
  show some (if (10, 0, 0) = ((10, 0, 0) : xId) ∧ j < n then nI (f j) else _) = _
  rw [if_pos ⟨rfl, hn⟩]
theorem scN_u {t : xS} {Y : xMem} {n j v : Nat} {f : Nat → Nat} (hW : XW Y) (hj : j < 16) : xuI (cM 0 t (scN Y n f)) (some (10, 0, 0)) (nI j) (nI v) = some (xsi (cM 0 t (scN Y n f)) (10, 0, 0) j (nI v)) :=
  xuI_w (M := cM 0 t (scN Y n f)) hW (sh_10 (by decide)) hj (by decide)
theorem D_fill10 {t : xS} {Y : xMem} (hW : XW Y) : fJ_fill (cM 0 t Y) (some (10, 0, 0)) (nI 0) = some (cM 0 t (scN Y 16 (fun _ => 0))) := by
  have key : ∀ e i n, i + e = 16 → e < n → fJ_fill_5 n (cM 0 t (scN Y i (fun _ => 0))) (some (10, 0, 0)) (nI 0) (nI i) (nI 16) = some (cM 0 t (scN Y 16 (fun _ => 0))) := by
    intro e
    induction e with
    | zero =>
      intro i n hie hn
      obtain ⟨n, rfl⟩ : ∃ m, n = m + 1 := ⟨n - 1, by omega⟩
      have h5 : i = 16 := by omega
      subst h5
      unfold fJ_fill_5
      simp (disch := first | assumption | omega | decide | with_unfolding_all exact hW) only [nI_leI, Nat.le_refl, if_true]
    | succ e ih =>
      intro i n hie hn
      obtain ⟨n, rfl⟩ : ∃ m, n = m + 1 := ⟨n - 1, by omega⟩
      have h5 : ¬ 16 ≤ i := by omega
      unfold fJ_fill_5
      simp (disch := first | assumption | omega | decide | with_unfolding_all exact hW) only [nI_leI, h5, if_false]
      rw [scN_u hW (by omega), Option.bind_some, scN_w (m := i + 1) (g := fun _ => 0) (by omega) rfl (fun k h1 h2 => ⟨by omega, rfl⟩) (by omega)]
      simp (disch := first | assumption | omega | decide | with_unfolding_all exact hW) only [kl_0, kl_1, kl_2, kl_3, kl_4, kl_5, kl_6, kl_7, kl_8, kl_10, kl_13, kl_14, kl_15, kl_16, kl_24, kl_25, kl_26, kl_31, kl_32, kl_36, kl_40, kl_62, kl_99, kl_100, kl_255, kl_400, kl_992, kl_1023, kl_1024, kl_1984, kl_9200, kl_4600, kl_48, kl_57, kl_97, kl_122, kl_32767, nI_add, pk_mul]
      exact ih (i + 1) n (by omega) (by omega)
  have h0 : cM 0 t Y = cM 0 t (scN Y 0 (fun _ => 0)) := by
    have : scN Y 0 (fun _ => 0) = Y := by
      refine Prod.ext ?_ rfl
      funext a k
      exact if_neg (fun e => Nat.not_lt_zero _ e.2)
    rw [this]
  unfold fJ_fill
  rw [xal_w (M := cM 0 t Y) hW (sh_10 (by decide)) (by decide) (by decide), Option.bind_some, kl_0, h0]
  exact key 16 0 xF (by omega) (by unfold xF; omega)
def lB (t : xS) (c x : Nat) : Bool := (t.1 17 x == 1) && (t.1 13 (x / 62) == c)
def lL (t : xS) (x : Nat) : Nat := qAddr t x / 32 % 16
def sLn (t : xS) (c : Nat) : Nat → Nat → (Nat → Nat) → Nat → Nat
  | 0, _, f => f
  | e + 1, i, f => sLn t c e (i + 1) (if lB t c i then (fun l => if l = lL t i then f l + 1 else f l) else f)
theorem sLn_add {t : xS} {c : Nat} : ∀ {a b i : Nat} {f : Nat → Nat}, sLn t c (a + b) i f = sLn t c b (i + a) (sLn t c a i f) := by
  intro a
  induction a with
  | zero => intro b i f; rw [Nat.zero_add]; rfl
  | succ a ih =>
    intro b i f
    rw [show a + 1 + b = (a + b) + 1 by omega]
    show sLn t c (a + b) (i + 1) _ = sLn t c b (i + (a + 1)) (sLn t c a (i + 1) _)
    rw [ih, show i + 1 + a = i + (a + 1) by omega]
theorem sLn_no {t : xS} {c : Nat} : ∀ {e i : Nat} {f : Nat → Nat}, (∀ x, i ≤ x → x < i + e → lB t c x = false) → sLn t c e i f = f := by
  intro e
  induction e with
  | zero => intro i f _; rfl
  | succ e ih =>
    intro i f h
    unfold sLn
    rw [h i (Nat.le_refl _) (by omega), if_neg (by decide)]
    exact ih (fun x h1 h2 => h x (by omega) (by omega))
def qLn (t : xS) (c l x : Nat) : Bool := lB t c x && (lL t x == l)
theorem sLn_q {t : xS} {c l : Nat} : ∀ {e i : Nat} {f : Nat → Nat}, sLn t c e i f l = f l + qC (qLn t c l) e i := by
  intro e
  induction e with
  | zero => intro i f; rfl
  | succ e ih =>
    intro i f
    have es : qC (qLn t c l) (e + 1) i = (if qLn t c l i = true then 1 else 0) + qC (qLn t c l) e (i + 1) := rfl
    unfold sLn
    rw [ih, es, ← Nat.add_assoc]
    congr 1
    unfold qLn
    by_cases h : lB t c i = true
    · rw [if_pos h, h, Bool.true_and]
      by_cases h2 : l = lL t i
      · rw [if_pos h2, if_pos (by rw [h2]; exact BEq.rfl)]
      · rw [if_neg h2, if_neg (fun e => h2 (eq_of_beq e).symm)]; rfl
    · rw [if_neg h, if_neg (by rw [Bool.eq_false_iff.mpr h, Bool.false_and]; decide)]; rfl
theorem addr_lt {t : xS} (hI : INV t) {x : Nat} (hx : x < 1984) (h1 : t.1 17 x ≠ 0) : qAddr t x < 40000 := by
  have h2 := hI.V hx h1
  have h3 := (hI.R.p (p := x / 62) (by omega)).2 h2.1
  have h4 : x % 62 * t.1 1 (t.1 13 (x / 62)) ≤ qPer t (t.1 13 (x / 62)) * t.1 1 (t.1 13 (x / 62)) := Nat.mul_le_mul_right _ (by omega)
  unfold qAddr
  generalize x % 62 * t.1 1 (t.1 13 (x / 62)) = u at h4 ⊢
  generalize qPer t (t.1 13 (x / 62)) * t.1 1 (t.1 13 (x / 62)) = w at h4 h3
  omega
theorem line_n {a : Nat} (h : a < 2 ^ 31) : nI a / nI 32 - nI a / nI 32 / nI 16 * nI 16 = nI (a / 32 % 16) := by
  rw [pk_div h (by decide) (by decide), pk_div (by omega) (by decide) (by decide), pk_mul, nI_remn]
theorem D_lines18 {t : xS} {Y : xMem} {c p : Nat} (hW : XW Y) (hI : INV t) (hc : c < 4) (hp : p < 32) {k10 : xMem → Option xId → Int32 → Int32 → Option (Option xId × xMem)} :
    ∀ e k n f, k + e = 62 → e < n → fA_startsOnLines_18 k10 n (cM 0 t (scN Y 16 f)) (some (2, 0, 0)) (nI c) (nI p) (nI k) = k10 (cM 0 t (scN Y 16 (sLn t c e (62 * p + k) f))) (some (2, 0, 0)) (nI c) (nI (p + 1)) := by
  have hb : 0 < 3 := by decide
  have h62 := qPers_62 hI.R hp
  have e4 : (en 4 m1 (t.1 13 p) = nI c) = (t.1 13 p = c) := en_eq (by decide) (by decide) hc
  intro e
  induction e with
  | zero =>
    intro k n f hie hn
    obtain ⟨n, rfl⟩ : ∃ m, n = m + 1 := ⟨n - 1, by omega⟩
    have h5 : 62 ≤ k := by omega
    simp (disch := first | assumption | omega | decide | with_unfolding_all exact hW) only [fA_startsOnLines_18, fA_startsOnLines_80, kl_0, kl_1, kl_2, kl_3, kl_4, kl_5, kl_6, kl_7, kl_8, kl_10, kl_13, kl_14, kl_15, kl_16, kl_24, kl_25, kl_26, kl_31, kl_32, kl_36, kl_40, kl_62, kl_99, kl_100, kl_255, kl_400, kl_992, kl_1023, kl_1024, kl_1984, kl_9200, kl_4600, kl_48, kl_57, kl_97, kl_122, kl_32767, nI_add, pk_mul, nI_leI, h5, if_true]
    rfl
  | succ e ih =>
    intro k n f hie hn
    obtain ⟨n, rfl⟩ : ∃ m, n = m + 1 := ⟨n - 1, by omega⟩
    have h5 : ¬ 62 ≤ k := by omega
    have hk : k < 62 := by omega
    have hWs : XW (scN Y 16 f) := hW
    unfold fA_startsOnLines_18
    by_cases h0 : t.1 13 p = c
    · have e4' : (en 4 m1 (t.1 13 p) = nI c) = True := by rw [e4]; exact eq_true h0
      have hx : (62 * p + k) / 62 = p := by omega
      have hx2 : (62 * p + k) % 62 = k := by omega
      have hfB : fB t 1 p k = (t.1 17 (62 * p + k) == 1) := by
        unfold fB
        by_cases h2 : k < qPers t p
        · rw [decide_eq_true h2, Bool.true_and]
        · rw [decide_eq_false h2, Bool.false_and]
          symm; rw [beq_eq_false_iff_ne]
          intro e5
          have := hI.V' (x := 62 * p + k) (by omega) (by omega)
          rw [hx, hx2] at this; exact h2 this
      have hA := D_addressOf (b := 0) (t := t) (Y := scN Y 16 f) (x := p * 62 + k) hWs hb (by omega) (by rw [show (p * 62 + k) / 62 = p by omega]; omega)
      have el : lB t c (62 * p + k) = (t.1 17 (62 * p + k) == 1) := by
        unfold lB; rw [hx, h0]; simp
      simp (disch := first | assumption | omega | decide | with_unfolding_all exact hW) only [↓km1, ↓cO_1b, ↓cO_2b, ↓cO_14b, ↓cO_17b, ↓cO_19b, ↓cO_21b, ↓cR_1_0b, ↓cR_1_1b, ↓cR_1_2b, ↓cR_1_3b, ↓cR_2_0b, ↓cR_2_1b, ↓cR_2_2b, ↓cR_2_3b, ↓cR_2_4b, ↓cR_2_5b, ↓cR_2_6b, ↓cR_2_7b, ↓cR_14_14b, ↓cR_14_15b, ↓cR_14_16b, ↓cR_14_17b, ↓cR_17_0b, ↓cR_19_0b, ↓cR_21_0b, ↓cA_11b, ↓cA_12b, ↓cg_1_4b, ↓cg_1_5b, ↓cg_1_6b, ↓cg_1_7b, ↓cg_14_0b, ↓cg_14_1b, ↓cg_14_2b, ↓cg_14_3b, ↓cg_14_4b, ↓cg_14_5b, ↓cg_14_6b, ↓cg_14_7b, ↓cg_14_8b, ↓cg_14_9b, ↓cg_14_10b, ↓cg_14_11b, ↓cg_14_12b, ↓cg_14_13b, ↓cg_17_1b, ↓cg_19_1b, ↓cg_21_1b, ↓ca_3b, ↓ca_4b, ↓ca_5b, ↓ca_6b, ↓ca_9b, ↓ca_15b, ↓ca_16b, ↓ca_18b, ↓ca_20b, ↓ca_22b, ↓ca_13b, ↓ca_7b, ↓ca_8b, ↓cp_1_4b, ↓cp_1_6b, ↓cp_1_7b, ↓cp_14_0b, ↓cp_14_2b, ↓cp_14_4b, ↓cp_14_5b, ↓cp_14_6b, ↓cp_14_7b, ↓cp_14_8b, ↓cp_14_9b, ↓cp_14_10b, ↓cp_14_11b, ↓cp_14_12b, ↓cp_14_13b, ↓cp_17_1b, ↓cp_19_1b, ↓cp_21_1b, ↓cu_4b, ↓cu_15b, ↓cn_15b, ↓cm_15b, ↓cu_16b, ↓cn_16b, ↓cm_16b, ↓cu_18b, ↓cu_20b, ↓cu_22b, ↓cu_9b, ↓cl_15b, ↓cl_16b, ↓cl_18b, ↓cl_20b, ↓cl_22b, ↓Option.bind_some, cO_1, cO_2, cO_14, cO_17, cO_19, cO_21, cR_1_0, cR_1_1, cR_1_2, cR_1_3, cR_2_0, cR_2_1, cR_2_2, cR_2_3, cR_2_4, cR_2_5, cR_2_6, cR_2_7, cR_14_14, cR_14_15, cR_14_16, cR_14_17, cR_17_0, cR_19_0, cR_21_0, cA_11, cA_12, cg_1_4, cg_1_5, cg_1_6, cg_1_7, cg_14_0, cg_14_1, cg_14_2, cg_14_3, cg_14_4, cg_14_5, cg_14_6, cg_14_7, cg_14_8, cg_14_9, cg_14_10, cg_14_11, cg_14_12, cg_14_13, cg_17_1, cg_19_1, cg_21_1, ca_3, ca_4, ca_5, ca_6, ca_9, ca_15, ca_16, ca_18, ca_20, ca_22, ca_13, ca_7, ca_8, cp_1_4, cp_1_6, cp_1_7, cp_14_0, cp_14_2, cp_14_4, cp_14_5, cp_14_6, cp_14_7, cp_14_8, cp_14_9, cp_14_10, cp_14_11, cp_14_12, cp_14_13, cp_17_1, cp_19_1, cp_21_1, cu_4, cu_15, cn_15, cm_15, cu_16, cn_16, cm_16, cu_18, cu_20, cu_22, cu_9, cl_15, cl_16, cl_18, cl_20, cl_22, Option.bind_some, kl_0, kl_1, kl_2, kl_3, kl_4, kl_5, kl_6, kl_7, kl_8, kl_10, kl_13, kl_14, kl_15, kl_16, kl_24, kl_25, kl_26, kl_31, kl_32, kl_36, kl_40, kl_62, kl_99, kl_100, kl_255, kl_400, kl_992, kl_1023, kl_1024, kl_1984, kl_9200, kl_4600, kl_48, kl_57, kl_97, kl_122, kl_32767, nI_add, pk_mul, nI_leI, h5, if_false, e4', if_true, mk_bit, mk_isn, hfB, fA_startsOnLines_74, hA]
      unfold sLn
      rw [el, show p * 62 + k = 62 * p + k by omega]
      cases h3 : (t.1 17 (62 * p + k) == 1) with
      | false =>
        rw [if_pos rfl, if_neg (by decide)]
        exact ih (k + 1) n f (by omega) (by omega)
      | true =>
        have hlt := addr_lt hI (x := 62 * p + k) (by omega) (by rw [eq_of_beq h3]; decide)
        rw [if_neg (by decide), line_n (by omega), scN_r hW (Nat.mod_lt _ (by decide)) (Nat.mod_lt _ (by decide)), Option.bind_some, nI_add, scN_u hW (Nat.mod_lt _ (by decide)), Option.bind_some]
        rw [scN_w (m := 16) (g := fun l => if l = lL t (62 * p + k) then f l + 1 else f l) (Nat.mod_lt _ (by decide)) (if_pos rfl) (fun k' h1 h2 => ⟨h1, if_neg h2⟩) (Nat.le_refl _), if_pos rfl]
        exact ih (k + 1) n _ (by omega) (by omega)
    · have e4' : (en 4 m1 (t.1 13 p) = nI c) = False := by rw [e4]; exact eq_false h0
      simp (disch := first | assumption | omega | decide | with_unfolding_all exact hW) only [↓km1, ↓cO_1b, ↓cO_2b, ↓cO_14b, ↓cO_17b, ↓cO_19b, ↓cO_21b, ↓cR_1_0b, ↓cR_1_1b, ↓cR_1_2b, ↓cR_1_3b, ↓cR_2_0b, ↓cR_2_1b, ↓cR_2_2b, ↓cR_2_3b, ↓cR_2_4b, ↓cR_2_5b, ↓cR_2_6b, ↓cR_2_7b, ↓cR_14_14b, ↓cR_14_15b, ↓cR_14_16b, ↓cR_14_17b, ↓cR_17_0b, ↓cR_19_0b, ↓cR_21_0b, ↓cA_11b, ↓cA_12b, ↓cg_1_4b, ↓cg_1_5b, ↓cg_1_6b, ↓cg_1_7b, ↓cg_14_0b, ↓cg_14_1b, ↓cg_14_2b, ↓cg_14_3b, ↓cg_14_4b, ↓cg_14_5b, ↓cg_14_6b, ↓cg_14_7b, ↓cg_14_8b, ↓cg_14_9b, ↓cg_14_10b, ↓cg_14_11b, ↓cg_14_12b, ↓cg_14_13b, ↓cg_17_1b, ↓cg_19_1b, ↓cg_21_1b, ↓ca_3b, ↓ca_4b, ↓ca_5b, ↓ca_6b, ↓ca_9b, ↓ca_15b, ↓ca_16b, ↓ca_18b, ↓ca_20b, ↓ca_22b, ↓ca_13b, ↓ca_7b, ↓ca_8b, ↓cp_1_4b, ↓cp_1_6b, ↓cp_1_7b, ↓cp_14_0b, ↓cp_14_2b, ↓cp_14_4b, ↓cp_14_5b, ↓cp_14_6b, ↓cp_14_7b, ↓cp_14_8b, ↓cp_14_9b, ↓cp_14_10b, ↓cp_14_11b, ↓cp_14_12b, ↓cp_14_13b, ↓cp_17_1b, ↓cp_19_1b, ↓cp_21_1b, ↓cu_4b, ↓cu_15b, ↓cn_15b, ↓cm_15b, ↓cu_16b, ↓cn_16b, ↓cm_16b, ↓cu_18b, ↓cu_20b, ↓cu_22b, ↓cu_9b, ↓cl_15b, ↓cl_16b, ↓cl_18b, ↓cl_20b, ↓cl_22b, ↓Option.bind_some, cO_1, cO_2, cO_14, cO_17, cO_19, cO_21, cR_1_0, cR_1_1, cR_1_2, cR_1_3, cR_2_0, cR_2_1, cR_2_2, cR_2_3, cR_2_4, cR_2_5, cR_2_6, cR_2_7, cR_14_14, cR_14_15, cR_14_16, cR_14_17, cR_17_0, cR_19_0, cR_21_0, cA_11, cA_12, cg_1_4, cg_1_5, cg_1_6, cg_1_7, cg_14_0, cg_14_1, cg_14_2, cg_14_3, cg_14_4, cg_14_5, cg_14_6, cg_14_7, cg_14_8, cg_14_9, cg_14_10, cg_14_11, cg_14_12, cg_14_13, cg_17_1, cg_19_1, cg_21_1, ca_3, ca_4, ca_5, ca_6, ca_9, ca_15, ca_16, ca_18, ca_20, ca_22, ca_13, ca_7, ca_8, cp_1_4, cp_1_6, cp_1_7, cp_14_0, cp_14_2, cp_14_4, cp_14_5, cp_14_6, cp_14_7, cp_14_8, cp_14_9, cp_14_10, cp_14_11, cp_14_12, cp_14_13, cp_17_1, cp_19_1, cp_21_1, cu_4, cu_15, cn_15, cm_15, cu_16, cn_16, cm_16, cu_18, cu_20, cu_22, cu_9, cl_15, cl_16, cl_18, cl_20, cl_22, Option.bind_some, kl_0, kl_1, kl_2, kl_3, kl_4, kl_5, kl_6, kl_7, kl_8, kl_10, kl_13, kl_14, kl_15, kl_16, kl_24, kl_25, kl_26, kl_31, kl_32, kl_36, kl_40, kl_62, kl_99, kl_100, kl_255, kl_400, kl_992, kl_1023, kl_1024, kl_1984, kl_9200, kl_4600, kl_48, kl_57, kl_97, kl_122, kl_32767, nI_add, pk_mul, nI_leI, h5, if_false, e4', fA_startsOnLines_80]
      rw [sLn_no (fun x h1 h2 => ?_)]
      unfold lB
      rw [show x / 62 = p by omega, beq_eq_false_iff_ne.mpr h0, Bool.and_false]
theorem D_lines10 {t : xS} {Y : xMem} {c : Nat} (hW : XW Y) (hI : INV t) (hc : c < 4) :
    ∀ e p n f, p + e = 32 → e < n → fA_startsOnLines_10 n (cM 0 t (scN Y 16 f)) (some (2, 0, 0)) (nI c) (nI p) = some (some (10, 0, 0), cM 0 t (scN Y 16 (sLn t c (62 * e) (62 * p) f))) := by
  have hb : 0 < 3 := by decide
  intro e
  induction e with
  | zero =>
    intro p n f hie hn
    obtain ⟨n, rfl⟩ : ∃ m, n = m + 1 := ⟨n - 1, by omega⟩
    have h5 : 32 ≤ p := by omega
    have hWs : XW (scN Y 16 f) := hW
    simp (disch := first | assumption | omega | decide | with_unfolding_all exact hW) only [fA_startsOnLines_10, ↓km1, ↓cO_1b, ↓cO_2b, ↓cO_14b, ↓cO_17b, ↓cO_19b, ↓cO_21b, ↓cR_1_0b, ↓cR_1_1b, ↓cR_1_2b, ↓cR_1_3b, ↓cR_2_0b, ↓cR_2_1b, ↓cR_2_2b, ↓cR_2_3b, ↓cR_2_4b, ↓cR_2_5b, ↓cR_2_6b, ↓cR_2_7b, ↓cR_14_14b, ↓cR_14_15b, ↓cR_14_16b, ↓cR_14_17b, ↓cR_17_0b, ↓cR_19_0b, ↓cR_21_0b, ↓cA_11b, ↓cA_12b, ↓cg_1_4b, ↓cg_1_5b, ↓cg_1_6b, ↓cg_1_7b, ↓cg_14_0b, ↓cg_14_1b, ↓cg_14_2b, ↓cg_14_3b, ↓cg_14_4b, ↓cg_14_5b, ↓cg_14_6b, ↓cg_14_7b, ↓cg_14_8b, ↓cg_14_9b, ↓cg_14_10b, ↓cg_14_11b, ↓cg_14_12b, ↓cg_14_13b, ↓cg_17_1b, ↓cg_19_1b, ↓cg_21_1b, ↓ca_3b, ↓ca_4b, ↓ca_5b, ↓ca_6b, ↓ca_9b, ↓ca_15b, ↓ca_16b, ↓ca_18b, ↓ca_20b, ↓ca_22b, ↓ca_13b, ↓ca_7b, ↓ca_8b, ↓cp_1_4b, ↓cp_1_6b, ↓cp_1_7b, ↓cp_14_0b, ↓cp_14_2b, ↓cp_14_4b, ↓cp_14_5b, ↓cp_14_6b, ↓cp_14_7b, ↓cp_14_8b, ↓cp_14_9b, ↓cp_14_10b, ↓cp_14_11b, ↓cp_14_12b, ↓cp_14_13b, ↓cp_17_1b, ↓cp_19_1b, ↓cp_21_1b, ↓cu_4b, ↓cu_15b, ↓cn_15b, ↓cm_15b, ↓cu_16b, ↓cn_16b, ↓cm_16b, ↓cu_18b, ↓cu_20b, ↓cu_22b, ↓cu_9b, ↓cl_15b, ↓cl_16b, ↓cl_18b, ↓cl_20b, ↓cl_22b, ↓Option.bind_some, cO_1, cO_2, cO_14, cO_17, cO_19, cO_21, cR_1_0, cR_1_1, cR_1_2, cR_1_3, cR_2_0, cR_2_1, cR_2_2, cR_2_3, cR_2_4, cR_2_5, cR_2_6, cR_2_7, cR_14_14, cR_14_15, cR_14_16, cR_14_17, cR_17_0, cR_19_0, cR_21_0, cA_11, cA_12, cg_1_4, cg_1_5, cg_1_6, cg_1_7, cg_14_0, cg_14_1, cg_14_2, cg_14_3, cg_14_4, cg_14_5, cg_14_6, cg_14_7, cg_14_8, cg_14_9, cg_14_10, cg_14_11, cg_14_12, cg_14_13, cg_17_1, cg_19_1, cg_21_1, ca_3, ca_4, ca_5, ca_6, ca_9, ca_15, ca_16, ca_18, ca_20, ca_22, ca_13, ca_7, ca_8, cp_1_4, cp_1_6, cp_1_7, cp_14_0, cp_14_2, cp_14_4, cp_14_5, cp_14_6, cp_14_7, cp_14_8, cp_14_9, cp_14_10, cp_14_11, cp_14_12, cp_14_13, cp_17_1, cp_19_1, cp_21_1, cu_4, cu_15, cn_15, cm_15, cu_16, cn_16, cm_16, cu_18, cu_20, cu_22, cu_9, cl_15, cl_16, cl_18, cl_20, cl_22, Option.bind_some, kl_0, kl_1, kl_2, kl_3, kl_4, kl_5, kl_6, kl_7, kl_8, kl_10, kl_13, kl_14, kl_15, kl_16, kl_24, kl_25, kl_26, kl_31, kl_32, kl_36, kl_40, kl_62, kl_99, kl_100, kl_255, kl_400, kl_992, kl_1023, kl_1024, kl_1984, kl_9200, kl_4600, kl_48, kl_57, kl_97, kl_122, kl_32767, nI_add, pk_mul, nI_leI, h5, if_true]
    rfl
  | succ e ih =>
    intro p n f hie hn
    obtain ⟨n, rfl⟩ : ∃ m, n = m + 1 := ⟨n - 1, by omega⟩
    have h5 : ¬ 32 ≤ p := by omega
    unfold fA_startsOnLines_10
    simp (disch := first | assumption | omega | decide | with_unfolding_all exact hW) only [kl_0, kl_1, kl_2, kl_3, kl_4, kl_5, kl_6, kl_7, kl_8, kl_10, kl_13, kl_14, kl_15, kl_16, kl_24, kl_25, kl_26, kl_31, kl_32, kl_36, kl_40, kl_62, kl_99, kl_100, kl_255, kl_400, kl_992, kl_1023, kl_1024, kl_1984, kl_9200, kl_4600, kl_48, kl_57, kl_97, kl_122, kl_32767, nI_leI, h5, if_false]
    rw [D_lines18 hW hI hc (by omega) 62 0 xF f (by omega) (by unfold xF; omega), ih (p + 1) n _ (by omega) (by omega), show 62 * (e + 1) = 62 + 62 * e by omega, sLn_add, Nat.add_zero, show 62 * (p + 1) = 62 * p + 62 by omega]
    rfl
def rLn (g : Nat → Nat) : Nat → Nat → Int32 → Int32 → Int32 × Int32
  | 0, _, a, b => (a, b)
  | e + 1, i, a, b => rLn g e (i + 1) (a + (if g i = 0 then nI 0 else nI 1)) (b + nI (g i) * (nI (g i) - nI 1) / nI 2)
theorem rLn_cong {g g' : Nat → Nat} : ∀ {e i : Nat} {a b : Int32}, (∀ l, i ≤ l → l < i + e → g l = g' l) → rLn g e i a b = rLn g' e i a b := by
  intro e
  induction e with
  | zero => intro i a b _; rfl
  | succ e ih =>
    intro i a b h
    unfold rLn
    rw [h i (Nat.le_refl _) (by omega)]
    exact ih (fun l h1 h2 => h l (by omega) (by omega))
theorem C_lines51 {t : xS} {Y : xMem} {f : Nat → Nat} {v : Int32} (hW : XW Y) (hf : ∀ l, f l < 2 ^ 31) : ∀ e i n a b, i + e = 16 → e < n → fX_lines_51 n (cM 0 t (scN Y 16 f)) v a b (some (10, 0, 0)) (nI 16) (nI i) = some (if v = 0 then (rLn f e i a b).1 else (rLn f e i a b).2, cM 0 t (scN Y 16 f)) := by
  intro e
  induction e with
  | zero =>
    intro i n a b hie hn
    obtain ⟨n, rfl⟩ : ∃ m, n = m + 1 := ⟨n - 1, by omega⟩
    have h5 : 16 ≤ i := by omega
    unfold fX_lines_51
    simp (disch := first | assumption | omega | decide | with_unfolding_all exact hW) only [nI_leI, h5, if_true]
    by_cases hv : v = 0
    · rw [if_pos hv, if_pos hv]; rfl
    · rw [if_neg hv, if_neg hv]; rfl
  | succ e ih =>
    intro i n a b hie hn
    obtain ⟨n, rfl⟩ : ∃ m, n = m + 1 := ⟨n - 1, by omega⟩
    have h5 : ¬ 16 ≤ i := by omega
    have hfi := hf i
    unfold fX_lines_51 rLn
    simp (disch := first | assumption | omega | decide | with_unfolding_all exact hW) only [nI_leI, h5, if_false, fX_lines_77, scN_r, Option.bind_some, kl_0, kl_1, kl_2, kl_3, kl_4, kl_5, kl_6, kl_7, kl_8, kl_10, kl_13, kl_14, kl_15, kl_16, kl_24, kl_25, kl_26, kl_31, kl_32, kl_36, kl_40, kl_62, kl_99, kl_100, kl_255, kl_400, kl_992, kl_1023, kl_1024, kl_1984, kl_9200, kl_4600, kl_48, kl_57, kl_97, kl_122, kl_32767, nI_add, pk_mul]
    by_cases h0 : f i = 0
    · rw [if_pos (by omega), if_pos h0]
      exact ih (i + 1) n _ _ (by omega) (by omega)
    · rw [if_neg (by omega), if_neg h0]
      exact ih (i + 1) n _ _ (by omega) (by omega)
def qLine (t : xS) (c l : Nat) : Nat := qC (qLn t c l) 1984 0
theorem qLine_lt {t : xS} {c l : Nat} : qLine t c l < 2 ^ 31 := Nat.lt_of_le_of_lt (qC_le (d := 1984)) (by decide)
theorem M_line5 {d : Int32} {s : xS} {X : xMem} {c l : Nat} (hW : XW X) (hI : INV s) (hc : c < 4) (hl : l < 16) : ∀ e i n a, i + e = 1984 → e < n → fM_liveOnLine_5 n (mM d s X) (some (44, 0, 0)) (nI c) (nI l) (nI a) (nI i) = some (nI (a + qC (qLn s c l) e i), mM d s X) := by
  intro e
  induction e with
  | zero =>
    intro i n a hie hn
    obtain ⟨n, rfl⟩ : ∃ m, n = m + 1 := ⟨n - 1, by omega⟩
    have h5 : 1984 ≤ i := by omega
    unfold fM_liveOnLine_5
    simp (disch := first | assumption | omega | decide | with_unfolding_all exact hW) only [kl_0, kl_1, kl_2, kl_3, kl_4, kl_5, kl_6, kl_7, kl_8, kl_10, kl_13, kl_14, kl_15, kl_16, kl_24, kl_25, kl_26, kl_31, kl_32, kl_36, kl_40, kl_62, kl_99, kl_100, kl_255, kl_400, kl_992, kl_1023, kl_1024, kl_1984, kl_9200, kl_4600, kl_48, kl_57, kl_97, kl_122, kl_32767, nI_leI, h5, if_true]
    rfl
  | succ e ih =>
    intro i n a hie hn
    obtain ⟨n, rfl⟩ : ∃ m, n = m + 1 := ⟨n - 1, by omega⟩
    have h5 : ¬ 1984 ≤ i := by omega
    have h6 : i < 1984 := by omega
    have e4 : (en 4 (-9) (s.1 13 (i / 62)) = nI c) = (s.1 13 (i / 62) = c) := en_eq (by decide) (by decide) hc
    have e1 : (nI (s.1 17 i) = nI 1) = (s.1 17 i = 1) := propext (nI_eq (by have := hI.S h6; omega) (by decide))
    have es : qC (qLn s c l) (e + 1) i = (if qLn s c l i = true then 1 else 0) + qC (qLn s c l) e (i + 1) := rfl
    rw [es, ← Nat.add_assoc]
    unfold fM_liveOnLine_5
    simp (disch := first | assumption | omega | decide | with_unfolding_all exact hW) only [↓gR_0b, ↓gR_1b, ↓gR_2b, ↓gR_3b, ↓gR_4b, ↓gR_5b, ↓gR_6b, ↓gR_7b, ↓gR_8b, ↓gR_9b, ↓gR_10b, ↓gR_11b, ↓gR_12b, ↓gR_16b, ↓gR_17b, ↓gR_18b, ↓gR_19b, ↓gR_20b, ↓gR_21b, ↓gR_22b, ↓gR_23b, ↓gR_24b, ↓gR_25b, ↓gR_26b, ↓gR_27b, ↓gR_28b, ↓gR_29b, ↓gR_30b, ↓gR_31b, ↓gR_35b, ↓gR_38b, ↓gR_39b, ↓gR_40b, ↓gR_41b, ↓gR_52b, ↓gR_53b, ↓gR_54b, ↓aI_45b, ↓uI_45b, ↓aI_46b, ↓uI_46b, ↓aI_47b, ↓uI_47b, ↓aI_48b, ↓uI_48b, ↓aI_49b, ↓uI_49b, ↓aI_50b, ↓uI_50b, ↓aI_51b, ↓uI_51b, ↓aI_52b, ↓uI_52b, ↓aI_53b, ↓uI_53b, ↓aI_54b, ↓uI_54b, ↓aI_55b, ↓uI_55b, ↓aI_56b, ↓uI_56b, ↓aI_58b, ↓uI_58b, ↓uN_58b, ↓uM_58b, ↓aI_59b, ↓uI_59b, ↓aI_60b, ↓uI_60b, ↓aI_62b, ↓uI_62b, ↓uN_62b, ↓uM_62b, ↓aI_63b, ↓uI_63b, ↓uN_63b, ↓uM_63b, ↓aI_64b, ↓uI_64b, ↓aI_65b, ↓uI_65b, ↓aI_66b, ↓uI_66b, ↓aI_67b, ↓uI_67b, ↓aI_68b, ↓uI_68b, ↓aI_69b, ↓uI_69b, ↓aI_70b, ↓uI_70b, ↓aI_61b, ↓uI_61b, ↓aL_57b, ↓uL_57b, ↓aI_71b, ↓uI_71b, ↓aI_72b, ↓uI_72b, ↓aI_74b, ↓uI_74b, ↓aI_75b, ↓uI_75b, ↓aI_76b, ↓uI_76b, ↓aI_77b, ↓uI_77b, ↓aI_78b, ↓uI_78b, ↓aI_79b, ↓uI_79b, ↓aI_80b, ↓uI_80b, ↓aI_81b, ↓uI_81b, ↓gI_13b, ↓pI_13b, ↓gI_14b, ↓pI_14b, ↓gI_15b, ↓pI_15b, ↓gI_32b, ↓pI_32b, ↓gI_33b, ↓pI_33b, ↓gI_34b, ↓pI_34b, ↓gI_36b, ↓pI_36b, ↓gI_37b, ↓pI_37b, ↓gI_42b, ↓pI_42b, ↓gI_43b, ↓pI_43b, ↓gI_44b, ↓pI_44b, ↓gI_45b, ↓pI_45b, ↓gI_46b, ↓pI_46b, ↓gI_47b, ↓pI_47b, ↓gI_48b, ↓pI_48b, ↓gI_49b, ↓pI_49b, ↓gI_50b, ↓pI_50b, ↓gI_51b, ↓pI_51b, ↓pZ_32b, ↓pZ_33b, ↓pZ_46b, ↓xob_44b, ↓Option.bind_some, xob_44, gR_0, gR_1, gR_2, gR_3, gR_4, gR_5, gR_6, gR_7, gR_8, gR_9, gR_10, gR_11, gR_12, gR_16, gR_17, gR_18, gR_19, gR_20, gR_21, gR_22, gR_23, gR_24, gR_25, gR_26, gR_27, gR_28, gR_29, gR_30, gR_31, gR_35, gR_38, gR_39, gR_40, gR_41, gR_52, gR_53, gR_54, aI_45, aI_46, aI_47, aI_48, aI_49, aI_50, aI_51, aI_52, aI_53, aI_54, aI_55, aI_56, aI_58, aI_59, aI_60, aI_62, aI_63, aI_64, aI_65, aI_66, aI_67, aI_68, aI_69, aI_70, aI_61, aL_57, aI_71, aI_72, aI_74, aI_75, aI_76, aI_77, aI_78, aI_79, aI_80, aI_81, uI_45, uI_46, uI_47, uI_48, uI_49, uI_50, uI_51, uI_52, uI_53, uI_54, uI_55, uI_56, uI_58, uN_58, uM_58, uI_59, uI_60, uI_62, uN_62, uM_62, uI_63, uN_63, uM_63, uI_64, uI_65, uI_66, uI_67, uI_68, uI_69, uI_70, uI_61, uL_57, uI_71, uI_72, uI_74, uI_75, uI_76, uI_77, uI_78, uI_79, uI_80, uI_81, gI_13, gI_14, gI_15, gI_32, gI_33, gI_34, gI_36, gI_37, gI_42, gI_43, gI_44, gI_45, gI_46, gI_47, gI_48, gI_49, gI_50, gI_51, pI_13, pI_14, pI_15, pI_32, pI_33, pI_34, pI_36, pI_37, pI_42, pI_43, pI_44, pI_45, pI_46, pI_47, pI_48, pI_49, pI_50, pI_51, pZ_32, pZ_33, pZ_46, Option.bind_some, kl_0, kl_1, kl_2, kl_3, kl_4, kl_5, kl_6, kl_7, kl_8, kl_10, kl_13, kl_14, kl_15, kl_16, kl_24, kl_25, kl_26, kl_31, kl_32, kl_36, kl_40, kl_62, kl_99, kl_100, kl_255, kl_400, kl_992, kl_1023, kl_1024, kl_1984, kl_9200, kl_4600, kl_48, kl_57, kl_97, kl_122, kl_32767, nI_add, pk_mul, nI_leI, h5, if_false, e1, M_cacheOf, e4, fM_liveOnLine_55, fM_liveOnLine_56]
    by_cases h1 : s.1 17 i = 1
    · rw [if_pos h1]
      by_cases h0 : s.1 13 (i / 62) = c
      · rw [if_pos h0, M_addressOf hW h6 (by omega), Option.bind_some]
        have hlt := addr_lt hI (x := i) h6 (by omega)
        have e2 : (nI (qAddr s i / 32 % 16) = nI l) = (qAddr s i / 32 % 16 = l) := propext (nI_eq (by omega) (by omega))
        dsimp only
        rw [line_n (by omega)]
        simp only [e2]
        by_cases h2 : qAddr s i / 32 % 16 = l
        · rw [if_pos h2, if_pos (show qLn s c l i = true by unfold qLn lB lL; simp [h1, h0, h2])]
          exact ih (i + 1) n _ (by omega) (by omega)
        · rw [if_neg h2, if_neg (show ¬ qLn s c l i = true by unfold qLn lB lL; simp [h2])]
          exact ih (i + 1) n _ (by omega) (by omega)
      · rw [if_neg h0, if_neg (show ¬ qLn s c l i = true by unfold qLn lB lL; simp [h0])]
        exact ih (i + 1) n _ (by omega) (by omega)
    · rw [if_neg h1, if_neg (show ¬ qLn s c l i = true by unfold qLn lB lL; simp [h1])]
      exact ih (i + 1) n _ (by omega) (by omega)
theorem M_line {d : Int32} {s : xS} {X : xMem} {c l : Nat} (hW : XW X) (hI : INV s) (hc : c < 4) (hl : l < 16) : fM_liveOnLine (mM d s X) (44, 0, 0) (nI c) (nI l) = some (nI (qLine s c l), mM d s X) := by
  unfold fM_liveOnLine qLine
  rw [kl_0, M_line5 hW hI hc hl 1984 0 xF 0 (by omega) (by unfold xF; omega), Nat.zero_add]
theorem M_lines27 {d : Int32} {s : xS} {X : xMem} {c : Nat} {v : Int32} {g : Nat → Nat} (hW : XW X) (hg : ∀ l, g l < 2 ^ 31) (hM : ∀ l, l < 16 → fM_liveOnLine (mM d s X) (44, 0, 0) (nI c) (nI l) = some (nI (g l), mM d s X)) : ∀ e i n a b, i + e = 16 → e < n → fM_lines_27 n (mM d s X) (some (44, 0, 0)) (nI c) v a b (nI i) = some (if v = 0 then (rLn g e i a b).1 else (rLn g e i a b).2, mM d s X) := by
  intro e
  induction e with
  | zero =>
    intro i n a b hie hn
    obtain ⟨n, rfl⟩ : ∃ m, n = m + 1 := ⟨n - 1, by omega⟩
    have h5 : 16 ≤ i := by omega
    unfold fM_lines_27
    have h16 : nI 16 ≤ nI i := by rw [nI_leI (by decide) (by omega)]; exact h5
    rw [kl_16, if_pos h16]
    by_cases hv : v = 0
    · rw [if_pos hv, if_pos hv]; rfl
    · rw [if_neg hv, if_neg hv]; rfl
  | succ e ih =>
    intro i n a b hie hn
    obtain ⟨n, rfl⟩ : ∃ m, n = m + 1 := ⟨n - 1, by omega⟩
    have h5 : ¬ 16 ≤ i := by omega
    have hq := hg i
    have hM' := hM i (by omega)
    unfold fM_lines_27 rLn
    simp (disch := first | assumption | omega | decide | with_unfolding_all exact hW) only [↓gR_0b, ↓gR_1b, ↓gR_2b, ↓gR_3b, ↓gR_4b, ↓gR_5b, ↓gR_6b, ↓gR_7b, ↓gR_8b, ↓gR_9b, ↓gR_10b, ↓gR_11b, ↓gR_12b, ↓gR_16b, ↓gR_17b, ↓gR_18b, ↓gR_19b, ↓gR_20b, ↓gR_21b, ↓gR_22b, ↓gR_23b, ↓gR_24b, ↓gR_25b, ↓gR_26b, ↓gR_27b, ↓gR_28b, ↓gR_29b, ↓gR_30b, ↓gR_31b, ↓gR_35b, ↓gR_38b, ↓gR_39b, ↓gR_40b, ↓gR_41b, ↓gR_52b, ↓gR_53b, ↓gR_54b, ↓aI_45b, ↓uI_45b, ↓aI_46b, ↓uI_46b, ↓aI_47b, ↓uI_47b, ↓aI_48b, ↓uI_48b, ↓aI_49b, ↓uI_49b, ↓aI_50b, ↓uI_50b, ↓aI_51b, ↓uI_51b, ↓aI_52b, ↓uI_52b, ↓aI_53b, ↓uI_53b, ↓aI_54b, ↓uI_54b, ↓aI_55b, ↓uI_55b, ↓aI_56b, ↓uI_56b, ↓aI_58b, ↓uI_58b, ↓uN_58b, ↓uM_58b, ↓aI_59b, ↓uI_59b, ↓aI_60b, ↓uI_60b, ↓aI_62b, ↓uI_62b, ↓uN_62b, ↓uM_62b, ↓aI_63b, ↓uI_63b, ↓uN_63b, ↓uM_63b, ↓aI_64b, ↓uI_64b, ↓aI_65b, ↓uI_65b, ↓aI_66b, ↓uI_66b, ↓aI_67b, ↓uI_67b, ↓aI_68b, ↓uI_68b, ↓aI_69b, ↓uI_69b, ↓aI_70b, ↓uI_70b, ↓aI_61b, ↓uI_61b, ↓aL_57b, ↓uL_57b, ↓aI_71b, ↓uI_71b, ↓aI_72b, ↓uI_72b, ↓aI_74b, ↓uI_74b, ↓aI_75b, ↓uI_75b, ↓aI_76b, ↓uI_76b, ↓aI_77b, ↓uI_77b, ↓aI_78b, ↓uI_78b, ↓aI_79b, ↓uI_79b, ↓aI_80b, ↓uI_80b, ↓aI_81b, ↓uI_81b, ↓gI_13b, ↓pI_13b, ↓gI_14b, ↓pI_14b, ↓gI_15b, ↓pI_15b, ↓gI_32b, ↓pI_32b, ↓gI_33b, ↓pI_33b, ↓gI_34b, ↓pI_34b, ↓gI_36b, ↓pI_36b, ↓gI_37b, ↓pI_37b, ↓gI_42b, ↓pI_42b, ↓gI_43b, ↓pI_43b, ↓gI_44b, ↓pI_44b, ↓gI_45b, ↓pI_45b, ↓gI_46b, ↓pI_46b, ↓gI_47b, ↓pI_47b, ↓gI_48b, ↓pI_48b, ↓gI_49b, ↓pI_49b, ↓gI_50b, ↓pI_50b, ↓gI_51b, ↓pI_51b, ↓pZ_32b, ↓pZ_33b, ↓pZ_46b, ↓xob_44b, ↓Option.bind_some, xob_44, gR_0, gR_1, gR_2, gR_3, gR_4, gR_5, gR_6, gR_7, gR_8, gR_9, gR_10, gR_11, gR_12, gR_16, gR_17, gR_18, gR_19, gR_20, gR_21, gR_22, gR_23, gR_24, gR_25, gR_26, gR_27, gR_28, gR_29, gR_30, gR_31, gR_35, gR_38, gR_39, gR_40, gR_41, gR_52, gR_53, gR_54, aI_45, aI_46, aI_47, aI_48, aI_49, aI_50, aI_51, aI_52, aI_53, aI_54, aI_55, aI_56, aI_58, aI_59, aI_60, aI_62, aI_63, aI_64, aI_65, aI_66, aI_67, aI_68, aI_69, aI_70, aI_61, aL_57, aI_71, aI_72, aI_74, aI_75, aI_76, aI_77, aI_78, aI_79, aI_80, aI_81, uI_45, uI_46, uI_47, uI_48, uI_49, uI_50, uI_51, uI_52, uI_53, uI_54, uI_55, uI_56, uI_58, uN_58, uM_58, uI_59, uI_60, uI_62, uN_62, uM_62, uI_63, uN_63, uM_63, uI_64, uI_65, uI_66, uI_67, uI_68, uI_69, uI_70, uI_61, uL_57, uI_71, uI_72, uI_74, uI_75, uI_76, uI_77, uI_78, uI_79, uI_80, uI_81, gI_13, gI_14, gI_15, gI_32, gI_33, gI_34, gI_36, gI_37, gI_42, gI_43, gI_44, gI_45, gI_46, gI_47, gI_48, gI_49, gI_50, gI_51, pI_13, pI_14, pI_15, pI_32, pI_33, pI_34, pI_36, pI_37, pI_42, pI_43, pI_44, pI_45, pI_46, pI_47, pI_48, pI_49, pI_50, pI_51, pZ_32, pZ_33, pZ_46, Option.bind_some, kl_0, kl_1, kl_2, kl_3, kl_4, kl_5, kl_6, kl_7, kl_8, kl_10, kl_13, kl_14, kl_15, kl_16, kl_24, kl_25, kl_26, kl_31, kl_32, kl_36, kl_40, kl_62, kl_99, kl_100, kl_255, kl_400, kl_992, kl_1023, kl_1024, kl_1984, kl_9200, kl_4600, kl_48, kl_57, kl_97, kl_122, kl_32767, nI_add, pk_mul, nI_leI, h5, if_false, hM', fM_lines_54]
    by_cases h0 : g i = 0
    · rw [if_pos (by omega), if_pos h0]
      exact ih (i + 1) n _ _ (by omega) (by omega)
    · rw [if_neg (by omega), if_neg h0]
      exact ih (i + 1) n _ _ (by omega) (by omega)
def rLines1 (s : xS) (c : Nat) (v : Int32) : Int32 := if v = 0 then (rLn (qLine s c) 16 0 (nI 0) (nI 0)).1 else (rLn (qLine s c) 16 0 (nI 0) (nI 0)).2
def rLines (s : xS) (a0 a1 : Int32) : Int32 := if cN (s.1 19 0) a0 < s.1 19 0 ∧ cN 2 a1 < 2 then rLines1 s (cN (s.1 19 0) a0) a1 else m1
theorem rLines_no {s : xS} {a0 a1 : Int32} (h : ¬ (cN (s.1 19 0) a0 < s.1 19 0 ∧ cN 2 a1 < 2)) : rLines s a0 a1 = m1 := if_neg h
theorem rLines_yes {s : xS} {c : Nat} {a1 : Int32} (hn : s.1 19 0 ≤ 4) (hc : c < s.1 19 0) (h2 : cN 2 a1 < 2) : rLines s (nI c) a1 = rLines1 s c a1 := by
  unfold rLines
  rw [cN_nI hc (by omega), if_pos ⟨hc, h2⟩]
theorem M_lines {d : Int32} {s : xS} {X : xMem} {a0 a1 : Int32} (hW : XW X) (hI : INV s) : fM_lines (mM d s X) (44, 0, 0) a0 a1 = some (rLines s a0 a1, mM d s X) := by
  have hn := hI.R.n
  unfold fM_lines
  rw [xob_44 hW, Option.bind_some, M_isCache hW hn, Option.bind_some]
  simp only [bI_0', dec_f]
  rcases ca_cases (s.1 19 0) a0 hn with h | ⟨c, hc, rfl, e⟩
  · rw [rLines_no (fun e => h e.1), if_pos h]; rfl
  · rw [if_neg (by rw [e]; exact fun x => x hc), show (fM_isIn (mM d s X) a1 0 1) = _ from M_isIn (k := 0) (hi := 1) (by decide), Option.bind_some]
    dsimp only
    by_cases h2 : cN 2 a1 < 2
    · rw [decide_eq_true (show cN (1 + 1) a1 < 1 + 1 from h2), if_neg (show ¬ bI true = 0 by decide), rLines_yes hn hc h2]
      exact M_lines27 (g := qLine s c) hW (fun l => qLine_lt) (fun l hl => M_line hW hI (by omega) hl) 16 0 xF (nI 0) (nI 0) (by omega) (by unfold xF; omega)
    · rw [decide_eq_false (show ¬ cN (1 + 1) a1 < 1 + 1 from h2), if_pos (show bI false = 0 by decide), rLines_no (fun e => h2 e.2)]; rfl
theorem D_starts {t : xS} {Y : xMem} {c N : Nat} (hW : XW Y) (hI : INV t) (hc : c < 4) (hN : N = 62 * 32) : fA_startsOnLines (cM 0 t Y) (2, 0, 0) (nI c) = some (some (10, 0, 0), cM 0 t (scN Y 16 (sLn t c N 0 (fun _ => 0)))) := by
  have h10 := D_lines10 (Y := Y) hW hI hc 32 0 xF (fun _ => 0) (by omega) (by unfold xF; omega)
  rw [← hN, Nat.mul_zero] at h10
  unfold fA_startsOnLines
  rw [cR_2_7 hW (by decide), Option.bind_some, kl_0, D_fill10 hW, Option.bind_some]
  exact h10
theorem sLn_line {t : xS} {c N l : Nat} (hN : N = 1984) : sLn t c N 0 (fun _ => 0) l = qLine t c l := by
  rw [sLn_q, Nat.zero_add, hN]
  unfold qLine
  rfl
theorem C_lines {t : xS} {Y : xMem} {a0 a1 : Int32} (hW : XW Y) (hI : INV t) : ∃ Y' : xMem, Y'.2 = Y.2 ∧ (∀ a k, a ≠ (10, 0, 0) → Y'.1 a k = Y.1 a k) ∧ fX_lines (cM 0 t Y) (0, 0, 0) a0 a1 = some (rLines t a0 a1, cM 0 t Y') := by
  have hn := hI.R.n
  have hb : 0 < 3 := by decide
  unfold fX_lines
  simp (disch := first | assumption | omega | decide | with_unfolding_all exact hW) only [↓km1, ↓kn2, ↓kn3, ↓kn5, ↓kn11, ↓kn13, ↓kn14, ↓cX_0b, ↓cX_1b, ↓cX_2b, ↓cX_4b, ↓cX_5b, ↓cX_10b, ↓cX_11b, ↓cX_12b, ↓cX_14b, ↓cXob, cX_0, cX_1, cX_2, cX_4, cX_5, cX_10, cX_11, cX_12, cX_14, cXo, ↓km1, ↓cO_1b, ↓cO_2b, ↓cO_14b, ↓cO_17b, ↓cO_19b, ↓cO_21b, ↓cR_1_0b, ↓cR_1_1b, ↓cR_1_2b, ↓cR_1_3b, ↓cR_2_0b, ↓cR_2_1b, ↓cR_2_2b, ↓cR_2_3b, ↓cR_2_4b, ↓cR_2_5b, ↓cR_2_6b, ↓cR_2_7b, ↓cR_14_14b, ↓cR_14_15b, ↓cR_14_16b, ↓cR_14_17b, ↓cR_17_0b, ↓cR_19_0b, ↓cR_21_0b, ↓cA_11b, ↓cA_12b, ↓cg_1_4b, ↓cg_1_5b, ↓cg_1_6b, ↓cg_1_7b, ↓cg_14_0b, ↓cg_14_1b, ↓cg_14_2b, ↓cg_14_3b, ↓cg_14_4b, ↓cg_14_5b, ↓cg_14_6b, ↓cg_14_7b, ↓cg_14_8b, ↓cg_14_9b, ↓cg_14_10b, ↓cg_14_11b, ↓cg_14_12b, ↓cg_14_13b, ↓cg_17_1b, ↓cg_19_1b, ↓cg_21_1b, ↓ca_3b, ↓ca_4b, ↓ca_5b, ↓ca_6b, ↓ca_9b, ↓ca_15b, ↓ca_16b, ↓ca_18b, ↓ca_20b, ↓ca_22b, ↓ca_13b, ↓ca_7b, ↓ca_8b, ↓cp_1_4b, ↓cp_1_6b, ↓cp_1_7b, ↓cp_14_0b, ↓cp_14_2b, ↓cp_14_4b, ↓cp_14_5b, ↓cp_14_6b, ↓cp_14_7b, ↓cp_14_8b, ↓cp_14_9b, ↓cp_14_10b, ↓cp_14_11b, ↓cp_14_12b, ↓cp_14_13b, ↓cp_17_1b, ↓cp_19_1b, ↓cp_21_1b, ↓cu_4b, ↓cu_15b, ↓cn_15b, ↓cm_15b, ↓cu_16b, ↓cn_16b, ↓cm_16b, ↓cu_18b, ↓cu_20b, ↓cu_22b, ↓cu_9b, ↓cl_15b, ↓cl_16b, ↓cl_18b, ↓cl_20b, ↓cl_22b, ↓Option.bind_some, cO_1, cO_2, cO_14, cO_17, cO_19, cO_21, cR_1_0, cR_1_1, cR_1_2, cR_1_3, cR_2_0, cR_2_1, cR_2_2, cR_2_3, cR_2_4, cR_2_5, cR_2_6, cR_2_7, cR_14_14, cR_14_15, cR_14_16, cR_14_17, cR_17_0, cR_19_0, cR_21_0, cA_11, cA_12, cg_1_4, cg_1_5, cg_1_6, cg_1_7, cg_14_0, cg_14_1, cg_14_2, cg_14_3, cg_14_4, cg_14_5, cg_14_6, cg_14_7, cg_14_8, cg_14_9, cg_14_10, cg_14_11, cg_14_12, cg_14_13, cg_17_1, cg_19_1, cg_21_1, ca_3, ca_4, ca_5, ca_6, ca_9, ca_15, ca_16, ca_18, ca_20, ca_22, ca_13, ca_7, ca_8, cp_1_4, cp_1_6, cp_1_7, cp_14_0, cp_14_2, cp_14_4, cp_14_5, cp_14_6, cp_14_7, cp_14_8, cp_14_9, cp_14_10, cp_14_11, cp_14_12, cp_14_13, cp_17_1, cp_19_1, cp_21_1, cu_4, cu_15, cn_15, cm_15, cu_16, cn_16, cm_16, cu_18, cu_20, cu_22, cu_9, cl_15, cl_16, cl_18, cl_20, cl_22, Option.bind_some, kl_0, kl_1, kl_2, kl_3, kl_4, kl_5, kl_6, kl_7, kl_8, kl_10, kl_13, kl_14, kl_15, kl_16, kl_24, kl_25, kl_26, kl_31, kl_32, kl_36, kl_40, kl_62, kl_99, kl_100, kl_255, kl_400, kl_992, kl_1023, kl_1024, kl_1984, kl_9200, kl_4600, kl_48, kl_57, kl_97, kl_122, kl_32767, nI_add, pk_mul]
  rw [D_cacheAt hW hb hn, Option.bind_some]
  rcases ca_cases (t.1 19 0) a0 hn with h | ⟨c, hc, rfl, e⟩
  · refine ⟨Y, rfl, fun _ _ _ => rfl, ?_⟩
    rw [rLines_no (fun e => h e.1)]
    simp only [h, if_false, eq_self, if_true]
  · have hi : c < 4 := by omega
    rcases rg_cases 1 a1 (by decide) with ⟨h, h2⟩ | ⟨w, hw, rfl, e3⟩
    · refine ⟨Y, rfl, fun _ _ _ => rfl, ?_⟩
      rw [rLines_no (fun e => h e.2)]
      simp only [e, hc, if_true, reduceCtorEq, if_false]
      rcases h2 with h2 | ⟨h2, h3⟩
      · simp only [h2, if_true]
      · simp only [h2, h3, if_false]
    · obtain ⟨N, hN⟩ : ∃ N, N = 62 * 32 := ⟨_, rfl⟩
      have hfx : ∀ l, sLn t c N 0 (fun _ => 0) l = qLine t c l := fun l => sLn_line (by omega)
      have hst := D_starts (Y := Y) (c := c) hW hI hi hN
      generalize sLn t c N 0 (fun _ => 0) = f at hfx hst
      have hf : ∀ l, f l < 2 ^ 31 := fun l => by rw [hfx]; exact qLine_lt
      have hr : rLines t (nI c) (nI w) = rLines1 t c (nI w) := rLines_yes hn hc (by rw [e3]; omega)
      have hr1 : rLines1 t c (nI w) = if nI w = 0 then (rLn f 16 0 (nI 0) (nI 0)).1 else (rLn f 16 0 (nI 0) (nI 0)).2 := by
        unfold rLines1
        rw [rLn_cong (fun l _ _ => (hfx l).symm)]
      rw [hr, hr1]
      clear hr hr1 hfx
      refine ⟨scN Y 16 f, rfl, fun a k ha => if_neg (fun e => ha e.1), ?_⟩
      have hW2 : XW (scN Y 16 f) := hW
      have hl : xal (cM 0 t (scN Y 16 f)) (some (10, 0, 0)) = some (nI 16) := xal_w (M := cM 0 t (scN Y 16 f)) hW (sh_10 (by decide)) (by decide) (by decide)
      have h51 := C_lines51 (t := t) (v := nI w) hW hf 16 0 xF (nI 0) (nI 0) (by omega) (by unfold xF; omega)
      generalize xF = F at h51 ⊢
      simp (disch := first | assumption | omega | decide | with_unfolding_all exact hW) only [e, hc, if_true, reduceCtorEq, if_false, ↓km1, nI_m1, en_m1, m1_lt0, m1_eq, m1_0, nI_00, nI_10, nI_0le, nI_n0, nI_leI, hw, ↓cX_0b, ↓cX_1b, ↓cX_2b, ↓cX_4b, ↓cX_5b, ↓cX_10b, ↓cX_11b, ↓cX_12b, ↓cX_14b, ↓cXob, cX_0, cX_1, cX_2, cX_4, cX_5, cX_10, cX_11, cX_12, cX_14, cXo, ↓km1, ↓cO_1b, ↓cO_2b, ↓cO_14b, ↓cO_17b, ↓cO_19b, ↓cO_21b, ↓cR_1_0b, ↓cR_1_1b, ↓cR_1_2b, ↓cR_1_3b, ↓cR_2_0b, ↓cR_2_1b, ↓cR_2_2b, ↓cR_2_3b, ↓cR_2_4b, ↓cR_2_5b, ↓cR_2_6b, ↓cR_2_7b, ↓cR_14_14b, ↓cR_14_15b, ↓cR_14_16b, ↓cR_14_17b, ↓cR_17_0b, ↓cR_19_0b, ↓cR_21_0b, ↓cA_11b, ↓cA_12b, ↓cg_1_4b, ↓cg_1_5b, ↓cg_1_6b, ↓cg_1_7b, ↓cg_14_0b, ↓cg_14_1b, ↓cg_14_2b, ↓cg_14_3b, ↓cg_14_4b, ↓cg_14_5b, ↓cg_14_6b, ↓cg_14_7b, ↓cg_14_8b, ↓cg_14_9b, ↓cg_14_10b, ↓cg_14_11b, ↓cg_14_12b, ↓cg_14_13b, ↓cg_17_1b, ↓cg_19_1b, ↓cg_21_1b, ↓ca_3b, ↓ca_4b, ↓ca_5b, ↓ca_6b, ↓ca_9b, ↓ca_15b, ↓ca_16b, ↓ca_18b, ↓ca_20b, ↓ca_22b, ↓ca_13b, ↓ca_7b, ↓ca_8b, ↓cp_1_4b, ↓cp_1_6b, ↓cp_1_7b, ↓cp_14_0b, ↓cp_14_2b, ↓cp_14_4b, ↓cp_14_5b, ↓cp_14_6b, ↓cp_14_7b, ↓cp_14_8b, ↓cp_14_9b, ↓cp_14_10b, ↓cp_14_11b, ↓cp_14_12b, ↓cp_14_13b, ↓cp_17_1b, ↓cp_19_1b, ↓cp_21_1b, ↓cu_4b, ↓cu_15b, ↓cn_15b, ↓cm_15b, ↓cu_16b, ↓cn_16b, ↓cm_16b, ↓cu_18b, ↓cu_20b, ↓cu_22b, ↓cu_9b, ↓cl_15b, ↓cl_16b, ↓cl_18b, ↓cl_20b, ↓cl_22b, ↓Option.bind_some, cO_1, cO_2, cO_14, cO_17, cO_19, cO_21, cR_1_0, cR_1_1, cR_1_2, cR_1_3, cR_2_0, cR_2_1, cR_2_2, cR_2_3, cR_2_4, cR_2_5, cR_2_6, cR_2_7, cR_14_14, cR_14_15, cR_14_16, cR_14_17, cR_17_0, cR_19_0, cR_21_0, cA_11, cA_12, cg_1_4, cg_1_5, cg_1_6, cg_1_7, cg_14_0, cg_14_1, cg_14_2, cg_14_3, cg_14_4, cg_14_5, cg_14_6, cg_14_7, cg_14_8, cg_14_9, cg_14_10, cg_14_11, cg_14_12, cg_14_13, cg_17_1, cg_19_1, cg_21_1, ca_3, ca_4, ca_5, ca_6, ca_9, ca_15, ca_16, ca_18, ca_20, ca_22, ca_13, ca_7, ca_8, cp_1_4, cp_1_6, cp_1_7, cp_14_0, cp_14_2, cp_14_4, cp_14_5, cp_14_6, cp_14_7, cp_14_8, cp_14_9, cp_14_10, cp_14_11, cp_14_12, cp_14_13, cp_17_1, cp_19_1, cp_21_1, cu_4, cu_15, cn_15, cm_15, cu_16, cn_16, cm_16, cu_18, cu_20, cu_22, cu_9, cl_15, cl_16, cl_18, cl_20, cl_22, Option.bind_some, kl_0, kl_1, kl_2, kl_3, kl_4, kl_5, kl_6, kl_7, kl_8, kl_10, kl_13, kl_14, kl_15, kl_16, kl_24, kl_25, kl_26, kl_31, kl_32, kl_36, kl_40, kl_62, kl_99, kl_100, kl_255, kl_400, kl_992, kl_1023, kl_1024, kl_1984, kl_9200, kl_4600, kl_48, kl_57, kl_97, kl_122, kl_32767, nI_add, pk_mul]
      rw [hst, Option.bind_some]
      dsimp only
      rw [hl, Option.bind_some]
      exact h51
theorem EQs.line {s t : xS} (h : EQs s t) (hI : INV s) {c l : Nat} (hc : c < 4) : qLine t c l = qLine s c l := by
  unfold qLine
  refine qC_cong (fun x _ hx => ?_)
  have hx' : x < 1984 := by omega
  unfold qLn lB lL
  rw [h.x hx', h.p (q := 13) (Or.inl rfl) (by omega)]
  by_cases h0 : s.1 13 (x / 62) = c
  · rw [h.addr hI.R hx' (by omega)]
  · rw [beq_eq_false_iff_ne.mpr h0, Bool.and_false, Bool.false_and, Bool.false_and]
theorem rLines_ok {s t : xS} (h : EQs s t) (hI : INV s) {a0 a1 : Int32} : rLines t a0 a1 = rLines s a0 a1 := by
  have hn := hI.R.n
  unfold rLines
  rw [h.n (j := 0) (by decide)]
  by_cases h1 : cN (s.1 19 0) a0 < s.1 19 0 ∧ cN 2 a1 < 2
  · rw [if_pos h1, if_pos h1]
    unfold rLines1
    rw [rLn_cong (fun l _ _ => h.line hI (c := cN (s.1 19 0) a0) (l := l) (by omega))]
  · rw [if_neg h1, if_neg h1]
