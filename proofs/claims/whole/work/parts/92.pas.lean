/-! the model's passes, to what is kept and from it -/
def pTo (κ n p : Nat) (M : xMem) : xMem := (fun a x => if a = (44, 0, 0) ∧ x = 34 then nI (p + n) else if a = (72, 0, 0) ∧ p ≤ x ∧ x < p + n then M.1 (κ, 0, 0) (x - p) else M.1 a x, M.2)
def pFr (κ n p : Nat) (M : xMem) : xMem := (fun a x => if a = (44, 0, 0) ∧ x = 34 then nI (p + n) else if a = (κ, 0, 0) ∧ x < n then M.1 (72, 0, 0) (p + x) else M.1 a x, M.2)
theorem pTo_at {κ n p : Nat} {M : xMem} {a : xId} {x : Nat} : (pTo κ n p M).1 a x = if a = (44, 0, 0) ∧ x = 34 then nI (p + n) else if a = (72, 0, 0) ∧ p ≤ x ∧ x < p + n then M.1 (κ, 0, 0) (x - p) else M.1 a x := rfl
theorem pFr_at {κ n p : Nat} {M : xMem} {a : xId} {x : Nat} : (pFr κ n p M).1 a x = if a = (44, 0, 0) ∧ x = 34 then nI (p + n) else if a = (κ, 0, 0) ∧ x < n then M.1 (72, 0, 0) (p + x) else M.1 a x := rfl
theorem pTo_34 {κ n p : Nat} {M : xMem} : (pTo κ n p M).1 (44, 0, 0) 34 = nI (p + n) := by rw [pTo_at, if_pos ⟨rfl, rfl⟩]
theorem pFr_34 {κ n p : Nat} {M : xMem} : (pFr κ n p M).1 (44, 0, 0) 34 = nI (p + n) := by rw [pFr_at, if_pos ⟨rfl, rfl⟩]
theorem pTo_0 {κ p : Nat} {M : xMem} (h : M.1 (44, 0, 0) 34 = nI p) : pTo κ 0 p M = M := by
  refine Prod.ext ?_ rfl
  funext a x
  show (if a = (44, 0, 0) ∧ x = 34 then nI (p + 0) else if a = (72, 0, 0) ∧ p ≤ x ∧ x < p + 0 then _ else _) = _
  by_cases h1 : a = (44, 0, 0) ∧ x = 34
  · rw [if_pos h1, h1.1, h1.2, h, Nat.add_zero]
  · rw [if_neg h1, if_neg (fun e => by omega)]
theorem pFr_0 {κ p : Nat} {M : xMem} (h : M.1 (44, 0, 0) 34 = nI p) : pFr κ 0 p M = M := by
  refine Prod.ext ?_ rfl
  funext a x
  show (if a = (44, 0, 0) ∧ x = 34 then nI (p + 0) else if a = (κ, 0, 0) ∧ x < 0 then _ else _) = _
  by_cases h1 : a = (44, 0, 0) ∧ x = 34
  · rw [if_pos h1, h1.1, h1.2, h, Nat.add_zero]
  · rw [if_neg h1, if_neg (fun e => by omega)]
theorem pTo_s {κ j p : Nat} {M : xMem} : xsi (xsi (pTo κ j p M) (72, 0, 0) (p + j) (M.1 (κ, 0, 0) j)) (44, 0, 0) 34 (nI (p + j + 1)) = pTo κ (j + 1) p M := by
  refine Prod.ext ?_ rfl
  funext a x
  rw [xsi_1, xsi_1]
  show _ = (if a = (44, 0, 0) ∧ x = 34 then nI (p + (j + 1)) else if a = (72, 0, 0) ∧ p ≤ x ∧ x < p + (j + 1) then M.1 (κ, 0, 0) (x - p) else M.1 a x)
  by_cases h1 : a = (44, 0, 0) ∧ x = 34
  · rw [if_pos h1, if_pos h1, Nat.add_assoc]
  · rw [if_neg h1, if_neg h1]
    by_cases h2 : a = (72, 0, 0) ∧ x = p + j
    · rw [if_pos h2, if_pos ⟨h2.1, by omega, by omega⟩, h2.2, Nat.add_sub_cancel_left]
    · rw [if_neg h2]
      show (if a = (44, 0, 0) ∧ x = 34 then _ else if a = (72, 0, 0) ∧ p ≤ x ∧ x < p + j then M.1 (κ, 0, 0) (x - p) else M.1 a x) = _
      rw [if_neg h1]
      by_cases h3 : a = (72, 0, 0) ∧ p ≤ x ∧ x < p + j
      · rw [if_pos h3, if_pos ⟨h3.1, h3.2.1, by omega⟩]
      · rw [if_neg h3, if_neg (fun e => by
          by_cases h4 : x = p + j
          · exact h2 ⟨e.1, h4⟩
          · exact h3 ⟨e.1, e.2.1, by omega⟩)]
theorem pFr_s {κ j p : Nat} {M : xMem} (hk : κ ≠ 44) : xsi (xsi (pFr κ j p M) (κ, 0, 0) j (M.1 (72, 0, 0) (p + j))) (44, 0, 0) 34 (nI (p + j + 1)) = pFr κ (j + 1) p M := by
  refine Prod.ext ?_ rfl
  funext a x
  rw [xsi_1, xsi_1]
  show _ = (if a = (44, 0, 0) ∧ x = 34 then nI (p + (j + 1)) else if a = (κ, 0, 0) ∧ x < j + 1 then M.1 (72, 0, 0) (p + x) else M.1 a x)
  by_cases h1 : a = (44, 0, 0) ∧ x = 34
  · rw [if_pos h1, if_pos h1, Nat.add_assoc]
  · rw [if_neg h1, if_neg h1]
    by_cases h2 : a = (κ, 0, 0) ∧ x = j
    · rw [if_pos h2, if_pos ⟨h2.1, by omega⟩, h2.2]
    · rw [if_neg h2]
      show (if a = (44, 0, 0) ∧ x = 34 then _ else if a = (κ, 0, 0) ∧ x < j then M.1 (72, 0, 0) (p + x) else M.1 a x) = _
      rw [if_neg h1]
      by_cases h3 : a = (κ, 0, 0) ∧ x < j
      · rw [if_pos h3, if_pos ⟨h3.1, by omega⟩]
      · rw [if_neg h3, if_neg (fun e => by
          by_cases h4 : x = j
          · exact h2 ⟨e.1, h4⟩
          · exact h3 ⟨e.1, by omega⟩)]
theorem pR_30 {M : xMem} (hW : XW M) : xgR M (some (44, 0, 0)) 8 30 = some (some (72, 0, 0)) := (xgR_w hW sh_44 (by decide) (by decide) rfl).trans rfl
theorem M_passTo {κ n p : Nat} {M : xMem} (hW : XW M) (hs : xsh (κ, 0, 0) = some (20, n)) (h1 : κ ≠ 72) (h2 : κ ≠ 44) (hp : p + n ≤ 9200) (h33 : M.1 (44, 0, 0) 33 = nI 1) (h34 : M.1 (44, 0, 0) 34 = nI p) : fM_passes M (44, 0, 0) (some (κ, 0, 0)) = some (pTo κ n p M) := by
  have key : ∀ e j f, j + e = n → e < f → fM_passes_2 f (pTo κ j p M) (some (44, 0, 0)) (some (κ, 0, 0)) (nI j) = some (pTo κ n p M) := by
    intro e
    induction e with
    | zero =>
      intro j f hj hf
      obtain ⟨f, rfl⟩ : ∃ m, f = m + 1 := ⟨f - 1, by omega⟩
      have hj : j = n := by omega
      subst hj
      have hW' : XW (pTo κ j p M) := hW
      unfold fM_passes_2
      rw [xal_w hW' hs (by decide) (by decide), Option.bind_some, if_pos (nI_le (Nat.le_refl _) (by omega))]
    | succ e ih =>
      intro j f hj hf
      obtain ⟨f, rfl⟩ : ∃ m, f = m + 1 := ⟨f - 1, by omega⟩
      have hW' : XW (pTo κ j p M) := hW
      have e33 : (pTo κ j p M).1 (44, 0, 0) 33 = nI 1 := by
        rw [pTo_at, if_neg (by decide), if_neg (fun e => absurd e.1 (by decide))]; exact h33
      have e34 : (pTo κ j p M).1 (44, 0, 0) 34 = nI (p + j) := pTo_34
      have eκ : (pTo κ j p M).1 (κ, 0, 0) j = M.1 (κ, 0, 0) j := by
        rw [pTo_at, if_neg (fun e => h2 (Prod.mk.inj e.1).1), if_neg (fun e => h1 (Prod.mk.inj e.1).1)]
      unfold fM_passes_2
      rw [xal_w hW' hs (by decide) (by decide), Option.bind_some, if_neg (show ¬ nI n ≤ nI j from by rw [nI_leI (by omega) (by omega)]; omega), xgI_w hW' sh_44, Option.bind_some, e33, if_neg (by decide), pR_30 hW', Option.bind_some, xgI_w hW' sh_44, Option.bind_some, e34, xaI_w hW' hs (by omega) (by omega), Option.bind_some, eκ, xuI_w hW' sh_72 (by omega) (by decide), Option.bind_some]
      have hW2 : XW (xsi (pTo κ j p M) (72, 0, 0) (p + j) (M.1 (κ, 0, 0) j)) := hW
      unfold fM_passes_42
      rw [xgI_w hW2 sh_44, Option.bind_some, xsi_1, if_neg (fun e => absurd e.1 (by decide)), e34, kl_1, nI_add, xpI_w hW2 sh_44, Option.bind_some, pTo_s, nI_add]
      exact ih (j + 1) f (by omega) (by omega)
  unfold fM_passes
  rw [kl_0]
  have := key n 0 xF (by omega) (by unfold xF; omega)
  rw [pTo_0 h34] at this
  exact this
theorem M_passFr {κ n p : Nat} {M : xMem} (hW : XW M) (hs : xsh (κ, 0, 0) = some (20, n)) (h1 : κ ≠ 72) (h2 : κ ≠ 44) (hp : p + n ≤ 9200) (h33 : M.1 (44, 0, 0) 33 = nI 0) (h34 : M.1 (44, 0, 0) 34 = nI p) : fM_passes M (44, 0, 0) (some (κ, 0, 0)) = some (pFr κ n p M) := by
  have key : ∀ e j f, j + e = n → e < f → fM_passes_2 f (pFr κ j p M) (some (44, 0, 0)) (some (κ, 0, 0)) (nI j) = some (pFr κ n p M) := by
    intro e
    induction e with
    | zero =>
      intro j f hj hf
      obtain ⟨f, rfl⟩ : ∃ m, f = m + 1 := ⟨f - 1, by omega⟩
      have hj : j = n := by omega
      subst hj
      have hW' : XW (pFr κ j p M) := hW
      unfold fM_passes_2
      rw [xal_w hW' hs (by decide) (by decide), Option.bind_some, if_pos (nI_le (Nat.le_refl _) (by omega))]
    | succ e ih =>
      intro j f hj hf
      obtain ⟨f, rfl⟩ : ∃ m, f = m + 1 := ⟨f - 1, by omega⟩
      have hW' : XW (pFr κ j p M) := hW
      have e33 : (pFr κ j p M).1 (44, 0, 0) 33 = nI 0 := by
        rw [pFr_at, if_neg (by decide), if_neg (fun e => h2 (Prod.mk.inj e.1).1.symm)]; exact h33
      have e34 : (pFr κ j p M).1 (44, 0, 0) 34 = nI (p + j) := pFr_34
      have eκ : (pFr κ j p M).1 (72, 0, 0) (p + j) = M.1 (72, 0, 0) (p + j) := by
        rw [pFr_at, if_neg (fun e => absurd e.1 (by decide)), if_neg (fun e => h1 (Prod.mk.inj e.1).1.symm)]
      unfold fM_passes_2
      rw [xal_w hW' hs (by decide) (by decide), Option.bind_some, if_neg (show ¬ nI n ≤ nI j from by rw [nI_leI (by omega) (by omega)]; omega), xgI_w hW' sh_44, Option.bind_some, e33, if_pos (by decide), pR_30 hW', Option.bind_some, xgI_w hW' sh_44, Option.bind_some, e34, xaI_w hW' sh_72 (by omega) (by decide), Option.bind_some, eκ, xuI_w hW' hs (by omega) (by omega), Option.bind_some]
      have hW2 : XW (xsi (pFr κ j p M) (κ, 0, 0) j (M.1 (72, 0, 0) (p + j))) := hW
      unfold fM_passes_42
      rw [xgI_w hW2 sh_44, Option.bind_some, xsi_1, if_neg (fun e => h2 (Prod.mk.inj e.1).1.symm), e34, kl_1, nI_add, xpI_w hW2 sh_44, Option.bind_some, pFr_s h2, nI_add]
      exact ih (j + 1) f (by omega) (by omega)
  unfold fM_passes
  rw [kl_0]
  have := key n 0 xF (by omega) (by unfold xF; omega)
  rw [pFr_0 h34] at this
  exact this
/-! rows of passes -/
def tot : List (Nat × Nat) → Nat
  | [] => 0
  | r :: L => r.2 + tot L
def pTos : List (Nat × Nat) → Nat → xMem → xMem
  | [], _, M => M
  | r :: L, p, M => pTos L (p + r.2) (pTo r.1 r.2 p M)
def pFrs : List (Nat × Nat) → Nat → xMem → xMem
  | [], _, M => M
  | r :: L, p, M => pFrs L (p + r.2) (pFr r.1 r.2 p M)
def offs : Nat → List (Nat × Nat) → List (Nat × Nat × Nat)
  | _, [] => []
  | o, r :: L => (r.1, r.2, o) :: offs (o + r.2) L
theorem pTos_2 : ∀ {L : List (Nat × Nat)} {p : Nat} {M : xMem}, (pTos L p M).2 = M.2 := by
  intro L
  induction L with
  | nil => intro p M; rfl
  | cons r L ih => intro p M; show (pTos L _ (pTo r.1 r.2 p M)).2 = _; rw [ih]; rfl
theorem pFrs_2 : ∀ {L : List (Nat × Nat)} {p : Nat} {M : xMem}, (pFrs L p M).2 = M.2 := by
  intro L
  induction L with
  | nil => intro p M; rfl
  | cons r L ih => intro p M; show (pFrs L _ (pFr r.1 r.2 p M)).2 = _; rw [ih]; rfl
theorem pTos_34 : ∀ {L : List (Nat × Nat)} {p : Nat} {M : xMem}, M.1 (44, 0, 0) 34 = nI p → (pTos L p M).1 (44, 0, 0) 34 = nI (p + tot L) := by
  intro L
  induction L with
  | nil => intro p M h; exact h
  | cons r L ih =>
    intro p M h
    show (pTos L _ (pTo r.1 r.2 p M)).1 (44, 0, 0) 34 = nI (p + (r.2 + tot L))
    rw [ih (pTo_34 (κ := r.1)), Nat.add_assoc]
theorem pFrs_34 : ∀ {L : List (Nat × Nat)} {p : Nat} {M : xMem}, M.1 (44, 0, 0) 34 = nI p → (pFrs L p M).1 (44, 0, 0) 34 = nI (p + tot L) := by
  intro L
  induction L with
  | nil => intro p M h; exact h
  | cons r L ih =>
    intro p M h
    show (pFrs L _ (pFr r.1 r.2 p M)).1 (44, 0, 0) 34 = nI (p + (r.2 + tot L))
    rw [ih (pFr_34 (κ := r.1)), Nat.add_assoc]
/-- what passes to what is kept leave as it is -/
theorem pTos_fr : ∀ {L : List (Nat × Nat)} {p : Nat} {M : xMem} {a : xId} {x : Nat}, ¬ (a = (44, 0, 0) ∧ x = 34) → ¬ (a = (72, 0, 0) ∧ p ≤ x ∧ x < p + tot L) → (pTos L p M).1 a x = M.1 a x := by
  intro L
  induction L with
  | nil => intro p M a x _ _; rfl
  | cons r L ih =>
    intro p M a x h1 h2
    show (pTos L _ (pTo r.1 r.2 p M)).1 a x = _
    have ht : tot (r :: L) = r.2 + tot L := rfl
    rw [ht] at h2
    rw [ih h1 (fun e => h2 ⟨e.1, by omega, by omega⟩), pTo_at, if_neg h1, if_neg (fun e => h2 ⟨e.1, e.2.1, by omega⟩)]
theorem pFrs_fr : ∀ {L : List (Nat × Nat)} {p : Nat} {M : xMem} {a : xId} {x : Nat}, ¬ (a = (44, 0, 0) ∧ x = 34) → (∀ r, r ∈ L → ¬ (a = (r.1, 0, 0) ∧ x < r.2)) → (pFrs L p M).1 a x = M.1 a x := by
  intro L
  induction L with
  | nil => intro p M a x _ _; rfl
  | cons r L ih =>
    intro p M a x h1 h2
    show (pFrs L _ (pFr r.1 r.2 p M)).1 a x = _
    rw [ih h1 (fun r' hr => h2 r' (List.mem_cons_of_mem _ hr)), pFr_at, if_neg h1, if_neg (h2 r List.mem_cons_self)]
theorem offs_le : ∀ {L : List (Nat × Nat)} {o : Nat} {r : Nat × Nat × Nat}, r ∈ offs o L → o ≤ r.2.2 ∧ r.2.2 + r.2.1 ≤ o + tot L ∧ (r.1, r.2.1) ∈ L := by
  intro L
  induction L with
  | nil => intro o r h; cases h
  | cons q L ih =>
    intro o r h
    have ht : tot (q :: L) = q.2 + tot L := rfl
    rcases List.mem_cons.mp h with h | h
    · subst h; exact ⟨Nat.le_refl _, by show o + q.2 ≤ _; omega, List.mem_cons_self⟩
    · have := ih h; exact ⟨by omega, by omega, List.mem_cons_of_mem _ this.2.2⟩
theorem pTos_v : ∀ {L : List (Nat × Nat)} {o p : Nat} {M : xMem} {r : Nat × Nat × Nat} {x : Nat}, (∀ r, r ∈ L → r.1 ≠ 72 ∧ r.1 ≠ 44) → r ∈ offs o L → x < r.2.1 → (pTos L (p + o) M).1 (72, 0, 0) (p + r.2.2 + x) = M.1 (r.1, 0, 0) x := by
  intro L
  induction L with
  | nil => intro o p M r x _ h; cases h
  | cons q L ih =>
    intro o p M r x hL h hx
    show (pTos L (p + o + q.2) (pTo q.1 q.2 (p + o) M)).1 _ _ = _
    rcases List.mem_cons.mp h with h | h
    · subst h
      have hx : x < q.2 := hx
      rw [pTos_fr (fun e => absurd e.1 (by decide)) (fun e => by have := e.2.1; have : p + o + x ≥ p + o + q.2 := this; omega), pTo_at, if_neg (fun e => absurd e.1 (by decide)), if_pos (show ((72, 0, 0) : xId) = (72, 0, 0) ∧ p + o ≤ p + o + x ∧ p + o + x < p + o + q.2 from ⟨rfl, by omega, by omega⟩)]
      show M.1 (q.1, 0, 0) (p + o + x - (p + o)) = _
      rw [Nat.add_sub_cancel_left]
    · have hl := offs_le h
      have hn := hL (r.1, r.2.1) (List.mem_cons_of_mem _ hl.2.2)
      rw [Nat.add_assoc p o q.2, ih (fun r' hr => hL r' (List.mem_cons_of_mem _ hr)) h hx, pTo_at, if_neg (fun e => hn.2 (Prod.mk.inj e.1).1), if_neg (fun e => hn.1 (Prod.mk.inj e.1).1)]
theorem pFrs_v : ∀ {L : List (Nat × Nat)} {o p : Nat} {M : xMem} {r : Nat × Nat × Nat} {x : Nat}, (∀ r, r ∈ L → r.1 ≠ 72 ∧ r.1 ≠ 44) → (L.map (fun r => r.1)).Nodup → r ∈ offs o L → x < r.2.1 → (pFrs L (p + o) M).1 (r.1, 0, 0) x = M.1 (72, 0, 0) (p + r.2.2 + x) := by
  intro L
  induction L with
  | nil => intro o p M r x _ _ h; cases h
  | cons q L ih =>
    intro o p M r x hL hd h hx
    show (pFrs L (p + o + q.2) (pFr q.1 q.2 (p + o) M)).1 _ _ = _
    rw [List.map_cons, List.nodup_cons] at hd
    rcases List.mem_cons.mp h with h | h
    · subst h
      have hx : x < q.2 := hx
      have hq := hL q List.mem_cons_self
      rw [pFrs_fr (fun e => hq.2 (Prod.mk.inj e.1).1) (fun r' hr e => hd.1 (List.mem_map.mpr ⟨r', hr, (Prod.mk.inj e.1).1.symm⟩)), pFr_at, if_neg (fun e => hq.2 (Prod.mk.inj e.1).1), if_pos ⟨rfl, hx⟩]
    · have hl := offs_le h
      have hq := hL q List.mem_cons_self
      rw [Nat.add_assoc p o q.2, ih (fun r' hr => hL r' (List.mem_cons_of_mem _ hr)) hd.2 h hx, pFr_at, if_neg (fun e => absurd e.1 (by decide)), if_neg (fun e => hq.1 (Prod.mk.inj e.1).1.symm)]
