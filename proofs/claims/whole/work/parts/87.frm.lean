/-! what a cache that is not there yet keeps -/
def UF (n : Nat) (u s : xS) : Prop := s.1 19 0 = u.1 19 0 ∧ ∀ c, n ≤ c → s.1 22 c = u.1 22 c ∧ s.1 24 c = u.1 24 c
theorem UF.rfl' {n : Nat} {s : xS} : UF n s s := ⟨rfl, fun _ _ => ⟨rfl, rfl⟩⟩
theorem UF.tr {n : Nat} {u s s' : xS} (h : UF n u s) (h2 : UF n s s') : UF n u s' := ⟨h2.1.trans h.1, fun c hc => ⟨(h2.2 c hc).1.trans (h.2 c hc).1, (h2.2 c hc).2.trans (h.2 c hc).2⟩⟩
theorem UF.a {n : Nat} {u s : xS} {q j v : Nat} (h : UF n u s) (hq : (q ≠ 22 ∧ q ≠ 24) ∨ j < n) (h9 : q ≠ 19 ∨ j ≠ 0 := by first | exact Or.inl (by decide) | exact Or.inr (by decide)) : UF n u (sA s q j v) := ⟨by rw [sA_1, if_neg (by omega)]; exact h.1, fun c hc => by
  rw [sA_1, sA_1, if_neg (fun e => by rcases hq with hq | hq; exact hq.1 e.1.symm; omega), if_neg (fun e => by rcases hq with hq | hq; exact hq.2 e.1.symm; omega)]
  exact h.2 c hc⟩
theorem UF.k {n : Nat} {u s s' : xS} (h : UF n u s) (h1 : s'.1 22 = s.1 22) (h2 : s'.1 24 = s.1 24) (h3 : s'.1 19 = s.1 19) : UF n u s' := ⟨by rw [h3]; exact h.1, fun c hc => by rw [h1, h2]; exact h.2 c hc⟩
theorem UF.w {n : Nat} {u s : xS} {i : Nat} {w : Int32} (h : UF n u s) : UF n u (sW s i w) := h
theorem UF.t {n : Nat} {u s : xS} {i : Nat} {w : Int64} (h : UF n u s) : UF n u (sT s i w) := h
theorem UF.clr {n : Nat} {u s : xS} {p d k : Nat} (h : UF n u s) : UF n u (sClr s p d k) := h.k (by funext i; rw [sClr_1, if_neg (fun e => absurd e.1 (by decide))]) (by funext i; rw [sClr_1, if_neg (fun e => absurd e.1 (by decide))]) (by funext i; rw [sClr_1, if_neg (fun e => absurd e.1 (by decide))])
theorem UF.emp {n : Nat} {u s : xS} {m : Nat} (h : UF n u s) : UF n u (sEmp s m) := h.k (sEmp_1 (by decide) (by decide) (by decide) (by decide)) (sEmp_1 (by decide) (by decide) (by decide) (by decide)) (sEmp_1 (by decide) (by decide) (by decide) (by decide))
theorem UF.ended {n : Nat} {u s : xS} {b : Nat} (h : UF n u s) : UF n u (sEnd s b) := h.k (sEnd_1 (by decide) (by decide)) (sEnd_1 (by decide) (by decide)) (sEnd_1 (by decide) (by decide))
theorem UF.pop {n : Nat} {u s : xS} {m : Nat} (h : UF n u s) : UF n u (sPop s m) := by
  unfold sPop
  exact (h.a (Or.inl (by decide))).a (Or.inl (by decide))
theorem UF.put {n : Nat} {u s : xS} {m b : Nat} (h : UF n u s) : UF n u (sPut s m b) := by
  unfold sPut
  exact ((h.a (Or.inl (by decide))).a (Or.inl (by decide))).a (Or.inl (by decide))
theorem UF.exch {n : Nat} {u s : xS} {i : Nat} (h : UF n u s) : UF n u (sExch s i) := by
  unfold sExch
  exact (h.a (Or.inl (by decide))).a (Or.inl (by decide))
theorem UF.swap {n : Nat} {u s : xS} {i m : Nat} (h : UF n u s) : UF n u (sSwap s i m) := by
  unfold sSwap
  exact (h.a (Or.inl (by decide))).a (Or.inl (by decide))
theorem UF.vis {n : Nat} {u s : xS} {c : Nat} (h : UF n u s) : UF n u (sVis s c) := by
  unfold sVis
  exact (h.a (Or.inl (by decide))).a (Or.inl (by decide))
theorem UF.fetF {n : Nat} {u s : xS} {c : Nat} (h : UF n u s) (hc : c < n) : UF n u (sFetF s c) := by
  unfold sFetF
  exact (h.a (Or.inr hc)).a (Or.inr hc)
theorem UF.fetE {n : Nat} {u s : xS} {c : Nat} (h : UF n u s) (hc : c < n) : UF n u (sFetE s c) := by
  unfold sFetE
  exact (h.a (Or.inr hc)).a (Or.inr hc)
theorem UF.briF {n : Nat} {u s : xS} {c m : Nat} (h : UF n u s) (hc : c < n) : UF n u (sBriF s c m) := by
  unfold sBriF
  exact (h.a (Or.inl (by decide))).a (Or.inr hc)
theorem UF.briE {n : Nat} {u s : xS} {c m : Nat} (h : UF n u s) (hc : c < n) : UF n u (sBriE s c m) := by
  unfold sBriE
  exact (h.a (Or.inl (by decide))).a (Or.inr hc)
theorem UF.made {n : Nat} {u s : xS} (h : UF n u s) : UF n u (sMade s) := by
  unfold sMade
  split
  · exact (h.a (Or.inl (by decide))).a (Or.inl (by decide))
  · exact h
theorem UF.mk {n : Nat} {u s : xS} {c b : Nat} (h : UF n u s) : UF n u (sMk s c b) := by
  unfold sMk
  exact ((UF.w h).a (Or.inl (by decide))).a (Or.inl (by decide))
theorem UF.nw {n : Nat} {u s : xS} {c p : Nat} (h : UF n u s) : UF n u (sNew s c p) := by
  unfold sNew
  exact (UF.clr ((h.a (Or.inl (by decide))).a (Or.inl (by decide)))).a (Or.inl (by decide))
theorem UF.out {n : Nat} {u s : xS} {c : Nat} (h : UF n u s) : UF n u (sOut s c).2 := by
  unfold sOut
  split
  · exact h.mk
  · split
    · exact h.nw.mk
    · exact h
theorem UF.takes {n : Nat} {u s : xS} {c p : Nat} (h : UF n u s) (hc : c < n) : UF n u (sTakes s c p).2 := by
  unfold sTakes
  split
  · exact h.pop
  · split
    · exact h.exch.pop
    · split
      · exact h.out
      · refine UF.pop ?_
        unfold sTak3
        refine UF.swap ?_
        split
        · exact (h.vis.fetF hc).briE hc
        · exact h.vis.fetF hc
theorem UF.giv3 {n : Nat} {u s : xS} {b c i m : Nat} (h : UF n u s) (hc : c < n) : UF n u (sGiv3 s b c i m) := by
  unfold sGiv3
  refine UF.put (UF.swap ?_)
  split
  · exact h.vis.briF hc
  · exact h.vis
theorem UF.gives {n : Nat} {u s : xS} {b p : Nat} (h : UF n u s) (hc : s.1 13 (b / 62) < n) : UF n u (sGives s b p) := by
  have h1 : UF n u (sGiv1 s (s.1 13 (b / 62)) (4 * s.1 13 (b / 62) + p)) := by
    unfold sGiv1
    split
    · exact h.exch
    · exact h
  unfold sGives
  split
  · exact h1.put
  · unfold sGiv2
    split
    · exact (h.fetE hc).giv3 hc
    · split
      · exact h.made.giv3 hc
      · exact h.ended
theorem UF.dr {n : Nat} {u s : xS} {i : Nat} (h : UF n u s) : UF n u (sDr s i) := by
  unfold sDr
  exact ((h.emp.emp).a (Or.inl (by decide))).a (Or.inl (by decide))
theorem UF.uff {n : Nat} {u s : xS} {c m : Nat} (h : UF n u s) (hc : c < n) : UF n u (sUFF s c m) := ⟨by rw [sUFF_1 (by decide) (by decide) (by decide) (by decide) (by decide) (by decide)]; exact h.1, fun c' hc' => by
  rw [sUFF_l, sUFF_1 (by decide) (by decide) (by decide) (by decide) (by decide) (by decide), if_neg (by omega)]; exact h.2 c' hc'⟩
theorem UF.ufe {n : Nat} {u s : xS} {c m : Nat} (h : UF n u s) (hc : c < n) : UF n u (sUFE s c m) := ⟨by rw [sUFE_1 (by decide) (by decide) (by decide) (by decide) (by decide) (by decide)]; exact h.1, fun c' hc' => by
  rw [sUFE_l, sUFE_1 (by decide) (by decide) (by decide) (by decide) (by decide) (by decide), if_neg (by omega)]; exact h.2 c' hc'⟩
theorem UF.ua {n : Nat} {u s : xS} {c : Nat} (h : UF n u s) (hc : c < n) : UF n u (sUA s c) := ⟨by rw [sUA_1 (by decide) (by decide) (by decide) (by decide) (by decide) (by decide) (by decide) (by decide) (by decide) (by decide)]; exact h.1, fun c' hc' => by
  rw [sUA_22, sUA_24, if_neg (by omega), if_neg (by omega)]; exact h.2 c' hc'⟩
theorem UF.rez {n : Nat} {u s : xS} {c : Nat} (h : UF n u s) (hc : c < n) : UF n u (sRez s c) := by
  have h1 : UF n u (sRz1 s c) := by
    unfold sRz1
    split
    · exact h
    · exact (h.a (Or.inl (by decide))).ua hc
  have h2 : UF n u (sRz2 (sRz1 s c) c) := by
    unfold sRz2
    exact h1.a (Or.inl (by decide))
  unfold sRez sRz3
  split
  · split
    · exact h2.a (Or.inl (by decide))
    · exact ((h2.a (Or.inl (by decide))).a (Or.inl (by decide))).ua hc
  · exact h2
theorem UF.int {n : Nat} {u : xS} : ∀ {d c : Nat} {s : xS}, UF n u s → c + d ≤ n → UF n u (sInt s d c) := by
  intro d
  induction d with
  | zero => intro c s h _; exact h
  | succ d ih =>
    intro c s h hd
    unfold sInt
    refine ih ?_ (by omega)
    unfold sIn2
    refine UF.a (UF.a (UF.a ?_ (Or.inl (by decide))) (Or.inl (by decide))) (Or.inl (by decide))
    unfold sIn1
    exact ((h.uff (by omega)).ufe (by omega)).rez (by omega)
theorem UF.tick {n : Nat} {u s : xS} (h : UF n u s) (hn : s.1 19 0 ≤ n) : UF n u (sTick s) := by
  unfold sTick
  exact UF.int (h.a (Or.inl (by decide))) (by rw [Nat.zero_add]; exact hn)
theorem UF.anew {n r : Nat} {u : xS} : ∀ {d c : Nat} {s : xS}, UF n u s → c + d ≤ n → UF n u (sAnew s r d c) := by
  intro d
  induction d with
  | zero => intro c s h _; exact h
  | succ d ih =>
    intro c s h hd
    unfold sAnew
    refine ih ?_ (by omega)
    unfold sAn1
    exact (((h.ua (by omega)).a (Or.inl (by decide))).a (Or.inl (by decide))).a (Or.inl (by decide))
theorem UF.reap {n c : Nat} {u : xS} : ∀ {d p : Nat} {s : xS}, UF n u s → UF n u (sReap s c d p).2 := by
  intro d
  induction d with
  | zero => intro p s h; exact h
  | succ d ih =>
    intro p s h
    unfold sReap
    split
    · refine ih ?_
      unfold sRp
      exact (h.a (Or.inl (by decide))).a (Or.inl (by decide))
    · exact ih h
theorem UF.fl {n c : Nat} {u : xS} : ∀ {d p : Nat} {s : xS}, UF n u s → UF n u (sFl s c d p) := by
  intro d
  induction d with
  | zero => intro p s h; exact h
  | succ d ih => intro p s h; unfold sFl; exact ih ((h.a (Or.inl (by decide))).a (Or.inl (by decide)))
theorem UF.beg {n : Nat} {u s : xS} {c k a st : Nat} (h : UF n u s) (hc : c < n) : ∀ c', n ≤ c' → (sBeg s c k a st).1 22 c' = u.1 22 c' ∧ (sBeg s c k a st).1 24 c' = u.1 24 c' := by
  unfold sBeg sTl sB3
  intro c' hc'
  rw [sA_n (by decide), sA_n (by decide)]
  unfold sIn2 sLose
  have h1 : UF n u (sT (sA (sA (sA (sA (sA (sA (sA (sA (sA s 0 c k) 1 c a) 2 c st) 4 c 2) 5 c 4) 7 c 0) 10 c 0) 11 c 0) 12 c 0) c 0) :=
    UF.t (((((((((h.a (Or.inl (by decide))).a (Or.inl (by decide))).a (Or.inl (by decide))).a (Or.inl (by decide))).a (Or.inl (by decide))).a (Or.inl (by decide))).a (Or.inl (by decide))).a (Or.inl (by decide))).a (Or.inl (by decide)))
  exact (UF.a (UF.a (UF.a (UF.fl (UF.a (UF.a h1 (Or.inr hc)) (Or.inr hc))) (Or.inl (by decide))) (Or.inl (by decide))) (Or.inl (by decide))).2 c' hc'
/-- no more than 24 on the rows of a cache that is not there -/
def UC (t : xS) : Prop := ∀ c, t.1 19 0 ≤ c → t.1 22 c ≤ 24 ∧ t.1 24 c ≤ 24
theorem UC.k {t t' : xS} (h : UC t) (hf : UF (t.1 19 0) t t') : UC t' := fun c hc => by
  rw [hf.1] at hc
  rw [(hf.2 c hc).1, (hf.2 c hc).2]; exact h c hc
theorem UC.beg {t : xS} {k a st : Nat} (h : UC t) : UC (sBeg t (t.1 19 0) k a st) := fun c hc => by
  rw [sBeg_19] at hc
  have := UF.beg (k := k) (a := a) (st := st) (UF.rfl' (n := t.1 19 0 + 1) (s := t)) (Nat.lt_succ_self _) c hc
  rw [this.1, this.2]; exact h c (by omega)
