/-! a run, on both sides -/
def FrR (κn : Nat) (N0 N : xMem) : Prop := (∀ a x, a ≠ (36, 0, 0) → a ≠ (37, 0, 0) → a ≠ (κn, 0, 0) → N.1 a x = N0.1 a x) ∧ N.2 = N0.2
def FrX (X0 X : xMem) : Prop := (∀ a x, ¬ (a = (44, 0, 0) ∧ (x = 44 ∨ x = 45 ∨ x = 47 ∨ x = 48)) → a ≠ (71, 0, 0) → a ≠ (77, 0, 0) → a ≠ (78, 0, 0) → X.1 a x = X0.1 a x) ∧ X.2 = X0.2
theorem FrR.w {κn k : Nat} {v : Int32} {a : xId} {N0 N : xMem} (h : FrR κn N0 N) (ha : a = (36, 0, 0) ∨ a = (37, 0, 0) ∨ a = (κn, 0, 0)) : FrR κn N0 (xsi N a k v) := ⟨fun a' x h1 h2 h3 => by
  rw [xsi_1, if_neg (fun e => by
    rcases ha with ha | ha | ha
    · exact h1 (e.1.trans ha)
    · exact h2 (e.1.trans ha)
    · exact h3 (e.1.trans ha))]
  exact h.1 a' x h1 h2 h3, h.2⟩
theorem FrX.w {k : Nat} {v : Int32} {a : xId} {X0 X : xMem} (h : FrX X0 X) (ha : (a = (44, 0, 0) ∧ (k = 44 ∨ k = 45 ∨ k = 47 ∨ k = 48)) ∨ a = (71, 0, 0) ∨ a = (77, 0, 0) ∨ a = (78, 0, 0)) : FrX X0 (xsi X a k v) := ⟨fun a' x h1 h2 h3 h4 => by
  rw [xsi_1, if_neg (fun e => by
    rcases ha with ha | ha | ha | ha
    · exact h1 ⟨e.1.trans ha.1, by rw [e.2]; exact ha.2⟩
    · exact h2 (e.1.trans ha)
    · exact h3 (e.1.trans ha)
    · exact h4 (e.1.trans ha))]
  exact h.1 a' x h1 h2 h3 h4, h.2⟩
def NMr (κn : Nat) (nm : Nat → Nat) (N X : xMem) : Prop := ∀ k, k < 26 → N.1 (κn, 0, 0) k = en 32768 m1 (nm k) ∧ X.1 (71, 0, 0) k = en 32768 (-9) (nm k)
def BS (κn : Nat) (N0 X0 : xMem) (s u : xS) (N X : xMem) (nm : Nat → Nat) (σ : Nat) (w : Int32) : Prop :=
  FrR κn N0 N ∧ FrX X0 X ∧ EQs s u ∧ INV s ∧ UC u ∧ NMr κn nm N X ∧ N.1 (36, 0, 0) 0 = nI σ ∧ X.1 (44, 0, 0) 47 = nI σ ∧ σ ≤ 400 ∧ N.1 (36, 0, 0) 1 = w ∧ X.1 (44, 0, 0) 48 = w
theorem BS.nmw {κn v q σ : Nat} {N0 X0 N X : xMem} {s u s' u' : xS} {nm : Nat → Nat} {w : Int32} (h : BS κn N0 X0 s u N X nm σ w) (hκ : κn = 38 ∨ κn = 39) (hE : EQs s' u') (hI : INV s') (hU : UC u') : BS κn N0 X0 s' u' (xsi N (κn, 0, 0) v (en 32768 m1 q)) (xsi X (71, 0, 0) v (en 32768 (-9) q)) (fun k => if k = v then q else nm k) σ w := by
  obtain ⟨h1, h2, h3, h4, h5, h6, h7, h8, h9, h10, h11⟩ := h
  refine ⟨h1.w (Or.inr (Or.inr rfl)), h2.w (Or.inr (Or.inl rfl)), hE, hI, hU, fun k hk => ?_, ?_, ?_, h9, ?_, ?_⟩
  · show (xsi N (κn, 0, 0) v (en 32768 m1 q)).1 (κn, 0, 0) k = en 32768 m1 (if k = v then q else nm k) ∧ (xsi X (71, 0, 0) v (en 32768 (-9) q)).1 (71, 0, 0) k = en 32768 (-9) (if k = v then q else nm k)
    rw [xsi_1, xsi_1]
    by_cases e : k = v
    · rw [if_pos e, if_pos ⟨rfl, e⟩, if_pos ⟨rfl, e⟩]; exact ⟨rfl, rfl⟩
    · rw [if_neg e, if_neg (fun e2 => e e2.2), if_neg (fun e2 => e e2.2)]; exact h6 k hk
  · rw [xsi_1, if_neg (fun e => by have := (Prod.mk.inj e.1).1; omega)]; exact h7
  · rw [xsi_1, if_neg (fun e => absurd e.1 (by decide))]; exact h8
  · rw [xsi_1, if_neg (fun e => by have := (Prod.mk.inj e.1).1; omega)]; exact h10
  · rw [xsi_1, if_neg (fun e => absurd e.1 (by decide))]; exact h11
theorem BS.why {κn σ : Nat} {N0 X0 N X : xMem} {s u s' u' : xS} {nm : Nat → Nat} {w w' : Int32} (h : BS κn N0 X0 s u N X nm σ w) (hκ : κn = 38 ∨ κn = 39) (hE : EQs s' u') (hI : INV s') (hU : UC u') : BS κn N0 X0 s' u' (xsi N (36, 0, 0) 1 w') (xsi X (44, 0, 0) 48 w') nm σ w' := by
  obtain ⟨h1, h2, h3, h4, h5, h6, h7, h8, h9, h10, h11⟩ := h
  refine ⟨h1.w (Or.inl rfl), h2.w (Or.inl ⟨rfl, by omega⟩), hE, hI, hU, fun k hk => ?_, ?_, ?_, h9, ?_, ?_⟩
  · rw [xsi_1, xsi_1, if_neg (fun e => by have := (Prod.mk.inj e.1).1; omega), if_neg (fun e => absurd e.1 (by decide))]; exact h6 k hk
  · rw [xsi_1, if_neg (by decide)]; exact h7
  · rw [xsi_1, if_neg (by decide)]; exact h8
  · rw [xsi_1, if_pos ⟨rfl, rfl⟩]
  · rw [xsi_1, if_pos ⟨rfl, rfl⟩]
theorem BS.at {κn σ k : Nat} {v : Int32} {a : xId} {N0 X0 N X : xMem} {s u : xS} {nm : Nat → Nat} {w : Int32} (h : BS κn N0 X0 s u N X nm σ w) (ha : (a = (44, 0, 0) ∧ (k = 44 ∨ k = 45)) ∨ a = (77, 0, 0) ∨ a = (78, 0, 0)) : BS κn N0 X0 s u N (xsi X a k v) nm σ w := by
  obtain ⟨h1, h2, h3, h4, h5, h6, h7, h8, h9, h10, h11⟩ := h
  have n71 : ∀ x, ¬ (((71, 0, 0) : xId) = a ∧ x = k) := fun x e => by
    rcases ha with ha | ha | ha
    · rw [ha.1] at e; exact absurd e.1 (by decide)
    · rw [ha] at e; exact absurd e.1 (by decide)
    · rw [ha] at e; exact absurd e.1 (by decide)
  have n44 : ∀ x, x = 47 ∨ x = 48 → ¬ (((44, 0, 0) : xId) = a ∧ x = k) := fun x hx e => by
    rcases ha with ha | ha | ha
    · omega
    · rw [ha] at e; exact absurd e.1 (by decide)
    · rw [ha] at e; exact absurd e.1 (by decide)
  refine ⟨h1, h2.w (by rcases ha with ha | ha | ha; exact Or.inl ⟨ha.1, by omega⟩; exact Or.inr (Or.inr (Or.inl ha)); exact Or.inr (Or.inr (Or.inr ha))), h3, h4, h5, fun k' hk => ?_, h7, ?_, h9, h10, ?_⟩
  · rw [xsi_1, if_neg (n71 _)]; exact h6 k' hk
  · rw [xsi_1, if_neg (n44 _ (Or.inl rfl))]; exact h8
  · rw [xsi_1, if_neg (n44 _ (Or.inr rfl))]; exact h11
theorem BS.pass {κn σ k : Nat} {v : Int32} {N0 X0 N X : xMem} {s u : xS} {nm : Nat → Nat} {w : Int32} (h : BS κn N0 X0 s u N X nm σ w) (hκ : κn = 38 ∨ κn = 39) : BS κn N0 X0 s u (xsi N (37, 0, 0) k v) X nm σ w := by
  obtain ⟨h1, h2, h3, h4, h5, h6, h7, h8, h9, h10, h11⟩ := h
  refine ⟨h1.w (Or.inr (Or.inl rfl)), h2, h3, h4, h5, fun k' hk => ?_, ?_, h8, h9, ?_, h11⟩
  · rw [xsi_1, if_neg (fun e => by have := (Prod.mk.inj e.1).1; omega)]; exact h6 k' hk
  · rw [xsi_1, if_neg (fun e => absurd e.1 (by decide))]; exact h7
  · rw [xsi_1, if_neg (fun e => absurd e.1 (by decide))]; exact h10
theorem BS.step {κn σ : Nat} {N0 X0 N X : xMem} {s u : xS} {nm : Nat → Nat} {w : Int32} (h : BS κn N0 X0 s u N X nm σ w) (hκ : κn = 38 ∨ κn = 39) (hσ : σ < 400) : BS κn N0 X0 s u (xsi N (36, 0, 0) 0 (nI (σ + 1))) (xsi X (44, 0, 0) 47 (nI (σ + 1))) nm (σ + 1) w := by
  obtain ⟨h1, h2, h3, h4, h5, h6, h7, h8, h9, h10, h11⟩ := h
  refine ⟨h1.w (Or.inl rfl), h2.w (Or.inl ⟨rfl, by omega⟩), h3, h4, h5, fun k hk => ?_, ?_, ?_, hσ, ?_, ?_⟩
  · rw [xsi_1, xsi_1, if_neg (fun e => by have := (Prod.mk.inj e.1).1; omega), if_neg (fun e => absurd e.1 (by decide))]; exact h6 k hk
  · rw [xsi_1, if_pos ⟨rfl, rfl⟩]
  · rw [xsi_1, if_pos ⟨rfl, rfl⟩]
  · rw [xsi_1, if_neg (by decide)]; exact h10
  · rw [xsi_1, if_neg (by decide)]; exact h11
theorem BS.sts {κn σ : Nat} {N0 X0 N X : xMem} {s u s' u' : xS} {nm : Nat → Nat} {w : Int32} (h : BS κn N0 X0 s u N X nm σ w) (hE : EQs s' u') (hI : INV s') (hU : UC u') : BS κn N0 X0 s' u' N X nm σ w := ⟨h.1, h.2.1, hE, hI, hU, h.2.2.2.2.2⟩
theorem BS.C {j b κn σ : Nat} {N0 X0 N X : xMem} {s u : xS} {nm : Nat → Nat} {w : Int32} (h : BS κn N0 X0 s u N X nm σ w) (h0 : CS j b κn N0) : CS j b κn N := by
  unfold CS XW at h0 ⊢
  rw [h.1.2]; exact h0
theorem BS.W {κn σ : Nat} {N0 X0 N X : xMem} {s u : xS} {nm : Nat → Nat} {w : Int32} (h : BS κn N0 X0 s u N X nm σ w) (h0 : XW X0) : XW X := by
  unfold XW at h0 ⊢
  rw [h.2.1.2]; exact h0
/-- a row's number, as it stood at the start -/
theorem BS.row {j b κn σ k r : Nat} {N0 X0 N X : xMem} {s u : xS} {nm : Nat → Nat} {w v : Int32} (h : BS κn N0 X0 s u N X nm σ w) (h0 : CS j b κn N0) (hk : 27 ≤ k ∧ k ≤ 32) (hv : N0.1 (k, 0, j) r = v) : N.1 (k, 0, j) r = v := by
  have hκ := h0.2.2.2.2.2.2
  rw [h.1.1 _ _ (fun e => by have := (Prod.mk.inj e).1; omega) (fun e => by have := (Prod.mk.inj e).1; omega) (fun e => by have := (Prod.mk.inj e).1; omega)]
  exact hv
theorem BS.txt {κn σ : Nat} {N0 X0 N X : xMem} {s u : xS} {nm : Nat → Nat} {w : Int32} (h : BS κn N0 X0 s u N X nm σ w) : X.1 (76, 0, 0) = X0.1 (76, 0, 0) := by
  funext x
  exact h.2.1.1 _ _ (fun e => absurd e.1 (by decide)) (by decide) (by decide) (by decide)
theorem BS.t43 {κn σ : Nat} {N0 X0 N X : xMem} {s u : xS} {nm : Nat → Nat} {w : Int32} (h : BS κn N0 X0 s u N X nm σ w) : X.1 (44, 0, 0) 43 = X0.1 (44, 0, 0) 43 := h.2.1.1 _ _ (fun e => by omega) (by decide) (by decide) (by decide)
def AT (X X' : xMem) (y : Nat) (w : Int32) : Prop := (w = 0 → X'.1 (44, 0, 0) 44 = nI y) ∧ X'.1 (44, 0, 0) 45 = X.1 (44, 0, 0) 45 ∧ X'.1 (77, 0, 0) = X.1 (77, 0, 0) ∧ X'.1 (78, 0, 0) = X.1 (78, 0, 0)
theorem AT.w {y k : Nat} {v w : Int32} {a : xId} {X : xMem} (ha : a = (71, 0, 0) ∨ (a = (44, 0, 0) ∧ k = 48)) : AT X (xsi (xsi X (44, 0, 0) 44 (nI y)) a k v) y w := by
  have n1 : ∀ q, q ≠ 48 → ¬ (((44, 0, 0) : xId) = a ∧ q = k) := fun q hq e => by
    rcases ha with ha | ha
    · rw [ha] at e; exact absurd e.1 (by decide)
    · omega
  have n2 : ∀ κ q, κ ≠ 71 → κ ≠ 44 → ¬ (((κ, 0, 0) : xId) = a ∧ q = k) := fun κ q h7 h4 e => by
    rcases ha with ha | ha
    · rw [ha] at e; exact h7 (Prod.mk.inj e.1).1
    · rw [ha.1] at e; exact h4 (Prod.mk.inj e.1).1
  refine ⟨fun _ => by rw [xsi_1, if_neg (n1 _ (by decide)), xsi_1, if_pos ⟨rfl, rfl⟩], by rw [xsi_1, if_neg (n1 _ (by decide)), xsi_1, if_neg (by decide)], ?_, ?_⟩
  · funext q; rw [xsi_1, if_neg (n2 _ _ (by decide) (by decide)), xsi_1, if_neg (fun e => absurd e.1 (by decide))]
  · funext q; rw [xsi_1, if_neg (n2 _ _ (by decide) (by decide)), xsi_1, if_neg (fun e => absurd e.1 (by decide))]
theorem AT.o {y : Nat} {w : Int32} {X : xMem} : AT X (xsi X (44, 0, 0) 44 (nI y)) y w := by
  refine ⟨fun _ => by rw [xsi_1, if_pos ⟨rfl, rfl⟩], by rw [xsi_1, if_neg (by decide)], ?_, ?_⟩
  · funext q; rw [xsi_1, if_neg (fun e => absurd e.1 (by decide))]
  · funext q; rw [xsi_1, if_neg (fun e => absurd e.1 (by decide))]
theorem n37 {k : Nat} {v : Int32} {a : xId} {N : xMem} (ha : a.1 ≠ 37) : (xsi N a k v).1 (37, 0, 0) = N.1 (37, 0, 0) := by
  funext q; rw [xsi_1, if_neg (fun e => ha (by rw [← e.1]))]
/-- a take on both sides -/
theorem B_take {j b κn v c p x σ : Nat} {d : Int32} {N0 X0 N X : xMem} {s u : xS} {nm : Nat → Nat} (h : BS κn N0 X0 s u N X nm σ 0) (h0 : CS j b κn N0) (hp : p < 4) : ∃ s' u' N' X' nm' w, rTk b κn v c p u N = cM b u' N' ∧ mTk d v c p x s X = mM d s' X' ∧ BS κn N0 X0 s' u' N' X' nm' σ w ∧ AT X X' (x + 5) w ∧ N'.1 (37, 0, 0) = N.1 (37, 0, 0) := by
  have hκ := h0.2.2.2.2.2.2
  have hE := h.2.2.1
  have hI := h.2.2.2.1
  have hU := h.2.2.2.2.1
  have hn := hE.n (j := 0) (by decide)
  have h1 := h.at (k := 44) (v := nI (x + 5)) (a := (44, 0, 0)) (Or.inl ⟨rfl, by omega⟩)
  have nκ : ((κn, 0, 0) : xId).1 ≠ 37 := by show κn ≠ 37; omega
  unfold rTk mTk
  rw [hn]
  by_cases c1 : c < s.1 19 0
  · rw [if_pos c1, if_pos c1]
    have hT := hE.takes hI c1 hp
    have hI' := hI.takes c1 hp
    have hU' : UC (sTakes u c p).2 := hU.k (UF.takes UF.rfl' (by rw [hn]; exact c1))
    rw [hT.1]
    by_cases c2 : (sTakes s c p).1 < 1984
    · rw [if_pos c2, if_pos c2]
      have h17 := takes_live hI c1 hp c2
      have hV := hI'.V c2 (by omega)
      have hq := qAddr_lt hI' c2 (by omega)
      rw [hT.2.addr hI'.R c2 hV.1]
      refine ⟨(sTakes s c p).2, (sTakes u c p).2, _, _, fun k => if k = v then qAddr (sTakes s c p).2 (sTakes s c p).1 else nm k, 0, rfl, rfl, ?_, AT.w (Or.inl rfl), n37 nκ⟩
      have := h1.nmw (v := v) (q := qAddr (sTakes s c p).2 (sTakes s c p).1) hκ hT.2 hI' hU'
      rw [en_lt hq, en_lt hq] at this
      exact this
    · rw [if_neg c2, if_neg c2]
      exact ⟨(sTakes s c p).2, (sTakes u c p).2, _, _, nm, -3, rfl, rfl, h1.why hκ hT.2 hI' hU', AT.w (Or.inr ⟨rfl, rfl⟩), n37 (show (36 : Nat) ≠ 37 by decide)⟩
  · rw [if_neg c1, if_neg c1]
    exact ⟨s, u, _, _, nm, -1, rfl, rfl, h1.why hκ hE hI hU, AT.w (Or.inr ⟨rfl, rfl⟩), n37 (show (36 : Nat) ≠ 37 by decide)⟩
theorem B_give {j b κn v p x σ : Nat} {d : Int32} {N0 X0 N X : xMem} {s u : xS} {nm : Nat → Nat} (h : BS κn N0 X0 s u N X nm σ 0) (h0 : CS j b κn N0) (hp : p < 4) : ∃ s' u' N' X' nm' w, rGv b κn v p (nm v) u N = cM b u' N' ∧ mGv d v p (nm v) x s X = mM d s' X' ∧ BS κn N0 X0 s' u' N' X' nm' σ w ∧ AT X X' (x + 4) w ∧ N'.1 (37, 0, 0) = N.1 (37, 0, 0) := by
  have hκ := h0.2.2.2.2.2.2
  have hE := h.2.2.1
  have hI := h.2.2.2.1
  have hU := h.2.2.2.2.1
  have h1 := h.at (k := 44) (v := nI (x + 4)) (a := (44, 0, 0)) (Or.inl ⟨rfl, by omega⟩)
  have nκ : ((κn, 0, 0) : xId).1 ≠ 37 := by show κn ≠ 37; omega
  unfold rGv mGv
  rw [hE.live hI.R]
  by_cases c1 : nm v < 32768
  · rw [if_pos c1, if_pos c1]
    by_cases c2 : qLive s (nI (nm v)) < 1984
    · rw [if_pos c2, if_pos c2]
      have hq := (live_ok c2).2
      have hV := hI.V c2 (by rw [hq]; decide)
      rw [hE.fit hI.R c2 hV.1]
      by_cases c3 : qFit s (qLive s (nI (nm v))) = true
      · rw [if_pos c3, if_pos c3]
        have hpg := hI.R.pg (p := qLive s (nI (nm v)) / 62) (by omega) hV.1
        have hU' : UC (sGives u (qLive s (nI (nm v))) p) := hU.k (UF.gives UF.rfl' (by rw [hE.n (j := 0) (by decide), hE.p (Or.inl rfl) (by omega)]; exact hpg.1))
        refine ⟨sGives s (qLive s (nI (nm v))) p, sGives u (qLive s (nI (nm v))) p, _, _, fun k => if k = v then 32768 else nm k, 0, rfl, rfl, ?_, AT.w (Or.inl rfl), n37 nκ⟩
        have := h1.nmw (v := v) (q := 32768) hκ (hE.gives hI c2 hq hp) (hI.gives c2 hq hp) hU'
        rw [en_ge (by decide), en_ge (by decide)] at this
        exact this
      · rw [if_neg c3, if_neg c3]
        exact ⟨s, u, _, _, nm, -5, rfl, rfl, h1.why hκ hE hI hU, AT.w (Or.inr ⟨rfl, rfl⟩), n37 (show (36 : Nat) ≠ 37 by decide)⟩
    · rw [if_neg c2, if_neg c2]
      exact ⟨s, u, _, _, nm, -1, rfl, rfl, h1.why hκ hE hI hU, AT.w (Or.inr ⟨rfl, rfl⟩), n37 (show (36 : Nat) ≠ 37 by decide)⟩
  · rw [if_neg c1, if_neg c1]
    exact ⟨s, u, _, _, nm, -11, rfl, rfl, h1.why hκ hE hI hU, AT.w (Or.inr ⟨rfl, rfl⟩), n37 (show (36 : Nat) ≠ 37 by decide)⟩
theorem B_set {j b κn v n y σ : Nat} {d : Int32} {N0 X0 N X : xMem} {s u : xS} {nm : Nat → Nat} (h : BS κn N0 X0 s u N X nm σ 0) (h0 : CS j b κn N0) : ∃ s' u' N' X' nm' w, rSt b v n (nm v) u N = cM b u' N' ∧ mSt d n (nm v) y s X = mM d s' X' ∧ BS κn N0 X0 s' u' N' X' nm' σ w ∧ AT X X' y w ∧ N'.1 (37, 0, 0) = N.1 (37, 0, 0) := by
  have hκ := h0.2.2.2.2.2.2
  have hE := h.2.2.1
  have hI := h.2.2.2.1
  have hU := h.2.2.2.2.1
  have h1 := h.at (k := 44) (v := nI y) (a := (44, 0, 0)) (Or.inl ⟨rfl, by omega⟩)
  unfold rSt mSt
  rw [hE.live hI.R]
  by_cases c1 : nm v < 32768
  · rw [if_pos c1, if_pos c1]
    by_cases c2 : qLive s (nI (nm v)) < 1984
    · rw [if_pos c2, if_pos c2]
      exact ⟨sW s (qLive s (nI (nm v))) (nI n), sW u (qLive s (nI (nm v))) (nI n), _, _, nm, 0, rfl, rfl, h1.sts hE.w hI.wW hU, AT.o, rfl⟩
    · rw [if_neg c2, if_neg c2]
      exact ⟨s, u, _, _, nm, -1, rfl, rfl, h1.why hκ hE hI hU, AT.w (Or.inr ⟨rfl, rfl⟩), n37 (show (36 : Nat) ≠ 37 by decide)⟩
  · rw [if_neg c1, if_neg c1]
    exact ⟨s, u, _, _, nm, -11, rfl, rfl, h1.why hκ hE hI hU, AT.w (Or.inr ⟨rfl, rfl⟩), n37 (show (36 : Nat) ≠ 37 by decide)⟩
