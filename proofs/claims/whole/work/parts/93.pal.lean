/-! all passes of the model's -/
def PS (v p : Nat) (M : xMem) : Prop := XW M ∧ M.1 (44, 0, 0) 33 = nI v ∧ M.1 (44, 0, 0) 34 = nI p
theorem PS.to {v p κ n : Nat} {M : xMem} (h : PS v p M) (h2 : κ ≠ 44) : PS v (p + n) (pTo κ n p M) :=
  ⟨h.1, by rw [pTo_at, if_neg (by decide), if_neg (fun e => absurd e.1 (by decide))]; exact h.2.1, pTo_34⟩
theorem PS.fr {v p κ n : Nat} {M : xMem} (h : PS v p M) (h2 : κ ≠ 44) : PS v (p + n) (pFr κ n p M) :=
  ⟨h.1, by rw [pFr_at, if_neg (by decide), if_neg (fun e => h2 (Prod.mk.inj e.1).1.symm)]; exact h.2.1, pFr_34⟩
theorem PS.too {v : Nat} : ∀ {L : List (Nat × Nat)} {p : Nat} {M : xMem}, PS v p M → (∀ r, r ∈ L → r.1 ≠ 72 ∧ r.1 ≠ 44) → PS v (p + tot L) (pTos L p M) := by
  intro L
  induction L with
  | nil => intro p M h _; exact h
  | cons r L ih =>
    intro p M h hL
    have := ih (p := p + r.2) (M := pTo r.1 r.2 p M) (h.to (hL r List.mem_cons_self).2) (fun r' hr => hL r' (List.mem_cons_of_mem _ hr))
    rw [Nat.add_assoc] at this
    exact this
theorem PS.fro {v : Nat} : ∀ {L : List (Nat × Nat)} {p : Nat} {M : xMem}, PS v p M → (∀ r, r ∈ L → r.1 ≠ 72 ∧ r.1 ≠ 44) → PS v (p + tot L) (pFrs L p M) := by
  intro L
  induction L with
  | nil => intro p M h _; exact h
  | cons r L ih =>
    intro p M h hL
    have := ih (p := p + r.2) (M := pFr r.1 r.2 p M) (h.fr (hL r List.mem_cons_self).2) (fun r' hr => hL r' (List.mem_cons_of_mem _ hr))
    rw [Nat.add_assoc] at this
    exact this
theorem stTo {κ n p f : Nat} {M : xMem} {α : Type} {K : xMem → Option α} (h : PS 1 p M) (hs : xsh (κ, 0, 0) = some (20, n)) (h1 : κ ≠ 72) (h2 : κ ≠ 44) (hp : p + n ≤ 9200) (hf : f < 55) (hr : xRF (44, 0, 0) f = some (κ, 0, 0)) : ((xgR M (some (44, 0, 0)) 8 f).bind fun v => (xob M (some (44, 0, 0)) 8).bind fun u => (fM_passes M u v).bind K) = K (pTo κ n p M) := by
  rw [xgR_w h.1 sh_44 (by decide) hf rfl, hr, Option.bind_some, xob_w h.1 sh_44, Option.bind_some, M_passTo h.1 hs h1 h2 hp h.2.1 h.2.2, Option.bind_some]
theorem stFr {κ n p f : Nat} {M : xMem} {α : Type} {K : xMem → Option α} (h : PS 0 p M) (hs : xsh (κ, 0, 0) = some (20, n)) (h1 : κ ≠ 72) (h2 : κ ≠ 44) (hp : p + n ≤ 9200) (hf : f < 55) (hr : xRF (44, 0, 0) f = some (κ, 0, 0)) : ((xgR M (some (44, 0, 0)) 8 f).bind fun v => (xob M (some (44, 0, 0)) 8).bind fun u => (fM_passes M u v).bind K) = K (pFr κ n p M) := by
  rw [xgR_w h.1 sh_44 (by decide) hf rfl, hr, Option.bind_some, xob_w h.1 sh_44, Option.bind_some, M_passFr h.1 hs h1 h2 hp h.2.1 h.2.2, Option.bind_some]
def L12 : List (Nat × Nat) := [(45, 4), (46, 4), (47, 4), (48, 4), (49, 4), (50, 4), (51, 4), (52, 4), (53, 4), (54, 4), (55, 4), (56, 4)]
def L9 : List (Nat × Nat) := [(62, 16), (63, 16), (64, 24), (65, 24), (66, 192), (67, 96), (68, 4), (69, 96), (70, 4)]
def L4 : List (Nat × Nat) := [(58, 32), (59, 32), (60, 1984), (61, 1984)]
def LK : List (Nat × Nat) := L12 ++ (L9 ++ L4)
theorem M_passCTo {p : Nat} {M : xMem} (h : PS 1 p M) (hp : p + 48 ≤ 9200) : fM_passesCaches M (44, 0, 0) = some (pTos L12 p M) := by
  unfold fM_passesCaches
  refine (stTo h sh_45 (by decide) (by decide) (by omega) (by decide) rfl).trans ?_
  have h1 := PS.to (κ := 45) (n := 4) h (by decide)
  refine (stTo h1 sh_46 (by decide) (by decide) (by omega) (by decide) rfl).trans ?_
  have h2 := PS.to (κ := 46) (n := 4) h1 (by decide)
  refine (stTo h2 sh_47 (by decide) (by decide) (by omega) (by decide) rfl).trans ?_
  have h3 := PS.to (κ := 47) (n := 4) h2 (by decide)
  refine (stTo h3 sh_48 (by decide) (by decide) (by omega) (by decide) rfl).trans ?_
  have h4 := PS.to (κ := 48) (n := 4) h3 (by decide)
  refine (stTo h4 sh_49 (by decide) (by decide) (by omega) (by decide) rfl).trans ?_
  have h5 := PS.to (κ := 49) (n := 4) h4 (by decide)
  refine (stTo h5 sh_50 (by decide) (by decide) (by omega) (by decide) rfl).trans ?_
  have h6 := PS.to (κ := 50) (n := 4) h5 (by decide)
  refine (stTo h6 sh_51 (by decide) (by decide) (by omega) (by decide) rfl).trans ?_
  have h7 := PS.to (κ := 51) (n := 4) h6 (by decide)
  refine (stTo h7 sh_52 (by decide) (by decide) (by omega) (by decide) rfl).trans ?_
  have h8 := PS.to (κ := 52) (n := 4) h7 (by decide)
  refine (stTo h8 sh_53 (by decide) (by decide) (by omega) (by decide) rfl).trans ?_
  have h9 := PS.to (κ := 53) (n := 4) h8 (by decide)
  refine (stTo h9 sh_54 (by decide) (by decide) (by omega) (by decide) rfl).trans ?_
  have h10 := PS.to (κ := 54) (n := 4) h9 (by decide)
  refine (stTo h10 sh_55 (by decide) (by decide) (by omega) (by decide) rfl).trans ?_
  have h11 := PS.to (κ := 55) (n := 4) h10 (by decide)
  refine (stTo h11 sh_56 (by decide) (by decide) (by omega) (by decide) rfl).trans ?_
  rfl
theorem M_passMTo {p : Nat} {M : xMem} (h : PS 1 p M) (hp : p + 472 ≤ 9200) : fM_passesMagazines M (44, 0, 0) = some (pTos L9 p M) := by
  unfold fM_passesMagazines
  refine (stTo h sh_62 (by decide) (by decide) (by omega) (by decide) rfl).trans ?_
  have h1 := PS.to (κ := 62) (n := 16) h (by decide)
  refine (stTo h1 sh_63 (by decide) (by decide) (by omega) (by decide) rfl).trans ?_
  have h2 := PS.to (κ := 63) (n := 16) h1 (by decide)
  refine (stTo h2 sh_64 (by decide) (by decide) (by omega) (by decide) rfl).trans ?_
  have h3 := PS.to (κ := 64) (n := 24) h2 (by decide)
  refine (stTo h3 sh_65 (by decide) (by decide) (by omega) (by decide) rfl).trans ?_
  have h4 := PS.to (κ := 65) (n := 24) h3 (by decide)
  refine (stTo h4 sh_66 (by decide) (by decide) (by omega) (by decide) rfl).trans ?_
  have h5 := PS.to (κ := 66) (n := 192) h4 (by decide)
  refine (stTo h5 sh_67 (by decide) (by decide) (by omega) (by decide) rfl).trans ?_
  have h6 := PS.to (κ := 67) (n := 96) h5 (by decide)
  refine (stTo h6 sh_68 (by decide) (by decide) (by omega) (by decide) rfl).trans ?_
  have h7 := PS.to (κ := 68) (n := 4) h6 (by decide)
  refine (stTo h7 sh_69 (by decide) (by decide) (by omega) (by decide) rfl).trans ?_
  have h8 := PS.to (κ := 69) (n := 96) h7 (by decide)
  refine (stTo h8 sh_70 (by decide) (by decide) (by omega) (by decide) rfl).trans ?_
  rfl
theorem M_passCFr {p : Nat} {M : xMem} (h : PS 0 p M) (hp : p + 48 ≤ 9200) : fM_passesCaches M (44, 0, 0) = some (pFrs L12 p M) := by
  unfold fM_passesCaches
  refine (stFr h sh_45 (by decide) (by decide) (by omega) (by decide) rfl).trans ?_
  have h1 := PS.fr (κ := 45) (n := 4) h (by decide)
  refine (stFr h1 sh_46 (by decide) (by decide) (by omega) (by decide) rfl).trans ?_
  have h2 := PS.fr (κ := 46) (n := 4) h1 (by decide)
  refine (stFr h2 sh_47 (by decide) (by decide) (by omega) (by decide) rfl).trans ?_
  have h3 := PS.fr (κ := 47) (n := 4) h2 (by decide)
  refine (stFr h3 sh_48 (by decide) (by decide) (by omega) (by decide) rfl).trans ?_
  have h4 := PS.fr (κ := 48) (n := 4) h3 (by decide)
  refine (stFr h4 sh_49 (by decide) (by decide) (by omega) (by decide) rfl).trans ?_
  have h5 := PS.fr (κ := 49) (n := 4) h4 (by decide)
  refine (stFr h5 sh_50 (by decide) (by decide) (by omega) (by decide) rfl).trans ?_
  have h6 := PS.fr (κ := 50) (n := 4) h5 (by decide)
  refine (stFr h6 sh_51 (by decide) (by decide) (by omega) (by decide) rfl).trans ?_
  have h7 := PS.fr (κ := 51) (n := 4) h6 (by decide)
  refine (stFr h7 sh_52 (by decide) (by decide) (by omega) (by decide) rfl).trans ?_
  have h8 := PS.fr (κ := 52) (n := 4) h7 (by decide)
  refine (stFr h8 sh_53 (by decide) (by decide) (by omega) (by decide) rfl).trans ?_
  have h9 := PS.fr (κ := 53) (n := 4) h8 (by decide)
  refine (stFr h9 sh_54 (by decide) (by decide) (by omega) (by decide) rfl).trans ?_
  have h10 := PS.fr (κ := 54) (n := 4) h9 (by decide)
  refine (stFr h10 sh_55 (by decide) (by decide) (by omega) (by decide) rfl).trans ?_
  have h11 := PS.fr (κ := 55) (n := 4) h10 (by decide)
  refine (stFr h11 sh_56 (by decide) (by decide) (by omega) (by decide) rfl).trans ?_
  rfl
theorem M_passMFr {p : Nat} {M : xMem} (h : PS 0 p M) (hp : p + 472 ≤ 9200) : fM_passesMagazines M (44, 0, 0) = some (pFrs L9 p M) := by
  unfold fM_passesMagazines
  refine (stFr h sh_62 (by decide) (by decide) (by omega) (by decide) rfl).trans ?_
  have h1 := PS.fr (κ := 62) (n := 16) h (by decide)
  refine (stFr h1 sh_63 (by decide) (by decide) (by omega) (by decide) rfl).trans ?_
  have h2 := PS.fr (κ := 63) (n := 16) h1 (by decide)
  refine (stFr h2 sh_64 (by decide) (by decide) (by omega) (by decide) rfl).trans ?_
  have h3 := PS.fr (κ := 64) (n := 24) h2 (by decide)
  refine (stFr h3 sh_65 (by decide) (by decide) (by omega) (by decide) rfl).trans ?_
  have h4 := PS.fr (κ := 65) (n := 24) h3 (by decide)
  refine (stFr h4 sh_66 (by decide) (by decide) (by omega) (by decide) rfl).trans ?_
  have h5 := PS.fr (κ := 66) (n := 192) h4 (by decide)
  refine (stFr h5 sh_67 (by decide) (by decide) (by omega) (by decide) rfl).trans ?_
  have h6 := PS.fr (κ := 67) (n := 96) h5 (by decide)
  refine (stFr h6 sh_68 (by decide) (by decide) (by omega) (by decide) rfl).trans ?_
  have h7 := PS.fr (κ := 68) (n := 4) h6 (by decide)
  refine (stFr h7 sh_69 (by decide) (by decide) (by omega) (by decide) rfl).trans ?_
  have h8 := PS.fr (κ := 69) (n := 96) h7 (by decide)
  refine (stFr h8 sh_70 (by decide) (by decide) (by omega) (by decide) rfl).trans ?_
  rfl
theorem pTos_ap : ∀ {L L' : List (Nat × Nat)} {p : Nat} {M : xMem}, pTos L' (p + tot L) (pTos L p M) = pTos (L ++ L') p M := by
  intro L
  induction L with
  | nil => intro L' p M; rfl
  | cons r L ih =>
    intro L' p M
    show pTos L' (p + (r.2 + tot L)) (pTos L (p + r.2) (pTo r.1 r.2 p M)) = pTos (L ++ L') (p + r.2) (pTo r.1 r.2 p M)
    rw [← Nat.add_assoc]; exact ih
theorem pFrs_ap : ∀ {L L' : List (Nat × Nat)} {p : Nat} {M : xMem}, pFrs L' (p + tot L) (pFrs L p M) = pFrs (L ++ L') p M := by
  intro L
  induction L with
  | nil => intro L' p M; rfl
  | cons r L ih =>
    intro L' p M
    show pFrs L' (p + (r.2 + tot L)) (pFrs L (p + r.2) (pFr r.1 r.2 p M)) = pFrs (L ++ L') (p + r.2) (pFr r.1 r.2 p M)
    rw [← Nat.add_assoc]; exact ih
/-- one number -/
def qTo (p : Nat) (v : Int32) (M : xMem) : xMem := xsi (xsi M (72, 0, 0) p v) (44, 0, 0) 34 (nI (p + 1))
theorem M_oneTo {p : Nat} {v : Int32} {M : xMem} (h : PS 1 p M) (hp : p < 9200) : fM_passOne M (44, 0, 0) v = some (v, qTo p v M) := by
  have hW := h.1
  have hW2 : XW (xsi M (72, 0, 0) p v) := hW
  unfold fM_passOne fM_passOne_20 fM_passOne_38
  rw [xgI_w (k := 33) hW sh_44, Option.bind_some, h.2.1, if_neg (by decide), Option.bind_some, if_neg (by decide), pR_30 hW, Option.bind_some, xgI_w (k := 34) hW sh_44, Option.bind_some, h.2.2, xuI_w hW sh_72 hp (by decide), Option.bind_some, xgI_w hW2 sh_44, Option.bind_some, xsi_1, if_neg (fun e => absurd e.1 (by decide)), h.2.2, kl_1, nI_add, xpI_w hW2 sh_44, Option.bind_some]
  rfl
def qFr (p : Nat) (M : xMem) : xMem := xsi M (44, 0, 0) 34 (nI (p + 1))
theorem M_oneFr {p : Nat} {v : Int32} {M : xMem} (h : PS 0 p M) (hp : p < 9200) : fM_passOne M (44, 0, 0) v = some (M.1 (72, 0, 0) p, qFr p M) := by
  have hW := h.1
  unfold fM_passOne fM_passOne_20 fM_passOne_38
  rw [xgI_w (k := 33) hW sh_44, Option.bind_some, h.2.1, if_pos (by decide), pR_30 hW, Option.bind_some, xgI_w (k := 34) hW sh_44, Option.bind_some, h.2.2, xaI_w hW sh_72 hp (by decide), Option.bind_some, Option.bind_some, if_pos (by decide), Option.bind_some, kl_1, nI_add, xpI_w hW sh_44, Option.bind_some]
  rfl
theorem PS.one {p : Nat} {v : Int32} {M : xMem} (h : PS 1 p M) : PS 1 (p + 1) (qTo p v M) := ⟨h.1, by unfold qTo; rw [xsi_1, if_neg (by decide), xsi_1, if_neg (fun e => absurd e.1 (by decide))]; exact h.2.1, by unfold qTo; rw [xsi_1, if_pos ⟨rfl, rfl⟩]⟩
theorem PS.oneF {p : Nat} {M : xMem} (h : PS 0 p M) : PS 0 (p + 1) (qFr p M) := ⟨h.1, by unfold qFr; rw [xsi_1, if_neg (by decide)]; exact h.2.1, by unfold qFr; rw [xsi_1, if_pos ⟨rfl, rfl⟩]⟩
theorem PS.set {u p k : Nat} {v : Int32} {M : xMem} (h : PS u p M) (hk : k < 33) : PS u p (xsi M (44, 0, 0) k v) := ⟨h.1, by rw [xsi_1, if_neg (fun e => by omega)]; exact h.2.1, by rw [xsi_1, if_neg (fun e => by omega)]; exact h.2.2⟩
/-- the long ones -/
def tTo (w : Nat) (i : Nat) (M : xMem) : xMem := (M.1, fun a x => if a = (73, 0, 0) ∧ 4 * w ≤ x ∧ x < 4 * w + i then M.2.1 (57, 0, 0) (x - 4 * w) else M.2.1 a x, M.2.2)
def tFr (w : Nat) (i : Nat) (M : xMem) : xMem := (M.1, fun a x => if a = (57, 0, 0) ∧ x < i then M.2.1 (73, 0, 0) (4 * w + x) else M.2.1 a x, M.2.2)
theorem tTo_f1 {w i : Nat} {M : xMem} : (tTo w i M).1 = M.1 := rfl
theorem tFr_f1 {w i : Nat} {M : xMem} : (tFr w i M).1 = M.1 := rfl
theorem tTo_at {w i : Nat} {M : xMem} {a : xId} {x : Nat} : (tTo w i M).2.1 a x = if a = (73, 0, 0) ∧ 4 * w ≤ x ∧ x < 4 * w + i then M.2.1 (57, 0, 0) (x - 4 * w) else M.2.1 a x := rfl
theorem tFr_at {w i : Nat} {M : xMem} {a : xId} {x : Nat} : (tFr w i M).2.1 a x = if a = (57, 0, 0) ∧ x < i then M.2.1 (73, 0, 0) (4 * w + x) else M.2.1 a x := rfl
theorem tTo_s {w i : Nat} {M : xMem} : xsl (tTo w i M) (73, 0, 0) (4 * w + i) (M.2.1 (57, 0, 0) i) = tTo w (i + 1) M := by
  refine Prod.ext rfl (Prod.ext ?_ rfl)
  funext a x
  rw [xsl_2]
  show (if _ then _ else if a = (73, 0, 0) ∧ 4 * w ≤ x ∧ x < 4 * w + i then M.2.1 (57, 0, 0) (x - 4 * w) else M.2.1 a x) = (if a = (73, 0, 0) ∧ 4 * w ≤ x ∧ x < 4 * w + (i + 1) then M.2.1 (57, 0, 0) (x - 4 * w) else M.2.1 a x)
  by_cases h2 : a = (73, 0, 0) ∧ x = 4 * w + i
  · rw [if_pos h2, if_pos ⟨h2.1, by omega, by omega⟩, h2.2, Nat.add_sub_cancel_left]
  · rw [if_neg h2]
    by_cases h3 : a = (73, 0, 0) ∧ 4 * w ≤ x ∧ x < 4 * w + i
    · rw [if_pos h3, if_pos ⟨h3.1, h3.2.1, by omega⟩]
    · rw [if_neg h3, if_neg (fun e => by
        by_cases h4 : x = 4 * w + i
        · exact h2 ⟨e.1, h4⟩
        · exact h3 ⟨e.1, e.2.1, by omega⟩)]
theorem tFr_s {w i : Nat} {M : xMem} : xsl (tFr w i M) (57, 0, 0) i (M.2.1 (73, 0, 0) (4 * w + i)) = tFr w (i + 1) M := by
  refine Prod.ext rfl (Prod.ext ?_ rfl)
  funext a x
  rw [xsl_2]
  show (if _ then _ else if a = (57, 0, 0) ∧ x < i then M.2.1 (73, 0, 0) (4 * w + x) else M.2.1 a x) = (if a = (57, 0, 0) ∧ x < i + 1 then M.2.1 (73, 0, 0) (4 * w + x) else M.2.1 a x)
  by_cases h2 : a = (57, 0, 0) ∧ x = i
  · rw [if_pos h2, if_pos ⟨h2.1, by omega⟩, h2.2]
  · rw [if_neg h2]
    by_cases h3 : a = (57, 0, 0) ∧ x < i
    · rw [if_pos h3, if_pos ⟨h3.1, by omega⟩]
    · rw [if_neg h3, if_neg (fun e => by
        by_cases h4 : x = i
        · exact h2 ⟨e.1, h4⟩
        · exact h3 ⟨e.1, by omega⟩)]
theorem pR_31 {M : xMem} (hW : XW M) : xgR M (some (44, 0, 0)) 8 31 = some (some (73, 0, 0)) := (xgR_w hW sh_44 (by decide) (by decide) rfl).trans rfl
theorem pR_12 {M : xMem} (hW : XW M) : xgR M (some (44, 0, 0)) 8 12 = some (some (57, 0, 0)) := (xgR_w hW sh_44 (by decide) (by decide) rfl).trans rfl
theorem M_tTo {w : Nat} {M : xMem} (hW : XW M) (hw : w < 2) : fM_passesAll_91 M (some (44, 0, 0)) (nI w) (nI 1) = some (tTo w 4 M) := by
  have key : ∀ e i f, i + e = 4 → e < f → fM_passesAll_93 f (tTo w i M) (some (44, 0, 0)) (nI w) (nI 1) (nI i) = some (tTo w 4 M) := by
    intro e
    induction e with
    | zero =>
      intro i f hi hf
      obtain ⟨f, rfl⟩ : ∃ m, f = m + 1 := ⟨f - 1, by omega⟩
      have hi : i = 4 := by omega
      subst hi
      unfold fM_passesAll_93
      rw [kl_4, if_pos (nI_le (Nat.le_refl _) (by decide))]
    | succ e ih =>
      intro i f hi hf
      obtain ⟨f, rfl⟩ : ∃ m, f = m + 1 := ⟨f - 1, by omega⟩
      have hW' : XW (tTo w i M) := hW
      have e57 : (tTo w i M).2.1 (57, 0, 0) i = M.2.1 (57, 0, 0) i := by rw [tTo_at, if_neg (fun e => absurd e.1 (by decide))]
      unfold fM_passesAll_93 fM_passesAll_137
      rw [kl_4, if_neg (show ¬ nI 4 ≤ nI i from by rw [nI_leI (by decide) (by omega)]; omega), if_neg (by decide), pR_31 hW', Option.bind_some, pR_12 hW', Option.bind_some, xaL_w hW' sh_57 (by omega) (by decide), Option.bind_some, e57, pk_mul, nI_add, xuL_w hW' sh_73 (by omega) (by decide), Option.bind_some, tTo_s, kl_1, nI_add]
      exact ih (i + 1) f (by omega) (by omega)
  unfold fM_passesAll_91
  have h0 : tTo w 0 M = M := by
    refine Prod.ext rfl (Prod.ext ?_ rfl)
    funext a x
    rw [tTo_at, if_neg (fun e => by omega)]
  have h1 := key 4 0 xF rfl (by unfold xF; omega)
  rw [h0] at h1
  rw [kl_0]
  exact h1
theorem M_tFr {w : Nat} {M : xMem} (hW : XW M) (hw : w < 2) : fM_passesAll_91 M (some (44, 0, 0)) (nI w) (nI 0) = some (tFr w 4 M) := by
  have key : ∀ e i f, i + e = 4 → e < f → fM_passesAll_93 f (tFr w i M) (some (44, 0, 0)) (nI w) (nI 0) (nI i) = some (tFr w 4 M) := by
    intro e
    induction e with
    | zero =>
      intro i f hi hf
      obtain ⟨f, rfl⟩ : ∃ m, f = m + 1 := ⟨f - 1, by omega⟩
      have hi : i = 4 := by omega
      subst hi
      unfold fM_passesAll_93
      rw [kl_4, if_pos (nI_le (Nat.le_refl _) (by decide))]
    | succ e ih =>
      intro i f hi hf
      obtain ⟨f, rfl⟩ : ∃ m, f = m + 1 := ⟨f - 1, by omega⟩
      have hW' : XW (tFr w i M) := hW
      have e73 : (tFr w i M).2.1 (73, 0, 0) (4 * w + i) = M.2.1 (73, 0, 0) (4 * w + i) := by rw [tFr_at, if_neg (fun e => absurd e.1 (by decide))]
      unfold fM_passesAll_93 fM_passesAll_137
      rw [kl_4, if_neg (show ¬ nI 4 ≤ nI i from by rw [nI_leI (by decide) (by omega)]; omega), if_pos (by decide), pR_12 hW', Option.bind_some, pR_31 hW', Option.bind_some, pk_mul, nI_add, xaL_w hW' sh_73 (by omega) (by decide), Option.bind_some, e73, xuL_w hW' sh_57 (by omega) (by decide), Option.bind_some, tFr_s, kl_1, nI_add]
      exact ih (i + 1) f (by omega) (by omega)
  unfold fM_passesAll_91
  have h0 : tFr w 0 M = M := by
    refine Prod.ext rfl (Prod.ext ?_ rfl)
    funext a x
    rw [tFr_at, if_neg (fun e => by omega)]
  have h1 := key 4 0 xF rfl (by unfold xF; omega)
  rw [h0] at h1
  rw [kl_0]
  exact h1
