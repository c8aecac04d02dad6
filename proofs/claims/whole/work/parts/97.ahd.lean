/-! ahead -/
def aT (c p : Nat) : Nat → Nat → xS → Nat × xS
  | 0, l, s => (l, s)
  | n + 1, _, s => aT c p n (sTakes s c p).1 (sTakes s c p).2
theorem takes_19 {s : xS} {c p : Nat} (hc : c < s.1 19 0) : (sTakes s c p).2.1 19 0 = s.1 19 0 := (UF.takes (UF.rfl' (n := s.1 19 0)) hc).1
theorem aT_ok {c p : Nat} : ∀ {n l : Nat} {s t : xS}, EQs s t → INV s → c < s.1 19 0 → p < 4 → (aT c p n l t).1 = (aT c p n l s).1 ∧ EQs (aT c p n l s).2 (aT c p n l t).2 ∧ INV (aT c p n l s).2 ∧ ((l < 1984 → s.1 17 l = 1) → (aT c p n l s).1 < 1984 → (aT c p n l s).2.1 17 (aT c p n l s).1 = 1) := by
  intro n
  induction n with
  | zero => intro l s t h hI _ _; exact ⟨rfl, h, hI, fun h1 h2 => h1 h2⟩
  | succ n ih =>
    intro l s t h hI hc hp
    have hE := h.takes hI hc hp
    have hi := ih (l := (sTakes s c p).1) hE.2 (hI.takes hc hp) (by rw [takes_19 hc]; exact hc) hp
    show (aT c p n (sTakes t c p).1 (sTakes t c p).2).1 = _ ∧ EQs _ (aT c p n (sTakes t c p).1 (sTakes t c p).2).2 ∧ _
    rw [hE.1]
    exact ⟨hi.1, hi.2.1, hi.2.2.1, fun _ => hi.2.2.2 (fun hl => takes_live hI hc hp hl)⟩
def rAh (r : Nat × xS) : Int32 := if r.1 < 1984 then nI (qAddr r.2 r.1) else m2
def rAhead (s : xS) (a0 a1 a2 a3 : Int32) : Int32 := if okTk s a0 a1 a2 = true then (if a3 < 0 then m1 else if a3 < a2 then rAh (aT (cN (s.1 19 0) a0) (cN 4 a1) (cN 40 a3 + 1) 1984 s) else m1) else m1
theorem okTk_v {s : xS} {a0 a1 a2 : Int32} (hn : s.1 19 0 ≤ 4) (h : okTk s a0 a1 a2 = true) : ∃ c p v, c < s.1 19 0 ∧ p < 4 ∧ 1 ≤ v ∧ v ≤ 40 ∧ a0 = nI c ∧ a1 = nI p ∧ a2 = nI v ∧ cN (s.1 19 0) a0 = c ∧ cN 4 a1 = p := by
  unfold okTk at h
  rw [Bool.and_eq_true, Bool.and_eq_true, decide_eq_true_eq, decide_eq_true_eq] at h
  obtain ⟨h1, h2, h3⟩ := h
  rcases ca_cases _ a0 hn with h | ⟨c, hc, rfl, e⟩
  · exact absurd h1 h
  · rcases pr_cases a1 with h | ⟨p, hp, rfl, e2⟩
    · exact absurd h2 h
    · obtain ⟨v, rfl, hv1, hv2⟩ := okI_v (by decide) (by decide) h3
      exact ⟨c, p, v, hc, hp, hv1, hv2, rfl, rfl, rfl, e, e2⟩
/-- an index below a small number -/
theorem ix_v {a : Int32} {v : Nat} (hv : v ≤ 40) (h0 : ¬ a < 0) (h1 : a < nI v) : ∃ w, w < v ∧ a = nI w ∧ cN 40 a = w := by
  rcases ge_cases 40 a (by decide) with ⟨-, h2⟩ | ⟨w, hw, rfl, e⟩
  · exfalso
    rcases h2 with h2 | ⟨-, h2⟩
    · exact h0 h2
    · rw [Int32.lt_iff_toInt_lt] at h1
      rw [Int32.le_iff_toInt_le] at h2
      have e1 := nI_toInt (show (40 : Nat) < 2 ^ 31 by decide)
      have e2 := nI_toInt (show v < 2 ^ 31 by omega)
      omega
  · rw [nI_ltI (by omega) (by omega)] at h1
    exact ⟨w, h1, rfl, e⟩
theorem bfal {b : Bool} (h : ¬ b = true) : b = false := by cases b with
  | false => rfl
  | true => exact absurd rfl h
theorem isIn_140 {M : xMem} {x : Int32} : fM_isIn M x (1 : Int32) (40 : Int32) = some (bI (okI 1 40 x), M) := M_isInG
theorem isIn_02 {M : xMem} {x : Int32} : fM_isIn M x (0 : Int32) (2 : Int32) = some (bI (okI 0 2 x), M) := M_isInG
theorem isIn_0v {M : xMem} {x : Int32} {v : Nat} (h : 1 ≤ v) : fM_isIn M x (0 : Int32) (nI v - (1 : Int32)) = some (bI (okI 0 (v - 1) x), M) := by
  rw [kl_1, pk_sub h]; exact M_isInG
theorem tR_0 {M : xMem} (hW : XW M) : xgR M (some (0, 0, 0)) 7 0 = some (some (1, 0, 0)) := (xgR_w hW sh_0 (by decide) (by decide) rfl).trans rfl
theorem tR_1 {M : xMem} (hW : XW M) : xgR M (some (0, 0, 0)) 7 1 = some (some (1, 1, 0)) := (xgR_w hW sh_0 (by decide) (by decide) rfl).trans rfl
theorem tR_4 {M : xMem} (hW : XW M) : xgR M (some (0, 0, 0)) 7 4 = some (some (23, 0, 0)) := (xgR_w hW sh_0 (by decide) (by decide) rfl).trans rfl
theorem tR_p {M : xMem} {b : Nat} (hW : XW M) (hb : b < 3) : xgR M (some (1, b, 0)) 3 0 = some (some (2, b, 0)) := (xgR_w hW (sh_1 hb) (by decide) (by decide) rfl).trans rfl
theorem C_aheadL {c p w : Nat} {N : xMem} (hW : XW N) (hp : p < 4) (hw : w < 40) : ∀ e i f l u, INV u → c < u.1 19 0 → i + e = w + 1 → e < f → (l < 1984 → u.1 17 l = 1) → fX_ahead_40 f (cM 1 u N) (some (0, 0, 0)) (nI c) (nI p) (nI w) (en 1984 m1 l) (nI i) = some (rAh (aT c p e l u), cM 1 (aT c p e l u).2 N) := by
  intro e
  induction e with
  | zero =>
    intro i f l u hI hc hi hf hl
    obtain ⟨f, rfl⟩ : ∃ m, f = m + 1 := ⟨f - 1, by omega⟩
    have hi : i = w + 1 := by omega
    subst hi
    have hW' : XW (cM 1 u N) := hW
    have h3 : nI w < nI (w + 1) := by rw [nI_ltI (by omega) (by omega)]; omega
    unfold fX_ahead_40
    rw [if_pos h3]
    show _ = some ((if l < 1984 then nI (qAddr u l) else m2), cM 1 u N)
    by_cases h1 : l < 1984
    · have hV := hI.V h1 (by rw [hl h1]; decide)
      rw [en_lt h1, if_neg (show ¬ nI l = (-1 : Int32) from fun e => nI_pos (show l < 2 ^ 31 by omega) (e ▸ (by decide))), tR_1 hW', Option.bind_some, tR_p hW' (by decide), Option.bind_some, xob_w hW' (sh_2 (by decide)), Option.bind_some, D_addressOf hW (by decide) h1 hV.1, Option.bind_some, if_pos h1]
    · rw [en_ge h1, if_pos (show m1 = (-1 : Int32) from rfl), if_neg h1]
      rfl
  | succ e ih =>
    intro i f l u hI hc hi hf hl
    obtain ⟨f, rfl⟩ : ∃ m, f = m + 1 := ⟨f - 1, by omega⟩
    have hW' : XW (cM 1 u N) := hW
    unfold fX_ahead_40
    rw [if_neg (show ¬ nI w < nI i from by rw [nI_ltI (by omega) (by omega)]; omega), tR_1 hW', Option.bind_some, xob_w hW' (sh_1 (by decide)), Option.bind_some, D_takeBy hW (by decide) hI hc hp, Option.bind_some, kl_1, nI_add]
    exact ih (i + 1) f _ _ (hI.takes hc hp) (by rw [takes_19 hc]; exact hc) (by omega) (by omega) (fun h => takes_live hI hc hp h)
theorem C_ahead {M : xMem} {t t1 : xS} {a0 a1 a2 a3 : Int32} (hW : XW M) (hI : INV t) (hU : UC t) (h0 : HB 0 t M) (h1 : HB 1 t1 M) : ∃ u, fX_ahead M (0, 0, 0) a0 a1 a2 a3 = some (rAhead t a0 a1 a2 a3, cM 1 u M) := by
  have hn := hI.R.n
  have hk := C_isForTakes (a0 := a0) (a1 := a1) (a2 := a2) (t := t) hW hI
  rw [h0.eq] at hk
  unfold fX_ahead rAhead
  rw [xob_w hW sh_0, Option.bind_some, hk, Option.bind_some]
  dsimp only
  by_cases hok : okTk t a0 a1 a2 = true
  · rw [if_neg (by rw [hok]; decide), if_pos hok]
    by_cases h3 : a3 < 0
    · rw [if_pos h3, if_pos h3]; exact ⟨t1, by rw [h1.eq]; rfl⟩
    · rw [if_neg h3, if_neg h3]
      by_cases h4 : a3 < a2
      · rw [if_pos h4, if_pos h4]
        obtain ⟨c, p, v, hc, hp, -, hv, rfl, rfl, rfl, e1, e2⟩ := okTk_v hn hok
        obtain ⟨w, hw, rfl, e3⟩ := ix_v hv h3 h4
        rw [e1, e2, e3, tR_1 hW, Option.bind_some, tR_0 hW, Option.bind_some, xob_w hW (sh_1 (by decide)), Option.bind_some, D_cpy hW (by decide) (by decide) (by decide) hI hU h0 h1, Option.bind_some]
        have hE : EQs t (sCp t t1) := EQs.cp EQs.rfl' hI
        have hc' : c < (sCp t t1).1 19 0 := by rw [hE.n (by decide)]; exact hc
        have := C_aheadL (c := c) (p := p) (w := w) (N := M) hW hp (by omega) (w + 1) 0 xF 1984 (sCp t t1) (hE.inv hI) hc' (by omega) (by unfold xF; omega) (fun h => absurd h (by decide))
        refine ⟨(aT c p (w + 1) 1984 (sCp t t1)).2, ?_⟩
        have e9 : en 1984 m1 1984 = (-1 : Int32) := by rw [en_ge (by decide)]; rfl
        rw [e9] at this
        rw [kl_0, this]
        have hA := aT_ok (n := w + 1) (l := 1984) hE hI hc hp
        have hr : rAh (aT c p (w + 1) 1984 (sCp t t1)) = rAh (aT c p (w + 1) 1984 t) := by
          unfold rAh
          rw [hA.1]
          by_cases hl : (aT c p (w + 1) 1984 t).1 < 1984
          · have h17 := hA.2.2.2 (fun h => absurd h (by decide)) hl
            have hV := hA.2.2.1.V hl (by rw [h17]; decide)
            rw [if_pos hl, if_pos hl, hA.2.1.addr hA.2.2.1.R hl hV.1]
          · rw [if_neg hl, if_neg hl]
        rw [hr]
      · rw [if_neg h4, if_neg h4]; exact ⟨t1, by rw [h1.eq]; rfl⟩
  · rw [if_pos (by rw [bfal hok]; rfl), if_neg hok]; exact ⟨t1, by rw [h1.eq]; rfl⟩
theorem M_aheadL {c p w : Nat} {d : Int32} {s0 : xS} {X0 F : xMem} (hW : XW X0) (hA : AgX X0 F) (hK : KPm 1 (mM d s0 X0) F) (hp : p < 4) (hw : w < 40) : ∀ e i f l u, INV u → c < u.1 19 0 → i + e = w + 1 → e < f → (l < 1984 → u.1 17 l = 1) → ∃ d' R, fM_ahead_50 f (mM d u F) (some (44, 0, 0)) (nI c) (nI p) (nI w) (en 1984 (-9) l) (nI i) = some (rAh (aT c p e l u), mM d' s0 R) ∧ AgX X0 R ∧ ∀ x, x < 26 → R.1 (71, 0, 0) x = X0.1 (71, 0, 0) x := by
  intro e
  induction e with
  | zero =>
    intro i f l u hI hc hi hf hl
    obtain ⟨f, rfl⟩ : ∃ m, f = m + 1 := ⟨f - 1, by omega⟩
    have hi : i = w + 1 := by omega
    subst hi
    have hWF : XW F := hA.W hW
    have hW' : XW (mM d u F) := hWF
    have h3 : nI w < nI (w + 1) := by rw [nI_ltI (by omega) (by omega)]; omega
    obtain ⟨R, hf1, hf2, hf3, -⟩ := M_forgets (d2 := d) (s2 := u) hW hA hK
    refine ⟨nI (u.1 19 2) + d - nI (s0.1 19 2), R, ?_, hf2, hf3⟩
    have h87 : ∀ v, fM_ahead_87 (mM d u F) (some (44, 0, 0)) v = some (v, mM (nI (u.1 19 2) + d - nI (s0.1 19 2)) s0 R) := fun v => by
      unfold fM_ahead_87
      rw [xob_w hW' sh_44, Option.bind_some, hf1, Option.bind_some]
    unfold fM_ahead_50
    rw [if_pos h3]
    show _ = some ((if l < 1984 then nI (qAddr u l) else m2), _)
    by_cases h1 : l < 1984
    · have hV := hI.V h1 (by rw [hl h1]; decide)
      rw [en_lt h1, if_pos (show (0 : Int32) ≤ nI l from nI_pos' (by omega)), xob_w hW' sh_44, Option.bind_some, M_addressOf hWF h1 hV.1, Option.bind_some, if_pos h1, h87]
    · rw [en_ge h1, if_neg (show ¬ (0 : Int32) ≤ -9 by decide), if_neg h1, h87]
      rfl
  | succ e ih =>
    intro i f l u hI hc hi hf hl
    obtain ⟨f, rfl⟩ : ∃ m, f = m + 1 := ⟨f - 1, by omega⟩
    have hWF : XW F := hA.W hW
    have hW' : XW (mM d u F) := hWF
    unfold fM_ahead_50
    rw [if_neg (show ¬ nI w < nI i from by rw [nI_ltI (by omega) (by omega)]; omega), xob_w hW' sh_44, Option.bind_some, M_takes hWF hI.R (fun b hb => hI.S hb) hc hp (hI.preT hc hp), Option.bind_some, kl_1, nI_add]
    exact ih (i + 1) f _ _ (hI.takes hc hp) (by rw [takes_19 hc]; exact hc) (by omega) (by omega) (fun h => takes_live hI hc hp h)
theorem M_ahead {d : Int32} {s : xS} {M : xMem} {a0 a1 a2 a3 : Int32} (hW : XW M) (hI : INV s) (hM : mM d s M = M) : ∃ d' R, fM_ahead M (44, 0, 0) a0 a1 a2 a3 = some (rAhead s a0 a1 a2 a3, mM d' s R) ∧ AgX M R ∧ ∀ x, x < 26 → R.1 (71, 0, 0) x = M.1 (71, 0, 0) x := by
  have hn := hI.R.n
  have hca := M_isCache (d := d) (s := s) (X := M) (v := a0) hW hn
  rw [hM] at hca
  unfold fM_ahead rAhead
  rw [xob_w hW sh_44, Option.bind_some, hca, Option.bind_some]
  dsimp only
  clear hca
  have no : ∃ d' R, (some (m1, M) : Option (Int32 × xMem)) = some (m1, mM d' s R) ∧ AgX M R ∧ ∀ x, x < 26 → R.1 (71, 0, 0) x = M.1 (71, 0, 0) x := ⟨d, M, by rw [hM], AgX.rfl', fun _ _ => rfl⟩
  by_cases k0 : cN (s.1 19 0) a0 < s.1 19 0
  · rw [decide_eq_true k0, if_neg (by decide), M_isProc, Option.bind_some]
    dsimp only
    by_cases k1 : cN 4 a1 < 4
    · rw [decide_eq_true k1, if_neg (by decide), isIn_140, Option.bind_some]
      dsimp only
      by_cases k2 : okI 1 40 a2 = true
      · have hok : okTk s a0 a1 a2 = true := by unfold okTk; rw [decide_eq_true k0, decide_eq_true k1, k2]; rfl
        rw [if_neg (by rw [k2]; decide), if_pos hok]
        obtain ⟨c, p, v, hc, hp, hv1, hv, rfl, rfl, rfl, e1, e2⟩ := okTk_v hn hok
        rw [isIn_0v hv1, Option.bind_some]
        dsimp only
        by_cases h3 : a3 < 0
        · rw [if_pos h3, if_pos (by unfold okI; rw [if_pos (show a3 < nI 0 from h3)]; rfl)]; exact no
        · rw [if_neg h3]
          by_cases h4 : a3 < nI v
          · obtain ⟨w, hw, rfl, e3⟩ := ix_v hv h3 h4
            have hin : okI 0 (v - 1) (nI w) = true := by
              unfold okI
              rw [if_neg (show ¬ nI w < nI 0 from h3), if_neg (by rw [nI_ltI (by omega) (by omega)]; omega)]
            rw [if_neg (by rw [hin]; decide), if_pos h4, e1, e2, e3]
            obtain ⟨F, hF1, hF2, hF3, -⟩ := M_thinks (d := d) (s := s) (X := M) hW
            rw [hM] at hF1
            rw [xob_w hW sh_44, Option.bind_some, hF1, Option.bind_some]
            have := M_aheadL (c := c) (p := p) (w := w) hW hF2 hF3 hp (by omega) (w + 1) 0 xF 1984 s hI hc (by omega) (by unfold xF; omega) (fun h => absurd h (by decide))
            have e9 : en 1984 (-9) 1984 = (-9 : Int32) := by rw [en_ge (by decide)]
            rw [e9] at this
            exact this
          · rw [if_neg h4, if_pos (by
              have : okI 0 (v - 1) a3 = false := by
                by_cases hh : okI 0 (v - 1) a3 = true
                · obtain ⟨w, rfl, -, hw⟩ := okI_v (by decide) (by omega) hh
                  exact absurd (show nI w < nI v from by rw [nI_ltI (by omega) (by omega)]; omega) h4
                · exact bfal hh
              rw [this]; rfl)]
            exact no
      · rw [if_pos (by rw [bfal k2]; rfl), if_neg (by unfold okTk; rw [bfal k2]; simp)]; exact no
    · rw [decide_eq_false k1, if_pos (by decide), if_neg (by unfold okTk; rw [decide_eq_false k1]; simp)]; exact no
  · rw [decide_eq_false k0, if_pos (by decide), if_neg (by unfold okTk; rw [decide_eq_false k0]; simp)]; exact no
theorem rAhead_ok {s t : xS} (h : EQs s t) (hI : INV s) {a0 a1 a2 a3 : Int32} : rAhead t a0 a1 a2 a3 = rAhead s a0 a1 a2 a3 := by
  unfold rAhead
  rw [okTk_ok h, h.n (j := 0) (by decide)]
  by_cases hok : okTk s a0 a1 a2 = true
  · rw [if_pos hok, if_pos hok]
    obtain ⟨c, p, v, hc, hp, -, hv, rfl, rfl, rfl, e1, e2⟩ := okTk_v hI.R.n hok
    rw [e1, e2]
    have hA := aT_ok (n := cN 40 a3 + 1) (l := 1984) h hI hc hp
    have hr : rAh (aT c p (cN 40 a3 + 1) 1984 t) = rAh (aT c p (cN 40 a3 + 1) 1984 s) := by
      unfold rAh
      rw [hA.1]
      by_cases hl : (aT c p (cN 40 a3 + 1) 1984 s).1 < 1984
      · have h17 := hA.2.2.2 (fun h => absurd h (by decide)) hl
        have hV := hA.2.2.1.V hl (by rw [h17]; decide)
        rw [if_pos hl, if_pos hl, hA.2.1.addr hA.2.2.1.R hl hV.1]
      · rw [if_neg hl, if_neg hl]
    rw [hr]
  · rw [if_neg hok, if_neg hok]
