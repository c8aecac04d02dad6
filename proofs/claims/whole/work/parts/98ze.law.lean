/-! the law's loop -/
theorem xsc_v {L j : Nat} {xs : Nat → Int32} (hj : j < L) (hL : L ≤ 3072) : xsc L xs (nI j) = some (xs j) := by
  unfold xsc
  rw [if_pos (show xinR (nI j) L from vp_in_nI hj (by omega)), nI_clamp (by omega)]
theorem law_lt {L i : Nat} (hL : L ≤ 3072) (hi : i ≤ L) : ((Int32.ofNat L - (6 : Int32)) < nI i) = (L < i + 6) := by
  have h6 : ∀ L, L < 6 → ∀ i, i < 6 → (Int32.ofNat L - (6 : Int32)) < nI i := by decide
  refine propext ?_
  by_cases h : L < 6
  · exact ⟨fun _ => by omega, fun _ => h6 L h i (by omega)⟩
  · have e1 : nI L = nI (L - 6) + nI 6 := ((nI_add (L - 6) 6).trans (congrArg nI (by omega))).symm
    have e2 : Int32.ofNat L - (6 : Int32) = nI (L - 6) := by
      show nI L - nI 6 = _
      rw [e1, Int32.add_sub_cancel]
    rw [e2, nI_ltI (by omega) (by omega)]
    omega
theorem lg_self {x : Int64} : lg_cmp x x = 0 := by rw [lg_cmp_eq]
set_option maxHeartbeats 4000000 in
theorem LOOP {L : Nat} {xs : Nat → Int32} (hL : L ≤ 3072) : ∀ e i f M, i + e = L → e < f → LR2 M M → ∃ M', fL_law_18 L xs f M (some (0, 0, 0)) (some (44, 0, 0)) (nI i) = some (1, M') ∧ M'.2.2.2 = M.2.2.2 := by
  intro e
  induction e using Nat.strongRecOn with
  | _ e ih =>
  intro i f M hi hf hM
  obtain ⟨f, rfl⟩ : ∃ q, f = q + 1 := ⟨f - 1, by omega⟩
  by_cases hend : L < i + 6
  · refine ⟨M, ?_, rfl⟩
    rw [show fL_law_18 L xs (f + 1) M (some (0, 0, 0)) (some (44, 0, 0)) (nI i) = _ from by unfold fL_law_18; rfl]
    rw [if_pos (by rw [law_lt hL (by omega)]; exact hend)]
  · have hW : XW M := by
      obtain ⟨⟨d, s, t, b1, _⟩, _⟩ := hM
      exact b1
    have nx : ∀ X : xMem, LR2 X X → X.2.2.2 = M.2.2.2 → ∃ M', fL_law_1337 L xs (fun M l1 l2 l3 => fL_law_18 L xs f M l1 l2 l3) X (some (0, 0, 0)) (some (44, 0, 0)) (nI i) = some (1, M') ∧ M'.2.2.2 = M.2.2.2 := fun X hX hc => by
      obtain ⟨M', h1, h2⟩ := ih (e - 6) (by omega) (i + 6) f X (by omega) (by omega) hX
      refine ⟨M', ?_, h2.trans hc⟩
      show fL_law_18 L xs f X (some (0, 0, 0)) (some (44, 0, 0)) (nI i + (6 : Int32)) = _
      rw [show nI i + (6 : Int32) = nI (i + 6) from nI_add i 6]
      exact h1
    have S0 : xsc L xs (nI i) = some (xs i) := xsc_v (by omega) hL
    have S1 : xsc L xs (nI i + (1 : Int32)) = some (xs (i + 1)) := by rw [show nI i + (1 : Int32) = nI (i + 1) from nI_add i 1]; exact xsc_v (by omega) hL
    have S2 : xsc L xs (nI i + (2 : Int32)) = some (xs (i + 2)) := by rw [show nI i + (2 : Int32) = nI (i + 2) from nI_add i 2]; exact xsc_v (by omega) hL
    have S3 : xsc L xs (nI i + (3 : Int32)) = some (xs (i + 3)) := by rw [show nI i + (3 : Int32) = nI (i + 3) from nI_add i 3]; exact xsc_v (by omega) hL
    have S4 : xsc L xs (nI i + (4 : Int32)) = some (xs (i + 4)) := by rw [show nI i + (4 : Int32) = nI (i + 4) from nI_add i 4]; exact xsc_v (by omega) hL
    have S5 : xsc L xs (nI i + (5 : Int32)) = some (xs (i + 5)) := by rw [show nI i + (5 : Int32) = nI (i + 5) from nI_add i 5]; exact xsc_v (by omega) hL
    rw [show fL_law_18 L xs (f + 1) M (some (0, 0, 0)) (some (44, 0, 0)) (nI i) = _ from by unfold fL_law_18; rfl]
    rw [if_neg (by rw [law_lt hL (by omega)]; exact hend), S0, Option.bind_some]
    by_cases c0 : (xs i &&& (63 : Int32)) = 0
    · obtain ⟨v, M1, X1, e1, e2, hW1, hX1, hc⟩ := CALL.one (K_cache (a0 := xs (i + 1)) (a1 := xs (i + 2)) (a2 := xs (i + 3))) hM
      have e1 : fX_cache M (0, 0, 0) (xs (i + 1)) (xs (i + 2)) (xs (i + 3)) = some (v, M1) := e1
      have e2 : fM_cache M1 (44, 0, 0) (xs (i + 1)) (xs (i + 2)) (xs (i + 3)) = some (v, X1) := e2
      rw [if_pos c0, S1, Option.bind_some, S2, Option.bind_some, S3, Option.bind_some, xob_w hW sh_0, Option.bind_some, e1, Option.bind_some, Option.bind_some, Option.bind_some, Option.bind_some, xob_w hW1 sh_44, Option.bind_some, e2, Option.bind_some, if_pos rfl]
      exact nx X1 hX1 hc
    rw [if_neg c0]
    by_cases c1 : (xs i &&& (63 : Int32)) = 1
    · obtain ⟨v, M1, X1, e1, e2, hW1, hX1, hc⟩ := CALL.one (K_limit (a0 := xs (i + 1)) (a1 := xs (i + 2))) hM
      have e1 : fX_limit M (0, 0, 0) (xs (i + 1)) (xs (i + 2)) = some (v, M1) := e1
      have e2 : fM_limit M1 (44, 0, 0) (xs (i + 1)) (xs (i + 2)) = some (v, X1) := e2
      rw [if_pos c1, S1, Option.bind_some, S2, Option.bind_some, xob_w hW sh_0, Option.bind_some, e1, Option.bind_some, Option.bind_some, Option.bind_some, xob_w hW1 sh_44, Option.bind_some, e2, Option.bind_some, if_pos rfl]
      exact nx X1 hX1 hc
    rw [if_neg c1]
    by_cases c2 : (xs i &&& (63 : Int32)) = 2
    · obtain ⟨v, M1, X1, e1, e2, hW1, hX1, hc⟩ := CALL.one (K_take (a0 := xs (i + 1)) (a1 := xs (i + 2))) hM
      have e1 : fX_take M (0, 0, 0) (xs (i + 1)) (xs (i + 2)) = some (v, M1) := e1
      have e2 : fM_take M1 (44, 0, 0) (xs (i + 1)) (xs (i + 2)) = some (v, X1) := e2
      rw [if_pos c2, S1, Option.bind_some, S2, Option.bind_some, xob_w hW sh_0, Option.bind_some, e1, Option.bind_some, Option.bind_some, Option.bind_some, xob_w hW1 sh_44, Option.bind_some, e2, Option.bind_some, if_pos rfl]
      exact nx X1 hX1 hc
    rw [if_neg c2]
    by_cases c3 : (xs i &&& (63 : Int32)) = 3
    · obtain ⟨v, M1, X1, e1, e2, hW1, hX1, hc⟩ := CALL.one (K_give (a0 := xs (i + 1)) (a1 := xs (i + 2))) hM
      have e1 : fX_give M (0, 0, 0) (xs (i + 1)) (xs (i + 2)) = some (v, M1) := e1
      have e2 : fM_give M1 (44, 0, 0) (xs (i + 1)) (xs (i + 2)) = some (v, X1) := e2
      rw [if_pos c3, S1, Option.bind_some, S2, Option.bind_some, xob_w hW sh_0, Option.bind_some, e1, Option.bind_some, Option.bind_some, Option.bind_some, xob_w hW1 sh_44, Option.bind_some, e2, Option.bind_some, if_pos rfl]
      exact nx X1 hX1 hc
    rw [if_neg c3]
    by_cases c4 : (xs i &&& (63 : Int32)) = 4
    · obtain ⟨v, M1, X1, e1, e2, hW1, hX1, hc⟩ := CALL.one (K_write (a0 := xs (i + 1)) (a1 := xs (i + 2))) hM
      have e1 : fX_write M (0, 0, 0) (xs (i + 1)) (xs (i + 2)) = some (v, M1) := e1
      have e2 : fM_write M1 (44, 0, 0) (xs (i + 1)) (xs (i + 2)) = some (v, X1) := e2
      rw [if_pos c4, S1, Option.bind_some, S2, Option.bind_some, xob_w hW sh_0, Option.bind_some, e1, Option.bind_some, Option.bind_some, Option.bind_some, xob_w hW1 sh_44, Option.bind_some, e2, Option.bind_some, if_pos rfl]
      exact nx X1 hX1 hc
    rw [if_neg c4]
    by_cases c5 : (xs i &&& (63 : Int32)) = 5
    · obtain ⟨v, M1, X1, e1, e2, hW1, hX1, hc⟩ := CALL.one (K_word (a0 := xs (i + 1))) hM
      have e1 : fX_word M (0, 0, 0) (xs (i + 1)) = some (v, M1) := e1
      have e2 : fM_word M1 (44, 0, 0) (xs (i + 1)) = some (v, X1) := e2
      rw [if_pos c5, S1, Option.bind_some, xob_w hW sh_0, Option.bind_some, e1, Option.bind_some, Option.bind_some, xob_w hW1 sh_44, Option.bind_some, e2, Option.bind_some, if_pos lg_self]
      exact nx X1 hX1 hc
    rw [if_neg c5]
    by_cases c6 : (xs i &&& (63 : Int32)) = 6
    · obtain ⟨v, M1, X1, e1, e2, hW1, hX1, hc⟩ := CALL.one (K_hold (a0 := xs (i + 1))) hM
      have e1 : fX_hold M (0, 0, 0) (xs (i + 1)) = some (v, M1) := e1
      have e2 : fM_hold M1 (44, 0, 0) (xs (i + 1)) = some (v, X1) := e2
      rw [if_pos c6, S1, Option.bind_some, xob_w hW sh_0, Option.bind_some, e1, Option.bind_some, Option.bind_some, xob_w hW1 sh_44, Option.bind_some, e2, Option.bind_some, if_pos rfl]
      exact nx X1 hX1 hc
    rw [if_neg c6]
    by_cases c7 : (xs i &&& (63 : Int32)) = 7
    · obtain ⟨v, M1, X1, e1, e2, hW1, hX1, hc⟩ := CALL.one (K_letGo (a0 := xs (i + 1))) hM
      have e1 : fX_letGo M (0, 0, 0) (xs (i + 1)) = some (v, M1) := e1
      have e2 : fM_letGo M1 (44, 0, 0) (xs (i + 1)) = some (v, X1) := e2
      rw [if_pos c7, S1, Option.bind_some, xob_w hW sh_0, Option.bind_some, e1, Option.bind_some, Option.bind_some, xob_w hW1 sh_44, Option.bind_some, e2, Option.bind_some, if_pos rfl]
      exact nx X1 hX1 hc
    rw [if_neg c7]
    by_cases c8 : (xs i &&& (63 : Int32)) = 8
    · obtain ⟨v, M1, X1, e1, e2, hW1, hX1, hc⟩ := CALL.one (K_interval) hM
      have e1 : fX_interval M (0, 0, 0) = some (v, M1) := e1
      have e2 : fM_interval M1 (44, 0, 0) = some (v, X1) := e2
      rw [if_pos c8, xob_w hW sh_0, Option.bind_some, e1, Option.bind_some, xob_w hW1 sh_44, Option.bind_some, e2, Option.bind_some, if_pos rfl]
      exact nx X1 hX1 hc
    rw [if_neg c8]
    by_cases c9 : (xs i &&& (63 : Int32)) = 9
    · obtain ⟨v, M1, X1, e1, e2, hW1, hX1, hc⟩ := CALL.one (K_drain (a0 := xs (i + 1)) (a1 := xs (i + 2))) hM
      have e1 : fX_drain M (0, 0, 0) (xs (i + 1)) (xs (i + 2)) = some (v, M1) := e1
      have e2 : fM_drain M1 (44, 0, 0) (xs (i + 1)) (xs (i + 2)) = some (v, X1) := e2
      rw [if_pos c9, S1, Option.bind_some, S2, Option.bind_some, xob_w hW sh_0, Option.bind_some, e1, Option.bind_some, Option.bind_some, Option.bind_some, xob_w hW1 sh_44, Option.bind_some, e2, Option.bind_some, if_pos rfl]
      exact nx X1 hX1 hc
    rw [if_neg c9]
    by_cases c10 : (xs i &&& (63 : Int32)) = 10
    · obtain ⟨v, M1, X1, e1, e2, hW1, hX1, hc⟩ := CALL.one (K_reap (a0 := xs (i + 1))) hM
      have e1 : fX_reap M (0, 0, 0) (xs (i + 1)) = some (v, M1) := e1
      have e2 : fM_reap M1 (44, 0, 0) (xs (i + 1)) = some (v, X1) := e2
      rw [if_pos c10, S1, Option.bind_some, xob_w hW sh_0, Option.bind_some, e1, Option.bind_some, Option.bind_some, xob_w hW1 sh_44, Option.bind_some, e2, Option.bind_some, if_pos rfl]
      exact nx X1 hX1 hc
    rw [if_neg c10]
    by_cases c11 : (xs i &&& (63 : Int32)) = 11
    · obtain ⟨v, M1, X1, e1, e2, hW1, hX1, hc⟩ := CALL.one (K_state (a0 := xs (i + 1))) hM
      have e1 : fX_state M (0, 0, 0) (xs (i + 1)) = some (v, M1) := e1
      have e2 : fM_state M1 (44, 0, 0) (xs (i + 1)) = some (v, X1) := e2
      rw [if_pos c11, S1, Option.bind_some, xob_w hW sh_0, Option.bind_some, e1, Option.bind_some, Option.bind_some, xob_w hW1 sh_44, Option.bind_some, e2, Option.bind_some, if_pos rfl]
      exact nx X1 hX1 hc
    rw [if_neg c11]
    by_cases c12 : (xs i &&& (63 : Int32)) = 12
    · obtain ⟨v, M1, X1, e1, e2, hW1, hX1, hc⟩ := CALL.one (K_owner (a0 := xs (i + 1))) hM
      have e1 : fX_owner M (0, 0, 0) (xs (i + 1)) = some (v, M1) := e1
      have e2 : fM_owner M1 (44, 0, 0) (xs (i + 1)) = some (v, X1) := e2
      rw [if_pos c12, S1, Option.bind_some, xob_w hW sh_0, Option.bind_some, e1, Option.bind_some, Option.bind_some, xob_w hW1 sh_44, Option.bind_some, e2, Option.bind_some, if_pos rfl]
      exact nx X1 hX1 hc
    rw [if_neg c12]
    by_cases c13 : (xs i &&& (63 : Int32)) = 13
    · obtain ⟨v, M1, X1, e1, e2, hW1, hX1, hc⟩ := CALL.one (K_bytes (a0 := xs (i + 1))) hM
      have e1 : fX_bytes M (0, 0, 0) (xs (i + 1)) = some (v, M1) := e1
      have e2 : fM_bytes M1 (44, 0, 0) (xs (i + 1)) = some (v, X1) := e2
      rw [if_pos c13, S1, Option.bind_some, xob_w hW sh_0, Option.bind_some, e1, Option.bind_some, Option.bind_some, xob_w hW1 sh_44, Option.bind_some, e2, Option.bind_some, if_pos rfl]
      exact nx X1 hX1 hc
    rw [if_neg c13]
    by_cases c14 : (xs i &&& (63 : Int32)) = 14
    · obtain ⟨v, M1, X1, e1, e2, hW1, hX1, hc⟩ := CALL.one (K_page (a0 := xs (i + 1)) (a1 := xs (i + 2))) hM
      have e1 : fX_page M (0, 0, 0) (xs (i + 1)) (xs (i + 2)) = some (v, M1) := e1
      have e2 : fM_page M1 (44, 0, 0) (xs (i + 1)) (xs (i + 2)) = some (v, X1) := e2
      rw [if_pos c14, S1, Option.bind_some, S2, Option.bind_some, xob_w hW sh_0, Option.bind_some, e1, Option.bind_some, Option.bind_some, Option.bind_some, xob_w hW1 sh_44, Option.bind_some, e2, Option.bind_some, if_pos rfl]
      exact nx X1 hX1 hc
    rw [if_neg c14]
    by_cases c15 : (xs i &&& (63 : Int32)) = 15
    · obtain ⟨v, M1, X1, e1, e2, hW1, hX1, hc⟩ := CALL.one (K_map (a0 := xs (i + 1)) (a1 := xs (i + 2))) hM
      have e1 : fX_map M (0, 0, 0) (xs (i + 1)) (xs (i + 2)) = some (v, M1) := e1
      have e2 : fM_map M1 (44, 0, 0) (xs (i + 1)) (xs (i + 2)) = some (v, X1) := e2
      rw [if_pos c15, S1, Option.bind_some, S2, Option.bind_some, xob_w hW sh_0, Option.bind_some, e1, Option.bind_some, Option.bind_some, Option.bind_some, xob_w hW1 sh_44, Option.bind_some, e2, Option.bind_some, if_pos lg_self]
      exact nx X1 hX1 hc
    rw [if_neg c15]
    by_cases c16 : (xs i &&& (63 : Int32)) = 16
    · obtain ⟨v, M1, X1, e1, e2, hW1, hX1, hc⟩ := CALL.one (K_of (a0 := xs (i + 1)) (a1 := xs (i + 2))) hM
      have e1 : fX_of M (0, 0, 0) (xs (i + 1)) (xs (i + 2)) = some (v, M1) := e1
      have e2 : fM_of M1 (44, 0, 0) (xs (i + 1)) (xs (i + 2)) = some (v, X1) := e2
      rw [if_pos c16, S1, Option.bind_some, S2, Option.bind_some, xob_w hW sh_0, Option.bind_some, e1, Option.bind_some, Option.bind_some, Option.bind_some, xob_w hW1 sh_44, Option.bind_some, e2, Option.bind_some, if_pos rfl]
      exact nx X1 hX1 hc
    rw [if_neg c16]
    by_cases c17 : (xs i &&& (63 : Int32)) = 17
    · obtain ⟨v, M1, X1, e1, e2, hW1, hX1, hc⟩ := CALL.one (K_tally (a0 := xs (i + 1))) hM
      have e1 : fX_tally M (0, 0, 0) (xs (i + 1)) = some (v, M1) := e1
      have e2 : fM_tally M1 (44, 0, 0) (xs (i + 1)) = some (v, X1) := e2
      rw [if_pos c17, S1, Option.bind_some, xob_w hW sh_0, Option.bind_some, e1, Option.bind_some, Option.bind_some, xob_w hW1 sh_44, Option.bind_some, e2, Option.bind_some, if_pos lg_self]
      exact nx X1 hX1 hc
    rw [if_neg c17]
    by_cases c18 : (xs i &&& (63 : Int32)) = 18
    · obtain ⟨v, M1, X1, e1, e2, hW1, hX1, hc⟩ := CALL.one (K_magazine (a0 := xs (i + 1)) (a1 := xs (i + 2)) (a2 := xs (i + 3))) hM
      have e1 : fX_magazine M (0, 0, 0) (xs (i + 1)) (xs (i + 2)) (xs (i + 3)) = some (v, M1) := e1
      have e2 : fM_magazine M1 (44, 0, 0) (xs (i + 1)) (xs (i + 2)) (xs (i + 3)) = some (v, X1) := e2
      rw [if_pos c18, S1, Option.bind_some, S2, Option.bind_some, S3, Option.bind_some, xob_w hW sh_0, Option.bind_some, e1, Option.bind_some, Option.bind_some, Option.bind_some, Option.bind_some, xob_w hW1 sh_44, Option.bind_some, e2, Option.bind_some, if_pos rfl]
      exact nx X1 hX1 hc
    rw [if_neg c18]
    by_cases c19 : (xs i &&& (63 : Int32)) = 19
    · obtain ⟨v, M1, X1, e1, e2, hW1, hX1, hc⟩ := CALL.one (K_lines (a0 := xs (i + 1)) (a1 := xs (i + 2))) hM
      have e1 : fX_lines M (0, 0, 0) (xs (i + 1)) (xs (i + 2)) = some (v, M1) := e1
      have e2 : fM_lines M1 (44, 0, 0) (xs (i + 1)) (xs (i + 2)) = some (v, X1) := e2
      rw [if_pos c19, S1, Option.bind_some, S2, Option.bind_some, xob_w hW sh_0, Option.bind_some, e1, Option.bind_some, Option.bind_some, Option.bind_some, xob_w hW1 sh_44, Option.bind_some, e2, Option.bind_some, if_pos rfl]
      exact nx X1 hX1 hc
    rw [if_neg c19]
    by_cases c20 : (xs i &&& (63 : Int32)) = 20
    · obtain ⟨v, M1, X1, e1, e2, hW1, hX1, hc⟩ := CALL.one (K_ahead (a0 := xs (i + 1)) (a1 := xs (i + 2)) (a2 := xs (i + 3)) (a3 := xs (i + 4))) hM
      have e1 : fX_ahead M (0, 0, 0) (xs (i + 1)) (xs (i + 2)) (xs (i + 3)) (xs (i + 4)) = some (v, M1) := e1
      have e2 : fM_ahead M1 (44, 0, 0) (xs (i + 1)) (xs (i + 2)) (xs (i + 3)) (xs (i + 4)) = some (v, X1) := e2
      rw [if_pos c20, S1, Option.bind_some, S2, Option.bind_some, S3, Option.bind_some, S4, Option.bind_some, xob_w hW sh_0, Option.bind_some, e1, Option.bind_some, Option.bind_some, Option.bind_some, Option.bind_some, Option.bind_some, xob_w hW1 sh_44, Option.bind_some, e2, Option.bind_some, if_pos rfl]
      exact nx X1 hX1 hc
    rw [if_neg c20]
    by_cases c21 : (xs i &&& (63 : Int32)) = 21
    · obtain ⟨v, M1, X1, e1, e2, hW1, hX1, hc⟩ := CALL.one (K_trip (a0 := xs (i + 1)) (a1 := xs (i + 2)) (a2 := xs (i + 3)) (a3 := xs (i + 4))) hM
      have e1 : fX_trip M (0, 0, 0) (xs (i + 1)) (xs (i + 2)) (xs (i + 3)) (xs (i + 4)) = some (v, M1) := e1
      have e2 : fM_trip M1 (44, 0, 0) (xs (i + 1)) (xs (i + 2)) (xs (i + 3)) (xs (i + 4)) = some (v, X1) := e2
      rw [if_pos c21, S1, Option.bind_some, S2, Option.bind_some, S3, Option.bind_some, S4, Option.bind_some, xob_w hW sh_0, Option.bind_some, e1, Option.bind_some, Option.bind_some, Option.bind_some, Option.bind_some, Option.bind_some, xob_w hW1 sh_44, Option.bind_some, e2, Option.bind_some, if_pos rfl]
      exact nx X1 hX1 hc
    rw [if_neg c21]
    by_cases c22 : (xs i &&& (63 : Int32)) = 22
    · obtain ⟨v, M1, X1, e1, e2, hW1, hX1, hc⟩ := CALL.one (K_drawn (a0 := xs (i + 1)) (a1 := xs (i + 2)) (a2 := xs (i + 3))) hM
      have e1 : fX_drawn M (0, 0, 0) (xs (i + 1)) (xs (i + 2)) (xs (i + 3)) = some (v, M1) := e1
      have e2 : fM_drawn M1 (44, 0, 0) (xs (i + 1)) (xs (i + 2)) (xs (i + 3)) = some (v, X1) := e2
      rw [if_pos c22, S1, Option.bind_some, S2, Option.bind_some, S3, Option.bind_some, xob_w hW sh_0, Option.bind_some, e1, Option.bind_some, Option.bind_some, Option.bind_some, Option.bind_some, xob_w hW1 sh_44, Option.bind_some, e2, Option.bind_some, if_pos rfl]
      exact nx X1 hX1 hc
    rw [if_neg c22]
    by_cases c23 : (xs i &&& (63 : Int32)) = 23
    · obtain ⟨v, M1, X1, e1, e2, hW1, hX1, hc⟩ := CALL.one (K_feed (a0 := xs (i + 1))) hM
      have e1 : fX_feed M (0, 0, 0) (xs (i + 1)) = some (v, M1) := e1
      have e2 : fM_feed M1 (44, 0, 0) (xs (i + 1)) = some (v, X1) := e2
      rw [if_pos c23, S1, Option.bind_some, xob_w hW sh_0, Option.bind_some, e1, Option.bind_some, Option.bind_some, xob_w hW1 sh_44, Option.bind_some, e2, Option.bind_some, if_pos rfl]
      exact nx X1 hX1 hc
    rw [if_neg c23]
    by_cases c24 : (xs i &&& (63 : Int32)) = 24
    · obtain ⟨v, M1, X1, e1, e2, hW1, hX1, hc⟩ := CALL.one (K_trace) hM
      have e1 : fX_trace M (0, 0, 0) = some (v, M1) := e1
      have e2 : fM_trace M1 (44, 0, 0) = some (v, X1) := e2
      rw [if_pos c24, xob_w hW sh_0, Option.bind_some, e1, Option.bind_some, xob_w hW1 sh_44, Option.bind_some, e2, Option.bind_some, if_pos rfl]
      exact nx X1 hX1 hc
    rw [if_neg c24]
    by_cases c25 : (xs i &&& (63 : Int32)) = 25
    · obtain ⟨v, M1, X1, e1, e2, hW1, hX1, hc⟩ := CALL.one (K_run) hM
      have e1 : fX_run M (0, 0, 0) = some (v, M1) := e1
      have e2 : fM_run M1 (44, 0, 0) = some (v, X1) := e2
      rw [if_pos c25, xob_w hW sh_0, Option.bind_some, e1, Option.bind_some, xob_w hW1 sh_44, Option.bind_some, e2, Option.bind_some, if_pos rfl]
      exact nx X1 hX1 hc
    rw [if_neg c25]
    by_cases c26 : (xs i &&& (63 : Int32)) = 26
    · obtain ⟨v, M1, X1, e1, e2, hW1, hX1, hc⟩ := CALL.one (K_why) hM
      have e1 : fX_why M (0, 0, 0) = some (v, M1) := e1
      have e2 : fM_why M1 (44, 0, 0) = some (v, X1) := e2
      rw [if_pos c26, xob_w hW sh_0, Option.bind_some, e1, Option.bind_some, xob_w hW1 sh_44, Option.bind_some, e2, Option.bind_some, if_pos rfl]
      exact nx X1 hX1 hc
    rw [if_neg c26]
    by_cases c27 : (xs i &&& (63 : Int32)) = 27
    · obtain ⟨v, M1, X1, e1, e2, hW1, hX1, hc⟩ := CALL.one (K_dry (a0 := xs (i + 1))) hM
      have e1 : fX_dry M (0, 0, 0) (xs (i + 1)) = some (v, M1) := e1
      have e2 : fM_dry M1 (44, 0, 0) (xs (i + 1)) = some (v, X1) := e2
      rw [if_pos c27, S1, Option.bind_some, xob_w hW sh_0, Option.bind_some, e1, Option.bind_some, Option.bind_some, xob_w hW1 sh_44, Option.bind_some, e2, Option.bind_some, if_pos rfl]
      exact nx X1 hX1 hc
    rw [if_neg c27]
    by_cases c28 : (xs i &&& (63 : Int32)) = 28
    · obtain ⟨v, M1, X1, e1, e2, hW1, hX1, hc⟩ := CALL.one (K_tuned (a0 := xs (i + 1))) hM
      have e1 : fX_tuned M (0, 0, 0) (xs (i + 1)) = some (v, M1) := e1
      have e2 : fM_tuned M1 (44, 0, 0) (xs (i + 1)) = some (v, X1) := e2
      rw [if_pos c28, S1, Option.bind_some, xob_w hW sh_0, Option.bind_some, e1, Option.bind_some, Option.bind_some, xob_w hW1 sh_44, Option.bind_some, e2, Option.bind_some, if_pos rfl]
      exact nx X1 hX1 hc
    rw [if_neg c28]
    by_cases c29 : (xs i &&& (63 : Int32)) = 29
    · obtain ⟨v, M1, X1, e1, e2, hW1, hX1, hc⟩ := CALL.one (K_names (a0 := xs (i + 1))) hM
      have e1 : fX_names M (0, 0, 0) (xs (i + 1)) = some (v, M1) := e1
      have e2 : fM_names M1 (44, 0, 0) (xs (i + 1)) = some (v, X1) := e2
      rw [if_pos c29, S1, Option.bind_some, xob_w hW sh_0, Option.bind_some, e1, Option.bind_some, Option.bind_some, xob_w hW1 sh_44, Option.bind_some, e2, Option.bind_some, if_pos rfl]
      exact nx X1 hX1 hc
    rw [if_neg c29]
    by_cases c30 : (xs i &&& (63 : Int32)) = 30
    · obtain ⟨v, M1, X1, e1, e2, hW1, hX1, hc⟩ := CALL.one (K_image) hM
      have e1 : fX_image M (0, 0, 0) = some (v, M1) := e1
      have e2 : fM_image M1 (44, 0, 0) = some (v, X1) := e2
      rw [if_pos c30, xob_w hW sh_0, Option.bind_some, e1, Option.bind_some, xob_w hW1 sh_44, Option.bind_some, e2, Option.bind_some, if_pos rfl]
      exact nx X1 hX1 hc
    rw [if_neg c30]
    by_cases c31 : (xs i &&& (63 : Int32)) = 31
    · obtain ⟨v, M1, X1, e1, e2, hW1, hX1, hc⟩ := CALL.one (K_back) hM
      have e1 : fX_back M (0, 0, 0) = some (v, M1) := e1
      have e2 : fM_back M1 (44, 0, 0) = some (v, X1) := e2
      rw [if_pos c31, xob_w hW sh_0, Option.bind_some, e1, Option.bind_some, xob_w hW1 sh_44, Option.bind_some, e2, Option.bind_some, if_pos rfl]
      exact nx X1 hX1 hc
    rw [if_neg c31]
    by_cases c32 : (xs i &&& (63 : Int32)) = 32
    · obtain ⟨v, M1, X1, e1, e2, hW1, hX1, hc⟩ := CALL.one (K_bin (a0 := xs (i + 1)) (a1 := xs (i + 2))) hM
      have e1 : fX_bin M (0, 0, 0) (xs (i + 1)) (xs (i + 2)) = some (v, M1) := e1
      have e2 : fM_bin M1 (44, 0, 0) (xs (i + 1)) (xs (i + 2)) = some (v, X1) := e2
      rw [if_pos c32, S1, Option.bind_some, S2, Option.bind_some, xob_w hW sh_0, Option.bind_some, e1, Option.bind_some, Option.bind_some, Option.bind_some, xob_w hW1 sh_44, Option.bind_some, e2, Option.bind_some, if_pos rfl]
      exact nx X1 hX1 hc
    rw [if_neg c32]
    by_cases c33 : (xs i &&& (63 : Int32)) = 33
    · obtain ⟨v, M1, X1, e1, e2, hW1, hX1, hc⟩ := CALL.one (K_lay (a0 := xs (i + 1)) (a1 := xs (i + 2)) (a2 := xs (i + 3))) hM
      have e1 : fX_lay M (0, 0, 0) (xs (i + 1)) (xs (i + 2)) (xs (i + 3)) = some (v, M1) := e1
      have e2 : fM_lay M1 (44, 0, 0) (xs (i + 1)) (xs (i + 2)) (xs (i + 3)) = some (v, X1) := e2
      rw [if_pos c33, S1, Option.bind_some, S2, Option.bind_some, S3, Option.bind_some, xob_w hW sh_0, Option.bind_some, e1, Option.bind_some, Option.bind_some, Option.bind_some, Option.bind_some, xob_w hW1 sh_44, Option.bind_some, e2, Option.bind_some, if_pos rfl]
      exact nx X1 hX1 hc
    rw [if_neg c33]
    by_cases c34 : (xs i &&& (63 : Int32)) = 34
    · obtain ⟨v, M1, X1, e1, e2, hW1, hX1, hc⟩ := CALL.one (K_at (a0 := xs (i + 1)) (a1 := xs (i + 2))) hM
      have e1 : fX_at M (0, 0, 0) (xs (i + 1)) (xs (i + 2)) = some (v, M1) := e1
      have e2 : fM_at M1 (44, 0, 0) (xs (i + 1)) (xs (i + 2)) = some (v, X1) := e2
      rw [if_pos c34, S1, Option.bind_some, S2, Option.bind_some, xob_w hW sh_0, Option.bind_some, e1, Option.bind_some, Option.bind_some, Option.bind_some, xob_w hW1 sh_44, Option.bind_some, e2, Option.bind_some, if_pos rfl]
      exact nx X1 hX1 hc
    rw [if_neg c34]
    by_cases c35 : (xs i &&& (63 : Int32)) = 35
    · obtain ⟨v, M1, X1, e1, e2, hW1, hX1, hc⟩ := CALL.one (K_pour (a0 := xs (i + 1)) (a1 := xs (i + 2)) (a2 := xs (i + 3)) (a3 := xs (i + 4))) hM
      have e1 : fX_pour M (0, 0, 0) (xs (i + 1)) (xs (i + 2)) (xs (i + 3)) (xs (i + 4)) = some (v, M1) := e1
      have e2 : fM_pour M1 (44, 0, 0) (xs (i + 1)) (xs (i + 2)) (xs (i + 3)) (xs (i + 4)) = some (v, X1) := e2
      rw [if_pos c35, S1, Option.bind_some, S2, Option.bind_some, S3, Option.bind_some, S4, Option.bind_some, xob_w hW sh_0, Option.bind_some, e1, Option.bind_some, Option.bind_some, Option.bind_some, Option.bind_some, Option.bind_some, xob_w hW1 sh_44, Option.bind_some, e2, Option.bind_some, if_pos rfl]
      exact nx X1 hX1 hc
    rw [if_neg c35]
    by_cases c36 : (xs i &&& (63 : Int32)) = 36
    · obtain ⟨v, M1, X1, e1, e2, hW1, hX1, hc⟩ := CALL.one (K_shift (a0 := xs (i + 1)) (a1 := xs (i + 2)) (a2 := xs (i + 3)) (a3 := xs (i + 4)) (a4 := xs (i + 5))) hM
      have e1 : fX_shift M (0, 0, 0) (xs (i + 1)) (xs (i + 2)) (xs (i + 3)) (xs (i + 4)) (xs (i + 5)) = some (v, M1) := e1
      have e2 : fM_shift M1 (44, 0, 0) (xs (i + 1)) (xs (i + 2)) (xs (i + 3)) (xs (i + 4)) (xs (i + 5)) = some (v, X1) := e2
      rw [if_pos c36, S1, Option.bind_some, S2, Option.bind_some, S3, Option.bind_some, S4, Option.bind_some, S5, Option.bind_some, xob_w hW sh_0, Option.bind_some, e1, Option.bind_some, Option.bind_some, Option.bind_some, Option.bind_some, Option.bind_some, Option.bind_some, xob_w hW1 sh_44, Option.bind_some, e2, Option.bind_some, if_pos rfl]
      exact nx X1 hX1 hc
    rw [if_neg c36]
    by_cases c37 : (xs i &&& (63 : Int32)) = 37
    · obtain ⟨v, M1, X1, e1, e2, hW1, hX1, hc⟩ := CALL.one (K_count (a0 := xs (i + 1))) hM
      have e1 : fX_count M (0, 0, 0) (xs (i + 1)) = some (v, M1) := e1
      have e2 : fM_count M1 (44, 0, 0) (xs (i + 1)) = some (v, X1) := e2
      rw [if_pos c37, S1, Option.bind_some, xob_w hW sh_0, Option.bind_some, e1, Option.bind_some, Option.bind_some, xob_w hW1 sh_44, Option.bind_some, e2, Option.bind_some, if_pos rfl]
      exact nx X1 hX1 hc
    rw [if_neg c37]
    exact nx M hM rfl
