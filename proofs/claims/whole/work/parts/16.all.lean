theorem xcall_inv {run : Nat → Nat → List xVal → xMem → Option (Option xVal × xMem)} {go : List xVal → xMem → Option (Option xVal × xMem)} {d : Nat} {en : xE} {st : List xVal} {M : xMem} {r : Option xVal} {M' : xMem} (h : xcall run go d en st M = some (r, M')) :
    ∃ vs rest d' r1 M1, xprep en st M = some (vs, rest) ∧ d = d' + 1 ∧ (xinit (xL en.2.2.1) vs).length = xL en.2.2.1 ∧ run d' en.2.2.1 vs M = some (r1, M1) ∧ go (xtl r1 rest) M1 = some (r, M') := by
  unfold xcall at h
  obtain ⟨q, hq, h⟩ := Option.bind_eq_some_iff.mp h
  split at h
  next => cases h
  next d' h =>
    split at h
    next hl =>
      obtain ⟨z, h3, h4⟩ := Option.bind_eq_some_iff.mp h
      exact ⟨q.1, q.2, d', z.1, z.2, hq, rfl, hl, h3, h4⟩
    next => cases h
theorem xAr_lt : ∀ j, j < 272 → xAr j < 100 := by decide +kernel
theorem xini_void : ∀ j, j < 272 → (xY j).name = "<init>" → xR j = none := by decide +kernel
theorem xokC_of {own : String} {idx : Nat} {en : xE} (h : xokC own idx en = true) (hj : en.2.2.1 < 272) : en.2.2.2.1 % 100 = xAr en.2.2.1 ∧ ((100 ≤ en.2.2.2.1 ∧ Cond.methodLinkNest own idx (xY en.2.2.1) xnest ∈ xNEST) ∨ (en.2.2.2.1 < 100 ∧ Cond.methodLink own idx (xY en.2.2.1) ∈ xALL)) := by
  have h9 := xAr_lt _ hj
  unfold xokC at h
  split at h
  next h1 =>
    simp only [Bool.and_eq_true, decide_eq_true_eq] at h
    exact ⟨by omega, Or.inl ⟨h1, xhn_in h.1⟩⟩
  next h1 =>
    simp only [Bool.and_eq_true, decide_eq_true_eq] at h
    exact ⟨by omega, Or.inr ⟨by omega, xhw_in h.1⟩⟩
theorem xcats {E : Nat × Nat} {st : List xVal} (h : (st.map xcat).sum ≤ 8) : ((st.map (xcv E)).map fun v => v.category).sum ≤ 8 := by
  rw [List.map_map]
  have e9 : ((fun v : Value => v.category) ∘ xcv E) = xcat := funext fun v => xcv_cat E v
  rw [e9]
  exact h
theorem xsound (l : Launch) : ∀ n, xSND l n := by
  intro n
  induction n with
  | zero => intro d top i pc ls st M r M' h; cases h
  | succ n ih =>
    intro d top i pc ls st M r M' h hi p e R s m args below meth c Q D ac E n0 z0 C hT hAO hlen hdF hdL hn0 hz0 hcl hsl hret
    unfold xexec at h
    split at h
    next => cases h
    next en hen =>
      obtain ⟨hd, hln, hok⟩ := xent hi hen
      obtain ⟨hx, hb, hml, hown, hts, hK, hN, hini, hEs⟩ := id C
      have goret : ((xret i en.1 st).bind fun r => some (r, M)) = some (r, M') → xlen en.1 = 1 → xW p l e R s m args below meth c Q D ac E n0 z0 pc ls st M := by
        intro ho hl
        obtain ⟨x, h1, h2⟩ := Option.bind_eq_some_iff.mp ho
        cases h2
        intro H locs la hR hS hL
        have e1 : en.2.1 = 1 := by rcases hln with h9 | h9 <;> omega
        exact hret pc en.1 st H locs la (by rw [hd, e1]) h1 hR hS
      -- what follows a call
      have gonext : ∀ {st1 : List xVal} {M1 : xMem}, M.2.2.2.1 ≤ M1.2.2.2.1 → M.2.2.2.2 ≤ M1.2.2.2.2 → xexec n d top i (pc + 3) ls st1 M1 = some (r, M') → xW p l e R s m args below meth c Q D ac E n0 z0 (pc + 3) ls st1 M1 := fun h1 h2 h3 =>
        ih _ _ _ _ _ _ _ _ _ h3 hi p e R s m args below meth c Q D ac E n0 z0 C hT hAO hlen hdF hdL (Nat.le_trans hn0 h1) (Nat.le_trans hz0 h2) hcl hsl hret
      split at h
      next hins => exact goret h (by rw [hins]; rfl)
      next hins => exact goret h (by rw [hins]; rfl)
      next hins => exact goret h (by rw [hins]; rfl)
      next hins => exact goret h (by rw [hins]; rfl)
      next idx hins =>
        have hd3 : decode (xB i) pc = .ok (.invokestatic idx, 3) := by
          have e1 : en.2.1 = 3 := by rw [hins] at hln; exact hln.elim (fun h => h) (fun h => absurd (show (3 : Nat) = 0 from h) (by decide))
          rw [hd, hins, e1]
        unfold xokL at hok
        rw [hins] at hok
        dsimp only at hok
        split at h
        next h98 =>
          rw [if_pos h98] at hok
          split at h
          next k dp q sp a rr =>
            split at h
            next hc8 =>
              obtain ⟨M1, h1, h2⟩ := Option.bind_eq_some_iff.mp h
              have e9 := xcopy_n h1
              obtain ⟨w1, w2, w3⟩ := xcp_of hts
              exact xw_copy C hd3 hlen (hts _ (xhw_in hok)) w1 w2 w3 h1 (by omega) (by omega) hc8.1 (gonext (by rw [e9]; exact Nat.le_refl _) (by rw [e9]; exact Nat.le_refl _) h2)
            next => cases h
          next => cases h
        next h98 =>
         rw [if_neg h98] at hok
         split at h
         next h96 =>
          rw [if_pos h96] at hok
          split at h
          next y x rr =>
            split at h
            next hc8 =>
              obtain ⟨w1, -, w3⟩ := xmm_of hts
              have kk := gonext (Nat.le_refl _) (Nat.le_refl _) h
              intro H locs la hR hS hL
              have h8 := xcats (E := E) hc8.1
              have hle2 := xexec_le _ _ _ _ _ _ _ _ _ _ h
              exact va_mmin hx hb (by rw [hml, ← hlen]; exact hL.1.symm) hown (hts _ (xhw_in hok)) w1.1 w3 w1.2 (by omega) (by omega) (by omega) (by omega) hd3 (kk H locs la hR hS hL)
            next => cases h
          next => cases h
         next h96 =>
         rw [if_neg h96] at hok
         split at h
         next h97 =>
          rw [if_pos h97] at hok
          split at h
          next y x rr =>
            split at h
            next hc8 =>
              obtain ⟨-, w2, w3⟩ := xmm_of hts
              have kk := gonext (Nat.le_refl _) (Nat.le_refl _) h
              intro H locs la hR hS hL
              have h8 := xcats (E := E) hc8.1
              have hle2 := xexec_le _ _ _ _ _ _ _ _ _ _ h
              exact va_mmax hx hb (by rw [hml, ← hlen]; exact hL.1.symm) hown (hts _ (xhw_in hok)) w2.1 w3 w2.2 (by omega) (by omega) (by omega) (by omega) hd3 (kk H locs la hR hS hL)
            next => cases h
          next => cases h
         next h97 =>
          rw [if_neg h97] at hok
          simp only [Bool.and_eq_true, decide_eq_true_eq] at hok
          obtain ⟨⟨⟨hj, hj1⟩, hst⟩, hokc⟩ := hok
          obtain ⟨vs, rest, d', r1, M1, hpr, rfl, hil, hrun, hgo⟩ := xcall_inv h
          obtain ⟨m1, m2, m3, m4, m5, m6, m7⟩ := xmeth hj hj1
          rw [if_pos hst] at m3
          obtain ⟨har, hlk⟩ := xokC_of hokc hj
          have hle := xexec_le _ _ _ _ _ _ _ _ _ _ hrun
          have hle2 := xexec_le _ _ _ _ _ _ _ _ _ _ hgo
          have hM := xmet_of ih hrun hj hj1 hil D ac E
          unfold xprep at hpr
          rw [hins] at hpr
          dsimp only at hpr
          rw [har] at hpr
          split at hpr
          next hc8 =>
            cases hpr
            refine xw_goes (aa := ((st.take (xAr en.2.2.1)).reverse.map (xcv E)).toArray) hn0 hz0 hle (fun H locs la hR hS hL => ?_) (gonext hle.1 hle.2 hgo)
            have hp : PreS s H (xPc D ac E (st.take (xAr en.2.2.1)).reverse M) ((st.take (xAr en.2.2.1)).reverse.map (xcv E)) := ⟨xPc_blind, fun U hU hW => ⟨rfl, by rw [hU]; exact hR, va_K.moved hW.alike hK, xAO_moved hW.alike hAO, xNEST_moved hW hN⟩⟩
            have hn : ((st.take (xAr en.2.2.1)).reverse.map (xcv E)).length = xAr en.2.2.1 := by rw [List.length_map, List.length_reverse, List.length_take]; omega
            have hstk : (F0 m pc la (st.map (xcv E))).stack = ((st.take (xAr en.2.2.1)).reverse.map (xcv E)).reverse ++ (st.drop (xAr en.2.2.1)).map (xcv E) := by
              show st.map (xcv E) = _
              rw [List.map_reverse, List.reverse_reverse, ← List.map_append, List.take_append_drop]
            have har2 : ∀ sig, parseMethodDescriptor (xY en.2.2.1).desc = some sig → xAr en.2.2.1 = sig.parameters.length := fun sig hsg => by
              rw [hsg] at m6
              exact (Option.some.inj m6).symm
            rcases hlk with ⟨-, hlk⟩ | ⟨-, hlk⟩
            · exact va_runSN (S := ⟨hx, hb, hml, hown, hts⟩) hM ⟨⟨⟨rfl, rfl, by show d' + 1 ≤ _; omega, by show 8 + (xL en.2.2.1 + 11) + 37 * d' ≤ _; omega, pay_in hts (xgood hj hj1), List.mem_cons_self⟩, hts _ m1, hts _ m2, m5, har2, va_Nw.use rfl (hN _ hlk)⟩, hts _ m3, trivial⟩ hp rfl hn (by rw [hL.1, hlen]) hstk (lv_room (xcats hc8.2)) hd3 ⟨by omega, by omega⟩
            · exact va_runS (S := ⟨hx, hb, hml, hown, hts⟩) hM ⟨⟨rfl, rfl, by show d' + 1 ≤ _; omega, by show 8 + (xL en.2.2.1 + 11) + 37 * d' ≤ _; omega, pay_in hts (xgood hj hj1), List.mem_cons_self, hts _ m1, hts _ m2, m5, har2, hts _ hlk⟩, hts _ m3⟩ hp rfl hn (by rw [hL.1, hlen]) hstk (lv_room (xcats hc8.2)) hd3 ⟨by omega, by omega⟩
          next => cases hpr
      next idx hins =>
        have hd3 : decode (xB i) pc = .ok (.invokevirtual idx, 3) := by
          have e1 : en.2.1 = 3 := by rw [hins] at hln; exact hln.elim (fun h => h) (fun h => absurd (show (3 : Nat) = 0 from h) (by decide))
          rw [hd, hins, e1]
        unfold xokL at hok
        rw [hins] at hok
        dsimp only at hok
        simp only [Bool.and_eq_true, decide_eq_true_eq, Bool.not_eq_true', decide_eq_false_iff_not] at hok
        obtain ⟨⟨⟨⟨⟨hj, hj1⟩, hst⟩, hnm⟩, hokc⟩, hb100⟩ := hok
        obtain ⟨vs, rest, d', r1, M1, hpr, rfl, hil, hrun, hgo⟩ := xcall_inv h
        obtain ⟨m1, m2, m3, m4, m5, m6, m7⟩ := xmeth hj hj1
        rw [if_neg (by rw [hst]; decide)] at m3
        have m3b := m3.2.resolve_left hnm
        obtain ⟨har, hlk⟩ := xokC_of hokc hj
        have hlk2 : Cond.methodLink (xY i).cls idx (xY en.2.2.1) ∈ xALL := by
          rcases hlk with ⟨h1, -⟩ | ⟨-, h1⟩
          · omega
          · exact h1
        have hle := xexec_le _ _ _ _ _ _ _ _ _ _ hrun
        have hle2 := xexec_le _ _ _ _ _ _ _ _ _ _ hgo
        have hM := xmet_of ih hrun hj hj1 hil D ac E
        unfold xprep at hpr
        rw [hins] at hpr
        dsimp only at hpr
        rw [har] at hpr
        split at hpr
        next hc8 =>
          split at hpr
          next a ha =>
            split at hpr
            next q hq =>
              split at hpr
              next hcq =>
                cases hpr
                obtain ⟨sp1, sp2⟩ := xsplit ha
                rw [sp1] at hM hrun
                refine xw_goes (aa := (Value.ref (xad E a) :: (st.take (xAr en.2.2.1)).reverse.map (xcv E)).toArray) hn0 hz0 hle (fun H locs la hR hS hL => ?_) (gonext hle.1 hle.2 hgo)
                obtain ⟨rq, hrq, hrc⟩ : ∃ rq : vw_C, xcl[q.1]? = some rq ∧ rq.1 = (xY en.2.2.1).cls := by
                  have h9 := hcq.1
                  cases hz : xcl[q.1]? with
                  | none => rw [hz] at h9; cases h9
                  | some rq => rw [hz] at h9; exact ⟨rq, rfl, Option.some.inj h9⟩
                have hq9 : q.1 < 9 := (List.getElem?_eq_some_iff.mp hrq).1
                obtain ⟨cellB, b1, b2, b3, -⟩ := xRep_obj hR (t := q.1) (N := q.2) hq hcq.2 (by omega)
                have hp : PreV s H (xY en.2.2.1).cls (xad E a) (xPc D ac E (.inr (.inr (some a)) :: (st.take (xAr en.2.2.1)).reverse) M) ((st.take (xAr en.2.2.1)).reverse.map (xcv E)) :=
                  ⟨xPc_blind, ⟨cellB, by rw [xad_sh hq]; exact b1, by rw [b3]; rfl, by rw [b2, ← hrc]; exact (hK.1 q.1 rq hrq).2.1⟩, fun U hU hW => ⟨rfl, by rw [hU]; exact hR, va_K.moved hW.alike hK, xAO_moved hW.alike hAO, xNEST_moved hW hN⟩⟩
                have hn : ((st.take (xAr en.2.2.1)).reverse.map (xcv E)).length = xAr en.2.2.1 := by rw [List.length_map, List.length_reverse, List.length_take]; omega
                have hstk : (F0 m pc la (st.map (xcv E))).stack = ((st.take (xAr en.2.2.1)).reverse.map (xcv E)).reverse ++ .ref (xad E a) :: (st.drop (xAr en.2.2.1 + 1)).map (xcv E) := by
                  show st.map (xcv E) = _
                  rw [List.map_reverse, List.reverse_reverse]
                  have e9 : st.map (xcv E) = (st.take (xAr en.2.2.1) ++ .inr (.inr (some a)) :: st.drop (xAr en.2.2.1 + 1)).map (xcv E) := by rw [← sp2]
                  rw [e9, List.map_append]
                  rfl
                have har2 : ∀ sig, parseMethodDescriptor (xY en.2.2.1).desc = some sig → xAr en.2.2.1 = sig.parameters.length := fun sig hsg => by
                  rw [hsg] at m6
                  exact (Option.some.inj m6).symm
                exact va_runV (S := ⟨hx, hb, hml, hown, hts⟩) hM ⟨⟨rfl, rfl, by show d' + 1 ≤ _; omega, by show 8 + (xL en.2.2.1 + 11) + 37 * d' ≤ _; omega, pay_in hts (xgood hj hj1), List.mem_cons_self, hts _ m1, hts _ m2, m5, har2, hts _ hlk2⟩, hts _ m3.1, hts _ m3b⟩ hp rfl hn (by rw [hL.1, hlen]) hstk (lv_room (xcats hc8.2)) hd3 ⟨by omega, by omega⟩
              next => cases hpr
            next => cases hpr
          next => cases hpr
        next => cases hpr
      next idx hins =>
        have hd3 : decode (xB i) pc = .ok (.invokespecial idx, 3) := by
          have e1 : en.2.1 = 3 := by rw [hins] at hln; exact hln.elim (fun h => h) (fun h => absurd (show (3 : Nat) = 0 from h) (by decide))
          rw [hd, hins, e1]
        unfold xokL at hok
        rw [hins] at hok
        dsimp only at hok
        split at h
        next h99 =>
          rw [if_pos h99] at hok
          split at h
          next a rr =>
            split at h
            next hc8 =>
              obtain ⟨w1, w2⟩ := xob_of hts
              have kk := gonext (Nat.le_refl _) (Nat.le_refl _) h
              intro H locs la hR hS hL
              refine W.objInit hx hb hown (hts _ (xhw_in hok)) w1 w2 rfl (by show la.size = _; rw [hL.1, hlen, hml]) rfl hd3 (by omega) ?_ (kk H locs la hR hS hL)
              have h8 := xcats (E := E) hc8.1
              show 2 * 0 + _ + 12 ≤ _
              omega
            next => cases h
          next => cases h
        next h99 =>
          rw [if_neg h99] at hok
          simp only [Bool.and_eq_true, decide_eq_true_eq, Bool.not_eq_true'] at hok
          obtain ⟨⟨⟨⟨hj, hj1⟩, hst⟩, hnm⟩, hokc⟩ := hok
          obtain ⟨vs, rest, d', r1, M1, hpr, rfl, hil, hrun, hgo⟩ := xcall_inv h
          unfold xprep at hpr
          rw [hins] at hpr
          dsimp only at hpr
          obtain ⟨har, hlk⟩ := xokC_of hokc hj
          rw [har] at hpr
          split at hpr
          next hc8 =>
            obtain ⟨m1, m2, m3, m4, m5, m6, m7⟩ := xmeth hj hj1
            rw [if_neg (by rw [hst]; decide)] at m3
            have hle := xexec_le _ _ _ _ _ _ _ _ _ _ hrun
            have hle2 := xexec_le _ _ _ _ _ _ _ _ _ _ hgo
            have hM := xmet_of ih hrun hj hj1 hil D ac E
            have hR0 := xini_void _ hj hnm
            split at hpr
            next a ha =>
              split at hpr
              next hsa =>
                cases hpr
                obtain ⟨sp1, sp2⟩ := xsplit ha
                rw [sp1] at hM hrun
                refine xw_goes (aa := (Value.ref (xad E a) :: (st.take (xAr en.2.2.1)).reverse.map (xcv E)).toArray) hn0 hz0 hle (fun H locs la hR hS hL => ?_) (gonext hle.1 hle.2 hgo)
                have hp : PreS s H (xPc D ac E (.inr (.inr (some a)) :: (st.take (xAr en.2.2.1)).reverse) M) (.ref (xad E a) :: (st.take (xAr en.2.2.1)).reverse.map (xcv E)) :=
                  ⟨xPc_blind, fun U hU hW => ⟨rfl, by rw [hU]; exact hR, va_K.moved hW.alike hK, xAO_moved hW.alike hAO, xNEST_moved hW hN⟩⟩
                have hn : ((st.take (xAr en.2.2.1)).reverse.map (xcv E)).length = xAr en.2.2.1 := by rw [List.length_map, List.length_reverse, List.length_take]; omega
                have hstk : (F0 m pc la (st.map (xcv E))).stack = ((st.take (xAr en.2.2.1)).reverse.map (xcv E)).reverse ++ .ref (xad E a) :: (st.drop (xAr en.2.2.1 + 1)).map (xcv E) := by
                  show st.map (xcv E) = _
                  rw [List.map_reverse, List.reverse_reverse]
                  have e9 : st.map (xcv E) = (st.take (xAr en.2.2.1) ++ .inr (.inr (some a)) :: st.drop (xAr en.2.2.1 + 1)).map (xcv E) := by rw [← sp2]
                  rw [e9, List.map_append]
                  rfl
                have har2 : ∀ sig, parseMethodDescriptor (xY en.2.2.1).desc = some sig → xAr en.2.2.1 = sig.parameters.length := fun sig hsg => by
                  rw [hsg] at m6
                  exact (Option.some.inj m6).symm
                rcases hlk with ⟨-, hlk⟩ | ⟨-, hlk⟩
                · exact va_runIN (S := ⟨hx, hb, hml, hown, hts⟩) hM ⟨⟨⟨rfl, rfl, by show d' + 1 ≤ _; omega, by show 8 + (xL en.2.2.1 + 11) + 37 * d' ≤ _; omega, pay_in hts (xgood hj hj1), by rw [← hR0]; exact List.mem_cons_self⟩, by rw [← hR0]; exact hts _ m1, hts _ m2, m5, har2, va_Nw.use rfl (hN _ hlk)⟩, hnm, hts _ m3.1⟩ hp rfl hn (by rw [hL.1, hlen]) hstk (lv_room (xcats hc8.2)) hd3 ⟨by omega, by omega⟩
                · exact va_runI (S := ⟨hx, hb, hml, hown, hts⟩) hM ⟨⟨rfl, rfl, by show d' + 1 ≤ _; omega, by show 8 + (xL en.2.2.1 + 11) + 37 * d' ≤ _; omega, pay_in hts (xgood hj hj1), by rw [← hR0]; exact List.mem_cons_self, by rw [← hR0]; exact hts _ m1, hts _ m2, m5, har2, hts _ hlk⟩, hnm, hts _ m3.1⟩ hp rfl hn (by rw [hL.1, hlen]) hstk (lv_room (xcats hc8.2)) hd3 ⟨by omega, by omega⟩
              next => cases hpr
            next => cases hpr
          next => cases hpr
      next =>
        obtain ⟨q, h1, h2⟩ := Option.bind_eq_some_iff.mp h
        obtain ⟨pc', ls', st', M1⟩ := q
        have hle := xstep_le h1
        have hle2 := xexec_le _ _ _ _ _ _ _ _ _ _ h2
        dsimp only at hle h2 hle2
        exact xstep_ok C hT (xWd_of hts hAO) hd hln hok hlen h1 hn0 hz0 (by omega) (by omega) (fun a1 a2 a3 => ih _ _ _ _ _ _ _ _ _ h2 hi p e R s m args below meth c Q D ac E n0 z0 C hT hAO a1 hdF hdL a2 a3 hcl hsl hret)
