/-! every step -/
theorem xsh_big {a : xId} {q : Nat × Nat} (h : xsh a = some q) : q.2 ≤ 10000 := by
  have key : ∀ k, k < 82 → (xkT k).2.1 ≤ 10000 := by decide +kernel
  obtain ⟨k, b, i⟩ := a
  by_cases hk : k < 82
  · unfold xsh at h
    split at h
    next => cases h; exact key k hk
    next => cases h
  · exfalso
    have h3 : xkT k = (99, 0, 0, 0) := by
      unfold xkT
      split <;> first | rfl | omega
    unfold xsh at h
    rw [h3] at h
    rw [if_neg (fun z => absurd z.1 (Nat.not_lt_zero _))] at h
    cases h
/-- words that no instruction's place tells -/
def xWd (args : Array Value) (s : State) : Prop := ((Cond.arrayOver (.object RX2)).before args s = true ∧ (Cond.arrayOver (.object RX5)).before args s = true) ∧ (Cond.arrayOver (.array .int)).before args s = true ∧ (Cond.arrayClass .int).before args s = true
theorem xst1_len {ls ls' : List (Option xVal)} {i : Nat} {v : xVal} (h : xst1 ls i v = some ls') : ls'.length = ls.length := by
  unfold xst1 at h
  split at h
  next => cases h; rw [List.length_set]
  next => cases h
theorem xst2_len {ls ls' : List (Option xVal)} {i : Nat} {v : xVal} (h : xst2 ls i v = some ls') : ls'.length = ls.length := by
  unfold xst2 at h
  split at h
  next => cases h; rw [List.length_set, List.length_set]
  next => cases h
theorem xpf_n {M M' : xMem} {r : Option xId} {c k : Nat} {v : xVal} (h : xpf M r c k v = some M') : M'.2.2.2 = M.2.2.2 := by
  unfold xpf at h
  split at h
  next => cases h
  next =>
    split at h
    next => cases h; rfl
    next => cases h; rfl
    next => cases h; rfl
    next =>
      split at h
      next => cases h; rfl
      next => cases h
    next => cases h
section XZ
variable {p : Program} {l : Launch} {e : Env} {R : Room} {s : State} {m : MethodId} {args : Array Value} {below : List Frame} {meth : Method} {c : Code} {Q : State → Prop} {D : va_G} {ac : Nat → ClassId} {E : Nat × Nat} {n0 z0 : Nat}
variable {own : String} {cc : ByteArray} {nL : Nat} {ini : Bool} {pc pc' : Nat} {ls ls' : List (Option xVal)} {st st' : List xVal} {M M' : xMem} {top : Option (Nat × (Nat → Int32))}
set_option maxHeartbeats 4000000 in
theorem xstep_ok (C : xCtx p s m args meth c D ac E own cc nL ini) (hT : xTop E s top) (hWd : xWd args s) {en : xE} (hd : decode cc pc = .ok (en.1, en.2.1)) (hln : en.2.1 = xlen en.1 ∨ xlen en.1 = 0) (hok : xokL own ini pc en = true) (hlen : ls.length = nL)
    (h : xstep top en pc ls st M = some (pc', ls', st', M')) (hn0 : n0 ≤ M.2.2.2.1) (hz0 : z0 ≤ M.2.2.2.2) (hc : M'.2.2.2.1 - n0 ≤ R.cells) (hs : M'.2.2.2.2 - z0 ≤ R.slots)
    (kk : ls'.length = nL → n0 ≤ M'.2.2.2.1 → z0 ≤ M'.2.2.2.2 → xW p l e R s m args below meth c Q D ac E n0 z0 pc' ls' st' M') : xW p l e R s m args below meth c Q D ac E n0 z0 pc ls st M := by
  obtain ⟨ins, len, a, b, pl⟩ := en
  dsimp only at hd hln
  have hx := C.1
  have hb := C.2.1
  cases ins
  case iconst n =>
    obtain rfl : len = 1 := hln.elim (fun h => h) (fun h => absurd (show (1 : Nat) = 0 from h) (by decide))
    dsimp only [xstep, xII, xLL] at h
    cases h
    exact fun H locs la hR hS hL => lv_iconst hx hb hd rfl (kk hlen hn0 hz0 H locs la hR hS hL)
  case bipush n =>
    obtain rfl : len = 2 := hln.elim (fun h => h) (fun h => absurd (show (2 : Nat) = 0 from h) (by decide))
    dsimp only [xstep, xII, xLL] at h
    cases h
    exact fun H locs la hR hS hL => lv_bipush hx hb hd rfl (kk hlen hn0 hz0 H locs la hR hS hL)
  case sipush n =>
    obtain rfl : len = 3 := hln.elim (fun h => h) (fun h => absurd (show (3 : Nat) = 0 from h) (by decide))
    dsimp only [xstep, xII, xLL] at h
    cases h
    exact fun H locs la hR hS hL => lv_sipush hx hb hd rfl (kk hlen hn0 hz0 H locs la hR hS hL)
  case lconst n =>
    obtain rfl : len = 1 := hln.elim (fun h => h) (fun h => absurd (show (1 : Nat) = 0 from h) (by decide))
    dsimp only [xstep, xII, xLL] at h
    cases h
    exact fun H locs la hR hS hL => lv_lconst hx hb hd rfl (kk hlen hn0 hz0 H locs la hR hS hL)
  case ldc n =>
    obtain rfl : len = 2 := hln.elim (fun h => h) (fun h => absurd (show (2 : Nat) = 0 from h) (by decide))
    dsimp only [xstep, xII, xLL] at h
    cases h
    exact fun H locs la hR hS hL => lv_ldc hx hb C.2.2.2.1 (C.2.2.2.2.1 _ (xhw_in hok)) hd (kk hlen hn0 hz0 H locs la hR hS hL)
  case ldc_w n =>
    obtain rfl : len = 3 := hln.elim (fun h => h) (fun h => absurd (show (3 : Nat) = 0 from h) (by decide))
    dsimp only [xstep, xII, xLL] at h
    cases h
    exact fun H locs la hR hS hL => lv_ldcw hx hb C.2.2.2.1 (C.2.2.2.2.1 _ (xhw_in hok)) hd (kk hlen hn0 hz0 H locs la hR hS hL)
  case ldc2_w n =>
    obtain rfl : len = 3 := hln.elim (fun h => h) (fun h => absurd (show (3 : Nat) = 0 from h) (by decide))
    dsimp only [xstep, xII, xLL] at h
    cases h
    exact fun H locs la hR hS hL => lv_ldc2 hx hb C.2.2.2.1 (C.2.2.2.2.1 _ (xhw_in hok)) hd (kk hlen hn0 hz0 H locs la hR hS hL)
  case aconst_null =>
    obtain rfl : len = 1 := hln.elim (fun h => h) (fun h => absurd (show (1 : Nat) = 0 from h) (by decide))
    dsimp only [xstep, xII, xLL] at h
    cases h
    exact fun H locs la hR hS hL => lv_null hx hb hd (kk hlen hn0 hz0 H locs la hR hS hL)
  case iload_n k =>
    obtain rfl : len = 1 := hln.elim (fun h => h) (fun h => absurd (show (1 : Nat) = 0 from h) (by decide))
    dsimp only [xstep, xII, xLL] at h
    split at h
    next x hxl =>
      cases h
      exact fun H locs la hR hS hL => lv_iload_n hx hb hd rfl (hL.at hxl) (kk hlen hn0 hz0 H locs la hR hS hL)
    next => cases h
  case iload k =>
    obtain rfl : len = 2 := hln.elim (fun h => h) (fun h => absurd (show (2 : Nat) = 0 from h) (by decide))
    dsimp only [xstep, xII, xLL] at h
    split at h
    next x hxl =>
      cases h
      exact fun H locs la hR hS hL => lv_iload hx hb hd (hL.at hxl) (kk hlen hn0 hz0 H locs la hR hS hL)
    next => cases h
  case lload_n k =>
    obtain rfl : len = 1 := hln.elim (fun h => h) (fun h => absurd (show (1 : Nat) = 0 from h) (by decide))
    dsimp only [xstep, xII, xLL] at h
    split at h
    next x hxl =>
      cases h
      exact fun H locs la hR hS hL => lv_lload_n hx hb hd rfl (hL.at hxl) (kk hlen hn0 hz0 H locs la hR hS hL)
    next => cases h
  case lload k =>
    obtain rfl : len = 2 := hln.elim (fun h => h) (fun h => absurd (show (2 : Nat) = 0 from h) (by decide))
    dsimp only [xstep, xII, xLL] at h
    split at h
    next x hxl =>
      cases h
      exact fun H locs la hR hS hL => lv_lload hx hb hd (hL.at hxl) (kk hlen hn0 hz0 H locs la hR hS hL)
    next => cases h
  case aload_n k =>
    obtain rfl : len = 1 := hln.elim (fun h => h) (fun h => absurd (show (1 : Nat) = 0 from h) (by decide))
    dsimp only [xstep, xII, xLL] at h
    split at h
    next x hxl => cases h; exact xw_aload_n C hd hxl (kk hlen hn0 hz0)
    next => cases h
  case aload k =>
    obtain rfl : len = 2 := hln.elim (fun h => h) (fun h => absurd (show (2 : Nat) = 0 from h) (by decide))
    dsimp only [xstep, xII, xLL] at h
    split at h
    next x hxl => cases h; exact xw_aload C hd hxl (kk hlen hn0 hz0)
    next => cases h
  case istore_n k =>
    obtain rfl : len = 1 := hln.elim (fun h => h) (fun h => absurd (show (1 : Nat) = 0 from h) (by decide))
    dsimp only [xstep, xII, xLL] at h
    split at h
    next x r =>
      obtain ⟨ls1, h1, h2⟩ := Option.bind_eq_some_iff.mp h
      cases h2
      exact fun H locs la hR hS hL => lv_istore_n hx hb hd rfl hL.has (xst1_lt h1) rfl (fun la' h' => kk (by rw [xst1_len h1]; exact hlen) hn0 hz0 H locs la' hR hS (xLR.st1 h1 h'))
    next => cases h
  case istore k =>
    obtain rfl : len = 2 := hln.elim (fun h => h) (fun h => absurd (show (2 : Nat) = 0 from h) (by decide))
    dsimp only [xstep, xII, xLL] at h
    split at h
    next x r =>
      obtain ⟨ls1, h1, h2⟩ := Option.bind_eq_some_iff.mp h
      cases h2
      exact fun H locs la hR hS hL => lv_istore hx hb hd hL.has (xst1_lt h1) rfl (fun la' h' => kk (by rw [xst1_len h1]; exact hlen) hn0 hz0 H locs la' hR hS (xLR.st1 h1 h'))
    next => cases h
  case lstore_n k =>
    obtain rfl : len = 1 := hln.elim (fun h => h) (fun h => absurd (show (1 : Nat) = 0 from h) (by decide))
    dsimp only [xstep, xII, xLL] at h
    split at h
    next x r =>
      obtain ⟨ls1, h1, h2⟩ := Option.bind_eq_some_iff.mp h
      cases h2
      exact fun H locs la hR hS hL => lv_lstore_n hx hb hd rfl hL.has (xst2_lt h1) rfl (fun la' h' => kk (by rw [xst2_len h1]; exact hlen) hn0 hz0 H locs la' hR hS (xLR.st2 h1 h'))
    next => cases h
  case lstore k =>
    obtain rfl : len = 2 := hln.elim (fun h => h) (fun h => absurd (show (2 : Nat) = 0 from h) (by decide))
    dsimp only [xstep, xII, xLL] at h
    split at h
    next x r =>
      obtain ⟨ls1, h1, h2⟩ := Option.bind_eq_some_iff.mp h
      cases h2
      exact fun H locs la hR hS hL => lv_lstore hx hb hd hL.has (xst2_lt h1) rfl (fun la' h' => kk (by rw [xst2_len h1]; exact hlen) hn0 hz0 H locs la' hR hS (xLR.st2 h1 h'))
    next => cases h
  case astore_n k =>
    obtain rfl : len = 1 := hln.elim (fun h => h) (fun h => absurd (show (1 : Nat) = 0 from h) (by decide))
    dsimp only [xstep, xII, xLL] at h
    split at h
    next x r =>
      obtain ⟨ls1, h1, h2⟩ := Option.bind_eq_some_iff.mp h
      cases h2
      exact xw_astore_n C hd h1 (kk (by rw [xst1_len h1]; exact hlen) hn0 hz0)
    next => cases h
  case astore k =>
    obtain rfl : len = 2 := hln.elim (fun h => h) (fun h => absurd (show (2 : Nat) = 0 from h) (by decide))
    dsimp only [xstep, xII, xLL] at h
    split at h
    next x r =>
      obtain ⟨ls1, h1, h2⟩ := Option.bind_eq_some_iff.mp h
      cases h2
      exact xw_astore C hd h1 (kk (by rw [xst1_len h1]; exact hlen) hn0 hz0)
    next => cases h
  case iinc k n =>
    obtain rfl : len = 3 := hln.elim (fun h => h) (fun h => absurd (show (3 : Nat) = 0 from h) (by decide))
    dsimp only [xstep, xII, xLL] at h
    split at h
    next x hxl =>
      obtain ⟨ls1, h1, h2⟩ := Option.bind_eq_some_iff.mp h
      cases h2
      exact xw_iinc C hd hxl h1 (kk (by rw [xst1_len h1]; exact hlen) hn0 hz0)
    next => cases h
  case iadd =>
    obtain rfl : len = 1 := hln.elim (fun h => h) (fun h => absurd (show (1 : Nat) = 0 from h) (by decide))
    dsimp only [xstep, xII, xLL] at h
    split at h
    next =>
      cases h
      exact fun H locs la hR hS hL => lv_iadd hx hb hd (kk hlen hn0 hz0 H locs la hR hS hL)
    next => cases h
  case isub =>
    obtain rfl : len = 1 := hln.elim (fun h => h) (fun h => absurd (show (1 : Nat) = 0 from h) (by decide))
    dsimp only [xstep, xII, xLL] at h
    split at h
    next =>
      cases h
      exact fun H locs la hR hS hL => lv_isub hx hb hd (kk hlen hn0 hz0 H locs la hR hS hL)
    next => cases h
  case imul =>
    obtain rfl : len = 1 := hln.elim (fun h => h) (fun h => absurd (show (1 : Nat) = 0 from h) (by decide))
    dsimp only [xstep, xII, xLL] at h
    split at h
    next =>
      cases h
      exact fun H locs la hR hS hL => lv_imul hx hb hd (kk hlen hn0 hz0 H locs la hR hS hL)
    next => cases h
  case iand =>
    obtain rfl : len = 1 := hln.elim (fun h => h) (fun h => absurd (show (1 : Nat) = 0 from h) (by decide))
    dsimp only [xstep, xII, xLL] at h
    split at h
    next =>
      cases h
      exact fun H locs la hR hS hL => lv_iand hx hb hd (kk hlen hn0 hz0 H locs la hR hS hL)
    next => cases h
  case ior =>
    obtain rfl : len = 1 := hln.elim (fun h => h) (fun h => absurd (show (1 : Nat) = 0 from h) (by decide))
    dsimp only [xstep, xII, xLL] at h
    split at h
    next =>
      cases h
      exact fun H locs la hR hS hL => lv_ior hx hb hd (kk hlen hn0 hz0 H locs la hR hS hL)
    next => cases h
  case ixor =>
    obtain rfl : len = 1 := hln.elim (fun h => h) (fun h => absurd (show (1 : Nat) = 0 from h) (by decide))
    dsimp only [xstep, xII, xLL] at h
    split at h
    next =>
      cases h
      exact fun H locs la hR hS hL => lv_ixor hx hb hd (kk hlen hn0 hz0 H locs la hR hS hL)
    next => cases h
  case ishl =>
    obtain rfl : len = 1 := hln.elim (fun h => h) (fun h => absurd (show (1 : Nat) = 0 from h) (by decide))
    dsimp only [xstep, xII, xLL] at h
    split at h
    next =>
      cases h
      exact fun H locs la hR hS hL => lv_ishl hx hb hd (kk hlen hn0 hz0 H locs la hR hS hL)
    next => cases h
  case ladd =>
    obtain rfl : len = 1 := hln.elim (fun h => h) (fun h => absurd (show (1 : Nat) = 0 from h) (by decide))
    dsimp only [xstep, xII, xLL] at h
    split at h
    next =>
      cases h
      exact fun H locs la hR hS hL => lv_ladd hx hb hd (kk hlen hn0 hz0 H locs la hR hS hL)
    next => cases h
  case lsub =>
    obtain rfl : len = 1 := hln.elim (fun h => h) (fun h => absurd (show (1 : Nat) = 0 from h) (by decide))
    dsimp only [xstep, xII, xLL] at h
    split at h
    next =>
      cases h
      exact fun H locs la hR hS hL => lv_lsub hx hb hd (kk hlen hn0 hz0 H locs la hR hS hL)
    next => cases h
  case lmul =>
    obtain rfl : len = 1 := hln.elim (fun h => h) (fun h => absurd (show (1 : Nat) = 0 from h) (by decide))
    dsimp only [xstep, xII, xLL] at h
    split at h
    next =>
      cases h
      exact fun H locs la hR hS hL => lv_lmul hx hb hd (kk hlen hn0 hz0 H locs la hR hS hL)
    next => cases h
  case land =>
    obtain rfl : len = 1 := hln.elim (fun h => h) (fun h => absurd (show (1 : Nat) = 0 from h) (by decide))
    dsimp only [xstep, xII, xLL] at h
    split at h
    next =>
      cases h
      exact fun H locs la hR hS hL => lv_land hx hb hd (kk hlen hn0 hz0 H locs la hR hS hL)
    next => cases h
  case lor =>
    obtain rfl : len = 1 := hln.elim (fun h => h) (fun h => absurd (show (1 : Nat) = 0 from h) (by decide))
    dsimp only [xstep, xII, xLL] at h
    split at h
    next =>
      cases h
      exact fun H locs la hR hS hL => lv_lor hx hb hd (kk hlen hn0 hz0 H locs la hR hS hL)
    next => cases h
  case lxor =>
    obtain rfl : len = 1 := hln.elim (fun h => h) (fun h => absurd (show (1 : Nat) = 0 from h) (by decide))
    dsimp only [xstep, xII, xLL] at h
    split at h
    next =>
      cases h
      exact fun H locs la hR hS hL => lv_lxor hx hb hd (kk hlen hn0 hz0 H locs la hR hS hL)
    next => cases h
  case lneg =>
    obtain rfl : len = 1 := hln.elim (fun h => h) (fun h => absurd (show (1 : Nat) = 0 from h) (by decide))
    dsimp only [xstep, xII, xLL] at h
    split at h
    next =>
      cases h
      exact fun H locs la hR hS hL => lv_lneg hx hb hd (kk hlen hn0 hz0 H locs la hR hS hL)
    next => cases h
  case iushr =>
    obtain rfl : len = 1 := hln.elim (fun h => h) (fun h => absurd (show (1 : Nat) = 0 from h) (by decide))
    dsimp only [xstep, xII, xLL] at h
    split at h
    next =>
      cases h
      exact fun H locs la hR hS hL => lv_iushr hx hb hd rfl (kk hlen hn0 hz0 H locs la hR hS hL)
    next => cases h
  case lshl =>
    obtain rfl : len = 1 := hln.elim (fun h => h) (fun h => absurd (show (1 : Nat) = 0 from h) (by decide))
    dsimp only [xstep, xII, xLL] at h
    split at h
    next =>
      cases h
      exact fun H locs la hR hS hL => lv_lshl hx hb hd rfl (kk hlen hn0 hz0 H locs la hR hS hL)
    next => cases h
  case lushr =>
    obtain rfl : len = 1 := hln.elim (fun h => h) (fun h => absurd (show (1 : Nat) = 0 from h) (by decide))
    dsimp only [xstep, xII, xLL] at h
    split at h
    next =>
      cases h
      exact fun H locs la hR hS hL => lv_lushr hx hb hd rfl (kk hlen hn0 hz0 H locs la hR hS hL)
    next => cases h
  case i2l =>
    obtain rfl : len = 1 := hln.elim (fun h => h) (fun h => absurd (show (1 : Nat) = 0 from h) (by decide))
    dsimp only [xstep, xII, xLL] at h
    split at h
    next =>
      cases h
      exact fun H locs la hR hS hL => lv_i2l hx hb hd rfl (kk hlen hn0 hz0 H locs la hR hS hL)
    next => cases h
  case l2i =>
    obtain rfl : len = 1 := hln.elim (fun h => h) (fun h => absurd (show (1 : Nat) = 0 from h) (by decide))
    dsimp only [xstep, xII, xLL] at h
    split at h
    next =>
      cases h
      exact fun H locs la hR hS hL => lv_l2i hx hb hd rfl (kk hlen hn0 hz0 H locs la hR hS hL)
    next => cases h
  case lcmp =>
    obtain rfl : len = 1 := hln.elim (fun h => h) (fun h => absurd (show (1 : Nat) = 0 from h) (by decide))
    dsimp only [xstep, xII, xLL] at h
    split at h
    next =>
      cases h
      exact fun H locs la hR hS hL => W.lcmp hx hb hd (kk hlen hn0 hz0 H locs la hR hS hL)
    next => cases h
  case idiv =>
    obtain rfl : len = 1 := hln.elim (fun h => h) (fun h => absurd (show (1 : Nat) = 0 from h) (by decide))
    dsimp only [xstep, xII, xLL] at h
    split at h
    next y x r =>
      split at h
      next => cases h
      next hy =>
        cases h
        exact fun H locs la hR hS hL => lv_idiv hx hb hd hy (kk hlen hn0 hz0 H locs la hR hS hL)
    next => cases h
  case irem =>
    obtain rfl : len = 1 := hln.elim (fun h => h) (fun h => absurd (show (1 : Nat) = 0 from h) (by decide))
    dsimp only [xstep, xII, xLL] at h
    split at h
    next y x r =>
      split at h
      next => cases h
      next hy =>
        cases h
        exact fun H locs la hR hS hL => lv_irem hx hb hd hy (kk hlen hn0 hz0 H locs la hR hS hL)
    next => cases h
  case pop =>
    obtain rfl : len = 1 := hln.elim (fun h => h) (fun h => absurd (show (1 : Nat) = 0 from h) (by decide))
    dsimp only [xstep, xII, xLL] at h
    split at h
    next v r =>
      split at h
      next => cases h
      next hv =>
        cases h
        exact fun H locs la hR hS hL => lv_pop hx hb hd (by rw [xcv_cat, if_neg hv]) (kk hlen hn0 hz0 H locs la hR hS hL)
    next => cases h
  case dup =>
    obtain rfl : len = 1 := hln.elim (fun h => h) (fun h => absurd (show (1 : Nat) = 0 from h) (by decide))
    dsimp only [xstep, xII, xLL] at h
    split at h
    next v r =>
      split at h
      next => cases h
      next hv =>
        cases h
        exact fun H locs la hR hS hL => lv_dup hx hb hd (by rw [xcv_cat, if_neg hv]) (kk hlen hn0 hz0 H locs la hR hS hL)
    next => cases h
  case dup2 =>
    obtain rfl : len = 1 := hln.elim (fun h => h) (fun h => absurd (show (1 : Nat) = 0 from h) (by decide))
    dsimp only [xstep, xII, xLL] at h
    split at h
    next v w r =>
      split at h
      next => cases h
      next hv =>
        cases h
        exact fun H locs la hR hS hL => lv_dup2_11 hx hb hd (by rw [xcv_cat, if_neg (fun z => hv (Or.inl z))]) (by rw [xcv_cat, if_neg (fun z => hv (Or.inr z))]) (kk hlen hn0 hz0 H locs la hR hS hL)
    next => cases h
  case ifCond cd o =>
    obtain rfl : len = 3 := hln.elim (fun h => h) (fun h => absurd (show (3 : Nat) = 0 from h) (by decide))
    dsimp only [xstep, xII, xLL] at h
    dsimp only [xokL] at hok
    have ht := of_decide_eq_true hok
    split at h
    next x r =>
      refine xw_ifc C hd ht ?_
      split at h
      next hq => cases h; rw [if_pos hq]; exact kk hlen hn0 hz0
      next hq => cases h; rw [if_neg hq]; exact kk hlen hn0 hz0
    next => cases h
  case if_icmp cd o =>
    obtain rfl : len = 3 := hln.elim (fun h => h) (fun h => absurd (show (3 : Nat) = 0 from h) (by decide))
    dsimp only [xstep, xII, xLL] at h
    dsimp only [xokL] at hok
    have ht := of_decide_eq_true hok
    split at h
    next y x r =>
      refine xw_icmp C hd ht ?_
      split at h
      next hq => cases h; rw [if_pos hq]; exact kk hlen hn0 hz0
      next hq => cases h; rw [if_neg hq]; exact kk hlen hn0 hz0
    next => cases h
  case goto o =>
    obtain rfl : len = 3 := hln.elim (fun h => h) (fun h => absurd (show (3 : Nat) = 0 from h) (by decide))
    dsimp only [xstep, xII, xLL] at h
    dsimp only [xokL] at hok
    have ht := of_decide_eq_true hok
    cases h
    exact fun H locs la hR hS hL => lv_goto hx hb hd ht (kk hlen hn0 hz0 H locs la hR hS hL)
  case ifnull o =>
    obtain rfl : len = 3 := hln.elim (fun h => h) (fun h => absurd (show (3 : Nat) = 0 from h) (by decide))
    dsimp only [xstep, xII, xLL] at h
    dsimp only [xokL] at hok
    have ht := of_decide_eq_true hok
    split at h
    next r => cases h; exact fun H locs la hR hS hL => lv_ifnullN hx hb hd ht (kk hlen hn0 hz0 H locs la hR hS hL)
    next x r => cases h; exact fun H locs la hR hS hL => lv_ifnull hx hb hd (kk hlen hn0 hz0 H locs la hR hS hL)
    next => cases h
  case ifnonnull o =>
    obtain rfl : len = 3 := hln.elim (fun h => h) (fun h => absurd (show (3 : Nat) = 0 from h) (by decide))
    dsimp only [xstep, xII, xLL] at h
    dsimp only [xokL] at hok
    have ht := of_decide_eq_true hok
    split at h
    next r => cases h; exact fun H locs la hR hS hL => lv_ifnonnullN hx hb hd (kk hlen hn0 hz0 H locs la hR hS hL)
    next x r => cases h; exact fun H locs la hR hS hL => lv_ifnonnull hx hb hd ht (kk hlen hn0 hz0 H locs la hR hS hL)
    next => cases h
  case tableswitch df lo hi offs =>
    dsimp only [xstep, xII, xLL] at h
    dsimp only [xokL] at hok
    simp only [Bool.and_eq_true, decide_eq_true_eq, List.all_eq_true] at hok
    split at h
    next x r =>
      split at h
      next hq => cases h; exact fun H locs la hR hS hL => lv_tableOut hx hb hd hq (by omega) (kk hlen hn0 hz0 H locs la hR hS hL)
      next hq =>
        split at h
        next o ho =>
          cases h
          have hmem : o ∈ offs.toList := by
            rw [Array.mem_toList_iff]
            exact Array.mem_of_getElem? ho
          have h9 := hok.2 o hmem
          exact fun H locs la hR hS hL => lv_tableIn hx hb hd (fun z => hq (Or.inl z)) (fun z => hq (Or.inr z)) ho (by omega) (kk hlen hn0 hz0 H locs la hR hS hL)
        next => cases h
    next => cases h
  case lookupswitch df ps =>
    dsimp only [xstep, xII, xLL] at h
    dsimp only [xokL] at hok
    simp only [Bool.and_eq_true, decide_eq_true_eq] at hok
    split at h
    next x r =>
      cases h
      have h9 : 0 ≤ (pc : Int) + Op.lookupswitch.offset ps.toList df x.toInt := by
        have gen : ∀ L : List (Int × Int), L.all (fun o => decide (0 ≤ (pc : Int) + o.2)) = true → 0 ≤ (pc : Int) + Op.lookupswitch.offset L df x.toInt := by
          intro L
          induction L with
          | nil => intro _; exact hok.1.2
          | cons q L ih =>
            intro hL
            simp only [List.all_cons, Bool.and_eq_true, decide_eq_true_eq] at hL
            obtain ⟨k, o⟩ := q
            rw [Op.lookupswitch.offset_cons]
            split
            next => exact hL.1
            next => exact ih hL.2
        exact gen _ hok.2
      exact fun H locs la hR hS hL => lv_lookup hx hb hd hok.1.1 rfl (by omega) (kk hlen hn0 hz0 H locs la hR hS hL)
    next => cases h
  case getfield idx =>
    obtain rfl : len = 3 := hln.elim (fun h => h) (fun h => absurd (show (3 : Nat) = 0 from h) (by decide))
    dsimp only [xstep, xII, xLL] at h
    split at h
    next a r =>
      obtain ⟨v, h1, h2⟩ := Option.bind_eq_some_iff.mp h
      cases h2
      exact xw_get C hd hok h1 (kk hlen hn0 hz0)
    next => cases h
  case putfield idx =>
    obtain rfl : len = 3 := hln.elim (fun h => h) (fun h => absurd (show (3 : Nat) = 0 from h) (by decide))
    dsimp only [xstep, xII, xLL] at h
    split at h
    next v a r =>
      obtain ⟨M1, h1, h2⟩ := Option.bind_eq_some_iff.mp h
      cases h2
      have e9 := xpf_n h1
      exact xw_put C hd hok h1 (kk hlen (by rw [e9]; exact hn0) (by rw [e9]; exact hz0))
    next => cases h
  case iaload =>
    obtain rfl : len = 1 := hln.elim (fun h => h) (fun h => absurd (show (1 : Nat) = 0 from h) (by decide))
    dsimp only [xstep, xII, xLL] at h
    split at h
    next i a r =>
      split at h
      next h99 =>
        split at h
        next t =>
          split at h
          next hi => cases h; obtain ⟨hi, rfl⟩ := hi; exact xw_sld C hT hd hi (kk hlen hn0 hz0)
          next => cases h
        next => cases h
      next =>
        obtain ⟨a1, h1, h2⟩ := Option.bind_eq_some_iff.mp h
        cases h2
        exact xw_iald C hd h1 (kk hlen hn0 hz0)
    next => cases h
  case baload =>
    obtain rfl : len = 1 := hln.elim (fun h => h) (fun h => absurd (show (1 : Nat) = 0 from h) (by decide))
    dsimp only [xstep, xII, xLL] at h
    split at h
    next i a r =>
      obtain ⟨a1, h1, h2⟩ := Option.bind_eq_some_iff.mp h
      cases h2
      exact xw_bald C hd h1 (kk hlen hn0 hz0)
    next => cases h
  case laload =>
    obtain rfl : len = 1 := hln.elim (fun h => h) (fun h => absurd (show (1 : Nat) = 0 from h) (by decide))
    dsimp only [xstep, xII, xLL] at h
    split at h
    next i a r =>
      obtain ⟨a1, h1, h2⟩ := Option.bind_eq_some_iff.mp h
      cases h2
      exact xw_lald C hd h1 (kk hlen hn0 hz0)
    next => cases h
  case aaload =>
    obtain rfl : len = 1 := hln.elim (fun h => h) (fun h => absurd (show (1 : Nat) = 0 from h) (by decide))
    dsimp only [xstep, xII, xLL] at h
    dsimp only [xokL] at hok
    have ht := of_decide_eq_true hok
    split at h
    next i a r =>
      obtain ⟨a1, h1, h2⟩ := Option.bind_eq_some_iff.mp h
      cases h2
      exact xw_aald C ht hd h1 (kk hlen hn0 hz0)
    next => cases h
  case iastore =>
    obtain rfl : len = 1 := hln.elim (fun h => h) (fun h => absurd (show (1 : Nat) = 0 from h) (by decide))
    dsimp only [xstep, xII, xLL] at h
    split at h
    next x i a r =>
      obtain ⟨a1, h1, h2⟩ := Option.bind_eq_some_iff.mp h
      cases h2
      exact xw_iast C hd h1 (kk hlen hn0 hz0)
    next => cases h
  case bastore =>
    obtain rfl : len = 1 := hln.elim (fun h => h) (fun h => absurd (show (1 : Nat) = 0 from h) (by decide))
    dsimp only [xstep, xII, xLL] at h
    split at h
    next x i a r =>
      obtain ⟨a1, h1, h2⟩ := Option.bind_eq_some_iff.mp h
      cases h2
      exact xw_bast C hd h1 (kk hlen hn0 hz0)
    next => cases h
  case lastore =>
    obtain rfl : len = 1 := hln.elim (fun h => h) (fun h => absurd (show (1 : Nat) = 0 from h) (by decide))
    dsimp only [xstep, xII, xLL] at h
    split at h
    next x i a r =>
      obtain ⟨a1, h1, h2⟩ := Option.bind_eq_some_iff.mp h
      cases h2
      exact xw_last C hd h1 (kk hlen hn0 hz0)
    next => cases h
  case aastore =>
    obtain rfl : len = 1 := hln.elim (fun h => h) (fun h => absurd (show (1 : Nat) = 0 from h) (by decide))
    dsimp only [xstep, xII, xLL] at h
    dsimp only [xokL] at hok
    have ht := of_decide_eq_true hok
    split at h
    next v i a r =>
      obtain ⟨a1, h1, h2⟩ := Option.bind_eq_some_iff.mp h
      obtain ⟨v1, h3, h4⟩ := Option.bind_eq_some_iff.mp h2
      cases h4
      exact xw_aast C ht hd h1 h3 (kk hlen hn0 hz0)
    next => cases h
  case arraylength =>
    obtain rfl : len = 1 := hln.elim (fun h => h) (fun h => absurd (show (1 : Nat) = 0 from h) (by decide))
    dsimp only [xstep, xII, xLL] at h
    split at h
    next a r =>
      split at h
      next h99 =>
        split at h
        next t =>
          split at h
          next hi => cases h; subst hi; exact xw_slen C hT hd (kk hlen hn0 hz0)
          next => cases h
        next => cases h
      next =>
        split at h
        next q hq =>
          split at h
          next hc9 => cases h; exact xw_alen C hd (t := q.1) (n := q.2) hq hc9.2.2 hc9.1 hc9.2.1 (kk hlen hn0 hz0)
          next => cases h
        next => cases h
    next => cases h
  case new idx =>
    obtain rfl : len = 3 := hln.elim (fun h => h) (fun h => absurd (show (3 : Nat) = 0 from h) (by decide))
    dsimp only [xstep, xII, xLL] at h
    split at h
    next hc9 =>
      cases h
      exact xw_new C hd hok hc9.1 hc9.2 hn0 hz0 hc hs (kk hlen (by show n0 ≤ M.2.2.2.1 + 1; omega) (by show z0 ≤ M.2.2.2.2 + b; omega))
    next => cases h
  case newarray t =>
    obtain rfl : len = 2 := hln.elim (fun h => h) (fun h => absurd (show (2 : Nat) = 0 from h) (by decide))
    dsimp only [xstep, xII, xLL] at h
    split at h
    next n r =>
      split at h
      next hc9 =>
        cases h
        have hok2 : xokL own ini pc (.newarray t, 2, a, 0, pl) = true := by
          cases t <;> exact hok
        exact xw_newa C hd hok2 hc9.1 hc9.2.1 hc9.2.2 hn0 hz0 hc hs (xsh_big hc9.2.1) (kk hlen (by show n0 ≤ M.2.2.2.1 + 1; omega) (by show z0 ≤ M.2.2.2.2 + n.toNatClampNeg; omega))
      next => cases h
    next => cases h
  case anewarray idx =>
    obtain rfl : len = 3 := hln.elim (fun h => h) (fun h => absurd (show (3 : Nat) = 0 from h) (by decide))
    dsimp only [xstep, xII, xLL] at h
    split at h
    next n r =>
      split at h
      next hc9 =>
        cases h
        exact xw_anew C hd (t := a) (pl := pl) hok hWd.1 hc9.1 hc9.2.1 hc9.2.2 hn0 hz0 hc hs (xsh_big hc9.2.1) (kk hlen (by show n0 ≤ M.2.2.2.1 + 1; omega) (by show z0 ≤ M.2.2.2.2 + n.toNatClampNeg; omega))
      next => cases h
    next => cases h
  case multianewarray idx dm =>
    obtain rfl : len = 4 := hln.elim (fun h => h) (fun h => absurd (show (4 : Nat) = 0 from h) (by decide))
    dsimp only [xstep, xII, xLL] at h
    split at h
    next k n r =>
      split at h
      next hc9 =>
        obtain ⟨rfl, rfl, hc9⟩ := hc9
        cases h
        exact xw_multi C hd (t := a) (b := b) (pl := pl) hok hWd.2.1 hWd.2.2 hc9 hn0 hz0 hc hs (kk hlen (by show n0 ≤ M.2.2.2.1 + 5; omega) (by show z0 ≤ M.2.2.2.2 + 164; omega))
      next => cases h
    next => cases h
  all_goals (dsimp only [xstep, xII, xLL] at h; cases h)
end XZ
