/-! runs: the walked system's steps, one by one, with faulting reads and writes of their own -/
theorem xexec_mono : ∀ (n d : Nat) (top : Option (Nat × (Nat → Int32))) (i pc : Nat) (ls : List (Option xVal)) (st : List xVal) (M : xMem) (res : Option xVal × xMem), xexec n d top i pc ls st M = some res → ∀ n' d', n ≤ n' → d ≤ d' → xexec n' d' top i pc ls st M = some res := by
  intro n
  induction n with
  | zero => intro d top i pc ls st M res h; cases h
  | succ n ih =>
    intro d top i pc ls st M res h n' d' hn hd
    obtain ⟨n', rfl⟩ : ∃ k, n' = k + 1 := ⟨n' - 1, by omega⟩
    have hn2 : n ≤ n' := by omega
    unfold xexec at h
    split at h
    next => cases h
    next en hen =>
      unfold xexec
      rw [hen]
      dsimp only
      have hcall : xcall (fun d' j vs M' => xexec n d' none j 0 (xinit (xL j) vs) [] M') (fun st' M' => xexec n d top i (pc + 3) ls st' M') d en st M = some res → xcall (fun d' j vs M' => xexec n' d' none j 0 (xinit (xL j) vs) [] M') (fun st' M' => xexec n' d' top i (pc + 3) ls st' M') d' en st M = some res := by
        intro h
        obtain ⟨r, M'⟩ := res
        obtain ⟨vs, rest, d1, r1, M1, hpr, rfl, hil, hrun, hgo⟩ := xcall_inv h
        obtain ⟨d2, rfl⟩ : ∃ k, d' = k + 1 := ⟨d' - 1, by omega⟩
        unfold xcall
        rw [hpr, Option.bind_some]
        dsimp only
        rw [if_pos hil, ih _ _ _ _ _ _ _ _ hrun n' d2 hn2 (by omega), Option.bind_some]
        exact ih _ _ _ _ _ _ _ _ hgo n' (d2 + 1) hn2 hd
      split at h
      next hi => simp only [hi] at h ⊢; exact h
      next hi => simp only [hi] at h ⊢; exact h
      next hi => simp only [hi] at h ⊢; exact h
      next hi => simp only [hi] at h ⊢; exact h
      next idx hi =>
        split at h
        next h98 =>
          rw [if_pos h98]
          split at h
          next =>
            split at h
            next hc =>
              rw [if_pos ⟨hc.1, by omega⟩]
              obtain ⟨x, h1, h2⟩ := Option.bind_eq_some_iff.mp h
              rw [h1, Option.bind_some]
              exact ih _ _ _ _ _ _ _ _ h2 n' d' hn2 hd
            next => cases h
          next => cases h
        next h98 =>
          rw [if_neg h98]
          split at h
          next h96 =>
            rw [if_pos h96]
            split at h
            next =>
              split at h
              next hc => rw [if_pos ⟨hc.1, by omega⟩]; exact ih _ _ _ _ _ _ _ _ h n' d' hn2 hd
              next => cases h
            next => cases h
          next h96 =>
            rw [if_neg h96]
            split at h
            next h97 =>
              rw [if_pos h97]
              split at h
              next =>
                split at h
                next hc => rw [if_pos ⟨hc.1, by omega⟩]; exact ih _ _ _ _ _ _ _ _ h n' d' hn2 hd
                next => cases h
              next => cases h
            next h97 => rw [if_neg h97]; exact hcall h
      next idx hi => exact hcall h
      next idx hi =>
        split at h
        next h99 =>
          rw [if_pos h99]
          split at h
          next =>
            split at h
            next hc =>
              rw [if_pos ⟨hc.1, by omega⟩]
              exact ih _ _ _ _ _ _ _ _ h n' d' hn2 hd
            next => cases h
          next => cases h
        next h99 => rw [if_neg h99]; exact hcall h
      next =>
        obtain ⟨q, h1, h2⟩ := Option.bind_eq_some_iff.mp h
        rw [h1, Option.bind_some]
        exact ih _ _ _ _ _ _ _ _ h2 n' d' hn2 hd
/-- a run: some number of steps is enough -/
def xrun (top : Option (Nat × (Nat → Int32))) (d i pc : Nat) (ls : List (Option xVal)) (st : List xVal) (M : xMem) (res : Option xVal × xMem) : Prop := ∃ n, xexec n d top i pc ls st M = some res
section XR
variable {top : Option (Nat × (Nat → Int32))} {d i pc pc' : Nat} {ls ls' : List (Option xVal)} {st : List xVal} {M M' M1 : xMem} {res : Option xVal × xMem}
theorem xr_step {en : xE} {q : xSt} (hf : xfind i pc = some en) (hs : xstep top en pc ls st M = some q) (kk : xrun top d i q.1 q.2.1 q.2.2.1 q.2.2.2 res) : xrun top d i pc ls st M res := by
  obtain ⟨n, hn⟩ := kk
  refine ⟨n + 1, ?_⟩
  unfold xexec
  rw [hf]
  dsimp only
  split
  all_goals first
    | (rw [hs, Option.bind_some]; exact hn)
    | (rename_i hi; unfold xstep at hs; rw [hi] at hs; dsimp only [xII, xLL] at hs; cases hs; done)
theorem xr_iconst {n : Int} {v : Int32} (hf : xfind i pc = some (.iconst n, 1, 0, 0, 0)) (hv : Int32.ofInt n = v) (hp : pc + 1 = pc') (kk : xrun top d i pc' ls (.inl v :: st) M res) : xrun top d i pc ls (st) M res := by
  subst hp
  subst hv
  exact xr_step hf (rfl) kk
theorem xr_bipush {n : Int} {v : Int32} (hf : xfind i pc = some (.bipush n, 2, 0, 0, 0)) (hv : (Int8.ofInt n).toInt32 = v) (hp : pc + 2 = pc') (kk : xrun top d i pc' ls (.inl v :: st) M res) : xrun top d i pc ls (st) M res := by
  subst hp
  subst hv
  exact xr_step hf (rfl) kk
theorem xr_sipush {n : Int} {v : Int32} (hf : xfind i pc = some (.sipush n, 3, 0, 0, 0)) (hv : (Int16.ofInt n).toInt32 = v) (hp : pc + 3 = pc') (kk : xrun top d i pc' ls (.inl v :: st) M res) : xrun top d i pc ls (st) M res := by
  subst hp
  subst hv
  exact xr_step hf (rfl) kk
theorem xr_lconst {n : Fin 2} {v : Int64} (hf : xfind i pc = some (.lconst n, 1, 0, 0, 0)) (hv : Int64.ofNat (n : Nat) = v) (hp : pc + 1 = pc') (kk : xrun top d i pc' ls (.inr (.inl v) :: st) M res) : xrun top d i pc ls (st) M res := by
  subst hp
  subst hv
  exact xr_step hf (rfl) kk
theorem xr_ldc {n a pl : Nat} {v : Int32} (hf : xfind i pc = some (.ldc n, 2, a, 0, pl)) (hv : Int32.ofNat a = v) (hp : pc + 2 = pc') (kk : xrun top d i pc' ls (.inl v :: st) M res) : xrun top d i pc ls (st) M res := by
  subst hp
  subst hv
  exact xr_step hf (rfl) kk
theorem xr_ldc_w {n a pl : Nat} {v : Int32} (hf : xfind i pc = some (.ldc_w n, 3, a, 0, pl)) (hv : Int32.ofNat a = v) (hp : pc + 3 = pc') (kk : xrun top d i pc' ls (.inl v :: st) M res) : xrun top d i pc ls (st) M res := by
  subst hp
  subst hv
  exact xr_step hf (rfl) kk
theorem xr_ldc2_w {n a pl : Nat} {v : Int64} (hf : xfind i pc = some (.ldc2_w n, 3, a, 0, pl)) (hv : Int64.ofNat a = v) (hp : pc + 3 = pc') (kk : xrun top d i pc' ls (.inr (.inl v) :: st) M res) : xrun top d i pc ls (st) M res := by
  subst hp
  subst hv
  exact xr_step hf (rfl) kk
theorem xr_aconst_null  (hf : xfind i pc = some (.aconst_null, 1, 0, 0, 0))  (hp : pc + 1 = pc') (kk : xrun top d i pc' ls (.inr (.inr none) :: st) M res) : xrun top d i pc ls (st) M res := by
  subst hp
  exact xr_step hf (rfl) kk
theorem xr_iload_n {k : Fin 4} {v : Int32} (hf : xfind i pc = some (.iload_n k, 1, 0, 0, 0)) (hl : xld ls k = some (.inl v)) (hp : pc + 1 = pc') (kk : xrun top d i pc' ls (.inl v :: st) M res) : xrun top d i pc ls (st) M res := by
  subst hp
  exact xr_step hf (by unfold xstep; dsimp only; rw [hl]) kk
theorem xr_iload {k : Nat} {v : Int32} (hf : xfind i pc = some (.iload k, 2, 0, 0, 0)) (hl : xld ls k = some (.inl v)) (hp : pc + 2 = pc') (kk : xrun top d i pc' ls (.inl v :: st) M res) : xrun top d i pc ls (st) M res := by
  subst hp
  exact xr_step hf (by unfold xstep; dsimp only; rw [hl]) kk
theorem xr_lload_n {k : Fin 4} {v : Int64} (hf : xfind i pc = some (.lload_n k, 1, 0, 0, 0)) (hl : xld ls k = some (.inr (.inl v))) (hp : pc + 1 = pc') (kk : xrun top d i pc' ls (.inr (.inl v) :: st) M res) : xrun top d i pc ls (st) M res := by
  subst hp
  exact xr_step hf (by unfold xstep; dsimp only; rw [hl]) kk
theorem xr_lload {k : Nat} {v : Int64} (hf : xfind i pc = some (.lload k, 2, 0, 0, 0)) (hl : xld ls k = some (.inr (.inl v))) (hp : pc + 2 = pc') (kk : xrun top d i pc' ls (.inr (.inl v) :: st) M res) : xrun top d i pc ls (st) M res := by
  subst hp
  exact xr_step hf (by unfold xstep; dsimp only; rw [hl]) kk
theorem xr_aload_n {k : Fin 4} {v : Option xId} (hf : xfind i pc = some (.aload_n k, 1, 0, 0, 0)) (hl : xld ls k = some (.inr (.inr v))) (hp : pc + 1 = pc') (kk : xrun top d i pc' ls (.inr (.inr v) :: st) M res) : xrun top d i pc ls (st) M res := by
  subst hp
  exact xr_step hf (by unfold xstep; dsimp only; rw [hl]) kk
theorem xr_aload {k : Nat} {v : Option xId} (hf : xfind i pc = some (.aload k, 2, 0, 0, 0)) (hl : xld ls k = some (.inr (.inr v))) (hp : pc + 2 = pc') (kk : xrun top d i pc' ls (.inr (.inr v) :: st) M res) : xrun top d i pc ls (st) M res := by
  subst hp
  exact xr_step hf (by unfold xstep; dsimp only; rw [hl]) kk
theorem xr_istore_n {k : Fin 4} {v : Int32} (hf : xfind i pc = some (.istore_n k, 1, 0, 0, 0)) (hl : xst1 ls k (.inl v) = some ls') (hp : pc + 1 = pc') (kk : xrun top d i pc' ls' (st) M res) : xrun top d i pc ls (.inl v :: st) M res := by
  subst hp
  exact xr_step hf (by unfold xstep; dsimp only; rw [hl, Option.bind_some]) kk
theorem xr_istore {k : Nat} {v : Int32} (hf : xfind i pc = some (.istore k, 2, 0, 0, 0)) (hl : xst1 ls k (.inl v) = some ls') (hp : pc + 2 = pc') (kk : xrun top d i pc' ls' (st) M res) : xrun top d i pc ls (.inl v :: st) M res := by
  subst hp
  exact xr_step hf (by unfold xstep; dsimp only; rw [hl, Option.bind_some]) kk
theorem xr_lstore_n {k : Fin 4} {v : Int64} (hf : xfind i pc = some (.lstore_n k, 1, 0, 0, 0)) (hl : xst2 ls k (.inr (.inl v)) = some ls') (hp : pc + 1 = pc') (kk : xrun top d i pc' ls' (st) M res) : xrun top d i pc ls (.inr (.inl v) :: st) M res := by
  subst hp
  exact xr_step hf (by unfold xstep; dsimp only; rw [hl, Option.bind_some]) kk
theorem xr_lstore {k : Nat} {v : Int64} (hf : xfind i pc = some (.lstore k, 2, 0, 0, 0)) (hl : xst2 ls k (.inr (.inl v)) = some ls') (hp : pc + 2 = pc') (kk : xrun top d i pc' ls' (st) M res) : xrun top d i pc ls (.inr (.inl v) :: st) M res := by
  subst hp
  exact xr_step hf (by unfold xstep; dsimp only; rw [hl, Option.bind_some]) kk
theorem xr_astore_n {k : Fin 4} {v : Option xId} (hf : xfind i pc = some (.astore_n k, 1, 0, 0, 0)) (hl : xst1 ls k (.inr (.inr v)) = some ls') (hp : pc + 1 = pc') (kk : xrun top d i pc' ls' (st) M res) : xrun top d i pc ls (.inr (.inr v) :: st) M res := by
  subst hp
  exact xr_step hf (by unfold xstep; dsimp only; rw [hl, Option.bind_some]) kk
theorem xr_astore {k : Nat} {v : Option xId} (hf : xfind i pc = some (.astore k, 2, 0, 0, 0)) (hl : xst1 ls k (.inr (.inr v)) = some ls') (hp : pc + 2 = pc') (kk : xrun top d i pc' ls' (st) M res) : xrun top d i pc ls (.inr (.inr v) :: st) M res := by
  subst hp
  exact xr_step hf (by unfold xstep; dsimp only; rw [hl, Option.bind_some]) kk
theorem xr_iinc {k : Nat} {n : Int} {v c : Int32} (hf : xfind i pc = some (.iinc k n, 3, 0, 0, 0)) (hc : Int32.ofInt n = c) (hl : xld ls k = some (.inl v)) (hs : xst1 ls k (.inl (v + c)) = some ls') (hp : pc + 3 = pc') (kk : xrun top d i pc' ls' (st) M res) : xrun top d i pc ls (st) M res := by
  subst hp
  subst hc
  exact xr_step hf (by unfold xstep; dsimp only; rw [hl]; dsimp only; rw [hs, Option.bind_some]) kk
def xushr (x y : Int32) : Int32 := (x.toUInt32 >>> (y.toUInt32 &&& Int32.toUInt32 31)).toInt32
def xlushr (x : Int64) (y : Int32) : Int64 := (x.toUInt64 >>> (y.toInt64.toUInt64 &&& Int64.toUInt64 63)).toInt64
theorem xr_iadd {x y : Int32} (hf : xfind i pc = some (.iadd, 1, 0, 0, 0))  (hp : pc + 1 = pc') (kk : xrun top d i pc' ls (.inl (x + y) :: st) M res) : xrun top d i pc ls (.inl y :: .inl x :: st) M res := by
  subst hp
  exact xr_step hf (rfl) kk
theorem xr_isub {x y : Int32} (hf : xfind i pc = some (.isub, 1, 0, 0, 0))  (hp : pc + 1 = pc') (kk : xrun top d i pc' ls (.inl (x - y) :: st) M res) : xrun top d i pc ls (.inl y :: .inl x :: st) M res := by
  subst hp
  exact xr_step hf (rfl) kk
theorem xr_imul {x y : Int32} (hf : xfind i pc = some (.imul, 1, 0, 0, 0))  (hp : pc + 1 = pc') (kk : xrun top d i pc' ls (.inl (x * y) :: st) M res) : xrun top d i pc ls (.inl y :: .inl x :: st) M res := by
  subst hp
  exact xr_step hf (rfl) kk
theorem xr_iand {x y : Int32} (hf : xfind i pc = some (.iand, 1, 0, 0, 0))  (hp : pc + 1 = pc') (kk : xrun top d i pc' ls (.inl (x &&& y) :: st) M res) : xrun top d i pc ls (.inl y :: .inl x :: st) M res := by
  subst hp
  exact xr_step hf (rfl) kk
theorem xr_ior {x y : Int32} (hf : xfind i pc = some (.ior, 1, 0, 0, 0))  (hp : pc + 1 = pc') (kk : xrun top d i pc' ls (.inl (x ||| y) :: st) M res) : xrun top d i pc ls (.inl y :: .inl x :: st) M res := by
  subst hp
  exact xr_step hf (rfl) kk
theorem xr_ixor {x y : Int32} (hf : xfind i pc = some (.ixor, 1, 0, 0, 0))  (hp : pc + 1 = pc') (kk : xrun top d i pc' ls (.inl (x ^^^ y) :: st) M res) : xrun top d i pc ls (.inl y :: .inl x :: st) M res := by
  subst hp
  exact xr_step hf (rfl) kk
theorem xr_ishl {x y : Int32} (hf : xfind i pc = some (.ishl, 1, 0, 0, 0))  (hp : pc + 1 = pc') (kk : xrun top d i pc' ls (.inl (x <<< (y &&& 31)) :: st) M res) : xrun top d i pc ls (.inl y :: .inl x :: st) M res := by
  subst hp
  exact xr_step hf (rfl) kk
theorem xr_iushr {x y : Int32} (hf : xfind i pc = some (.iushr, 1, 0, 0, 0))  (hp : pc + 1 = pc') (kk : xrun top d i pc' ls (.inl (xushr x y) :: st) M res) : xrun top d i pc ls (.inl y :: .inl x :: st) M res := by
  subst hp
  exact xr_step hf (rfl) kk
theorem xr_ladd {x y : Int64} (hf : xfind i pc = some (.ladd, 1, 0, 0, 0))  (hp : pc + 1 = pc') (kk : xrun top d i pc' ls (.inr (.inl (x + y)) :: st) M res) : xrun top d i pc ls (.inr (.inl y) :: .inr (.inl x) :: st) M res := by
  subst hp
  exact xr_step hf (rfl) kk
theorem xr_lsub {x y : Int64} (hf : xfind i pc = some (.lsub, 1, 0, 0, 0))  (hp : pc + 1 = pc') (kk : xrun top d i pc' ls (.inr (.inl (x - y)) :: st) M res) : xrun top d i pc ls (.inr (.inl y) :: .inr (.inl x) :: st) M res := by
  subst hp
  exact xr_step hf (rfl) kk
theorem xr_lmul {x y : Int64} (hf : xfind i pc = some (.lmul, 1, 0, 0, 0))  (hp : pc + 1 = pc') (kk : xrun top d i pc' ls (.inr (.inl (x * y)) :: st) M res) : xrun top d i pc ls (.inr (.inl y) :: .inr (.inl x) :: st) M res := by
  subst hp
  exact xr_step hf (rfl) kk
theorem xr_land {x y : Int64} (hf : xfind i pc = some (.land, 1, 0, 0, 0))  (hp : pc + 1 = pc') (kk : xrun top d i pc' ls (.inr (.inl (x &&& y)) :: st) M res) : xrun top d i pc ls (.inr (.inl y) :: .inr (.inl x) :: st) M res := by
  subst hp
  exact xr_step hf (rfl) kk
theorem xr_lor {x y : Int64} (hf : xfind i pc = some (.lor, 1, 0, 0, 0))  (hp : pc + 1 = pc') (kk : xrun top d i pc' ls (.inr (.inl (x ||| y)) :: st) M res) : xrun top d i pc ls (.inr (.inl y) :: .inr (.inl x) :: st) M res := by
  subst hp
  exact xr_step hf (rfl) kk
theorem xr_lxor {x y : Int64} (hf : xfind i pc = some (.lxor, 1, 0, 0, 0))  (hp : pc + 1 = pc') (kk : xrun top d i pc' ls (.inr (.inl (x ^^^ y)) :: st) M res) : xrun top d i pc ls (.inr (.inl y) :: .inr (.inl x) :: st) M res := by
  subst hp
  exact xr_step hf (rfl) kk
theorem xr_idiv {x y : Int32} (hf : xfind i pc = some (.idiv, 1, 0, 0, 0)) (hy : ¬ y = 0) (hp : pc + 1 = pc') (kk : xrun top d i pc' ls (.inl (x / y) :: st) M res) : xrun top d i pc ls (.inl y :: .inl x :: st) M res := by
  subst hp
  exact xr_step hf (by unfold xstep; dsimp only; rw [if_neg hy]) kk
theorem xr_irem {x y : Int32} (hf : xfind i pc = some (.irem, 1, 0, 0, 0)) (hy : ¬ y = 0) (hp : pc + 1 = pc') (kk : xrun top d i pc' ls (.inl (x - x / y * y) :: st) M res) : xrun top d i pc ls (.inl y :: .inl x :: st) M res := by
  subst hp
  exact xr_step hf (by unfold xstep; dsimp only; rw [if_neg hy]) kk
theorem xr_lneg {x : Int64} (hf : xfind i pc = some (.lneg, 1, 0, 0, 0))  (hp : pc + 1 = pc') (kk : xrun top d i pc' ls (.inr (.inl (-x)) :: st) M res) : xrun top d i pc ls (.inr (.inl x) :: st) M res := by
  subst hp
  exact xr_step hf (rfl) kk
theorem xr_lshl {x : Int64} {y : Int32} (hf : xfind i pc = some (.lshl, 1, 0, 0, 0))  (hp : pc + 1 = pc') (kk : xrun top d i pc' ls (.inr (.inl (x <<< (y.toInt64 &&& 63))) :: st) M res) : xrun top d i pc ls (.inl y :: .inr (.inl x) :: st) M res := by
  subst hp
  exact xr_step hf (rfl) kk
theorem xr_lushr {x : Int64} {y : Int32} (hf : xfind i pc = some (.lushr, 1, 0, 0, 0))  (hp : pc + 1 = pc') (kk : xrun top d i pc' ls (.inr (.inl (xlushr x y)) :: st) M res) : xrun top d i pc ls (.inl y :: .inr (.inl x) :: st) M res := by
  subst hp
  exact xr_step hf (rfl) kk
theorem xr_i2l {x : Int32} (hf : xfind i pc = some (.i2l, 1, 0, 0, 0))  (hp : pc + 1 = pc') (kk : xrun top d i pc' ls (.inr (.inl x.toInt64) :: st) M res) : xrun top d i pc ls (.inl x :: st) M res := by
  subst hp
  exact xr_step hf (rfl) kk
theorem xr_l2i {x : Int64} (hf : xfind i pc = some (.l2i, 1, 0, 0, 0))  (hp : pc + 1 = pc') (kk : xrun top d i pc' ls (.inl x.toInt32 :: st) M res) : xrun top d i pc ls (.inr (.inl x) :: st) M res := by
  subst hp
  exact xr_step hf (rfl) kk
theorem xr_lcmp {x y : Int64} (hf : xfind i pc = some (.lcmp, 1, 0, 0, 0))  (hp : pc + 1 = pc') (kk : xrun top d i pc' ls (.inl (lg_cmp x y) :: st) M res) : xrun top d i pc ls (.inr (.inl y) :: .inr (.inl x) :: st) M res := by
  subst hp
  exact xr_step hf (rfl) kk
theorem xr_pop_i {x : Int32} (hf : xfind i pc = some (.pop, 1, 0, 0, 0))  (hp : pc + 1 = pc') (kk : xrun top d i pc' ls (st) M res) : xrun top d i pc ls (.inl x :: st) M res := by
  subst hp
  exact xr_step hf (rfl) kk
theorem xr_dup_i {x : Int32} (hf : xfind i pc = some (.dup, 1, 0, 0, 0))  (hp : pc + 1 = pc') (kk : xrun top d i pc' ls (.inl x :: .inl x :: st) M res) : xrun top d i pc ls (.inl x :: st) M res := by
  subst hp
  exact xr_step hf (rfl) kk
theorem xr_pop_a {x : Option xId} (hf : xfind i pc = some (.pop, 1, 0, 0, 0))  (hp : pc + 1 = pc') (kk : xrun top d i pc' ls (st) M res) : xrun top d i pc ls (.inr (.inr x) :: st) M res := by
  subst hp
  exact xr_step hf (rfl) kk
theorem xr_dup_a {x : Option xId} (hf : xfind i pc = some (.dup, 1, 0, 0, 0))  (hp : pc + 1 = pc') (kk : xrun top d i pc' ls (.inr (.inr x) :: .inr (.inr x) :: st) M res) : xrun top d i pc ls (.inr (.inr x) :: st) M res := by
  subst hp
  exact xr_step hf (rfl) kk
theorem xr_dup2_ia {x : Int32} {y : Option xId} (hf : xfind i pc = some (.dup2, 1, 0, 0, 0))  (hp : pc + 1 = pc') (kk : xrun top d i pc' ls (.inl x :: .inr (.inr y) :: .inl x :: .inr (.inr y) :: st) M res) : xrun top d i pc ls (.inl x :: .inr (.inr y) :: st) M res := by
  subst hp
  exact xr_step hf (rfl) kk
theorem xr_goto {o : Int} {t : Nat} (hf : xfind i pc = some (.goto o, 3, t, 0, 0))   (kk : xrun top d i t ls (st) M res) : xrun top d i pc ls (st) M res := by
  exact xr_step hf (rfl) kk
theorem xr_if_eq_t {o : Int} {t : Nat} {x : Int32} (hf : xfind i pc = some (.ifCond .eq o, 3, t, 0, 0)) (hc : x = 0)  (kk : xrun top d i t ls (st) M res) : xrun top d i pc ls (.inl x :: st) M res := by
  exact xr_step hf (by unfold xstep; dsimp only; rw [if_pos (show xcnd .eq _ _ = true from decide_eq_true hc)]) kk
theorem xr_if_eq_f {o : Int} {t : Nat} {x : Int32} (hf : xfind i pc = some (.ifCond .eq o, 3, t, 0, 0)) (hc : ¬ x = 0) (hp : pc + 3 = pc') (kk : xrun top d i pc' ls (st) M res) : xrun top d i pc ls (.inl x :: st) M res := by
  subst hp
  exact xr_step hf (by unfold xstep; dsimp only; rw [if_neg (show ¬ xcnd .eq _ _ = true from fun h => hc (of_decide_eq_true h))]) kk
theorem xr_icmp_eq_t {o : Int} {t : Nat} {x y : Int32} (hf : xfind i pc = some (.if_icmp .eq o, 3, t, 0, 0)) (hc : x = y)  (kk : xrun top d i t ls (st) M res) : xrun top d i pc ls (.inl y :: .inl x :: st) M res := by
  exact xr_step hf (by unfold xstep; dsimp only; rw [if_pos (show xcnd .eq _ _ = true from decide_eq_true hc)]) kk
theorem xr_icmp_eq_f {o : Int} {t : Nat} {x y : Int32} (hf : xfind i pc = some (.if_icmp .eq o, 3, t, 0, 0)) (hc : ¬ x = y) (hp : pc + 3 = pc') (kk : xrun top d i pc' ls (st) M res) : xrun top d i pc ls (.inl y :: .inl x :: st) M res := by
  subst hp
  exact xr_step hf (by unfold xstep; dsimp only; rw [if_neg (show ¬ xcnd .eq _ _ = true from fun h => hc (of_decide_eq_true h))]) kk
theorem xr_if_ne_t {o : Int} {t : Nat} {x : Int32} (hf : xfind i pc = some (.ifCond .ne o, 3, t, 0, 0)) (hc : ¬ x = 0)  (kk : xrun top d i t ls (st) M res) : xrun top d i pc ls (.inl x :: st) M res := by
  exact xr_step hf (by unfold xstep; dsimp only; rw [if_pos (show xcnd .ne _ _ = true by unfold xcnd; rw [decide_eq_false hc]; rfl)]) kk
theorem xr_if_ne_f {o : Int} {t : Nat} {x : Int32} (hf : xfind i pc = some (.ifCond .ne o, 3, t, 0, 0)) (hc : x = 0) (hp : pc + 3 = pc') (kk : xrun top d i pc' ls (st) M res) : xrun top d i pc ls (.inl x :: st) M res := by
  subst hp
  exact xr_step hf (by unfold xstep; dsimp only; rw [if_neg (show ¬ xcnd .ne _ _ = true by unfold xcnd; rw [decide_eq_true hc]; exact fun h => absurd (show (!true) = true from h) (by decide))]) kk
theorem xr_icmp_ne_t {o : Int} {t : Nat} {x y : Int32} (hf : xfind i pc = some (.if_icmp .ne o, 3, t, 0, 0)) (hc : ¬ x = y)  (kk : xrun top d i t ls (st) M res) : xrun top d i pc ls (.inl y :: .inl x :: st) M res := by
  exact xr_step hf (by unfold xstep; dsimp only; rw [if_pos (show xcnd .ne _ _ = true by unfold xcnd; rw [decide_eq_false hc]; rfl)]) kk
theorem xr_icmp_ne_f {o : Int} {t : Nat} {x y : Int32} (hf : xfind i pc = some (.if_icmp .ne o, 3, t, 0, 0)) (hc : x = y) (hp : pc + 3 = pc') (kk : xrun top d i pc' ls (st) M res) : xrun top d i pc ls (.inl y :: .inl x :: st) M res := by
  subst hp
  exact xr_step hf (by unfold xstep; dsimp only; rw [if_neg (show ¬ xcnd .ne _ _ = true by unfold xcnd; rw [decide_eq_true hc]; exact fun h => absurd (show (!true) = true from h) (by decide))]) kk
theorem xr_if_lt_t {o : Int} {t : Nat} {x : Int32} (hf : xfind i pc = some (.ifCond .lt o, 3, t, 0, 0)) (hc : x < 0)  (kk : xrun top d i t ls (st) M res) : xrun top d i pc ls (.inl x :: st) M res := by
  exact xr_step hf (by unfold xstep; dsimp only; rw [if_pos (show xcnd .lt _ _ = true from decide_eq_true hc)]) kk
theorem xr_if_lt_f {o : Int} {t : Nat} {x : Int32} (hf : xfind i pc = some (.ifCond .lt o, 3, t, 0, 0)) (hc : ¬ x < 0) (hp : pc + 3 = pc') (kk : xrun top d i pc' ls (st) M res) : xrun top d i pc ls (.inl x :: st) M res := by
  subst hp
  exact xr_step hf (by unfold xstep; dsimp only; rw [if_neg (show ¬ xcnd .lt _ _ = true from fun h => hc (of_decide_eq_true h))]) kk
theorem xr_icmp_lt_t {o : Int} {t : Nat} {x y : Int32} (hf : xfind i pc = some (.if_icmp .lt o, 3, t, 0, 0)) (hc : x < y)  (kk : xrun top d i t ls (st) M res) : xrun top d i pc ls (.inl y :: .inl x :: st) M res := by
  exact xr_step hf (by unfold xstep; dsimp only; rw [if_pos (show xcnd .lt _ _ = true from decide_eq_true hc)]) kk
theorem xr_icmp_lt_f {o : Int} {t : Nat} {x y : Int32} (hf : xfind i pc = some (.if_icmp .lt o, 3, t, 0, 0)) (hc : ¬ x < y) (hp : pc + 3 = pc') (kk : xrun top d i pc' ls (st) M res) : xrun top d i pc ls (.inl y :: .inl x :: st) M res := by
  subst hp
  exact xr_step hf (by unfold xstep; dsimp only; rw [if_neg (show ¬ xcnd .lt _ _ = true from fun h => hc (of_decide_eq_true h))]) kk
theorem xr_if_ge_t {o : Int} {t : Nat} {x : Int32} (hf : xfind i pc = some (.ifCond .ge o, 3, t, 0, 0)) (hc : 0 ≤ x)  (kk : xrun top d i t ls (st) M res) : xrun top d i pc ls (.inl x :: st) M res := by
  exact xr_step hf (by unfold xstep; dsimp only; rw [if_pos (show xcnd .ge _ _ = true from decide_eq_true hc)]) kk
theorem xr_if_ge_f {o : Int} {t : Nat} {x : Int32} (hf : xfind i pc = some (.ifCond .ge o, 3, t, 0, 0)) (hc : ¬ 0 ≤ x) (hp : pc + 3 = pc') (kk : xrun top d i pc' ls (st) M res) : xrun top d i pc ls (.inl x :: st) M res := by
  subst hp
  exact xr_step hf (by unfold xstep; dsimp only; rw [if_neg (show ¬ xcnd .ge _ _ = true from fun h => hc (of_decide_eq_true h))]) kk
theorem xr_icmp_ge_t {o : Int} {t : Nat} {x y : Int32} (hf : xfind i pc = some (.if_icmp .ge o, 3, t, 0, 0)) (hc : y ≤ x)  (kk : xrun top d i t ls (st) M res) : xrun top d i pc ls (.inl y :: .inl x :: st) M res := by
  exact xr_step hf (by unfold xstep; dsimp only; rw [if_pos (show xcnd .ge _ _ = true from decide_eq_true hc)]) kk
theorem xr_icmp_ge_f {o : Int} {t : Nat} {x y : Int32} (hf : xfind i pc = some (.if_icmp .ge o, 3, t, 0, 0)) (hc : ¬ y ≤ x) (hp : pc + 3 = pc') (kk : xrun top d i pc' ls (st) M res) : xrun top d i pc ls (.inl y :: .inl x :: st) M res := by
  subst hp
  exact xr_step hf (by unfold xstep; dsimp only; rw [if_neg (show ¬ xcnd .ge _ _ = true from fun h => hc (of_decide_eq_true h))]) kk
theorem xr_if_gt_t {o : Int} {t : Nat} {x : Int32} (hf : xfind i pc = some (.ifCond .gt o, 3, t, 0, 0)) (hc : 0 < x)  (kk : xrun top d i t ls (st) M res) : xrun top d i pc ls (.inl x :: st) M res := by
  exact xr_step hf (by unfold xstep; dsimp only; rw [if_pos (show xcnd .gt _ _ = true from decide_eq_true hc)]) kk
theorem xr_if_gt_f {o : Int} {t : Nat} {x : Int32} (hf : xfind i pc = some (.ifCond .gt o, 3, t, 0, 0)) (hc : ¬ 0 < x) (hp : pc + 3 = pc') (kk : xrun top d i pc' ls (st) M res) : xrun top d i pc ls (.inl x :: st) M res := by
  subst hp
  exact xr_step hf (by unfold xstep; dsimp only; rw [if_neg (show ¬ xcnd .gt _ _ = true from fun h => hc (of_decide_eq_true h))]) kk
theorem xr_icmp_gt_t {o : Int} {t : Nat} {x y : Int32} (hf : xfind i pc = some (.if_icmp .gt o, 3, t, 0, 0)) (hc : y < x)  (kk : xrun top d i t ls (st) M res) : xrun top d i pc ls (.inl y :: .inl x :: st) M res := by
  exact xr_step hf (by unfold xstep; dsimp only; rw [if_pos (show xcnd .gt _ _ = true from decide_eq_true hc)]) kk
theorem xr_icmp_gt_f {o : Int} {t : Nat} {x y : Int32} (hf : xfind i pc = some (.if_icmp .gt o, 3, t, 0, 0)) (hc : ¬ y < x) (hp : pc + 3 = pc') (kk : xrun top d i pc' ls (st) M res) : xrun top d i pc ls (.inl y :: .inl x :: st) M res := by
  subst hp
  exact xr_step hf (by unfold xstep; dsimp only; rw [if_neg (show ¬ xcnd .gt _ _ = true from fun h => hc (of_decide_eq_true h))]) kk
theorem xr_if_le_t {o : Int} {t : Nat} {x : Int32} (hf : xfind i pc = some (.ifCond .le o, 3, t, 0, 0)) (hc : x ≤ 0)  (kk : xrun top d i t ls (st) M res) : xrun top d i pc ls (.inl x :: st) M res := by
  exact xr_step hf (by unfold xstep; dsimp only; rw [if_pos (show xcnd .le _ _ = true from decide_eq_true hc)]) kk
theorem xr_if_le_f {o : Int} {t : Nat} {x : Int32} (hf : xfind i pc = some (.ifCond .le o, 3, t, 0, 0)) (hc : ¬ x ≤ 0) (hp : pc + 3 = pc') (kk : xrun top d i pc' ls (st) M res) : xrun top d i pc ls (.inl x :: st) M res := by
  subst hp
  exact xr_step hf (by unfold xstep; dsimp only; rw [if_neg (show ¬ xcnd .le _ _ = true from fun h => hc (of_decide_eq_true h))]) kk
theorem xr_icmp_le_t {o : Int} {t : Nat} {x y : Int32} (hf : xfind i pc = some (.if_icmp .le o, 3, t, 0, 0)) (hc : x ≤ y)  (kk : xrun top d i t ls (st) M res) : xrun top d i pc ls (.inl y :: .inl x :: st) M res := by
  exact xr_step hf (by unfold xstep; dsimp only; rw [if_pos (show xcnd .le _ _ = true from decide_eq_true hc)]) kk
theorem xr_icmp_le_f {o : Int} {t : Nat} {x y : Int32} (hf : xfind i pc = some (.if_icmp .le o, 3, t, 0, 0)) (hc : ¬ x ≤ y) (hp : pc + 3 = pc') (kk : xrun top d i pc' ls (st) M res) : xrun top d i pc ls (.inl y :: .inl x :: st) M res := by
  subst hp
  exact xr_step hf (by unfold xstep; dsimp only; rw [if_neg (show ¬ xcnd .le _ _ = true from fun h => hc (of_decide_eq_true h))]) kk
theorem xr_ifnull_n {o : Int} {t : Nat} {x : Option xId} (hf : xfind i pc = some (.ifnull o, 3, t, 0, 0)) (hc : x = none)  (kk : xrun top d i t ls (st) M res) : xrun top d i pc ls (.inr (.inr x) :: st) M res := by
  subst hc
  exact xr_step hf (rfl) kk
theorem xr_ifnull_s {o : Int} {t : Nat} {x : Option xId} (hf : xfind i pc = some (.ifnull o, 3, t, 0, 0)) (hc : ¬ x = none) (hp : pc + 3 = pc') (kk : xrun top d i pc' ls (st) M res) : xrun top d i pc ls (.inr (.inr x) :: st) M res := by
  subst hp
  obtain ⟨z, rfl⟩ : ∃ z, x = some z := by cases x with | none => exact absurd rfl hc | some z => exact ⟨z, rfl⟩
  exact xr_step hf (rfl) kk
theorem xr_ifnonnull_n {o : Int} {t : Nat} {x : Option xId} (hf : xfind i pc = some (.ifnonnull o, 3, t, 0, 0)) (hc : x = none) (hp : pc + 3 = pc') (kk : xrun top d i pc' ls (st) M res) : xrun top d i pc ls (.inr (.inr x) :: st) M res := by
  subst hp
  subst hc
  exact xr_step hf (rfl) kk
theorem xr_ifnonnull_s {o : Int} {t : Nat} {x : Option xId} (hf : xfind i pc = some (.ifnonnull o, 3, t, 0, 0)) (hc : ¬ x = none)  (kk : xrun top d i t ls (st) M res) : xrun top d i pc ls (.inr (.inr x) :: st) M res := by
  obtain ⟨z, rfl⟩ : ∃ z, x = some z := by cases x with | none => exact absurd rfl hc | some z => exact ⟨z, rfl⟩
  exact xr_step hf (rfl) kk
theorem xr_tsw_in {df lo hi off : Int} {offs : Array Int} {len t : Nat} {x : Int32} (hf : xfind i pc = some (.tableswitch df lo hi offs, len, 0, 0, 0)) (h1 : ¬ (x.toInt < lo ∨ hi < x.toInt)) (h2 : offs[(x.toInt - lo).toNat]? = some off) (ht : ((pc : Int) + off).toNat = t) (kk : xrun top d i t ls st M res) : xrun top d i pc ls (.inl x :: st) M res := by
  subst ht
  exact xr_step hf (by unfold xstep; dsimp only; rw [if_neg h1, h2]) kk
theorem xr_tsw_out {df lo hi : Int} {offs : Array Int} {len t : Nat} {x : Int32} (hf : xfind i pc = some (.tableswitch df lo hi offs, len, 0, 0, 0)) (h1 : x.toInt < lo ∨ hi < x.toInt) (ht : ((pc : Int) + df).toNat = t) (kk : xrun top d i t ls st M res) : xrun top d i pc ls (.inl x :: st) M res := by
  subst ht
  exact xr_step hf (by unfold xstep; dsimp only; rw [if_pos h1]) kk
theorem xr_lsw {df off : Int} {ps : Array (Int × Int)} {len t : Nat} {x : Int32} (hf : xfind i pc = some (.lookupswitch df ps, len, 0, 0, 0)) (h1 : Op.lookupswitch.offset ps.toList df x.toInt = off) (ht : ((pc : Int) + off).toNat = t) (kk : xrun top d i t ls st M res) : xrun top d i pc ls (.inl x :: st) M res := by
  subst ht
  subst h1
  exact xr_step hf rfl kk
theorem xbind {α β : Type} {a : Option α} {f : α → Option β} {r : β} (h : a.bind f = some r) : ∃ v, a = some v ∧ f v = some r := Option.bind_eq_some_iff.mp h
theorem xsome1 {α : Type} {a r : α} (h : some a = some r) : a = r := Option.some.inj h
theorem xsome2 {α β : Type} {a r : α} {M M' : β} (h : some (a, M) = some (r, M')) : a = r ∧ M = M' := Prod.mk.inj (Option.some.inj h)
theorem xite {c : Prop} {α : Type} {hd : Decidable c} {a b : Option α} {r : α} (h : (@ite _ c hd a b) = some r) : (c ∧ a = some r) ∨ (¬ c ∧ b = some r) := by
  by_cases hc : c
  · rw [if_pos hc] at h; exact Or.inl ⟨hc, h⟩
  · rw [if_neg hc] at h; exact Or.inr ⟨hc, h⟩
/-! reads and writes that fault -/
def xgI (M : xMem) (r : Option xId) (c k : Nat) : Option Int32 := (xob M r c).bind fun a => some (M.1 a k)
def xgL (M : xMem) (r : Option xId) (c k : Nat) : Option Int64 := (xob M r c).bind fun a => some (M.2.1 a k)
def xgR (M : xMem) (r : Option xId) (c k : Nat) : Option (Option xId) := (xob M r c).bind fun a => some (M.2.2.1 a k)
def xpI (M : xMem) (r : Option xId) (c k : Nat) (v : Int32) : Option xMem := (xob M r c).bind fun a => some (xsi M a k v)
def xpL (M : xMem) (r : Option xId) (c k : Nat) (v : Int64) : Option xMem := (xob M r c).bind fun a => some (xsl M a k v)
def xpR (M : xMem) (r : Option xId) (c k : Nat) (v : Option xId) : Option xMem := (xob M r c).bind fun a => some (xsr M a k v)
def xpZ (M : xMem) (r : Option xId) (c k : Nat) (v : Int32) : Option xMem := (xob M r c).bind fun a => if v = 0 ∨ v = 1 then some (xsi M a k v) else none
def xaI (M : xMem) (r : Option xId) (i : Int32) : Option Int32 := (xar M r 20 i).bind fun a => some (M.1 a i.toNatClampNeg)
def xaZ (M : xMem) (r : Option xId) (i : Int32) : Option Int32 := (xar M r 22 i).bind fun a => some (M.1 a i.toNatClampNeg)
def xaL (M : xMem) (r : Option xId) (i : Int32) : Option Int64 := (xar M r 21 i).bind fun a => some (M.2.1 a i.toNatClampNeg)
def xaR (M : xMem) (t : Nat) (r : Option xId) (i : Int32) : Option (Option xId) := (xar M r t i).bind fun a => some (M.2.2.1 a i.toNatClampNeg)
def xuI (M : xMem) (r : Option xId) (i v : Int32) : Option xMem := (xar M r 20 i).bind fun a => some (xsi M a i.toNatClampNeg v)
def xuZ (M : xMem) (r : Option xId) (i v : Int32) : Option xMem := (xar M r 22 i).bind fun a => some (xsi M a i.toNatClampNeg (vp_nar .boolean v))
def xuL (M : xMem) (r : Option xId) (i : Int32) (v : Int64) : Option xMem := (xar M r 21 i).bind fun a => some (xsl M a i.toNatClampNeg v)
def xal (M : xMem) (r : Option xId) : Option Int32 := match r with
  | none => none
  | some a => match xsh a with
    | some q => if 20 ≤ q.1 ∧ q.1 ≤ 22 ∧ xnum a < M.2.2.2.1 then some (Int32.ofNat q.2) else none
    | none => none
def xcpy (M : xMem) (k dp sp : Int32) (q a : Option xId) : Option xMem := match q, a with
  | some q, some a => xcopy M k dp sp q a
  | _, _ => none
theorem xgf_I {r : Option xId} {c k : Nat} {v : Int32} (ht : xft c k = 0 ∨ xft c k = 3) (h : xgI M r c k = some v) : xgf M r c k = some (.inl v) := by
  obtain ⟨a, h1, h2⟩ := xbind h
  cases h2
  unfold xgf
  rw [h1]
  rcases ht with ht | ht <;> rw [ht] <;> rfl
theorem xgf_L {r : Option xId} {c k : Nat} {v : Int64} (ht : xft c k = 1) (h : xgL M r c k = some v) : xgf M r c k = some (.inr (.inl v)) := by
  obtain ⟨a, h1, h2⟩ := xbind h
  cases h2
  unfold xgf
  rw [h1, ht]
  rfl
theorem xgf_R {r : Option xId} {c k : Nat} {v : Option xId} (ht : xft c k = 2) (h : xgR M r c k = some v) : xgf M r c k = some (.inr (.inr v)) := by
  obtain ⟨a, h1, h2⟩ := xbind h
  cases h2
  unfold xgf
  rw [h1, ht]
  rfl
theorem xr_getI {idx c k pl : Nat} {r : Option xId} {v : Int32} (hf : xfind i pc = some (.getfield idx, 3, c, k, pl)) (ht : xft c k = 0 ∨ xft c k = 3) (hv : xgI M r c k = some v) (hp : pc + 3 = pc') (kk : xrun top d i pc' ls (.inl v :: st) M res) : xrun top d i pc ls (.inr (.inr r) :: st) M res := by
  subst hp
  exact xr_step hf (by unfold xstep; dsimp only; rw [xgf_I ht hv, Option.bind_some]) kk
theorem xr_getL {idx c k pl : Nat} {r : Option xId} {v : Int64} (hf : xfind i pc = some (.getfield idx, 3, c, k, pl)) (ht : xft c k = 1) (hv : xgL M r c k = some v) (hp : pc + 3 = pc') (kk : xrun top d i pc' ls (.inr (.inl v) :: st) M res) : xrun top d i pc ls (.inr (.inr r) :: st) M res := by
  subst hp
  exact xr_step hf (by unfold xstep; dsimp only; rw [xgf_L ht hv, Option.bind_some]) kk
theorem xr_getR {idx c k pl : Nat} {r v : Option xId} (hf : xfind i pc = some (.getfield idx, 3, c, k, pl)) (ht : xft c k = 2) (hv : xgR M r c k = some v) (hp : pc + 3 = pc') (kk : xrun top d i pc' ls (.inr (.inr v) :: st) M res) : xrun top d i pc ls (.inr (.inr r) :: st) M res := by
  subst hp
  exact xr_step hf (by unfold xstep; dsimp only; rw [xgf_R ht hv, Option.bind_some]) kk
theorem xr_putI {idx c k pl : Nat} {r : Option xId} {v : Int32} (hf : xfind i pc = some (.putfield idx, 3, c, k, pl)) (ht : xft c k = 0) (hv : xpI M r c k v = some M1) (hp : pc + 3 = pc') (kk : xrun top d i pc' ls st M1 res) : xrun top d i pc ls (.inl v :: .inr (.inr r) :: st) M res := by
  subst hp
  obtain ⟨a, h1, h2⟩ := xbind hv
  cases h2
  exact xr_step hf (by unfold xstep; dsimp only; unfold xpf; rw [h1, ht]; rfl) kk
theorem xr_putZ {idx c k pl : Nat} {r : Option xId} {v : Int32} (hf : xfind i pc = some (.putfield idx, 3, c, k, pl)) (ht : xft c k = 3) (hv : xpZ M r c k v = some M1) (hp : pc + 3 = pc') (kk : xrun top d i pc' ls st M1 res) : xrun top d i pc ls (.inl v :: .inr (.inr r) :: st) M res := by
  subst hp
  obtain ⟨a, h1, h2⟩ := xbind hv
  rcases xite h2 with ⟨hc, h2⟩ | ⟨-, h2⟩
  · cases h2
    exact xr_step hf (by unfold xstep; dsimp only; unfold xpf; rw [h1, ht]; show (if v = 0 ∨ v = 1 then some (xsi M a k v) else none).bind _ = _; rw [if_pos hc]; rfl) kk
  · cases h2
theorem xr_putL {idx c k pl : Nat} {r : Option xId} {v : Int64} (hf : xfind i pc = some (.putfield idx, 3, c, k, pl)) (ht : xft c k = 1) (hv : xpL M r c k v = some M1) (hp : pc + 3 = pc') (kk : xrun top d i pc' ls st M1 res) : xrun top d i pc ls (.inr (.inl v) :: .inr (.inr r) :: st) M res := by
  subst hp
  obtain ⟨a, h1, h2⟩ := xbind hv
  cases h2
  exact xr_step hf (by unfold xstep; dsimp only; unfold xpf; rw [h1, ht]; rfl) kk
theorem xr_putR {idx c k pl : Nat} {r v : Option xId} (hf : xfind i pc = some (.putfield idx, 3, c, k, pl)) (ht : xft c k = 2) (hv : xpR M r c k v = some M1) (hp : pc + 3 = pc') (kk : xrun top d i pc' ls st M1 res) : xrun top d i pc ls (.inr (.inr v) :: .inr (.inr r) :: st) M res := by
  subst hp
  obtain ⟨a, h1, h2⟩ := xbind hv
  cases h2
  exact xr_step hf (by unfold xstep; dsimp only; unfold xpf; rw [h1, ht]; rfl) kk
theorem xar_99 {r : Option xId} {t : Nat} {i : Int32} {a : xId} (h : xar M r t i = some a) : r = some a ∧ ¬ a.1 = 99 := by
  obtain ⟨h1, n, h2, -⟩ := xar_spec h
  refine ⟨h1, fun h9 => ?_⟩
  unfold xsh at h2
  rw [h9, if_neg (fun z => absurd z.1 (Nat.not_lt_zero _))] at h2
  cases h2
theorem xr_aI {r : Option xId} {j v : Int32} (hf : xfind i pc = some (.iaload, 1, 0, 0, 0)) (hv : xaI M r j = some v) (hp : pc + 1 = pc') (kk : xrun top d i pc' ls (.inl v :: st) M res) : xrun top d i pc ls (.inl j :: .inr (.inr r) :: st) M res := by
  subst hp
  obtain ⟨a, h1, h2⟩ := xbind hv
  cases h2
  obtain ⟨rfl, h9⟩ := xar_99 h1
  exact xr_step hf (by unfold xstep; dsimp only; rw [if_neg h9, h1, Option.bind_some]) kk
theorem xr_aZ {r : Option xId} {j v : Int32} (hf : xfind i pc = some (.baload, 1, 0, 0, 0)) (hv : xaZ M r j = some v) (hp : pc + 1 = pc') (kk : xrun top d i pc' ls (.inl v :: st) M res) : xrun top d i pc ls (.inl j :: .inr (.inr r) :: st) M res := by
  subst hp
  obtain ⟨a, h1, h2⟩ := xbind hv
  cases h2
  exact xr_step hf (by unfold xstep; dsimp only; rw [h1, Option.bind_some]) kk
theorem xr_aL {r : Option xId} {j : Int32} {v : Int64} (hf : xfind i pc = some (.laload, 1, 0, 0, 0)) (hv : xaL M r j = some v) (hp : pc + 1 = pc') (kk : xrun top d i pc' ls (.inr (.inl v) :: st) M res) : xrun top d i pc ls (.inl j :: .inr (.inr r) :: st) M res := by
  subst hp
  obtain ⟨a, h1, h2⟩ := xbind hv
  cases h2
  exact xr_step hf (by unfold xstep; dsimp only; rw [h1, Option.bind_some]) kk
theorem xr_aR {t u : Nat} {r v : Option xId} {j : Int32} (hf : xfind i pc = some (.aaload, 1, t, u, 0)) (hv : xaR M t r j = some v) (hp : pc + 1 = pc') (kk : xrun top d i pc' ls (.inr (.inr v) :: st) M res) : xrun top d i pc ls (.inl j :: .inr (.inr r) :: st) M res := by
  subst hp
  obtain ⟨a, h1, h2⟩ := xbind hv
  cases h2
  exact xr_step hf (by unfold xstep; dsimp only; rw [h1, Option.bind_some]) kk
theorem xr_uI {r : Option xId} {j v : Int32} (hf : xfind i pc = some (.iastore, 1, 0, 0, 0)) (hv : xuI M r j v = some M1) (hp : pc + 1 = pc') (kk : xrun top d i pc' ls st M1 res) : xrun top d i pc ls (.inl v :: .inl j :: .inr (.inr r) :: st) M res := by
  subst hp
  obtain ⟨a, h1, h2⟩ := xbind hv
  cases h2
  exact xr_step hf (by unfold xstep; dsimp only; rw [h1, Option.bind_some]) kk
theorem xr_uZ {r : Option xId} {j v : Int32} (hf : xfind i pc = some (.bastore, 1, 0, 0, 0)) (hv : xuZ M r j v = some M1) (hp : pc + 1 = pc') (kk : xrun top d i pc' ls st M1 res) : xrun top d i pc ls (.inl v :: .inl j :: .inr (.inr r) :: st) M res := by
  subst hp
  obtain ⟨a, h1, h2⟩ := xbind hv
  cases h2
  exact xr_step hf (by unfold xstep; dsimp only; rw [h1, Option.bind_some]) kk
theorem xr_uL {r : Option xId} {j : Int32} {v : Int64} (hf : xfind i pc = some (.lastore, 1, 0, 0, 0)) (hv : xuL M r j v = some M1) (hp : pc + 1 = pc') (kk : xrun top d i pc' ls st M1 res) : xrun top d i pc ls (.inr (.inl v) :: .inl j :: .inr (.inr r) :: st) M res := by
  subst hp
  obtain ⟨a, h1, h2⟩ := xbind hv
  cases h2
  exact xr_step hf (by unfold xstep; dsimp only; rw [h1, Option.bind_some]) kk
theorem xr_alen {r : Option xId} {v : Int32} (hf : xfind i pc = some (.arraylength, 1, 0, 0, 0)) (hv : xal M r = some v) (hp : pc + 1 = pc') (kk : xrun top d i pc' ls (.inl v :: st) M res) : xrun top d i pc ls (.inr (.inr r) :: st) M res := by
  subst hp
  unfold xal at hv
  split at hv
  next => cases hv
  next a =>
    split at hv
    next q hq =>
      split at hv
      next hc =>
        cases hv
        have h9 : ¬ a.1 = 99 := fun h9 => by
          unfold xsh at hq
          rw [h9, if_neg (fun z => absurd z.1 (Nat.not_lt_zero _))] at hq
          cases hq
        exact xr_step hf (by unfold xstep; dsimp only; rw [if_neg h9, hq]; dsimp only; rw [if_pos hc]) kk
      next => cases hv
    next => cases hv
/-! the law's script -/
def xsc (L : Nat) (xs : Nat → Int32) (i : Int32) : Option Int32 := if xinR i L then some (xs i.toNatClampNeg) else none
theorem xr_sld {L : Nat} {xs : Nat → Int32} {j v : Int32} (hf : xfind i pc = some (.iaload, 1, 0, 0, 0)) (hv : xsc L xs j = some v) (hp : pc + 1 = pc') (kk : xrun (some (L, xs)) d i pc' ls (.inl v :: st) M res) : xrun (some (L, xs)) d i pc ls (.inl j :: .inr (.inr (some (99, 0, 0))) :: st) M res := by
  subst hp
  unfold xsc at hv
  split at hv
  next hc => cases hv; exact xr_step hf (by unfold xstep; dsimp only; rw [if_pos rfl, if_pos ⟨hc, rfl⟩]) kk
  next => cases hv
theorem xr_slen {L : Nat} {xs : Nat → Int32} (hf : xfind i pc = some (.arraylength, 1, 0, 0, 0)) (hp : pc + 1 = pc') (kk : xrun (some (L, xs)) d i pc' ls (.inl (Int32.ofNat L) :: st) M res) : xrun (some (L, xs)) d i pc ls (.inr (.inr (some (99, 0, 0))) :: st) M res := by
  subst hp
  exact xr_step hf (by unfold xstep; dsimp only; rw [if_pos rfl, if_pos rfl]) kk
/-! calls -/
theorem xexec_call {en : xE} {vs rest : List xVal} {d' n1 n2 : Nat} {r1 : Option xVal} (hpr : xprep en st M = some (vs, rest)) (hil : (xinit (xL en.2.2.1) vs).length = xL en.2.2.1) (hd : d' + 1 ≤ d) (hc : xexec n1 d' none en.2.2.1 0 (xinit (xL en.2.2.1) vs) [] M = some (r1, M1)) (kk : xexec n2 d top i (pc + 3) ls (xtl r1 rest) M1 = some res) :
    xcall (fun d' j vs M' => xexec (n1 + n2) d' none j 0 (xinit (xL j) vs) [] M') (fun st' M' => xexec (n1 + n2) d top i (pc + 3) ls st' M') d en st M = some res := by
  obtain ⟨d2, rfl⟩ : ∃ k, d = k + 1 := ⟨d - 1, by omega⟩
  unfold xcall
  rw [hpr, Option.bind_some]
  dsimp only
  rw [if_pos hil, xexec_mono _ _ _ _ _ _ _ _ _ hc (n1 + n2) d2 (by omega) (by omega), Option.bind_some]
  exact xexec_mono _ _ _ _ _ _ _ _ _ kk (n1 + n2) (d2 + 1) (by omega) (Nat.le_refl _)
theorem xr_callS {idx j b pl m : Nat} {As rest : List xVal} {d' : Nat} {r1 : Option xVal} (hf : xfind i pc = some (.invokestatic idx, 3, j, b, pl)) (hj : j ≠ 9998 ∧ j ≠ 9996 ∧ j ≠ 9997) (hm : xL j = m) (hb : As.length = b % 100) (hcat : (rest.map xcat).sum ≤ 8) (hil : (xinit m As.reverse).length = m) (hd : d' + 1 ≤ d)
    (hc : xrun none d' j 0 (xinit m As.reverse) [] M (r1, M1)) (hp : pc + 3 = pc') (kk : xrun top d i pc' ls (xtl r1 rest) M1 res) : xrun top d i pc ls (As ++ rest) M res := by
  subst hp
  subst hm
  obtain ⟨n1, hc⟩ := hc
  obtain ⟨n2, kk⟩ := kk
  refine ⟨n1 + n2 + 1, ?_⟩
  unfold xexec
  rw [hf]
  dsimp only
  rw [if_neg hj.1, if_neg hj.2.1, if_neg hj.2.2]
  refine xexec_call (vs := As.reverse) (rest := rest) ?_ hil hd hc kk
  unfold xprep
  dsimp only
  rw [← hb, if_pos ⟨by rw [List.length_append]; omega, by rw [List.drop_left' rfl]; exact hcat⟩, List.take_left' rfl, List.drop_left' rfl]
theorem xr_callV {idx j b pl m C : Nat} {As rest : List xVal} {d' : Nat} {r1 : Option xVal} {r : Option xId} {a : xId} (hf : xfind i pc = some (.invokevirtual idx, 3, j, b, pl)) (ha : xob M r C = some a) (hC : (xcl[C]?).map (fun r => r.1) = some (xY j).cls) (hm : xL j = m) (hb : As.length = b % 100) (hcat : (rest.map xcat).sum ≤ 8) (hil : (xinit m (.inr (.inr (some a)) :: As.reverse)).length = m) (hd : d' + 1 ≤ d)
    (hc : xrun none d' j 0 (xinit m (.inr (.inr (some a)) :: As.reverse)) [] M (r1, M1)) (hp : pc + 3 = pc') (kk : xrun top d i pc' ls (xtl r1 rest) M1 res) : xrun top d i pc ls (As ++ .inr (.inr r) :: rest) M res := by
  subst hp
  subst hm
  obtain ⟨rfl, n, hsh, hlt⟩ := xob_spec ha
  obtain ⟨n1, hc⟩ := hc
  obtain ⟨n2, kk⟩ := kk
  refine ⟨n1 + n2 + 1, ?_⟩
  unfold xexec
  rw [hf]
  dsimp only
  refine xexec_call (vs := .inr (.inr (some a)) :: As.reverse) (rest := rest) ?_ hil hd hc kk
  unfold xprep
  dsimp only
  have e1 : (As ++ .inr (.inr (some a)) :: rest).take (As.length + 1) = As ++ [.inr (.inr (some a))] := by
    rw [List.take_append, List.take_of_length_le (by omega), show As.length + 1 - As.length = 1 by omega]; rfl
  have e2 : (As ++ .inr (.inr (some a)) :: rest).drop (As.length + 1) = rest := by
    rw [List.drop_append]; simp
  have e3 : (As ++ Sum.inr (Sum.inr (some a)) :: rest)[As.length]? = some (.inr (.inr (some a))) := by
    rw [List.getElem?_append_right (Nat.le_refl _), Nat.sub_self]; rfl
  rw [← hb, if_pos ⟨by rw [List.length_append, List.length_cons]; omega, by rw [e2]; exact hcat⟩, e3]
  dsimp only
  rw [hsh]
  dsimp only
  rw [if_pos ⟨hC, hlt⟩, e1, e2, List.reverse_append]
  rfl
theorem xr_copy {idx pl : Nat} {k dp sp : Int32} {q a : Option xId} (hf : xfind i pc = some (.invokestatic idx, 3, 9998, 5, pl)) (hv : xcpy M k dp sp q a = some M1) (hcat : (st.map xcat).sum ≤ 8) (hd : 1 ≤ d) (hp : pc + 3 = pc') (kk : xrun top d i pc' ls st M1 res) : xrun top d i pc ls (.inl k :: .inl dp :: .inr (.inr q) :: .inl sp :: .inr (.inr a) :: st) M res := by
  subst hp
  unfold xcpy at hv
  split at hv
  next q a =>
    obtain ⟨n, hn⟩ := kk
    refine ⟨n + 1, ?_⟩
    unfold xexec
    rw [hf]
    dsimp only
    rw [if_pos rfl, if_pos ⟨hcat, hd⟩, hv, Option.bind_some]
    exact hn
  next => cases hv
theorem xr_min {idx b pl : Nat} {x y : Int32} (hf : xfind i pc = some (.invokestatic idx, 3, 9996, b, pl)) (hcat : (st.map xcat).sum ≤ 8) (hd : 1 ≤ d) (hp : pc + 3 = pc') (kk : xrun top d i pc' ls (.inl (if y < x then y else x) :: st) M res) : xrun top d i pc ls (.inl y :: .inl x :: st) M res := by
  subst hp
  obtain ⟨n, hn⟩ := kk
  refine ⟨n + 1, ?_⟩
  unfold xexec
  rw [hf]
  dsimp only
  rw [if_neg (by decide), if_pos rfl, if_pos ⟨hcat, hd⟩]
  exact hn
theorem xr_max {idx b pl : Nat} {x y : Int32} (hf : xfind i pc = some (.invokestatic idx, 3, 9997, b, pl)) (hcat : (st.map xcat).sum ≤ 8) (hd : 1 ≤ d) (hp : pc + 3 = pc') (kk : xrun top d i pc' ls (.inl (if x < y then y else x) :: st) M res) : xrun top d i pc ls (.inl y :: .inl x :: st) M res := by
  subst hp
  obtain ⟨n, hn⟩ := kk
  refine ⟨n + 1, ?_⟩
  unfold xexec
  rw [hf]
  dsimp only
  rw [if_neg (by decide), if_neg (by decide), if_pos rfl, if_pos ⟨hcat, hd⟩]
  exact hn
/-! ends -/
theorem xr_iret {v : Int32} (hf : xfind i pc = some (.ireturn, 1, 0, 0, 0)) (hR : xR i = some .int) : xrun top d i pc ls [.inl v] M (some (.inl v), M) := by
  refine ⟨1, ?_⟩
  unfold xexec
  rw [hf]
  dsimp only
  unfold xret
  dsimp only
  rw [hR]
  rfl
theorem xr_zret {v : Int32} (hf : xfind i pc = some (.ireturn, 1, 0, 0, 0)) (hR : xR i = some .boolean) (hv : v = 0 ∨ v = 1) : xrun top d i pc ls [.inl v] M (some (.inl v), M) := by
  refine ⟨1, ?_⟩
  unfold xexec
  rw [hf]
  dsimp only
  unfold xret
  dsimp only
  rw [hR]
  dsimp only
  rw [if_pos hv]
  rfl
theorem xr_lret {v : Int64} (hf : xfind i pc = some (.lreturn, 1, 0, 0, 0)) (hR : xR i = some .long) : xrun top d i pc ls [.inr (.inl v)] M (some (.inr (.inl v)), M) := by
  refine ⟨1, ?_⟩
  unfold xexec
  rw [hf]
  dsimp only
  unfold xret
  dsimp only
  rw [hR]
  rfl
theorem xr_aretO {v : Option xId} {C : String} (hf : xfind i pc = some (.areturn, 1, 0, 0, 0)) (hR : xR i = some (.object C)) : xrun top d i pc ls [.inr (.inr v)] M (some (.inr (.inr v)), M) := by
  refine ⟨1, ?_⟩
  unfold xexec
  rw [hf]
  dsimp only
  unfold xret
  dsimp only
  rw [hR]
  rfl
theorem xr_aretA {v : Option xId} {t : FieldType} (hf : xfind i pc = some (.areturn, 1, 0, 0, 0)) (hR : xR i = some (.array t)) : xrun top d i pc ls [.inr (.inr v)] M (some (.inr (.inr v)), M) := by
  refine ⟨1, ?_⟩
  unfold xexec
  rw [hf]
  dsimp only
  unfold xret
  dsimp only
  rw [hR]
  rfl
theorem xr_ret (hf : xfind i pc = some (.return_, 1, 0, 0, 0)) (hR : xR i = none) : xrun top d i pc ls [] M (none, M) := by
  refine ⟨1, ?_⟩
  unfold xexec
  rw [hf]
  dsimp only
  unfold xret
  dsimp only
  rw [hR]
  rfl
end XR
