/-! a run's statements: the model's -/
theorem nR_39 {d : Int32} {s : xS} {X : xMem} (hW : XW X) : xgR (mM d s X) (some (44, 0, 0)) 8 39 = some (some (76, 0, 0)) := (xgR_w (M := mM d s X) hW sh_44 (by decide) (by decide) rfl).trans rfl
theorem nR_29 {d : Int32} {s : xS} {X : xMem} (hW : XW X) : xgR (mM d s X) (some (44, 0, 0)) 8 29 = some (some (71, 0, 0)) := (xgR_w (M := mM d s X) hW sh_44 (by decide) (by decide) rfl).trans rfl
theorem nR_40 {d : Int32} {s : xS} {X : xMem} (hW : XW X) : xgR (mM d s X) (some (44, 0, 0)) 8 40 = some (some (77, 0, 0)) := (xgR_w (M := mM d s X) hW sh_44 (by decide) (by decide) rfl).trans rfl
theorem nR_41 {d : Int32} {s : xS} {X : xMem} (hW : XW X) : xgR (mM d s X) (some (44, 0, 0)) 8 41 = some (some (78, 0, 0)) := (xgR_w (M := mM d s X) hW sh_44 (by decide) (by decide) rfl).trans rfl
theorem ngI {d : Int32} {s : xS} {X : xMem} {k : Nat} (hW : XW X) (hk : k < 13 ∨ 15 < k) : xgI (mM d s X) (some (44, 0, 0)) 8 k = some (X.1 (44, 0, 0) k) := by
  rw [xgI_w (M := mM d s X) hW sh_44, mM_oF hk]
theorem npI {d : Int32} {s : xS} {X : xMem} {k : Nat} {v : Int32} (hW : XW X) (hk : k < 13 ∨ 15 < k) : xpI (mM d s X) (some (44, 0, 0)) 8 k v = some (mM d s (xsi X (44, 0, 0) k v)) := by
  rw [xpI_w (M := mM d s X) hW sh_44, mM_oF' hk]
theorem nob {d : Int32} {s : xS} {X : xMem} (hW : XW X) : xob (mM d s X) (some (44, 0, 0)) 8 = some (44, 0, 0) := xob_w (M := mM d s X) hW sh_44
theorem nA_76 {d : Int32} {s : xS} {X : xMem} {x : Nat} {v : Int32} (hW : XW X) (hx : x < 100) (hv : X.1 (76, 0, 0) x = v) : xaI (mM d s X) (some (76, 0, 0)) (nI x) = some v := by
  rw [xaI_w (M := mM d s X) hW sh_76 hx (by decide), mM_out (by decide) (by decide) (by decide), hv]
theorem nA_71 {d : Int32} {s : xS} {X : xMem} {x : Nat} (hW : XW X) (hx : x < 26) : xaI (mM d s X) (some (71, 0, 0)) (nI x) = some (X.1 (71, 0, 0) x) := by
  rw [xaI_w (M := mM d s X) hW sh_71 hx (by decide), mM_out (by decide) (by decide) (by decide)]
theorem nU_71 {d : Int32} {s : xS} {X : xMem} {x : Nat} {v : Int32} (hW : XW X) (hx : x < 26) : xuI (mM d s X) (some (71, 0, 0)) (nI x) v = some (mM d s (xsi X (71, 0, 0) x v)) := by
  rw [xuI_w (M := mM d s X) hW sh_71 hx (by decide), mM_out' (by decide) (by decide) (by decide)]
theorem nA_77 {d : Int32} {s : xS} {X : xMem} {x : Nat} (hW : XW X) (hx : x < 5) : xaI (mM d s X) (some (77, 0, 0)) (nI x) = some (X.1 (77, 0, 0) x) := by
  rw [xaI_w (M := mM d s X) hW sh_77 hx (by decide), mM_out (by decide) (by decide) (by decide)]
theorem nU_77 {d : Int32} {s : xS} {X : xMem} {x : Nat} {v : Int32} (hW : XW X) (hx : x < 5) : xuI (mM d s X) (some (77, 0, 0)) (nI x) v = some (mM d s (xsi X (77, 0, 0) x v)) := by
  rw [xuI_w (M := mM d s X) hW sh_77 hx (by decide), mM_out' (by decide) (by decide) (by decide)]
theorem nA_78 {d : Int32} {s : xS} {X : xMem} {x : Nat} (hW : XW X) (hx : x < 5) : xaI (mM d s X) (some (78, 0, 0)) (nI x) = some (X.1 (78, 0, 0) x) := by
  rw [xaI_w (M := mM d s X) hW sh_78 hx (by decide), mM_out (by decide) (by decide) (by decide)]
theorem nU_78 {d : Int32} {s : xS} {X : xMem} {x : Nat} {v : Int32} (hW : XW X) (hx : x < 5) : xuI (mM d s X) (some (78, 0, 0)) (nI x) v = some (mM d s (xsi X (78, 0, 0) x v)) := by
  rw [xuI_w (M := mM d s X) hW sh_78 hx (by decide), mM_out' (by decide) (by decide) (by decide)]
theorem isC_n {d : Int32} {s : xS} {X : xMem} {c : Nat} (hW : XW X) (hn : s.1 19 0 ≤ 4) (hc : c < 4) : fM_isCache (mM d s X) (44, 0, 0) (nI c) = some (bI (decide (c < s.1 19 0)), mM d s X) := by
  rw [M_isCache hW hn]
  have e : decide (cN (s.1 19 0) (nI c) < s.1 19 0) = decide (c < s.1 19 0) := by
    by_cases h : c < s.1 19 0
    · rw [cN_nI h (by omega)]
    · have : cN (s.1 19 0) (nI c) = s.1 19 0 := by
        unfold cN
        rw [if_pos (Or.inr (nI_le (by omega) (by omega)))]
      rw [this, decide_eq_false (Nat.lt_irrefl _), decide_eq_false h]
  rw [e]
theorem n48 {a c : Nat} : nI (a + c) - nI a = nI c := by rw [pk_sub (by omega), Nat.add_sub_cancel_left]
theorem m48 (c : Nat) : nI (48 + c) - (48 : Int32) = nI c := n48
theorem m97 (c : Nat) : nI (97 + c) - (97 : Int32) = nI c := n48
theorem nk (x k : Nat) : nI x + nI k = nI (x + k) := nI_add x k
def mTk (d : Int32) (v c p x : Nat) (s : xS) (X : xMem) : xMem :=
  if c < s.1 19 0 then (if (sTakes s c p).1 < 1984 then mM d (sTakes s c p).2 (xsi (xsi X (44, 0, 0) 44 (nI (x + 5))) (71, 0, 0) v (nI (qAddr (sTakes s c p).2 (sTakes s c p).1))) else mM d (sTakes s c p).2 (xsi (xsi X (44, 0, 0) 44 (nI (x + 5))) (44, 0, 0) 48 (-3))) else mM d s (xsi (xsi X (44, 0, 0) 44 (nI (x + 5))) (44, 0, 0) 48 (-1))
theorem S_take {d : Int32} {v c p x : Nat} {s : xS} {X : xMem} (hW : XW X) (hI : INV s) (hx : x + 5 ≤ 100) (hv : v < 26) (hc : c < 4) (hp : p < 4) (e0 : X.1 (44, 0, 0) 44 = nI x) (e2 : X.1 (76, 0, 0) (x + 2) = nI (48 + c)) (e4 : X.1 (76, 0, 0) (x + 4) = nI (48 + p)) : fM_runsTake (mM d s X) (44, 0, 0) (nI v) = some (mTk d v c p x s X) := by
  have hn := hI.R.n
  have hW1 : XW (xsi X (44, 0, 0) 44 (nI (x + 5))) := hW
  unfold fM_runsTake mTk fM_runsTake_59 fM_runsTake_81
  rw [nR_39 hW, Option.bind_some, ngI hW (by decide), Option.bind_some, e0, show nI x + (2 : Int32) = nI (x + 2) from nk x 2, nA_76 hW (by omega) e2, Option.bind_some, Option.bind_some, Option.bind_some, show nI x + (4 : Int32) = nI (x + 4) from nk x 4, nA_76 hW (by omega) e4, Option.bind_some, Option.bind_some, show nI x + (5 : Int32) = nI (x + 5) from nk x 5, npI hW (by decide), Option.bind_some, nob hW1, Option.bind_some, m48, m48, isC_n hW1 hn hc, Option.bind_some]
  dsimp only
  by_cases h1 : c < s.1 19 0
  · rw [decide_eq_true h1, if_neg (by decide), if_pos h1, nob hW1, Option.bind_some, M_takes hW1 hI.R (fun b hb => hI.S hb) h1 hp (hI.preT h1 hp), Option.bind_some]
    dsimp only
    by_cases hl : (sTakes s c p).1 < 1984
    · have h17 := takes_live hI h1 hp hl
      have hV := (hI.takes h1 hp).V hl (by omega)
      rw [en_lt hl, if_pos (show (0 : Int32) ≤ nI (sTakes s c p).1 from nI_pos' (by omega)), if_pos hl, nR_29 hW1, Option.bind_some, nob hW1, Option.bind_some, M_addressOf hW1 hl hV.1, Option.bind_some, nU_71 hW1 hv, Option.bind_some]
    · have hn' : (sTakes s c p).2.1 19 0 ≤ 4 := by rw [takes_19 h1]; exact hn
      have h1' : c < (sTakes s c p).2.1 19 0 := by rw [takes_19 h1]; exact h1
      rw [en_ge hl, if_neg (show ¬ (0 : Int32) ≤ -9 by decide), if_neg hl, nob hW1, Option.bind_some, isC_n hW1 hn' hc, Option.bind_some, decide_eq_true h1', if_neg (show ¬ bI true = 0 by decide), npI hW1 (by decide), Option.bind_some]
  · rw [decide_eq_false h1, if_pos (show bI false = 0 by decide), if_neg (show ¬ (0 : Int32) ≤ -9 by decide), if_neg h1, nob hW1, Option.bind_some, isC_n hW1 hn hc, Option.bind_some, decide_eq_false h1, if_pos (show bI false = 0 by decide), npI hW1 (by decide), Option.bind_some]
def mGv (d : Int32) (v p nv x : Nat) (s : xS) (X : xMem) : xMem :=
  if nv < 32768 then (if qLive s (nI nv) < 1984 then (if qFit s (qLive s (nI nv)) = true then mM d (sGives s (qLive s (nI nv)) p) (xsi (xsi X (44, 0, 0) 44 (nI (x + 4))) (71, 0, 0) v (-9)) else mM d s (xsi (xsi X (44, 0, 0) 44 (nI (x + 4))) (44, 0, 0) 48 (-5))) else mM d s (xsi (xsi X (44, 0, 0) 44 (nI (x + 4))) (44, 0, 0) 48 (-1))) else mM d s (xsi (xsi X (44, 0, 0) 44 (nI (x + 4))) (44, 0, 0) 48 (-11))
theorem S_give {d : Int32} {v p nv x : Nat} {s : xS} {X : xMem} (hW : XW X) (hI : INV s) (hx : x + 4 ≤ 100) (hv : v < 26) (hp : p < 4) (e0 : X.1 (44, 0, 0) 44 = nI x) (e3 : X.1 (76, 0, 0) (x + 3) = nI (48 + p)) (en1 : X.1 (71, 0, 0) v = en 32768 (-9) nv) : fM_runsGive (mM d s X) (44, 0, 0) (nI v) = some (mGv d v p nv x s X) := by
  have hW1 : XW (xsi X (44, 0, 0) 44 (nI (x + 4))) := hW
  have en2 : (xsi X (44, 0, 0) 44 (nI (x + 4))).1 (71, 0, 0) v = en 32768 (-9) nv := by rw [xsi_1, if_neg (fun e => absurd e.1 (by decide))]; exact en1
  unfold fM_runsGive mGv fM_runsGive_49 fM_runsGive_70
  rw [nR_39 hW, Option.bind_some, ngI hW (by decide), Option.bind_some, e0, show nI x + (3 : Int32) = nI (x + 3) from nk x 3, nA_76 hW (by omega) e3, Option.bind_some, Option.bind_some, show nI x + (4 : Int32) = nI (x + 4) from nk x 4, npI hW (by decide), Option.bind_some, nR_29 hW1, Option.bind_some, nA_71 hW1 hv, Option.bind_some, en2, m48]
  by_cases h1 : nv < 32768
  · have h0 : (0 : Int32) ≤ nI nv := nI_pos' (by omega)
    rw [en_lt h1, if_pos h0, if_pos h1, Option.bind_some, nA_71 hW1 hv, Option.bind_some, en2, en_lt h1, nob hW1, Option.bind_some, M_liveAt hW1 hI.R (fun b hb => hI.S hb), Option.bind_some]
    dsimp only
    by_cases h2 : qLive s (nI nv) < 1984
    · have hq := (live_ok h2).2
      have hV := hI.V h2 (by rw [hq]; decide)
      have hpg := hI.R.pg (p := qLive s (nI nv) / 62) (by omega) hV.1
      rw [en_lt h2, if_pos (show (0 : Int32) ≤ nI (qLive s (nI nv)) from nI_pos' (by omega)), if_pos h2, nob hW1, Option.bind_some, M_isFit hW1 h2 hV.1 (by have := (hI.R.c hpg.1).1; omega), Option.bind_some]
      dsimp only
      by_cases h3 : qFit s (qLive s (nI nv)) = true
      · rw [if_neg (by rw [h3]; decide), if_pos h3, nob hW1, Option.bind_some, M_gives hW1 hI.R h2 hV.1 hp (hI.preG hpg.1 hp), Option.bind_some, nR_29 hW1, Option.bind_some, nU_71 hW1 hv, Option.bind_some]
      · rw [if_pos (by rw [bfal h3]; rfl), if_neg h3, npI hW1 (by decide), Option.bind_some]
    · rw [en_ge h2, if_neg (show ¬ (0 : Int32) ≤ -9 by decide), if_neg h2, nR_29 hW1, Option.bind_some, nA_71 hW1 hv, Option.bind_some, en2, en_lt h1, if_pos h0, npI hW1 (by decide), Option.bind_some]
  · rw [en_ge h1, if_neg (show ¬ (0 : Int32) ≤ -9 by decide), if_neg (show ¬ (0 : Int32) ≤ -9 by decide), if_neg h1, Option.bind_some, nA_71 hW1 hv, Option.bind_some, en2, en_ge h1, if_neg (show ¬ (0 : Int32) ≤ -9 by decide), npI hW1 (by decide), Option.bind_some]
theorem S_step {d : Int32} {σ : Nat} {s : xS} {X : xMem} (hW : XW X) (hσ : σ ≤ 400) (e0 : X.1 (44, 0, 0) 47 = nI σ) : fM_goesStep (mM d s X) (44, 0, 0) = some (if σ < 400 then (1, mM d s (xsi X (44, 0, 0) 47 (nI (σ + 1)))) else (0, mM d s (xsi X (44, 0, 0) 48 (-6)))) := by
  unfold fM_goesStep
  rw [ngI hW (by decide), Option.bind_some, e0, kl_400]
  by_cases h1 : σ < 400
  · rw [if_neg (show ¬ nI σ = nI 400 from by rw [nI_eq (by omega) (by decide)]; omega), if_pos h1, Option.bind_some, nI_k1, npI hW (by decide), Option.bind_some]
  · rw [if_pos (show nI σ = nI 400 from by rw [show σ = 400 from by omega]), if_neg h1, npI hW (by decide), Option.bind_some]
