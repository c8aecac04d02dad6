/-! calls that change the depot only, and calls that read -/
theorem K_cache {a0 a1 a2 : Int32} : CALL (fun M => fX_cache M (0, 0, 0) a0 a1 a2) (fun X => fM_cache X (44, 0, 0) a0 a1 a2) := CALL_r (r := fun t => rCache t a0 a1 a2) (fun t Y hW hI => C_cache hW hI) (fun d s X hW hI => M_cache' hW hI) (fun s t h hI => rCache_ok h hI) (fun t hI hU => by
  unfold rCache
  split
  · split
    · exact hU.beg
    · exact hU
  · exact hU)
theorem K_limit {a0 a1 : Int32} : CALL (fun M => fX_limit M (0, 0, 0) a0 a1) (fun X => fM_limit X (44, 0, 0) a0 a1) := CALL_r (r := fun t => rLimit t a0 a1) (fun t Y hW hI => C_limit hW hI) (fun d s X hW hI => M_limit hW hI) (fun s t h hI => rLimit_ok h hI) (fun t hI hU => by
  unfold rLimit
  split
  · exact hU.k (UF.rfl'.a (Or.inl (by decide)))
  · exact hU)
theorem K_take {a0 a1 : Int32} : CALL (fun M => fX_take M (0, 0, 0) a0 a1) (fun X => fM_take X (44, 0, 0) a0 a1) := CALL_r (r := fun t => rTake t a0 a1) (fun t Y hW hI => C_take hW hI) (fun d s X hW hI => M_take hW hI) (fun s t h hI => rTake_ok h hI) (fun t hI hU => by
  unfold rTake
  split
  · rename_i h
    exact hU.k (UF.rfl'.takes h.1)
  · exact hU)
theorem K_give {a0 a1 : Int32} : CALL (fun M => fX_give M (0, 0, 0) a0 a1) (fun X => fM_give X (44, 0, 0) a0 a1) := CALL_r (r := fun t => rGive t a0 a1) (fun t Y hW hI => C_give hW hI) (fun d s X hW hI => M_give hW hI) (fun s t h hI => rGive_ok h hI) (fun t hI hU => by
  unfold rGive
  split
  · rename_i h
    split
    · have hq := h.1
      have hV := hI.V hq (by rw [(live_ok hq).2]; decide)
      have hpg := hI.R.pg (p := qLive t a0 / 62) (by omega) hV.1
      exact hU.k (UF.rfl'.gives hpg.1)
    · exact hU
  · exact hU)
theorem K_write {a0 a1 : Int32} : CALL (fun M => fX_write M (0, 0, 0) a0 a1) (fun X => fM_write X (44, 0, 0) a0 a1) := CALL_r (r := fun t => rWrite t a0 a1) (fun t Y hW hI => C_write hW hI) (fun d s X hW hI => M_write hW hI) (fun s t h hI => rWrite_ok h hI) (fun t hI hU => by
  unfold rWrite
  split
  · exact hU.k UF.rfl'.w
  · exact hU)
theorem UC.lock {t : xS} {a0 a1 : Int32} (hU : UC t) : UC (rLock t a0 a1).2 := by
  unfold rLock
  split
  · split
    · split
      · exact hU
      · exact hU.k UF.rfl'.w
    · exact hU
  · exact hU
theorem K_hold {a0 : Int32} : CALL (fun M => fX_hold M (0, 0, 0) a0) (fun X => fM_hold X (44, 0, 0) a0) := CALL_r (r := fun t => rLock t a0 1) (fun t Y hW hI => C_hold hW hI) (fun d s X hW hI => M_hold hW hI) (fun s t h hI => rLock_ok h hI) (fun t hI hU => hU.lock)
theorem K_letGo {a0 : Int32} : CALL (fun M => fX_letGo M (0, 0, 0) a0) (fun X => fM_letGo X (44, 0, 0) a0) := CALL_r (r := fun t => rLock t a0 0) (fun t Y hW hI => C_letGo hW hI) (fun d s X hW hI => M_letGo hW hI) (fun s t h hI => rLock_ok h hI) (fun t hI hU => hU.lock)
theorem K_interval : CALL (fun M => fX_interval M (0, 0, 0)) (fun X => fM_interval X (44, 0, 0)) := CALL_r (r := fun t => rInt t) (fun t Y hW hI => C_interval hW hI) (fun d s X hW hI => M_interval hW hI) (fun s t h hI => rInt_ok h hI) (fun t hI hU => hU.k (UF.rfl'.tick (Nat.le_refl _)))
theorem K_drain {a0 a1 : Int32} : CALL (fun M => fX_drain M (0, 0, 0) a0 a1) (fun X => fM_drain X (44, 0, 0) a0 a1) := CALL_r (r := fun t => rDrain t a0 a1) (fun t Y hW hI => C_drain hW hI) (fun d s X hW hI => M_drain hW hI) (fun s t h hI => rDrain_ok h hI) (fun t hI hU => by
  unfold rDrain
  split
  · exact hU.k UF.rfl'.dr
  · exact hU)
theorem K_reap {a0 : Int32} : CALL (fun M => fX_reap M (0, 0, 0) a0) (fun X => fM_reap X (44, 0, 0) a0) := CALL_r (r := fun t => rReap t a0) (fun t Y hW hI => C_reap hW hI) (fun d s X hW hI => M_reap hW hI) (fun s t h hI => rReap_ok h hI) (fun t hI hU => by
  unfold rReap
  split
  · exact hU.k UF.rfl'.reap
  · exact hU)
theorem K_word {a0 : Int32} : CALL (fun M => fX_word M (0, 0, 0) a0) (fun X => fM_word X (44, 0, 0) a0) := CALL_p (r := fun t => rWord t a0) (fun t Y hW hI => C_word hW hI) (fun d s X hW hI => M_word hW hI) (fun s t h hI => rWord_ok h hI)
theorem K_state {a0 : Int32} : CALL (fun M => fX_state M (0, 0, 0) a0) (fun X => fM_state X (44, 0, 0) a0) := CALL_p (r := fun t => rState t a0) (fun t Y hW hI => C_state hW hI) (fun d s X hW hI => M_state hW hI) (fun s t h hI => rState_ok h hI)
theorem K_owner {a0 : Int32} : CALL (fun M => fX_owner M (0, 0, 0) a0) (fun X => fM_owner X (44, 0, 0) a0) := CALL_p (r := fun t => rOwner t a0) (fun t Y hW hI => C_owner hW hI) (fun d s X hW hI => M_owner hW hI) (fun s t h hI => rOwner_ok h hI)
theorem K_bytes {a0 : Int32} : CALL (fun M => fX_bytes M (0, 0, 0) a0) (fun X => fM_bytes X (44, 0, 0) a0) := CALL_p (r := fun t => rBytes t a0) (fun t Y hW hI => C_bytes hW hI) (fun d s X hW hI => M_bytes hW hI) (fun s t h hI => rBytes_ok h hI)
theorem K_page {a0 a1 : Int32} : CALL (fun M => fX_page M (0, 0, 0) a0 a1) (fun X => fM_page X (44, 0, 0) a0 a1) := CALL_p (r := fun t => rPage t a0 a1) (fun t Y hW hI => C_page hW hI) (fun d s X hW hI => M_page hW hI) (fun s t h hI => rPage_ok h hI)
theorem K_map {a0 a1 : Int32} : CALL (fun M => fX_map M (0, 0, 0) a0 a1) (fun X => fM_map X (44, 0, 0) a0 a1) := CALL_p (r := fun t => rMap t a0 a1) (fun t Y hW hI => C_map hW) (fun d s X hW hI => M_map hW hI) (fun s t h hI => rMap_ok h hI)
theorem K_of {a0 a1 : Int32} : CALL (fun M => fX_of M (0, 0, 0) a0 a1) (fun X => fM_of X (44, 0, 0) a0 a1) := CALL_p (r := fun t => rOf t a0 a1) (fun t Y hW hI => C_of hW hI) (fun d s X hW hI => M_of hW hI) (fun s t h hI => rOf_ok h)
theorem K_tally {a0 : Int32} : CALL (fun M => fX_tally M (0, 0, 0) a0) (fun X => fM_tally X (44, 0, 0) a0) := CALL_p (r := fun t => rTally t a0) (fun t Y hW hI => C_tally hW hI) (fun d s X hW hI => M_tally hW hI) (fun s t h hI => rTally_ok h)
theorem K_magazine {a0 a1 a2 : Int32} : CALL (fun M => fX_magazine M (0, 0, 0) a0 a1 a2) (fun X => fM_magazine X (44, 0, 0) a0 a1 a2) := CALL_p (r := fun t => rMag t a0 a1 a2) (fun t Y hW hI => C_magazine hW hI) (fun d s X hW hI => M_magazine hW hI) (fun s t h hI => rMag_ok h hI)
