/-! the law, from its loop on -/
theorem mR_272 : xR 272 = some .boolean := rfl
def fL_law_1337 (L : Nat) (xs : Nat → Int32) (k18 : xMem → Option xId → Option xId → Int32 → Option (Int32 × xMem)) (M : xMem) (l1 : Option xId) (l2 : Option xId) (l3 : Int32)  : Option (Int32 × xMem) :=
  k18 M l1 l2 (l3 + 6)
set_option maxHeartbeats 4000000 in
set_option maxRecDepth 20000 in
theorem TfL_law_1337 {M' : xMem} {r : Int32} (L : Nat) (xs : Nat → Int32) (k18 : xMem → Option xId → Option xId → Int32 → Option (Int32 × xMem)) (hk18 : ∀ (M : xMem) (l1 : Option xId) (l2 : Option xId) (l3 : Int32) , k18 M l1 l2 l3 = some (r, M') → xrun (some (L, xs)) 13 272 18 ([some (.inr (.inr (some (99, 0, 0)))), some (.inr (.inr l1)), some (.inr (.inr l2)), some (.inl l3)]) ([]) M (some (.inl r), M')) (M : xMem) (l1 : Option xId) (l2 : Option xId) (l3 : Int32)   (h : fL_law_1337 L xs k18 M l1 l2 l3  = some (r, M')) : xrun (some (L, xs)) 13 272 1337 ([some (.inr (.inr (some (99, 0, 0)))), some (.inr (.inr l1)), some (.inr (.inr l2)), some (.inl l3)]) ([]) M (some (.inl r), M') := by
  unfold fL_law_1337 at h
  refine xr_iinc (c := 6) (pc' := 1340) rfl (by decide) rfl rfl rfl ?_
  refine xr_goto (t := 18) rfl ?_
  exact hk18 M _ _ _  h
def fL_law_18 (L : Nat) (xs : Nat → Int32)  : Nat → xMem → Option xId → Option xId → Int32 → Option (Int32 × xMem)
  | 0, _, _, _, _ => none
  | n + 1, M, l1, l2, l3 =>
    if ((Int32.ofNat L) - (6 : Int32)) < l3 then (
      some ((1 : Int32), M))
    else
    (xsc L xs l3).bind fun v1 =>
    if (v1 &&& (63 : Int32)) = 0 then (
      (xsc L xs (l3 + (1 : Int32))).bind fun v2 =>
      (xsc L xs (l3 + (2 : Int32))).bind fun v3 =>
      (xsc L xs (l3 + (3 : Int32))).bind fun v4 =>
      (xob M l1 7).bind fun u5 =>
      (fX_cache M u5 v2 v3 v4).bind fun q6 =>
      (xsc L xs (l3 + (1 : Int32))).bind fun v7 =>
      (xsc L xs (l3 + (2 : Int32))).bind fun v8 =>
      (xsc L xs (l3 + (3 : Int32))).bind fun v9 =>
      (xob q6.2 l2 8).bind fun u10 =>
      (fM_cache q6.2 u10 v7 v8 v9).bind fun q11 =>
      if q6.1 = q11.1 then (
        fL_law_1337 L xs (fun M l1 l2 l3 => fL_law_18 L xs  n M l1 l2 l3) q11.2 l1 l2 l3 )
      else
      some ((0 : Int32), q11.2))
    else
    if (v1 &&& (63 : Int32)) = 1 then (
      (xsc L xs (l3 + (1 : Int32))).bind fun v12 =>
      (xsc L xs (l3 + (2 : Int32))).bind fun v13 =>
      (xob M l1 7).bind fun u14 =>
      (fX_limit M u14 v12 v13).bind fun q15 =>
      (xsc L xs (l3 + (1 : Int32))).bind fun v16 =>
      (xsc L xs (l3 + (2 : Int32))).bind fun v17 =>
      (xob q15.2 l2 8).bind fun u18 =>
      (fM_limit q15.2 u18 v16 v17).bind fun q19 =>
      if q15.1 = q19.1 then (
        fL_law_1337 L xs (fun M l1 l2 l3 => fL_law_18 L xs  n M l1 l2 l3) q19.2 l1 l2 l3 )
      else
      some ((0 : Int32), q19.2))
    else
    if (v1 &&& (63 : Int32)) = 2 then (
      (xsc L xs (l3 + (1 : Int32))).bind fun v20 =>
      (xsc L xs (l3 + (2 : Int32))).bind fun v21 =>
      (xob M l1 7).bind fun u22 =>
      (fX_take M u22 v20 v21).bind fun q23 =>
      (xsc L xs (l3 + (1 : Int32))).bind fun v24 =>
      (xsc L xs (l3 + (2 : Int32))).bind fun v25 =>
      (xob q23.2 l2 8).bind fun u26 =>
      (fM_take q23.2 u26 v24 v25).bind fun q27 =>
      if q23.1 = q27.1 then (
        fL_law_1337 L xs (fun M l1 l2 l3 => fL_law_18 L xs  n M l1 l2 l3) q27.2 l1 l2 l3 )
      else
      some ((0 : Int32), q27.2))
    else
    if (v1 &&& (63 : Int32)) = 3 then (
      (xsc L xs (l3 + (1 : Int32))).bind fun v28 =>
      (xsc L xs (l3 + (2 : Int32))).bind fun v29 =>
      (xob M l1 7).bind fun u30 =>
      (fX_give M u30 v28 v29).bind fun q31 =>
      (xsc L xs (l3 + (1 : Int32))).bind fun v32 =>
      (xsc L xs (l3 + (2 : Int32))).bind fun v33 =>
      (xob q31.2 l2 8).bind fun u34 =>
      (fM_give q31.2 u34 v32 v33).bind fun q35 =>
      if q31.1 = q35.1 then (
        fL_law_1337 L xs (fun M l1 l2 l3 => fL_law_18 L xs  n M l1 l2 l3) q35.2 l1 l2 l3 )
      else
      some ((0 : Int32), q35.2))
    else
    if (v1 &&& (63 : Int32)) = 4 then (
      (xsc L xs (l3 + (1 : Int32))).bind fun v36 =>
      (xsc L xs (l3 + (2 : Int32))).bind fun v37 =>
      (xob M l1 7).bind fun u38 =>
      (fX_write M u38 v36 v37).bind fun q39 =>
      (xsc L xs (l3 + (1 : Int32))).bind fun v40 =>
      (xsc L xs (l3 + (2 : Int32))).bind fun v41 =>
      (xob q39.2 l2 8).bind fun u42 =>
      (fM_write q39.2 u42 v40 v41).bind fun q43 =>
      if q39.1 = q43.1 then (
        fL_law_1337 L xs (fun M l1 l2 l3 => fL_law_18 L xs  n M l1 l2 l3) q43.2 l1 l2 l3 )
      else
      some ((0 : Int32), q43.2))
    else
    if (v1 &&& (63 : Int32)) = 5 then (
      (xsc L xs (l3 + (1 : Int32))).bind fun v44 =>
      (xob M l1 7).bind fun u45 =>
      (fX_word M u45 v44).bind fun q46 =>
      (xsc L xs (l3 + (1 : Int32))).bind fun v47 =>
      (xob q46.2 l2 8).bind fun u48 =>
      (fM_word q46.2 u48 v47).bind fun q49 =>
      if (lg_cmp q46.1 q49.1) = 0 then (
        fL_law_1337 L xs (fun M l1 l2 l3 => fL_law_18 L xs  n M l1 l2 l3) q49.2 l1 l2 l3 )
      else
      some ((0 : Int32), q49.2))
    else
    if (v1 &&& (63 : Int32)) = 6 then (
      (xsc L xs (l3 + (1 : Int32))).bind fun v50 =>
      (xob M l1 7).bind fun u51 =>
      (fX_hold M u51 v50).bind fun q52 =>
      (xsc L xs (l3 + (1 : Int32))).bind fun v53 =>
      (xob q52.2 l2 8).bind fun u54 =>
      (fM_hold q52.2 u54 v53).bind fun q55 =>
      if q52.1 = q55.1 then (
        fL_law_1337 L xs (fun M l1 l2 l3 => fL_law_18 L xs  n M l1 l2 l3) q55.2 l1 l2 l3 )
      else
      some ((0 : Int32), q55.2))
    else
    if (v1 &&& (63 : Int32)) = 7 then (
      (xsc L xs (l3 + (1 : Int32))).bind fun v56 =>
      (xob M l1 7).bind fun u57 =>
      (fX_letGo M u57 v56).bind fun q58 =>
      (xsc L xs (l3 + (1 : Int32))).bind fun v59 =>
      (xob q58.2 l2 8).bind fun u60 =>
      (fM_letGo q58.2 u60 v59).bind fun q61 =>
      if q58.1 = q61.1 then (
        fL_law_1337 L xs (fun M l1 l2 l3 => fL_law_18 L xs  n M l1 l2 l3) q61.2 l1 l2 l3 )
      else
      some ((0 : Int32), q61.2))
    else
    if (v1 &&& (63 : Int32)) = 8 then (
      (xob M l1 7).bind fun u62 =>
      (fX_interval M u62 ).bind fun q63 =>
      (xob q63.2 l2 8).bind fun u64 =>
      (fM_interval q63.2 u64 ).bind fun q65 =>
      if q63.1 = q65.1 then (
        fL_law_1337 L xs (fun M l1 l2 l3 => fL_law_18 L xs  n M l1 l2 l3) q65.2 l1 l2 l3 )
      else
      some ((0 : Int32), q65.2))
    else
    if (v1 &&& (63 : Int32)) = 9 then (
      (xsc L xs (l3 + (1 : Int32))).bind fun v66 =>
      (xsc L xs (l3 + (2 : Int32))).bind fun v67 =>
      (xob M l1 7).bind fun u68 =>
      (fX_drain M u68 v66 v67).bind fun q69 =>
      (xsc L xs (l3 + (1 : Int32))).bind fun v70 =>
      (xsc L xs (l3 + (2 : Int32))).bind fun v71 =>
      (xob q69.2 l2 8).bind fun u72 =>
      (fM_drain q69.2 u72 v70 v71).bind fun q73 =>
      if q69.1 = q73.1 then (
        fL_law_1337 L xs (fun M l1 l2 l3 => fL_law_18 L xs  n M l1 l2 l3) q73.2 l1 l2 l3 )
      else
      some ((0 : Int32), q73.2))
    else
    if (v1 &&& (63 : Int32)) = 10 then (
      (xsc L xs (l3 + (1 : Int32))).bind fun v74 =>
      (xob M l1 7).bind fun u75 =>
      (fX_reap M u75 v74).bind fun q76 =>
      (xsc L xs (l3 + (1 : Int32))).bind fun v77 =>
      (xob q76.2 l2 8).bind fun u78 =>
      (fM_reap q76.2 u78 v77).bind fun q79 =>
      if q76.1 = q79.1 then (
        fL_law_1337 L xs (fun M l1 l2 l3 => fL_law_18 L xs  n M l1 l2 l3) q79.2 l1 l2 l3 )
      else
      some ((0 : Int32), q79.2))
    else
    if (v1 &&& (63 : Int32)) = 11 then (
      (xsc L xs (l3 + (1 : Int32))).bind fun v80 =>
      (xob M l1 7).bind fun u81 =>
      (fX_state M u81 v80).bind fun q82 =>
      (xsc L xs (l3 + (1 : Int32))).bind fun v83 =>
      (xob q82.2 l2 8).bind fun u84 =>
      (fM_state q82.2 u84 v83).bind fun q85 =>
      if q82.1 = q85.1 then (
        fL_law_1337 L xs (fun M l1 l2 l3 => fL_law_18 L xs  n M l1 l2 l3) q85.2 l1 l2 l3 )
      else
      some ((0 : Int32), q85.2))
    else
    if (v1 &&& (63 : Int32)) = 12 then (
      (xsc L xs (l3 + (1 : Int32))).bind fun v86 =>
      (xob M l1 7).bind fun u87 =>
      (fX_owner M u87 v86).bind fun q88 =>
      (xsc L xs (l3 + (1 : Int32))).bind fun v89 =>
      (xob q88.2 l2 8).bind fun u90 =>
      (fM_owner q88.2 u90 v89).bind fun q91 =>
      if q88.1 = q91.1 then (
        fL_law_1337 L xs (fun M l1 l2 l3 => fL_law_18 L xs  n M l1 l2 l3) q91.2 l1 l2 l3 )
      else
      some ((0 : Int32), q91.2))
    else
    if (v1 &&& (63 : Int32)) = 13 then (
      (xsc L xs (l3 + (1 : Int32))).bind fun v92 =>
      (xob M l1 7).bind fun u93 =>
      (fX_bytes M u93 v92).bind fun q94 =>
      (xsc L xs (l3 + (1 : Int32))).bind fun v95 =>
      (xob q94.2 l2 8).bind fun u96 =>
      (fM_bytes q94.2 u96 v95).bind fun q97 =>
      if q94.1 = q97.1 then (
        fL_law_1337 L xs (fun M l1 l2 l3 => fL_law_18 L xs  n M l1 l2 l3) q97.2 l1 l2 l3 )
      else
      some ((0 : Int32), q97.2))
    else
    if (v1 &&& (63 : Int32)) = 14 then (
      (xsc L xs (l3 + (1 : Int32))).bind fun v98 =>
      (xsc L xs (l3 + (2 : Int32))).bind fun v99 =>
      (xob M l1 7).bind fun u100 =>
      (fX_page M u100 v98 v99).bind fun q101 =>
      (xsc L xs (l3 + (1 : Int32))).bind fun v102 =>
      (xsc L xs (l3 + (2 : Int32))).bind fun v103 =>
      (xob q101.2 l2 8).bind fun u104 =>
      (fM_page q101.2 u104 v102 v103).bind fun q105 =>
      if q101.1 = q105.1 then (
        fL_law_1337 L xs (fun M l1 l2 l3 => fL_law_18 L xs  n M l1 l2 l3) q105.2 l1 l2 l3 )
      else
      some ((0 : Int32), q105.2))
    else
    if (v1 &&& (63 : Int32)) = 15 then (
      (xsc L xs (l3 + (1 : Int32))).bind fun v106 =>
      (xsc L xs (l3 + (2 : Int32))).bind fun v107 =>
      (xob M l1 7).bind fun u108 =>
      (fX_map M u108 v106 v107).bind fun q109 =>
      (xsc L xs (l3 + (1 : Int32))).bind fun v110 =>
      (xsc L xs (l3 + (2 : Int32))).bind fun v111 =>
      (xob q109.2 l2 8).bind fun u112 =>
      (fM_map q109.2 u112 v110 v111).bind fun q113 =>
      if (lg_cmp q109.1 q113.1) = 0 then (
        fL_law_1337 L xs (fun M l1 l2 l3 => fL_law_18 L xs  n M l1 l2 l3) q113.2 l1 l2 l3 )
      else
      some ((0 : Int32), q113.2))
    else
    if (v1 &&& (63 : Int32)) = 16 then (
      (xsc L xs (l3 + (1 : Int32))).bind fun v114 =>
      (xsc L xs (l3 + (2 : Int32))).bind fun v115 =>
      (xob M l1 7).bind fun u116 =>
      (fX_of M u116 v114 v115).bind fun q117 =>
      (xsc L xs (l3 + (1 : Int32))).bind fun v118 =>
      (xsc L xs (l3 + (2 : Int32))).bind fun v119 =>
      (xob q117.2 l2 8).bind fun u120 =>
      (fM_of q117.2 u120 v118 v119).bind fun q121 =>
      if q117.1 = q121.1 then (
        fL_law_1337 L xs (fun M l1 l2 l3 => fL_law_18 L xs  n M l1 l2 l3) q121.2 l1 l2 l3 )
      else
      some ((0 : Int32), q121.2))
    else
    if (v1 &&& (63 : Int32)) = 17 then (
      (xsc L xs (l3 + (1 : Int32))).bind fun v122 =>
      (xob M l1 7).bind fun u123 =>
      (fX_tally M u123 v122).bind fun q124 =>
      (xsc L xs (l3 + (1 : Int32))).bind fun v125 =>
      (xob q124.2 l2 8).bind fun u126 =>
      (fM_tally q124.2 u126 v125).bind fun q127 =>
      if (lg_cmp q124.1 q127.1) = 0 then (
        fL_law_1337 L xs (fun M l1 l2 l3 => fL_law_18 L xs  n M l1 l2 l3) q127.2 l1 l2 l3 )
      else
      some ((0 : Int32), q127.2))
    else
    if (v1 &&& (63 : Int32)) = 18 then (
      (xsc L xs (l3 + (1 : Int32))).bind fun v128 =>
      (xsc L xs (l3 + (2 : Int32))).bind fun v129 =>
      (xsc L xs (l3 + (3 : Int32))).bind fun v130 =>
      (xob M l1 7).bind fun u131 =>
      (fX_magazine M u131 v128 v129 v130).bind fun q132 =>
      (xsc L xs (l3 + (1 : Int32))).bind fun v133 =>
      (xsc L xs (l3 + (2 : Int32))).bind fun v134 =>
      (xsc L xs (l3 + (3 : Int32))).bind fun v135 =>
      (xob q132.2 l2 8).bind fun u136 =>
      (fM_magazine q132.2 u136 v133 v134 v135).bind fun q137 =>
      if q132.1 = q137.1 then (
        fL_law_1337 L xs (fun M l1 l2 l3 => fL_law_18 L xs  n M l1 l2 l3) q137.2 l1 l2 l3 )
      else
      some ((0 : Int32), q137.2))
    else
    if (v1 &&& (63 : Int32)) = 19 then (
      (xsc L xs (l3 + (1 : Int32))).bind fun v138 =>
      (xsc L xs (l3 + (2 : Int32))).bind fun v139 =>
      (xob M l1 7).bind fun u140 =>
      (fX_lines M u140 v138 v139).bind fun q141 =>
      (xsc L xs (l3 + (1 : Int32))).bind fun v142 =>
      (xsc L xs (l3 + (2 : Int32))).bind fun v143 =>
      (xob q141.2 l2 8).bind fun u144 =>
      (fM_lines q141.2 u144 v142 v143).bind fun q145 =>
      if q141.1 = q145.1 then (
        fL_law_1337 L xs (fun M l1 l2 l3 => fL_law_18 L xs  n M l1 l2 l3) q145.2 l1 l2 l3 )
      else
      some ((0 : Int32), q145.2))
    else
    if (v1 &&& (63 : Int32)) = 20 then (
      (xsc L xs (l3 + (1 : Int32))).bind fun v146 =>
      (xsc L xs (l3 + (2 : Int32))).bind fun v147 =>
      (xsc L xs (l3 + (3 : Int32))).bind fun v148 =>
      (xsc L xs (l3 + (4 : Int32))).bind fun v149 =>
      (xob M l1 7).bind fun u150 =>
      (fX_ahead M u150 v146 v147 v148 v149).bind fun q151 =>
      (xsc L xs (l3 + (1 : Int32))).bind fun v152 =>
      (xsc L xs (l3 + (2 : Int32))).bind fun v153 =>
      (xsc L xs (l3 + (3 : Int32))).bind fun v154 =>
      (xsc L xs (l3 + (4 : Int32))).bind fun v155 =>
      (xob q151.2 l2 8).bind fun u156 =>
      (fM_ahead q151.2 u156 v152 v153 v154 v155).bind fun q157 =>
      if q151.1 = q157.1 then (
        fL_law_1337 L xs (fun M l1 l2 l3 => fL_law_18 L xs  n M l1 l2 l3) q157.2 l1 l2 l3 )
      else
      some ((0 : Int32), q157.2))
    else
    if (v1 &&& (63 : Int32)) = 21 then (
      (xsc L xs (l3 + (1 : Int32))).bind fun v158 =>
      (xsc L xs (l3 + (2 : Int32))).bind fun v159 =>
      (xsc L xs (l3 + (3 : Int32))).bind fun v160 =>
      (xsc L xs (l3 + (4 : Int32))).bind fun v161 =>
      (xob M l1 7).bind fun u162 =>
      (fX_trip M u162 v158 v159 v160 v161).bind fun q163 =>
      (xsc L xs (l3 + (1 : Int32))).bind fun v164 =>
      (xsc L xs (l3 + (2 : Int32))).bind fun v165 =>
      (xsc L xs (l3 + (3 : Int32))).bind fun v166 =>
      (xsc L xs (l3 + (4 : Int32))).bind fun v167 =>
      (xob q163.2 l2 8).bind fun u168 =>
      (fM_trip q163.2 u168 v164 v165 v166 v167).bind fun q169 =>
      if q163.1 = q169.1 then (
        fL_law_1337 L xs (fun M l1 l2 l3 => fL_law_18 L xs  n M l1 l2 l3) q169.2 l1 l2 l3 )
      else
      some ((0 : Int32), q169.2))
    else
    if (v1 &&& (63 : Int32)) = 22 then (
      (xsc L xs (l3 + (1 : Int32))).bind fun v170 =>
      (xsc L xs (l3 + (2 : Int32))).bind fun v171 =>
      (xsc L xs (l3 + (3 : Int32))).bind fun v172 =>
      (xob M l1 7).bind fun u173 =>
      (fX_drawn M u173 v170 v171 v172).bind fun q174 =>
      (xsc L xs (l3 + (1 : Int32))).bind fun v175 =>
      (xsc L xs (l3 + (2 : Int32))).bind fun v176 =>
      (xsc L xs (l3 + (3 : Int32))).bind fun v177 =>
      (xob q174.2 l2 8).bind fun u178 =>
      (fM_drawn q174.2 u178 v175 v176 v177).bind fun q179 =>
      if q174.1 = q179.1 then (
        fL_law_1337 L xs (fun M l1 l2 l3 => fL_law_18 L xs  n M l1 l2 l3) q179.2 l1 l2 l3 )
      else
      some ((0 : Int32), q179.2))
    else
    if (v1 &&& (63 : Int32)) = 23 then (
      (xsc L xs (l3 + (1 : Int32))).bind fun v180 =>
      (xob M l1 7).bind fun u181 =>
      (fX_feed M u181 v180).bind fun q182 =>
      (xsc L xs (l3 + (1 : Int32))).bind fun v183 =>
      (xob q182.2 l2 8).bind fun u184 =>
      (fM_feed q182.2 u184 v183).bind fun q185 =>
      if q182.1 = q185.1 then (
        fL_law_1337 L xs (fun M l1 l2 l3 => fL_law_18 L xs  n M l1 l2 l3) q185.2 l1 l2 l3 )
      else
      some ((0 : Int32), q185.2))
    else
    if (v1 &&& (63 : Int32)) = 24 then (
      (xob M l1 7).bind fun u186 =>
      (fX_trace M u186 ).bind fun q187 =>
      (xob q187.2 l2 8).bind fun u188 =>
      (fM_trace q187.2 u188 ).bind fun q189 =>
      if q187.1 = q189.1 then (
        fL_law_1337 L xs (fun M l1 l2 l3 => fL_law_18 L xs  n M l1 l2 l3) q189.2 l1 l2 l3 )
      else
      some ((0 : Int32), q189.2))
    else
    if (v1 &&& (63 : Int32)) = 25 then (
      (xob M l1 7).bind fun u190 =>
      (fX_run M u190 ).bind fun q191 =>
      (xob q191.2 l2 8).bind fun u192 =>
      (fM_run q191.2 u192 ).bind fun q193 =>
      if q191.1 = q193.1 then (
        fL_law_1337 L xs (fun M l1 l2 l3 => fL_law_18 L xs  n M l1 l2 l3) q193.2 l1 l2 l3 )
      else
      some ((0 : Int32), q193.2))
    else
    if (v1 &&& (63 : Int32)) = 26 then (
      (xob M l1 7).bind fun u194 =>
      (fX_why M u194 ).bind fun q195 =>
      (xob q195.2 l2 8).bind fun u196 =>
      (fM_why q195.2 u196 ).bind fun q197 =>
      if q195.1 = q197.1 then (
        fL_law_1337 L xs (fun M l1 l2 l3 => fL_law_18 L xs  n M l1 l2 l3) q197.2 l1 l2 l3 )
      else
      some ((0 : Int32), q197.2))
    else
    if (v1 &&& (63 : Int32)) = 27 then (
      (xsc L xs (l3 + (1 : Int32))).bind fun v198 =>
      (xob M l1 7).bind fun u199 =>
      (fX_dry M u199 v198).bind fun q200 =>
      (xsc L xs (l3 + (1 : Int32))).bind fun v201 =>
      (xob q200.2 l2 8).bind fun u202 =>
      (fM_dry q200.2 u202 v201).bind fun q203 =>
      if q200.1 = q203.1 then (
        fL_law_1337 L xs (fun M l1 l2 l3 => fL_law_18 L xs  n M l1 l2 l3) q203.2 l1 l2 l3 )
      else
      some ((0 : Int32), q203.2))
    else
    if (v1 &&& (63 : Int32)) = 28 then (
      (xsc L xs (l3 + (1 : Int32))).bind fun v204 =>
      (xob M l1 7).bind fun u205 =>
      (fX_tuned M u205 v204).bind fun q206 =>
      (xsc L xs (l3 + (1 : Int32))).bind fun v207 =>
      (xob q206.2 l2 8).bind fun u208 =>
      (fM_tuned q206.2 u208 v207).bind fun q209 =>
      if q206.1 = q209.1 then (
        fL_law_1337 L xs (fun M l1 l2 l3 => fL_law_18 L xs  n M l1 l2 l3) q209.2 l1 l2 l3 )
      else
      some ((0 : Int32), q209.2))
    else
    if (v1 &&& (63 : Int32)) = 29 then (
      (xsc L xs (l3 + (1 : Int32))).bind fun v210 =>
      (xob M l1 7).bind fun u211 =>
      (fX_names M u211 v210).bind fun q212 =>
      (xsc L xs (l3 + (1 : Int32))).bind fun v213 =>
      (xob q212.2 l2 8).bind fun u214 =>
      (fM_names q212.2 u214 v213).bind fun q215 =>
      if q212.1 = q215.1 then (
        fL_law_1337 L xs (fun M l1 l2 l3 => fL_law_18 L xs  n M l1 l2 l3) q215.2 l1 l2 l3 )
      else
      some ((0 : Int32), q215.2))
    else
    if (v1 &&& (63 : Int32)) = 30 then (
      (xob M l1 7).bind fun u216 =>
      (fX_image M u216 ).bind fun q217 =>
      (xob q217.2 l2 8).bind fun u218 =>
      (fM_image q217.2 u218 ).bind fun q219 =>
      if q217.1 = q219.1 then (
        fL_law_1337 L xs (fun M l1 l2 l3 => fL_law_18 L xs  n M l1 l2 l3) q219.2 l1 l2 l3 )
      else
      some ((0 : Int32), q219.2))
    else
    if (v1 &&& (63 : Int32)) = 31 then (
      (xob M l1 7).bind fun u220 =>
      (fX_back M u220 ).bind fun q221 =>
      (xob q221.2 l2 8).bind fun u222 =>
      (fM_back q221.2 u222 ).bind fun q223 =>
      if q221.1 = q223.1 then (
        fL_law_1337 L xs (fun M l1 l2 l3 => fL_law_18 L xs  n M l1 l2 l3) q223.2 l1 l2 l3 )
      else
      some ((0 : Int32), q223.2))
    else
    if (v1 &&& (63 : Int32)) = 32 then (
      (xsc L xs (l3 + (1 : Int32))).bind fun v224 =>
      (xsc L xs (l3 + (2 : Int32))).bind fun v225 =>
      (xob M l1 7).bind fun u226 =>
      (fX_bin M u226 v224 v225).bind fun q227 =>
      (xsc L xs (l3 + (1 : Int32))).bind fun v228 =>
      (xsc L xs (l3 + (2 : Int32))).bind fun v229 =>
      (xob q227.2 l2 8).bind fun u230 =>
      (fM_bin q227.2 u230 v228 v229).bind fun q231 =>
      if q227.1 = q231.1 then (
        fL_law_1337 L xs (fun M l1 l2 l3 => fL_law_18 L xs  n M l1 l2 l3) q231.2 l1 l2 l3 )
      else
      some ((0 : Int32), q231.2))
    else
    if (v1 &&& (63 : Int32)) = 33 then (
      (xsc L xs (l3 + (1 : Int32))).bind fun v232 =>
      (xsc L xs (l3 + (2 : Int32))).bind fun v233 =>
      (xsc L xs (l3 + (3 : Int32))).bind fun v234 =>
      (xob M l1 7).bind fun u235 =>
      (fX_lay M u235 v232 v233 v234).bind fun q236 =>
      (xsc L xs (l3 + (1 : Int32))).bind fun v237 =>
      (xsc L xs (l3 + (2 : Int32))).bind fun v238 =>
      (xsc L xs (l3 + (3 : Int32))).bind fun v239 =>
      (xob q236.2 l2 8).bind fun u240 =>
      (fM_lay q236.2 u240 v237 v238 v239).bind fun q241 =>
      if q236.1 = q241.1 then (
        fL_law_1337 L xs (fun M l1 l2 l3 => fL_law_18 L xs  n M l1 l2 l3) q241.2 l1 l2 l3 )
      else
      some ((0 : Int32), q241.2))
    else
    if (v1 &&& (63 : Int32)) = 34 then (
      (xsc L xs (l3 + (1 : Int32))).bind fun v242 =>
      (xsc L xs (l3 + (2 : Int32))).bind fun v243 =>
      (xob M l1 7).bind fun u244 =>
      (fX_at M u244 v242 v243).bind fun q245 =>
      (xsc L xs (l3 + (1 : Int32))).bind fun v246 =>
      (xsc L xs (l3 + (2 : Int32))).bind fun v247 =>
      (xob q245.2 l2 8).bind fun u248 =>
      (fM_at q245.2 u248 v246 v247).bind fun q249 =>
      if q245.1 = q249.1 then (
        fL_law_1337 L xs (fun M l1 l2 l3 => fL_law_18 L xs  n M l1 l2 l3) q249.2 l1 l2 l3 )
      else
      some ((0 : Int32), q249.2))
    else
    if (v1 &&& (63 : Int32)) = 35 then (
      (xsc L xs (l3 + (1 : Int32))).bind fun v250 =>
      (xsc L xs (l3 + (2 : Int32))).bind fun v251 =>
      (xsc L xs (l3 + (3 : Int32))).bind fun v252 =>
      (xsc L xs (l3 + (4 : Int32))).bind fun v253 =>
      (xob M l1 7).bind fun u254 =>
      (fX_pour M u254 v250 v251 v252 v253).bind fun q255 =>
      (xsc L xs (l3 + (1 : Int32))).bind fun v256 =>
      (xsc L xs (l3 + (2 : Int32))).bind fun v257 =>
      (xsc L xs (l3 + (3 : Int32))).bind fun v258 =>
      (xsc L xs (l3 + (4 : Int32))).bind fun v259 =>
      (xob q255.2 l2 8).bind fun u260 =>
      (fM_pour q255.2 u260 v256 v257 v258 v259).bind fun q261 =>
      if q255.1 = q261.1 then (
        fL_law_1337 L xs (fun M l1 l2 l3 => fL_law_18 L xs  n M l1 l2 l3) q261.2 l1 l2 l3 )
      else
      some ((0 : Int32), q261.2))
    else
    if (v1 &&& (63 : Int32)) = 36 then (
      (xsc L xs (l3 + (1 : Int32))).bind fun v262 =>
      (xsc L xs (l3 + (2 : Int32))).bind fun v263 =>
      (xsc L xs (l3 + (3 : Int32))).bind fun v264 =>
      (xsc L xs (l3 + (4 : Int32))).bind fun v265 =>
      (xsc L xs (l3 + (5 : Int32))).bind fun v266 =>
      (xob M l1 7).bind fun u267 =>
      (fX_shift M u267 v262 v263 v264 v265 v266).bind fun q268 =>
      (xsc L xs (l3 + (1 : Int32))).bind fun v269 =>
      (xsc L xs (l3 + (2 : Int32))).bind fun v270 =>
      (xsc L xs (l3 + (3 : Int32))).bind fun v271 =>
      (xsc L xs (l3 + (4 : Int32))).bind fun v272 =>
      (xsc L xs (l3 + (5 : Int32))).bind fun v273 =>
      (xob q268.2 l2 8).bind fun u274 =>
      (fM_shift q268.2 u274 v269 v270 v271 v272 v273).bind fun q275 =>
      if q268.1 = q275.1 then (
        fL_law_1337 L xs (fun M l1 l2 l3 => fL_law_18 L xs  n M l1 l2 l3) q275.2 l1 l2 l3 )
      else
      some ((0 : Int32), q275.2))
    else
    if (v1 &&& (63 : Int32)) = 37 then (
      (xsc L xs (l3 + (1 : Int32))).bind fun v276 =>
      (xob M l1 7).bind fun u277 =>
      (fX_count M u277 v276).bind fun q278 =>
      (xsc L xs (l3 + (1 : Int32))).bind fun v279 =>
      (xob q278.2 l2 8).bind fun u280 =>
      (fM_count q278.2 u280 v279).bind fun q281 =>
      if q278.1 = q281.1 then (
        fL_law_1337 L xs (fun M l1 l2 l3 => fL_law_18 L xs  n M l1 l2 l3) q281.2 l1 l2 l3 )
      else
      some ((0 : Int32), q281.2))
    else
    fL_law_1337 L xs (fun M l1 l2 l3 => fL_law_18 L xs  n M l1 l2 l3) M l1 l2 l3 
set_option maxHeartbeats 4000000 in
set_option maxRecDepth 20000 in
theorem TfL_law_18 {M' : xMem} {r : Int32} (L : Nat) (xs : Nat → Int32)  : ∀ (n : Nat) (M : xMem) (l1 : Option xId) (l2 : Option xId) (l3 : Int32) , fL_law_18 L xs  n M l1 l2 l3 = some (r, M') → xrun (some (L, xs)) 13 272 18 ([some (.inr (.inr (some (99, 0, 0)))), some (.inr (.inr l1)), some (.inr (.inr l2)), some (.inl l3)]) ([]) M (some (.inl r), M') := by
  intro n
  induction n with
  | zero => intro M l1 l2 l3  h; unfold fL_law_18 at h; cases h
  | succ n ih =>
    intro M l1 l2 l3  h
    unfold fL_law_18 at h
    refine xr_iload_n (pc' := 19) rfl rfl rfl ?_
    refine xr_aload_n (pc' := 20) rfl rfl rfl ?_
    refine xr_slen (pc' := 21) rfl rfl ?_
    refine xr_bipush (v := 6) (pc' := 23) rfl (by decide) rfl ?_
    refine xr_isub (pc' := 24) rfl rfl ?_
    rcases xite h with ⟨hc, h⟩ | ⟨hc, h⟩
    · refine xr_icmp_gt_t (t := 1343) rfl hc ?_
      refine xr_iconst (v := 1) (pc' := 1344) rfl (by decide) rfl ?_
      obtain ⟨rfl, rfl⟩ := xsome2 h
      exact xr_zret rfl mR_272 (by decide)
    · refine xr_icmp_gt_f (pc' := 27) rfl hc rfl ?_
      refine xr_aload_n (pc' := 28) rfl rfl rfl ?_
      refine xr_iload_n (pc' := 29) rfl rfl rfl ?_
      obtain ⟨v1, hv1, h⟩ := xbind h
      refine xr_sld (pc' := 30) rfl hv1 rfl ?_
      refine xr_bipush (v := 63) (pc' := 32) rfl (by decide) rfl ?_
      refine xr_iand (pc' := 33) rfl rfl ?_
      rcases xite h with ⟨hc33_0, h⟩ | ⟨hc33_0, h⟩
      · refine xr_tsw_in (t := 200) rfl (by rw [hc33_0]; decide) (by rw [hc33_0]; rfl) (by decide) ?_
        refine xr_aload_n (pc' := 201) rfl rfl rfl ?_
        refine xr_aload_n (pc' := 202) rfl rfl rfl ?_
        refine xr_iload_n (pc' := 203) rfl rfl rfl ?_
        refine xr_iconst (v := 1) (pc' := 204) rfl (by decide) rfl ?_
        refine xr_iadd (pc' := 205) rfl rfl ?_
        obtain ⟨v2, hv2, h⟩ := xbind h
        refine xr_sld (pc' := 206) rfl hv2 rfl ?_
        refine xr_aload_n (pc' := 207) rfl rfl rfl ?_
        refine xr_iload_n (pc' := 208) rfl rfl rfl ?_
        refine xr_iconst (v := 2) (pc' := 209) rfl (by decide) rfl ?_
        refine xr_iadd (pc' := 210) rfl rfl ?_
        obtain ⟨v3, hv3, h⟩ := xbind h
        refine xr_sld (pc' := 211) rfl hv3 rfl ?_
        refine xr_aload_n (pc' := 212) rfl rfl rfl ?_
        refine xr_iload_n (pc' := 213) rfl rfl rfl ?_
        refine xr_iconst (v := 3) (pc' := 214) rfl (by decide) rfl ?_
        refine xr_iadd (pc' := 215) rfl rfl ?_
        obtain ⟨v4, hv4, h⟩ := xbind h
        refine xr_sld (pc' := 216) rfl hv4 rfl ?_
        obtain ⟨u5, hu5, h⟩ := xbind h
        obtain ⟨q6, hq6, h⟩ := xbind h
        refine xr_callV (pc' := 219) (C := 7) (As := [_, _, _]) (rest := _) rfl hu5 mC_10 mL_10 rfl (Nat.le_of_ble_eq_true rfl) rfl (Nat.le_of_ble_eq_true rfl) (TfX_cache _ _ _ _ hq6) rfl ?_
        refine xr_aload_n (pc' := 220) rfl rfl rfl ?_
        refine xr_aload_n (pc' := 221) rfl rfl rfl ?_
        refine xr_iload_n (pc' := 222) rfl rfl rfl ?_
        refine xr_iconst (v := 1) (pc' := 223) rfl (by decide) rfl ?_
        refine xr_iadd (pc' := 224) rfl rfl ?_
        obtain ⟨v7, hv7, h⟩ := xbind h
        refine xr_sld (pc' := 225) rfl hv7 rfl ?_
        refine xr_aload_n (pc' := 226) rfl rfl rfl ?_
        refine xr_iload_n (pc' := 227) rfl rfl rfl ?_
        refine xr_iconst (v := 2) (pc' := 228) rfl (by decide) rfl ?_
        refine xr_iadd (pc' := 229) rfl rfl ?_
        obtain ⟨v8, hv8, h⟩ := xbind h
        refine xr_sld (pc' := 230) rfl hv8 rfl ?_
        refine xr_aload_n (pc' := 231) rfl rfl rfl ?_
        refine xr_iload_n (pc' := 232) rfl rfl rfl ?_
        refine xr_iconst (v := 3) (pc' := 233) rfl (by decide) rfl ?_
        refine xr_iadd (pc' := 234) rfl rfl ?_
        obtain ⟨v9, hv9, h⟩ := xbind h
        refine xr_sld (pc' := 235) rfl hv9 rfl ?_
        obtain ⟨u10, hu10, h⟩ := xbind h
        obtain ⟨q11, hq11, h⟩ := xbind h
        refine xr_callV (pc' := 238) (C := 8) (As := [_, _, _]) (rest := _) rfl hu10 mC_162 mL_162 rfl (Nat.le_of_ble_eq_true rfl) rfl (Nat.le_of_ble_eq_true rfl) (TfM_cache _ _ _ _ hq11) rfl ?_
        rcases xite h with ⟨hc, h⟩ | ⟨hc, h⟩
        · refine xr_icmp_eq_t (t := 1337) rfl hc ?_
          exact TfL_law_1337 L xs _ (fun M l1 l2 l3  h => ih M l1 l2 l3  h) q11.2 _ _ _   h
        · refine xr_icmp_eq_f (pc' := 241) rfl hc rfl ?_
          refine xr_iconst (v := 0) (pc' := 242) rfl (by decide) rfl ?_
          obtain ⟨rfl, rfl⟩ := xsome2 h
          exact xr_zret rfl mR_272 (by decide)
      rcases xite h with ⟨hc33_1, h⟩ | ⟨hc33_1, h⟩
      · refine xr_tsw_in (t := 243) rfl (by rw [hc33_1]; decide) (by rw [hc33_1]; rfl) (by decide) ?_
        refine xr_aload_n (pc' := 244) rfl rfl rfl ?_
        refine xr_aload_n (pc' := 245) rfl rfl rfl ?_
        refine xr_iload_n (pc' := 246) rfl rfl rfl ?_
        refine xr_iconst (v := 1) (pc' := 247) rfl (by decide) rfl ?_
        refine xr_iadd (pc' := 248) rfl rfl ?_
        obtain ⟨v12, hv12, h⟩ := xbind h
        refine xr_sld (pc' := 249) rfl hv12 rfl ?_
        refine xr_aload_n (pc' := 250) rfl rfl rfl ?_
        refine xr_iload_n (pc' := 251) rfl rfl rfl ?_
        refine xr_iconst (v := 2) (pc' := 252) rfl (by decide) rfl ?_
        refine xr_iadd (pc' := 253) rfl rfl ?_
        obtain ⟨v13, hv13, h⟩ := xbind h
        refine xr_sld (pc' := 254) rfl hv13 rfl ?_
        obtain ⟨u14, hu14, h⟩ := xbind h
        obtain ⟨q15, hq15, h⟩ := xbind h
        refine xr_callV (pc' := 257) (C := 7) (As := [_, _]) (rest := _) rfl hu14 mC_17 mL_17 rfl (Nat.le_of_ble_eq_true rfl) rfl (Nat.le_of_ble_eq_true rfl) (TfX_limit _ _ _ hq15) rfl ?_
        refine xr_aload_n (pc' := 258) rfl rfl rfl ?_
        refine xr_aload_n (pc' := 259) rfl rfl rfl ?_
        refine xr_iload_n (pc' := 260) rfl rfl rfl ?_
        refine xr_iconst (v := 1) (pc' := 261) rfl (by decide) rfl ?_
        refine xr_iadd (pc' := 262) rfl rfl ?_
        obtain ⟨v16, hv16, h⟩ := xbind h
        refine xr_sld (pc' := 263) rfl hv16 rfl ?_
        refine xr_aload_n (pc' := 264) rfl rfl rfl ?_
        refine xr_iload_n (pc' := 265) rfl rfl rfl ?_
        refine xr_iconst (v := 2) (pc' := 266) rfl (by decide) rfl ?_
        refine xr_iadd (pc' := 267) rfl rfl ?_
        obtain ⟨v17, hv17, h⟩ := xbind h
        refine xr_sld (pc' := 268) rfl hv17 rfl ?_
        obtain ⟨u18, hu18, h⟩ := xbind h
        obtain ⟨q19, hq19, h⟩ := xbind h
        refine xr_callV (pc' := 271) (C := 8) (As := [_, _]) (rest := _) rfl hu18 mC_165 mL_165 rfl (Nat.le_of_ble_eq_true rfl) rfl (Nat.le_of_ble_eq_true rfl) (TfM_limit _ _ _ hq19) rfl ?_
        rcases xite h with ⟨hc, h⟩ | ⟨hc, h⟩
        · refine xr_icmp_eq_t (t := 1337) rfl hc ?_
          exact TfL_law_1337 L xs _ (fun M l1 l2 l3  h => ih M l1 l2 l3  h) q19.2 _ _ _   h
        · refine xr_icmp_eq_f (pc' := 274) rfl hc rfl ?_
          refine xr_iconst (v := 0) (pc' := 275) rfl (by decide) rfl ?_
          obtain ⟨rfl, rfl⟩ := xsome2 h
          exact xr_zret rfl mR_272 (by decide)
      rcases xite h with ⟨hc33_2, h⟩ | ⟨hc33_2, h⟩
      · refine xr_tsw_in (t := 276) rfl (by rw [hc33_2]; decide) (by rw [hc33_2]; rfl) (by decide) ?_
        refine xr_aload_n (pc' := 277) rfl rfl rfl ?_
        refine xr_aload_n (pc' := 278) rfl rfl rfl ?_
        refine xr_iload_n (pc' := 279) rfl rfl rfl ?_
        refine xr_iconst (v := 1) (pc' := 280) rfl (by decide) rfl ?_
        refine xr_iadd (pc' := 281) rfl rfl ?_
        obtain ⟨v20, hv20, h⟩ := xbind h
        refine xr_sld (pc' := 282) rfl hv20 rfl ?_
        refine xr_aload_n (pc' := 283) rfl rfl rfl ?_
        refine xr_iload_n (pc' := 284) rfl rfl rfl ?_
        refine xr_iconst (v := 2) (pc' := 285) rfl (by decide) rfl ?_
        refine xr_iadd (pc' := 286) rfl rfl ?_
        obtain ⟨v21, hv21, h⟩ := xbind h
        refine xr_sld (pc' := 287) rfl hv21 rfl ?_
        obtain ⟨u22, hu22, h⟩ := xbind h
        obtain ⟨q23, hq23, h⟩ := xbind h
        refine xr_callV (pc' := 290) (C := 7) (As := [_, _]) (rest := _) rfl hu22 mC_19 mL_19 rfl (Nat.le_of_ble_eq_true rfl) rfl (Nat.le_of_ble_eq_true rfl) (TfX_take _ _ _ hq23) rfl ?_
        refine xr_aload_n (pc' := 291) rfl rfl rfl ?_
        refine xr_aload_n (pc' := 292) rfl rfl rfl ?_
        refine xr_iload_n (pc' := 293) rfl rfl rfl ?_
        refine xr_iconst (v := 1) (pc' := 294) rfl (by decide) rfl ?_
        refine xr_iadd (pc' := 295) rfl rfl ?_
        obtain ⟨v24, hv24, h⟩ := xbind h
        refine xr_sld (pc' := 296) rfl hv24 rfl ?_
        refine xr_aload_n (pc' := 297) rfl rfl rfl ?_
        refine xr_iload_n (pc' := 298) rfl rfl rfl ?_
        refine xr_iconst (v := 2) (pc' := 299) rfl (by decide) rfl ?_
        refine xr_iadd (pc' := 300) rfl rfl ?_
        obtain ⟨v25, hv25, h⟩ := xbind h
        refine xr_sld (pc' := 301) rfl hv25 rfl ?_
        obtain ⟨u26, hu26, h⟩ := xbind h
        obtain ⟨q27, hq27, h⟩ := xbind h
        refine xr_callV (pc' := 304) (C := 8) (As := [_, _]) (rest := _) rfl hu26 mC_167 mL_167 rfl (Nat.le_of_ble_eq_true rfl) rfl (Nat.le_of_ble_eq_true rfl) (TfM_take _ _ _ hq27) rfl ?_
        rcases xite h with ⟨hc, h⟩ | ⟨hc, h⟩
        · refine xr_icmp_eq_t (t := 1337) rfl hc ?_
          exact TfL_law_1337 L xs _ (fun M l1 l2 l3  h => ih M l1 l2 l3  h) q27.2 _ _ _   h
        · refine xr_icmp_eq_f (pc' := 307) rfl hc rfl ?_
          refine xr_iconst (v := 0) (pc' := 308) rfl (by decide) rfl ?_
          obtain ⟨rfl, rfl⟩ := xsome2 h
          exact xr_zret rfl mR_272 (by decide)
      rcases xite h with ⟨hc33_3, h⟩ | ⟨hc33_3, h⟩
      · refine xr_tsw_in (t := 309) rfl (by rw [hc33_3]; decide) (by rw [hc33_3]; rfl) (by decide) ?_
        refine xr_aload_n (pc' := 310) rfl rfl rfl ?_
        refine xr_aload_n (pc' := 311) rfl rfl rfl ?_
        refine xr_iload_n (pc' := 312) rfl rfl rfl ?_
        refine xr_iconst (v := 1) (pc' := 313) rfl (by decide) rfl ?_
        refine xr_iadd (pc' := 314) rfl rfl ?_
        obtain ⟨v28, hv28, h⟩ := xbind h
        refine xr_sld (pc' := 315) rfl hv28 rfl ?_
        refine xr_aload_n (pc' := 316) rfl rfl rfl ?_
        refine xr_iload_n (pc' := 317) rfl rfl rfl ?_
        refine xr_iconst (v := 2) (pc' := 318) rfl (by decide) rfl ?_
        refine xr_iadd (pc' := 319) rfl rfl ?_
        obtain ⟨v29, hv29, h⟩ := xbind h
        refine xr_sld (pc' := 320) rfl hv29 rfl ?_
        obtain ⟨u30, hu30, h⟩ := xbind h
        obtain ⟨q31, hq31, h⟩ := xbind h
        refine xr_callV (pc' := 323) (C := 7) (As := [_, _]) (rest := _) rfl hu30 mC_42 mL_42 rfl (Nat.le_of_ble_eq_true rfl) rfl (Nat.le_of_ble_eq_true rfl) (TfX_give _ _ _ hq31) rfl ?_
        refine xr_aload_n (pc' := 324) rfl rfl rfl ?_
        refine xr_aload_n (pc' := 325) rfl rfl rfl ?_
        refine xr_iload_n (pc' := 326) rfl rfl rfl ?_
        refine xr_iconst (v := 1) (pc' := 327) rfl (by decide) rfl ?_
        refine xr_iadd (pc' := 328) rfl rfl ?_
        obtain ⟨v32, hv32, h⟩ := xbind h
        refine xr_sld (pc' := 329) rfl hv32 rfl ?_
        refine xr_aload_n (pc' := 330) rfl rfl rfl ?_
        refine xr_iload_n (pc' := 331) rfl rfl rfl ?_
        refine xr_iconst (v := 2) (pc' := 332) rfl (by decide) rfl ?_
        refine xr_iadd (pc' := 333) rfl rfl ?_
        obtain ⟨v33, hv33, h⟩ := xbind h
        refine xr_sld (pc' := 334) rfl hv33 rfl ?_
        obtain ⟨u34, hu34, h⟩ := xbind h
        obtain ⟨q35, hq35, h⟩ := xbind h
        refine xr_callV (pc' := 337) (C := 8) (As := [_, _]) (rest := _) rfl hu34 mC_186 mL_186 rfl (Nat.le_of_ble_eq_true rfl) rfl (Nat.le_of_ble_eq_true rfl) (TfM_give _ _ _ hq35) rfl ?_
        rcases xite h with ⟨hc, h⟩ | ⟨hc, h⟩
        · refine xr_icmp_eq_t (t := 1337) rfl hc ?_
          exact TfL_law_1337 L xs _ (fun M l1 l2 l3  h => ih M l1 l2 l3  h) q35.2 _ _ _   h
        · refine xr_icmp_eq_f (pc' := 340) rfl hc rfl ?_
          refine xr_iconst (v := 0) (pc' := 341) rfl (by decide) rfl ?_
          obtain ⟨rfl, rfl⟩ := xsome2 h
          exact xr_zret rfl mR_272 (by decide)
      rcases xite h with ⟨hc33_4, h⟩ | ⟨hc33_4, h⟩
      · refine xr_tsw_in (t := 342) rfl (by rw [hc33_4]; decide) (by rw [hc33_4]; rfl) (by decide) ?_
        refine xr_aload_n (pc' := 343) rfl rfl rfl ?_
        refine xr_aload_n (pc' := 344) rfl rfl rfl ?_
        refine xr_iload_n (pc' := 345) rfl rfl rfl ?_
        refine xr_iconst (v := 1) (pc' := 346) rfl (by decide) rfl ?_
        refine xr_iadd (pc' := 347) rfl rfl ?_
        obtain ⟨v36, hv36, h⟩ := xbind h
        refine xr_sld (pc' := 348) rfl hv36 rfl ?_
        refine xr_aload_n (pc' := 349) rfl rfl rfl ?_
        refine xr_iload_n (pc' := 350) rfl rfl rfl ?_
        refine xr_iconst (v := 2) (pc' := 351) rfl (by decide) rfl ?_
        refine xr_iadd (pc' := 352) rfl rfl ?_
        obtain ⟨v37, hv37, h⟩ := xbind h
        refine xr_sld (pc' := 353) rfl hv37 rfl ?_
        obtain ⟨u38, hu38, h⟩ := xbind h
        obtain ⟨q39, hq39, h⟩ := xbind h
        refine xr_callV (pc' := 356) (C := 7) (As := [_, _]) (rest := _) rfl hu38 mC_60 mL_60 rfl (Nat.le_of_ble_eq_true rfl) rfl (Nat.le_of_ble_eq_true rfl) (TfX_write _ _ _ hq39) rfl ?_
        refine xr_aload_n (pc' := 357) rfl rfl rfl ?_
        refine xr_aload_n (pc' := 358) rfl rfl rfl ?_
        refine xr_iload_n (pc' := 359) rfl rfl rfl ?_
        refine xr_iconst (v := 1) (pc' := 360) rfl (by decide) rfl ?_
        refine xr_iadd (pc' := 361) rfl rfl ?_
        obtain ⟨v40, hv40, h⟩ := xbind h
        refine xr_sld (pc' := 362) rfl hv40 rfl ?_
        refine xr_aload_n (pc' := 363) rfl rfl rfl ?_
        refine xr_iload_n (pc' := 364) rfl rfl rfl ?_
        refine xr_iconst (v := 2) (pc' := 365) rfl (by decide) rfl ?_
        refine xr_iadd (pc' := 366) rfl rfl ?_
        obtain ⟨v41, hv41, h⟩ := xbind h
        refine xr_sld (pc' := 367) rfl hv41 rfl ?_
        obtain ⟨u42, hu42, h⟩ := xbind h
        obtain ⟨q43, hq43, h⟩ := xbind h
        refine xr_callV (pc' := 370) (C := 8) (As := [_, _]) (rest := _) rfl hu42 mC_198 mL_198 rfl (Nat.le_of_ble_eq_true rfl) rfl (Nat.le_of_ble_eq_true rfl) (TfM_write _ _ _ hq43) rfl ?_
        rcases xite h with ⟨hc, h⟩ | ⟨hc, h⟩
        · refine xr_icmp_eq_t (t := 1337) rfl hc ?_
          exact TfL_law_1337 L xs _ (fun M l1 l2 l3  h => ih M l1 l2 l3  h) q43.2 _ _ _   h
        · refine xr_icmp_eq_f (pc' := 373) rfl hc rfl ?_
          refine xr_iconst (v := 0) (pc' := 374) rfl (by decide) rfl ?_
          obtain ⟨rfl, rfl⟩ := xsome2 h
          exact xr_zret rfl mR_272 (by decide)
      rcases xite h with ⟨hc33_5, h⟩ | ⟨hc33_5, h⟩
      · refine xr_tsw_in (t := 375) rfl (by rw [hc33_5]; decide) (by rw [hc33_5]; rfl) (by decide) ?_
        refine xr_aload_n (pc' := 376) rfl rfl rfl ?_
        refine xr_aload_n (pc' := 377) rfl rfl rfl ?_
        refine xr_iload_n (pc' := 378) rfl rfl rfl ?_
        refine xr_iconst (v := 1) (pc' := 379) rfl (by decide) rfl ?_
        refine xr_iadd (pc' := 380) rfl rfl ?_
        obtain ⟨v44, hv44, h⟩ := xbind h
        refine xr_sld (pc' := 381) rfl hv44 rfl ?_
        obtain ⟨u45, hu45, h⟩ := xbind h
        obtain ⟨q46, hq46, h⟩ := xbind h
        refine xr_callV (pc' := 384) (C := 7) (As := [_]) (rest := _) rfl hu45 mC_61 mL_61 rfl (Nat.le_of_ble_eq_true rfl) rfl (Nat.le_of_ble_eq_true rfl) (TfX_word _ _ hq46) rfl ?_
        refine xr_aload_n (pc' := 385) rfl rfl rfl ?_
        refine xr_aload_n (pc' := 386) rfl rfl rfl ?_
        refine xr_iload_n (pc' := 387) rfl rfl rfl ?_
        refine xr_iconst (v := 1) (pc' := 388) rfl (by decide) rfl ?_
        refine xr_iadd (pc' := 389) rfl rfl ?_
        obtain ⟨v47, hv47, h⟩ := xbind h
        refine xr_sld (pc' := 390) rfl hv47 rfl ?_
        obtain ⟨u48, hu48, h⟩ := xbind h
        obtain ⟨q49, hq49, h⟩ := xbind h
        refine xr_callV (pc' := 393) (C := 8) (As := [_]) (rest := _) rfl hu48 mC_199 mL_199 rfl (Nat.le_of_ble_eq_true rfl) rfl (Nat.le_of_ble_eq_true rfl) (TfM_word _ _ hq49) rfl ?_
        refine xr_lcmp (pc' := 394) rfl rfl ?_
        rcases xite h with ⟨hc, h⟩ | ⟨hc, h⟩
        · refine xr_if_eq_t (t := 1337) rfl hc ?_
          exact TfL_law_1337 L xs _ (fun M l1 l2 l3  h => ih M l1 l2 l3  h) q49.2 _ _ _   h
        · refine xr_if_eq_f (pc' := 397) rfl hc rfl ?_
          refine xr_iconst (v := 0) (pc' := 398) rfl (by decide) rfl ?_
          obtain ⟨rfl, rfl⟩ := xsome2 h
          exact xr_zret rfl mR_272 (by decide)
      rcases xite h with ⟨hc33_6, h⟩ | ⟨hc33_6, h⟩
      · refine xr_tsw_in (t := 399) rfl (by rw [hc33_6]; decide) (by rw [hc33_6]; rfl) (by decide) ?_
        refine xr_aload_n (pc' := 400) rfl rfl rfl ?_
        refine xr_aload_n (pc' := 401) rfl rfl rfl ?_
        refine xr_iload_n (pc' := 402) rfl rfl rfl ?_
        refine xr_iconst (v := 1) (pc' := 403) rfl (by decide) rfl ?_
        refine xr_iadd (pc' := 404) rfl rfl ?_
        obtain ⟨v50, hv50, h⟩ := xbind h
        refine xr_sld (pc' := 405) rfl hv50 rfl ?_
        obtain ⟨u51, hu51, h⟩ := xbind h
        obtain ⟨q52, hq52, h⟩ := xbind h
        refine xr_callV (pc' := 408) (C := 7) (As := [_]) (rest := _) rfl hu51 mC_62 mL_62 rfl (Nat.le_of_ble_eq_true rfl) rfl (Nat.le_of_ble_eq_true rfl) (TfX_hold _ _ hq52) rfl ?_
        refine xr_aload_n (pc' := 409) rfl rfl rfl ?_
        refine xr_aload_n (pc' := 410) rfl rfl rfl ?_
        refine xr_iload_n (pc' := 411) rfl rfl rfl ?_
        refine xr_iconst (v := 1) (pc' := 412) rfl (by decide) rfl ?_
        refine xr_iadd (pc' := 413) rfl rfl ?_
        obtain ⟨v53, hv53, h⟩ := xbind h
        refine xr_sld (pc' := 414) rfl hv53 rfl ?_
        obtain ⟨u54, hu54, h⟩ := xbind h
        obtain ⟨q55, hq55, h⟩ := xbind h
        refine xr_callV (pc' := 417) (C := 8) (As := [_]) (rest := _) rfl hu54 mC_200 mL_200 rfl (Nat.le_of_ble_eq_true rfl) rfl (Nat.le_of_ble_eq_true rfl) (TfM_hold _ _ hq55) rfl ?_
        rcases xite h with ⟨hc, h⟩ | ⟨hc, h⟩
        · refine xr_icmp_eq_t (t := 1337) rfl hc ?_
          exact TfL_law_1337 L xs _ (fun M l1 l2 l3  h => ih M l1 l2 l3  h) q55.2 _ _ _   h
        · refine xr_icmp_eq_f (pc' := 420) rfl hc rfl ?_
          refine xr_iconst (v := 0) (pc' := 421) rfl (by decide) rfl ?_
          obtain ⟨rfl, rfl⟩ := xsome2 h
          exact xr_zret rfl mR_272 (by decide)
      rcases xite h with ⟨hc33_7, h⟩ | ⟨hc33_7, h⟩
      · refine xr_tsw_in (t := 422) rfl (by rw [hc33_7]; decide) (by rw [hc33_7]; rfl) (by decide) ?_
        refine xr_aload_n (pc' := 423) rfl rfl rfl ?_
        refine xr_aload_n (pc' := 424) rfl rfl rfl ?_
        refine xr_iload_n (pc' := 425) rfl rfl rfl ?_
        refine xr_iconst (v := 1) (pc' := 426) rfl (by decide) rfl ?_
        refine xr_iadd (pc' := 427) rfl rfl ?_
        obtain ⟨v56, hv56, h⟩ := xbind h
        refine xr_sld (pc' := 428) rfl hv56 rfl ?_
        obtain ⟨u57, hu57, h⟩ := xbind h
        obtain ⟨q58, hq58, h⟩ := xbind h
        refine xr_callV (pc' := 431) (C := 7) (As := [_]) (rest := _) rfl hu57 mC_65 mL_65 rfl (Nat.le_of_ble_eq_true rfl) rfl (Nat.le_of_ble_eq_true rfl) (TfX_letGo _ _ hq58) rfl ?_
        refine xr_aload_n (pc' := 432) rfl rfl rfl ?_
        refine xr_aload_n (pc' := 433) rfl rfl rfl ?_
        refine xr_iload_n (pc' := 434) rfl rfl rfl ?_
        refine xr_iconst (v := 1) (pc' := 435) rfl (by decide) rfl ?_
        refine xr_iadd (pc' := 436) rfl rfl ?_
        obtain ⟨v59, hv59, h⟩ := xbind h
        refine xr_sld (pc' := 437) rfl hv59 rfl ?_
        obtain ⟨u60, hu60, h⟩ := xbind h
        obtain ⟨q61, hq61, h⟩ := xbind h
        refine xr_callV (pc' := 440) (C := 8) (As := [_]) (rest := _) rfl hu60 mC_202 mL_202 rfl (Nat.le_of_ble_eq_true rfl) rfl (Nat.le_of_ble_eq_true rfl) (TfM_letGo _ _ hq61) rfl ?_
        rcases xite h with ⟨hc, h⟩ | ⟨hc, h⟩
        · refine xr_icmp_eq_t (t := 1337) rfl hc ?_
          exact TfL_law_1337 L xs _ (fun M l1 l2 l3  h => ih M l1 l2 l3  h) q61.2 _ _ _   h
        · refine xr_icmp_eq_f (pc' := 443) rfl hc rfl ?_
          refine xr_iconst (v := 0) (pc' := 444) rfl (by decide) rfl ?_
          obtain ⟨rfl, rfl⟩ := xsome2 h
          exact xr_zret rfl mR_272 (by decide)
      rcases xite h with ⟨hc33_8, h⟩ | ⟨hc33_8, h⟩
      · refine xr_tsw_in (t := 445) rfl (by rw [hc33_8]; decide) (by rw [hc33_8]; rfl) (by decide) ?_
        refine xr_aload_n (pc' := 446) rfl rfl rfl ?_
        obtain ⟨u62, hu62, h⟩ := xbind h
        obtain ⟨q63, hq63, h⟩ := xbind h
        refine xr_callV (pc' := 449) (C := 7) (As := []) (rest := _) rfl hu62 mC_66 mL_66 rfl (Nat.le_of_ble_eq_true rfl) rfl (Nat.le_of_ble_eq_true rfl) (TfX_interval _  hq63) rfl ?_
        refine xr_aload_n (pc' := 450) rfl rfl rfl ?_
        obtain ⟨u64, hu64, h⟩ := xbind h
        obtain ⟨q65, hq65, h⟩ := xbind h
        refine xr_callV (pc' := 453) (C := 8) (As := []) (rest := _) rfl hu64 mC_203 mL_203 rfl (Nat.le_of_ble_eq_true rfl) rfl (Nat.le_of_ble_eq_true rfl) (TfM_interval _  hq65) rfl ?_
        rcases xite h with ⟨hc, h⟩ | ⟨hc, h⟩
        · refine xr_icmp_eq_t (t := 1337) rfl hc ?_
          exact TfL_law_1337 L xs _ (fun M l1 l2 l3  h => ih M l1 l2 l3  h) q65.2 _ _ _   h
        · refine xr_icmp_eq_f (pc' := 456) rfl hc rfl ?_
          refine xr_iconst (v := 0) (pc' := 457) rfl (by decide) rfl ?_
          obtain ⟨rfl, rfl⟩ := xsome2 h
          exact xr_zret rfl mR_272 (by decide)
      rcases xite h with ⟨hc33_9, h⟩ | ⟨hc33_9, h⟩
      · refine xr_tsw_in (t := 458) rfl (by rw [hc33_9]; decide) (by rw [hc33_9]; rfl) (by decide) ?_
        refine xr_aload_n (pc' := 459) rfl rfl rfl ?_
        refine xr_aload_n (pc' := 460) rfl rfl rfl ?_
        refine xr_iload_n (pc' := 461) rfl rfl rfl ?_
        refine xr_iconst (v := 1) (pc' := 462) rfl (by decide) rfl ?_
        refine xr_iadd (pc' := 463) rfl rfl ?_
        obtain ⟨v66, hv66, h⟩ := xbind h
        refine xr_sld (pc' := 464) rfl hv66 rfl ?_
        refine xr_aload_n (pc' := 465) rfl rfl rfl ?_
        refine xr_iload_n (pc' := 466) rfl rfl rfl ?_
        refine xr_iconst (v := 2) (pc' := 467) rfl (by decide) rfl ?_
        refine xr_iadd (pc' := 468) rfl rfl ?_
        obtain ⟨v67, hv67, h⟩ := xbind h
        refine xr_sld (pc' := 469) rfl hv67 rfl ?_
        obtain ⟨u68, hu68, h⟩ := xbind h
        obtain ⟨q69, hq69, h⟩ := xbind h
        refine xr_callV (pc' := 472) (C := 7) (As := [_, _]) (rest := _) rfl hu68 mC_75 mL_75 rfl (Nat.le_of_ble_eq_true rfl) rfl (Nat.le_of_ble_eq_true rfl) (TfX_drain _ _ _ hq69) rfl ?_
        refine xr_aload_n (pc' := 473) rfl rfl rfl ?_
        refine xr_aload_n (pc' := 474) rfl rfl rfl ?_
        refine xr_iload_n (pc' := 475) rfl rfl rfl ?_
        refine xr_iconst (v := 1) (pc' := 476) rfl (by decide) rfl ?_
        refine xr_iadd (pc' := 477) rfl rfl ?_
        obtain ⟨v70, hv70, h⟩ := xbind h
        refine xr_sld (pc' := 478) rfl hv70 rfl ?_
        refine xr_aload_n (pc' := 479) rfl rfl rfl ?_
        refine xr_iload_n (pc' := 480) rfl rfl rfl ?_
        refine xr_iconst (v := 2) (pc' := 481) rfl (by decide) rfl ?_
        refine xr_iadd (pc' := 482) rfl rfl ?_
        obtain ⟨v71, hv71, h⟩ := xbind h
        refine xr_sld (pc' := 483) rfl hv71 rfl ?_
        obtain ⟨u72, hu72, h⟩ := xbind h
        obtain ⟨q73, hq73, h⟩ := xbind h
        refine xr_callV (pc' := 486) (C := 8) (As := [_, _]) (rest := _) rfl hu72 mC_211 mL_211 rfl (Nat.le_of_ble_eq_true rfl) rfl (Nat.le_of_ble_eq_true rfl) (TfM_drain _ _ _ hq73) rfl ?_
        rcases xite h with ⟨hc, h⟩ | ⟨hc, h⟩
        · refine xr_icmp_eq_t (t := 1337) rfl hc ?_
          exact TfL_law_1337 L xs _ (fun M l1 l2 l3  h => ih M l1 l2 l3  h) q73.2 _ _ _   h
        · refine xr_icmp_eq_f (pc' := 489) rfl hc rfl ?_
          refine xr_iconst (v := 0) (pc' := 490) rfl (by decide) rfl ?_
          obtain ⟨rfl, rfl⟩ := xsome2 h
          exact xr_zret rfl mR_272 (by decide)
      rcases xite h with ⟨hc33_10, h⟩ | ⟨hc33_10, h⟩
      · refine xr_tsw_in (t := 491) rfl (by rw [hc33_10]; decide) (by rw [hc33_10]; rfl) (by decide) ?_
        refine xr_aload_n (pc' := 492) rfl rfl rfl ?_
        refine xr_aload_n (pc' := 493) rfl rfl rfl ?_
        refine xr_iload_n (pc' := 494) rfl rfl rfl ?_
        refine xr_iconst (v := 1) (pc' := 495) rfl (by decide) rfl ?_
        refine xr_iadd (pc' := 496) rfl rfl ?_
        obtain ⟨v74, hv74, h⟩ := xbind h
        refine xr_sld (pc' := 497) rfl hv74 rfl ?_
        obtain ⟨u75, hu75, h⟩ := xbind h
        obtain ⟨q76, hq76, h⟩ := xbind h
        refine xr_callV (pc' := 500) (C := 7) (As := [_]) (rest := _) rfl hu75 mC_77 mL_77 rfl (Nat.le_of_ble_eq_true rfl) rfl (Nat.le_of_ble_eq_true rfl) (TfX_reap _ _ hq76) rfl ?_
        refine xr_aload_n (pc' := 501) rfl rfl rfl ?_
        refine xr_aload_n (pc' := 502) rfl rfl rfl ?_
        refine xr_iload_n (pc' := 503) rfl rfl rfl ?_
        refine xr_iconst (v := 1) (pc' := 504) rfl (by decide) rfl ?_
        refine xr_iadd (pc' := 505) rfl rfl ?_
        obtain ⟨v77, hv77, h⟩ := xbind h
        refine xr_sld (pc' := 506) rfl hv77 rfl ?_
        obtain ⟨u78, hu78, h⟩ := xbind h
        obtain ⟨q79, hq79, h⟩ := xbind h
        refine xr_callV (pc' := 509) (C := 8) (As := [_]) (rest := _) rfl hu78 mC_212 mL_212 rfl (Nat.le_of_ble_eq_true rfl) rfl (Nat.le_of_ble_eq_true rfl) (TfM_reap _ _ hq79) rfl ?_
        rcases xite h with ⟨hc, h⟩ | ⟨hc, h⟩
        · refine xr_icmp_eq_t (t := 1337) rfl hc ?_
          exact TfL_law_1337 L xs _ (fun M l1 l2 l3  h => ih M l1 l2 l3  h) q79.2 _ _ _   h
        · refine xr_icmp_eq_f (pc' := 512) rfl hc rfl ?_
          refine xr_iconst (v := 0) (pc' := 513) rfl (by decide) rfl ?_
          obtain ⟨rfl, rfl⟩ := xsome2 h
          exact xr_zret rfl mR_272 (by decide)
      rcases xite h with ⟨hc33_11, h⟩ | ⟨hc33_11, h⟩
      · refine xr_tsw_in (t := 514) rfl (by rw [hc33_11]; decide) (by rw [hc33_11]; rfl) (by decide) ?_
        refine xr_aload_n (pc' := 515) rfl rfl rfl ?_
        refine xr_aload_n (pc' := 516) rfl rfl rfl ?_
        refine xr_iload_n (pc' := 517) rfl rfl rfl ?_
        refine xr_iconst (v := 1) (pc' := 518) rfl (by decide) rfl ?_
        refine xr_iadd (pc' := 519) rfl rfl ?_
        obtain ⟨v80, hv80, h⟩ := xbind h
        refine xr_sld (pc' := 520) rfl hv80 rfl ?_
        obtain ⟨u81, hu81, h⟩ := xbind h
        obtain ⟨q82, hq82, h⟩ := xbind h
        refine xr_callV (pc' := 523) (C := 7) (As := [_]) (rest := _) rfl hu81 mC_79 mL_79 rfl (Nat.le_of_ble_eq_true rfl) rfl (Nat.le_of_ble_eq_true rfl) (TfX_state _ _ hq82) rfl ?_
        refine xr_aload_n (pc' := 524) rfl rfl rfl ?_
        refine xr_aload_n (pc' := 525) rfl rfl rfl ?_
        refine xr_iload_n (pc' := 526) rfl rfl rfl ?_
        refine xr_iconst (v := 1) (pc' := 527) rfl (by decide) rfl ?_
        refine xr_iadd (pc' := 528) rfl rfl ?_
        obtain ⟨v83, hv83, h⟩ := xbind h
        refine xr_sld (pc' := 529) rfl hv83 rfl ?_
        obtain ⟨u84, hu84, h⟩ := xbind h
        obtain ⟨q85, hq85, h⟩ := xbind h
        refine xr_callV (pc' := 532) (C := 8) (As := [_]) (rest := _) rfl hu84 mC_214 mL_214 rfl (Nat.le_of_ble_eq_true rfl) rfl (Nat.le_of_ble_eq_true rfl) (TfM_state _ _ hq85) rfl ?_
        rcases xite h with ⟨hc, h⟩ | ⟨hc, h⟩
        · refine xr_icmp_eq_t (t := 1337) rfl hc ?_
          exact TfL_law_1337 L xs _ (fun M l1 l2 l3  h => ih M l1 l2 l3  h) q85.2 _ _ _   h
        · refine xr_icmp_eq_f (pc' := 535) rfl hc rfl ?_
          refine xr_iconst (v := 0) (pc' := 536) rfl (by decide) rfl ?_
          obtain ⟨rfl, rfl⟩ := xsome2 h
          exact xr_zret rfl mR_272 (by decide)
      rcases xite h with ⟨hc33_12, h⟩ | ⟨hc33_12, h⟩
      · refine xr_tsw_in (t := 537) rfl (by rw [hc33_12]; decide) (by rw [hc33_12]; rfl) (by decide) ?_
        refine xr_aload_n (pc' := 538) rfl rfl rfl ?_
        refine xr_aload_n (pc' := 539) rfl rfl rfl ?_
        refine xr_iload_n (pc' := 540) rfl rfl rfl ?_
        refine xr_iconst (v := 1) (pc' := 541) rfl (by decide) rfl ?_
        refine xr_iadd (pc' := 542) rfl rfl ?_
        obtain ⟨v86, hv86, h⟩ := xbind h
        refine xr_sld (pc' := 543) rfl hv86 rfl ?_
        obtain ⟨u87, hu87, h⟩ := xbind h
        obtain ⟨q88, hq88, h⟩ := xbind h
        refine xr_callV (pc' := 546) (C := 7) (As := [_]) (rest := _) rfl hu87 mC_80 mL_80 rfl (Nat.le_of_ble_eq_true rfl) rfl (Nat.le_of_ble_eq_true rfl) (TfX_owner _ _ hq88) rfl ?_
        refine xr_aload_n (pc' := 547) rfl rfl rfl ?_
        refine xr_aload_n (pc' := 548) rfl rfl rfl ?_
        refine xr_iload_n (pc' := 549) rfl rfl rfl ?_
        refine xr_iconst (v := 1) (pc' := 550) rfl (by decide) rfl ?_
        refine xr_iadd (pc' := 551) rfl rfl ?_
        obtain ⟨v89, hv89, h⟩ := xbind h
        refine xr_sld (pc' := 552) rfl hv89 rfl ?_
        obtain ⟨u90, hu90, h⟩ := xbind h
        obtain ⟨q91, hq91, h⟩ := xbind h
        refine xr_callV (pc' := 555) (C := 8) (As := [_]) (rest := _) rfl hu90 mC_215 mL_215 rfl (Nat.le_of_ble_eq_true rfl) rfl (Nat.le_of_ble_eq_true rfl) (TfM_owner _ _ hq91) rfl ?_
        rcases xite h with ⟨hc, h⟩ | ⟨hc, h⟩
        · refine xr_icmp_eq_t (t := 1337) rfl hc ?_
          exact TfL_law_1337 L xs _ (fun M l1 l2 l3  h => ih M l1 l2 l3  h) q91.2 _ _ _   h
        · refine xr_icmp_eq_f (pc' := 558) rfl hc rfl ?_
          refine xr_iconst (v := 0) (pc' := 559) rfl (by decide) rfl ?_
          obtain ⟨rfl, rfl⟩ := xsome2 h
          exact xr_zret rfl mR_272 (by decide)
      rcases xite h with ⟨hc33_13, h⟩ | ⟨hc33_13, h⟩
      · refine xr_tsw_in (t := 560) rfl (by rw [hc33_13]; decide) (by rw [hc33_13]; rfl) (by decide) ?_
        refine xr_aload_n (pc' := 561) rfl rfl rfl ?_
        refine xr_aload_n (pc' := 562) rfl rfl rfl ?_
        refine xr_iload_n (pc' := 563) rfl rfl rfl ?_
        refine xr_iconst (v := 1) (pc' := 564) rfl (by decide) rfl ?_
        refine xr_iadd (pc' := 565) rfl rfl ?_
        obtain ⟨v92, hv92, h⟩ := xbind h
        refine xr_sld (pc' := 566) rfl hv92 rfl ?_
        obtain ⟨u93, hu93, h⟩ := xbind h
        obtain ⟨q94, hq94, h⟩ := xbind h
        refine xr_callV (pc' := 569) (C := 7) (As := [_]) (rest := _) rfl hu93 mC_82 mL_82 rfl (Nat.le_of_ble_eq_true rfl) rfl (Nat.le_of_ble_eq_true rfl) (TfX_bytes _ _ hq94) rfl ?_
        refine xr_aload_n (pc' := 570) rfl rfl rfl ?_
        refine xr_aload_n (pc' := 571) rfl rfl rfl ?_
        refine xr_iload_n (pc' := 572) rfl rfl rfl ?_
        refine xr_iconst (v := 1) (pc' := 573) rfl (by decide) rfl ?_
        refine xr_iadd (pc' := 574) rfl rfl ?_
        obtain ⟨v95, hv95, h⟩ := xbind h
        refine xr_sld (pc' := 575) rfl hv95 rfl ?_
        obtain ⟨u96, hu96, h⟩ := xbind h
        obtain ⟨q97, hq97, h⟩ := xbind h
        refine xr_callV (pc' := 578) (C := 8) (As := [_]) (rest := _) rfl hu96 mC_217 mL_217 rfl (Nat.le_of_ble_eq_true rfl) rfl (Nat.le_of_ble_eq_true rfl) (TfM_bytes _ _ hq97) rfl ?_
        rcases xite h with ⟨hc, h⟩ | ⟨hc, h⟩
        · refine xr_icmp_eq_t (t := 1337) rfl hc ?_
          exact TfL_law_1337 L xs _ (fun M l1 l2 l3  h => ih M l1 l2 l3  h) q97.2 _ _ _   h
        · refine xr_icmp_eq_f (pc' := 581) rfl hc rfl ?_
          refine xr_iconst (v := 0) (pc' := 582) rfl (by decide) rfl ?_
          obtain ⟨rfl, rfl⟩ := xsome2 h
          exact xr_zret rfl mR_272 (by decide)
      rcases xite h with ⟨hc33_14, h⟩ | ⟨hc33_14, h⟩
      · refine xr_tsw_in (t := 583) rfl (by rw [hc33_14]; decide) (by rw [hc33_14]; rfl) (by decide) ?_
        refine xr_aload_n (pc' := 584) rfl rfl rfl ?_
        refine xr_aload_n (pc' := 585) rfl rfl rfl ?_
        refine xr_iload_n (pc' := 586) rfl rfl rfl ?_
        refine xr_iconst (v := 1) (pc' := 587) rfl (by decide) rfl ?_
        refine xr_iadd (pc' := 588) rfl rfl ?_
        obtain ⟨v98, hv98, h⟩ := xbind h
        refine xr_sld (pc' := 589) rfl hv98 rfl ?_
        refine xr_aload_n (pc' := 590) rfl rfl rfl ?_
        refine xr_iload_n (pc' := 591) rfl rfl rfl ?_
        refine xr_iconst (v := 2) (pc' := 592) rfl (by decide) rfl ?_
        refine xr_iadd (pc' := 593) rfl rfl ?_
        obtain ⟨v99, hv99, h⟩ := xbind h
        refine xr_sld (pc' := 594) rfl hv99 rfl ?_
        obtain ⟨u100, hu100, h⟩ := xbind h
        obtain ⟨q101, hq101, h⟩ := xbind h
        refine xr_callV (pc' := 597) (C := 7) (As := [_, _]) (rest := _) rfl hu100 mC_85 mL_85 rfl (Nat.le_of_ble_eq_true rfl) rfl (Nat.le_of_ble_eq_true rfl) (TfX_page _ _ _ hq101) rfl ?_
        refine xr_aload_n (pc' := 598) rfl rfl rfl ?_
        refine xr_aload_n (pc' := 599) rfl rfl rfl ?_
        refine xr_iload_n (pc' := 600) rfl rfl rfl ?_
        refine xr_iconst (v := 1) (pc' := 601) rfl (by decide) rfl ?_
        refine xr_iadd (pc' := 602) rfl rfl ?_
        obtain ⟨v102, hv102, h⟩ := xbind h
        refine xr_sld (pc' := 603) rfl hv102 rfl ?_
        refine xr_aload_n (pc' := 604) rfl rfl rfl ?_
        refine xr_iload_n (pc' := 605) rfl rfl rfl ?_
        refine xr_iconst (v := 2) (pc' := 606) rfl (by decide) rfl ?_
        refine xr_iadd (pc' := 607) rfl rfl ?_
        obtain ⟨v103, hv103, h⟩ := xbind h
        refine xr_sld (pc' := 608) rfl hv103 rfl ?_
        obtain ⟨u104, hu104, h⟩ := xbind h
        obtain ⟨q105, hq105, h⟩ := xbind h
        refine xr_callV (pc' := 611) (C := 8) (As := [_, _]) (rest := _) rfl hu104 mC_219 mL_219 rfl (Nat.le_of_ble_eq_true rfl) rfl (Nat.le_of_ble_eq_true rfl) (TfM_page _ _ _ hq105) rfl ?_
        rcases xite h with ⟨hc, h⟩ | ⟨hc, h⟩
        · refine xr_icmp_eq_t (t := 1337) rfl hc ?_
          exact TfL_law_1337 L xs _ (fun M l1 l2 l3  h => ih M l1 l2 l3  h) q105.2 _ _ _   h
        · refine xr_icmp_eq_f (pc' := 614) rfl hc rfl ?_
          refine xr_iconst (v := 0) (pc' := 615) rfl (by decide) rfl ?_
          obtain ⟨rfl, rfl⟩ := xsome2 h
          exact xr_zret rfl mR_272 (by decide)
      rcases xite h with ⟨hc33_15, h⟩ | ⟨hc33_15, h⟩
      · refine xr_tsw_in (t := 616) rfl (by rw [hc33_15]; decide) (by rw [hc33_15]; rfl) (by decide) ?_
        refine xr_aload_n (pc' := 617) rfl rfl rfl ?_
        refine xr_aload_n (pc' := 618) rfl rfl rfl ?_
        refine xr_iload_n (pc' := 619) rfl rfl rfl ?_
        refine xr_iconst (v := 1) (pc' := 620) rfl (by decide) rfl ?_
        refine xr_iadd (pc' := 621) rfl rfl ?_
        obtain ⟨v106, hv106, h⟩ := xbind h
        refine xr_sld (pc' := 622) rfl hv106 rfl ?_
        refine xr_aload_n (pc' := 623) rfl rfl rfl ?_
        refine xr_iload_n (pc' := 624) rfl rfl rfl ?_
        refine xr_iconst (v := 2) (pc' := 625) rfl (by decide) rfl ?_
        refine xr_iadd (pc' := 626) rfl rfl ?_
        obtain ⟨v107, hv107, h⟩ := xbind h
        refine xr_sld (pc' := 627) rfl hv107 rfl ?_
        obtain ⟨u108, hu108, h⟩ := xbind h
        obtain ⟨q109, hq109, h⟩ := xbind h
        refine xr_callV (pc' := 630) (C := 7) (As := [_, _]) (rest := _) rfl hu108 mC_86 mL_86 rfl (Nat.le_of_ble_eq_true rfl) rfl (Nat.le_of_ble_eq_true rfl) (TfX_map _ _ _ hq109) rfl ?_
        refine xr_aload_n (pc' := 631) rfl rfl rfl ?_
        refine xr_aload_n (pc' := 632) rfl rfl rfl ?_
        refine xr_iload_n (pc' := 633) rfl rfl rfl ?_
        refine xr_iconst (v := 1) (pc' := 634) rfl (by decide) rfl ?_
        refine xr_iadd (pc' := 635) rfl rfl ?_
        obtain ⟨v110, hv110, h⟩ := xbind h
        refine xr_sld (pc' := 636) rfl hv110 rfl ?_
        refine xr_aload_n (pc' := 637) rfl rfl rfl ?_
        refine xr_iload_n (pc' := 638) rfl rfl rfl ?_
        refine xr_iconst (v := 2) (pc' := 639) rfl (by decide) rfl ?_
        refine xr_iadd (pc' := 640) rfl rfl ?_
        obtain ⟨v111, hv111, h⟩ := xbind h
        refine xr_sld (pc' := 641) rfl hv111 rfl ?_
        obtain ⟨u112, hu112, h⟩ := xbind h
        obtain ⟨q113, hq113, h⟩ := xbind h
        refine xr_callV (pc' := 644) (C := 8) (As := [_, _]) (rest := _) rfl hu112 mC_220 mL_220 rfl (Nat.le_of_ble_eq_true rfl) rfl (Nat.le_of_ble_eq_true rfl) (TfM_map _ _ _ hq113) rfl ?_
        refine xr_lcmp (pc' := 645) rfl rfl ?_
        rcases xite h with ⟨hc, h⟩ | ⟨hc, h⟩
        · refine xr_if_eq_t (t := 1337) rfl hc ?_
          exact TfL_law_1337 L xs _ (fun M l1 l2 l3  h => ih M l1 l2 l3  h) q113.2 _ _ _   h
        · refine xr_if_eq_f (pc' := 648) rfl hc rfl ?_
          refine xr_iconst (v := 0) (pc' := 649) rfl (by decide) rfl ?_
          obtain ⟨rfl, rfl⟩ := xsome2 h
          exact xr_zret rfl mR_272 (by decide)
      rcases xite h with ⟨hc33_16, h⟩ | ⟨hc33_16, h⟩
      · refine xr_tsw_in (t := 650) rfl (by rw [hc33_16]; decide) (by rw [hc33_16]; rfl) (by decide) ?_
        refine xr_aload_n (pc' := 651) rfl rfl rfl ?_
        refine xr_aload_n (pc' := 652) rfl rfl rfl ?_
        refine xr_iload_n (pc' := 653) rfl rfl rfl ?_
        refine xr_iconst (v := 1) (pc' := 654) rfl (by decide) rfl ?_
        refine xr_iadd (pc' := 655) rfl rfl ?_
        obtain ⟨v114, hv114, h⟩ := xbind h
        refine xr_sld (pc' := 656) rfl hv114 rfl ?_
        refine xr_aload_n (pc' := 657) rfl rfl rfl ?_
        refine xr_iload_n (pc' := 658) rfl rfl rfl ?_
        refine xr_iconst (v := 2) (pc' := 659) rfl (by decide) rfl ?_
        refine xr_iadd (pc' := 660) rfl rfl ?_
        obtain ⟨v115, hv115, h⟩ := xbind h
        refine xr_sld (pc' := 661) rfl hv115 rfl ?_
        obtain ⟨u116, hu116, h⟩ := xbind h
        obtain ⟨q117, hq117, h⟩ := xbind h
        refine xr_callV (pc' := 664) (C := 7) (As := [_, _]) (rest := _) rfl hu116 mC_87 mL_87 rfl (Nat.le_of_ble_eq_true rfl) rfl (Nat.le_of_ble_eq_true rfl) (TfX_of _ _ _ hq117) rfl ?_
        refine xr_aload_n (pc' := 665) rfl rfl rfl ?_
        refine xr_aload_n (pc' := 666) rfl rfl rfl ?_
        refine xr_iload_n (pc' := 667) rfl rfl rfl ?_
        refine xr_iconst (v := 1) (pc' := 668) rfl (by decide) rfl ?_
        refine xr_iadd (pc' := 669) rfl rfl ?_
        obtain ⟨v118, hv118, h⟩ := xbind h
        refine xr_sld (pc' := 670) rfl hv118 rfl ?_
        refine xr_aload_n (pc' := 671) rfl rfl rfl ?_
        refine xr_iload_n (pc' := 672) rfl rfl rfl ?_
        refine xr_iconst (v := 2) (pc' := 673) rfl (by decide) rfl ?_
        refine xr_iadd (pc' := 674) rfl rfl ?_
        obtain ⟨v119, hv119, h⟩ := xbind h
        refine xr_sld (pc' := 675) rfl hv119 rfl ?_
        obtain ⟨u120, hu120, h⟩ := xbind h
        obtain ⟨q121, hq121, h⟩ := xbind h
        refine xr_callV (pc' := 678) (C := 8) (As := [_, _]) (rest := _) rfl hu120 mC_221 mL_221 rfl (Nat.le_of_ble_eq_true rfl) rfl (Nat.le_of_ble_eq_true rfl) (TfM_of _ _ _ hq121) rfl ?_
        rcases xite h with ⟨hc, h⟩ | ⟨hc, h⟩
        · refine xr_icmp_eq_t (t := 1337) rfl hc ?_
          exact TfL_law_1337 L xs _ (fun M l1 l2 l3  h => ih M l1 l2 l3  h) q121.2 _ _ _   h
        · refine xr_icmp_eq_f (pc' := 681) rfl hc rfl ?_
          refine xr_iconst (v := 0) (pc' := 682) rfl (by decide) rfl ?_
          obtain ⟨rfl, rfl⟩ := xsome2 h
          exact xr_zret rfl mR_272 (by decide)
      rcases xite h with ⟨hc33_17, h⟩ | ⟨hc33_17, h⟩
      · refine xr_tsw_in (t := 683) rfl (by rw [hc33_17]; decide) (by rw [hc33_17]; rfl) (by decide) ?_
        refine xr_aload_n (pc' := 684) rfl rfl rfl ?_
        refine xr_aload_n (pc' := 685) rfl rfl rfl ?_
        refine xr_iload_n (pc' := 686) rfl rfl rfl ?_
        refine xr_iconst (v := 1) (pc' := 687) rfl (by decide) rfl ?_
        refine xr_iadd (pc' := 688) rfl rfl ?_
        obtain ⟨v122, hv122, h⟩ := xbind h
        refine xr_sld (pc' := 689) rfl hv122 rfl ?_
        obtain ⟨u123, hu123, h⟩ := xbind h
        obtain ⟨q124, hq124, h⟩ := xbind h
        refine xr_callV (pc' := 692) (C := 7) (As := [_]) (rest := _) rfl hu123 mC_90 mL_90 rfl (Nat.le_of_ble_eq_true rfl) rfl (Nat.le_of_ble_eq_true rfl) (TfX_tally _ _ hq124) rfl ?_
        refine xr_aload_n (pc' := 693) rfl rfl rfl ?_
        refine xr_aload_n (pc' := 694) rfl rfl rfl ?_
        refine xr_iload_n (pc' := 695) rfl rfl rfl ?_
        refine xr_iconst (v := 1) (pc' := 696) rfl (by decide) rfl ?_
        refine xr_iadd (pc' := 697) rfl rfl ?_
        obtain ⟨v125, hv125, h⟩ := xbind h
        refine xr_sld (pc' := 698) rfl hv125 rfl ?_
        obtain ⟨u126, hu126, h⟩ := xbind h
        obtain ⟨q127, hq127, h⟩ := xbind h
        refine xr_callV (pc' := 701) (C := 8) (As := [_]) (rest := _) rfl hu126 mC_223 mL_223 rfl (Nat.le_of_ble_eq_true rfl) rfl (Nat.le_of_ble_eq_true rfl) (TfM_tally _ _ hq127) rfl ?_
        refine xr_lcmp (pc' := 702) rfl rfl ?_
        rcases xite h with ⟨hc, h⟩ | ⟨hc, h⟩
        · refine xr_if_eq_t (t := 1337) rfl hc ?_
          exact TfL_law_1337 L xs _ (fun M l1 l2 l3  h => ih M l1 l2 l3  h) q127.2 _ _ _   h
        · refine xr_if_eq_f (pc' := 705) rfl hc rfl ?_
          refine xr_iconst (v := 0) (pc' := 706) rfl (by decide) rfl ?_
          obtain ⟨rfl, rfl⟩ := xsome2 h
          exact xr_zret rfl mR_272 (by decide)
      rcases xite h with ⟨hc33_18, h⟩ | ⟨hc33_18, h⟩
      · refine xr_tsw_in (t := 707) rfl (by rw [hc33_18]; decide) (by rw [hc33_18]; rfl) (by decide) ?_
        refine xr_aload_n (pc' := 708) rfl rfl rfl ?_
        refine xr_aload_n (pc' := 709) rfl rfl rfl ?_
        refine xr_iload_n (pc' := 710) rfl rfl rfl ?_
        refine xr_iconst (v := 1) (pc' := 711) rfl (by decide) rfl ?_
        refine xr_iadd (pc' := 712) rfl rfl ?_
        obtain ⟨v128, hv128, h⟩ := xbind h
        refine xr_sld (pc' := 713) rfl hv128 rfl ?_
        refine xr_aload_n (pc' := 714) rfl rfl rfl ?_
        refine xr_iload_n (pc' := 715) rfl rfl rfl ?_
        refine xr_iconst (v := 2) (pc' := 716) rfl (by decide) rfl ?_
        refine xr_iadd (pc' := 717) rfl rfl ?_
        obtain ⟨v129, hv129, h⟩ := xbind h
        refine xr_sld (pc' := 718) rfl hv129 rfl ?_
        refine xr_aload_n (pc' := 719) rfl rfl rfl ?_
        refine xr_iload_n (pc' := 720) rfl rfl rfl ?_
        refine xr_iconst (v := 3) (pc' := 721) rfl (by decide) rfl ?_
        refine xr_iadd (pc' := 722) rfl rfl ?_
        obtain ⟨v130, hv130, h⟩ := xbind h
        refine xr_sld (pc' := 723) rfl hv130 rfl ?_
        obtain ⟨u131, hu131, h⟩ := xbind h
        obtain ⟨q132, hq132, h⟩ := xbind h
        refine xr_callV (pc' := 726) (C := 7) (As := [_, _, _]) (rest := _) rfl hu131 mC_91 mL_91 rfl (Nat.le_of_ble_eq_true rfl) rfl (Nat.le_of_ble_eq_true rfl) (TfX_magazine _ _ _ _ hq132) rfl ?_
        refine xr_aload_n (pc' := 727) rfl rfl rfl ?_
        refine xr_aload_n (pc' := 728) rfl rfl rfl ?_
        refine xr_iload_n (pc' := 729) rfl rfl rfl ?_
        refine xr_iconst (v := 1) (pc' := 730) rfl (by decide) rfl ?_
        refine xr_iadd (pc' := 731) rfl rfl ?_
        obtain ⟨v133, hv133, h⟩ := xbind h
        refine xr_sld (pc' := 732) rfl hv133 rfl ?_
        refine xr_aload_n (pc' := 733) rfl rfl rfl ?_
        refine xr_iload_n (pc' := 734) rfl rfl rfl ?_
        refine xr_iconst (v := 2) (pc' := 735) rfl (by decide) rfl ?_
        refine xr_iadd (pc' := 736) rfl rfl ?_
        obtain ⟨v134, hv134, h⟩ := xbind h
        refine xr_sld (pc' := 737) rfl hv134 rfl ?_
        refine xr_aload_n (pc' := 738) rfl rfl rfl ?_
        refine xr_iload_n (pc' := 739) rfl rfl rfl ?_
        refine xr_iconst (v := 3) (pc' := 740) rfl (by decide) rfl ?_
        refine xr_iadd (pc' := 741) rfl rfl ?_
        obtain ⟨v135, hv135, h⟩ := xbind h
        refine xr_sld (pc' := 742) rfl hv135 rfl ?_
        obtain ⟨u136, hu136, h⟩ := xbind h
        obtain ⟨q137, hq137, h⟩ := xbind h
        refine xr_callV (pc' := 745) (C := 8) (As := [_, _, _]) (rest := _) rfl hu136 mC_224 mL_224 rfl (Nat.le_of_ble_eq_true rfl) rfl (Nat.le_of_ble_eq_true rfl) (TfM_magazine _ _ _ _ hq137) rfl ?_
        rcases xite h with ⟨hc, h⟩ | ⟨hc, h⟩
        · refine xr_icmp_eq_t (t := 1337) rfl hc ?_
          exact TfL_law_1337 L xs _ (fun M l1 l2 l3  h => ih M l1 l2 l3  h) q137.2 _ _ _   h
        · refine xr_icmp_eq_f (pc' := 748) rfl hc rfl ?_
          refine xr_iconst (v := 0) (pc' := 749) rfl (by decide) rfl ?_
          obtain ⟨rfl, rfl⟩ := xsome2 h
          exact xr_zret rfl mR_272 (by decide)
      rcases xite h with ⟨hc33_19, h⟩ | ⟨hc33_19, h⟩
      · refine xr_tsw_in (t := 750) rfl (by rw [hc33_19]; decide) (by rw [hc33_19]; rfl) (by decide) ?_
        refine xr_aload_n (pc' := 751) rfl rfl rfl ?_
        refine xr_aload_n (pc' := 752) rfl rfl rfl ?_
        refine xr_iload_n (pc' := 753) rfl rfl rfl ?_
        refine xr_iconst (v := 1) (pc' := 754) rfl (by decide) rfl ?_
        refine xr_iadd (pc' := 755) rfl rfl ?_
        obtain ⟨v138, hv138, h⟩ := xbind h
        refine xr_sld (pc' := 756) rfl hv138 rfl ?_
        refine xr_aload_n (pc' := 757) rfl rfl rfl ?_
        refine xr_iload_n (pc' := 758) rfl rfl rfl ?_
        refine xr_iconst (v := 2) (pc' := 759) rfl (by decide) rfl ?_
        refine xr_iadd (pc' := 760) rfl rfl ?_
        obtain ⟨v139, hv139, h⟩ := xbind h
        refine xr_sld (pc' := 761) rfl hv139 rfl ?_
        obtain ⟨u140, hu140, h⟩ := xbind h
        obtain ⟨q141, hq141, h⟩ := xbind h
        refine xr_callV (pc' := 764) (C := 7) (As := [_, _]) (rest := _) rfl hu140 mC_93 mL_93 rfl (Nat.le_of_ble_eq_true rfl) rfl (Nat.le_of_ble_eq_true rfl) (TfX_lines _ _ _ hq141) rfl ?_
        refine xr_aload_n (pc' := 765) rfl rfl rfl ?_
        refine xr_aload_n (pc' := 766) rfl rfl rfl ?_
        refine xr_iload_n (pc' := 767) rfl rfl rfl ?_
        refine xr_iconst (v := 1) (pc' := 768) rfl (by decide) rfl ?_
        refine xr_iadd (pc' := 769) rfl rfl ?_
        obtain ⟨v142, hv142, h⟩ := xbind h
        refine xr_sld (pc' := 770) rfl hv142 rfl ?_
        refine xr_aload_n (pc' := 771) rfl rfl rfl ?_
        refine xr_iload_n (pc' := 772) rfl rfl rfl ?_
        refine xr_iconst (v := 2) (pc' := 773) rfl (by decide) rfl ?_
        refine xr_iadd (pc' := 774) rfl rfl ?_
        obtain ⟨v143, hv143, h⟩ := xbind h
        refine xr_sld (pc' := 775) rfl hv143 rfl ?_
        obtain ⟨u144, hu144, h⟩ := xbind h
        obtain ⟨q145, hq145, h⟩ := xbind h
        refine xr_callV (pc' := 778) (C := 8) (As := [_, _]) (rest := _) rfl hu144 mC_225 mL_225 rfl (Nat.le_of_ble_eq_true rfl) rfl (Nat.le_of_ble_eq_true rfl) (TfM_lines _ _ _ hq145) rfl ?_
        rcases xite h with ⟨hc, h⟩ | ⟨hc, h⟩
        · refine xr_icmp_eq_t (t := 1337) rfl hc ?_
          exact TfL_law_1337 L xs _ (fun M l1 l2 l3  h => ih M l1 l2 l3  h) q145.2 _ _ _   h
        · refine xr_icmp_eq_f (pc' := 781) rfl hc rfl ?_
          refine xr_iconst (v := 0) (pc' := 782) rfl (by decide) rfl ?_
          obtain ⟨rfl, rfl⟩ := xsome2 h
          exact xr_zret rfl mR_272 (by decide)
      rcases xite h with ⟨hc33_20, h⟩ | ⟨hc33_20, h⟩
      · refine xr_tsw_in (t := 783) rfl (by rw [hc33_20]; decide) (by rw [hc33_20]; rfl) (by decide) ?_
        refine xr_aload_n (pc' := 784) rfl rfl rfl ?_
        refine xr_aload_n (pc' := 785) rfl rfl rfl ?_
        refine xr_iload_n (pc' := 786) rfl rfl rfl ?_
        refine xr_iconst (v := 1) (pc' := 787) rfl (by decide) rfl ?_
        refine xr_iadd (pc' := 788) rfl rfl ?_
        obtain ⟨v146, hv146, h⟩ := xbind h
        refine xr_sld (pc' := 789) rfl hv146 rfl ?_
        refine xr_aload_n (pc' := 790) rfl rfl rfl ?_
        refine xr_iload_n (pc' := 791) rfl rfl rfl ?_
        refine xr_iconst (v := 2) (pc' := 792) rfl (by decide) rfl ?_
        refine xr_iadd (pc' := 793) rfl rfl ?_
        obtain ⟨v147, hv147, h⟩ := xbind h
        refine xr_sld (pc' := 794) rfl hv147 rfl ?_
        refine xr_aload_n (pc' := 795) rfl rfl rfl ?_
        refine xr_iload_n (pc' := 796) rfl rfl rfl ?_
        refine xr_iconst (v := 3) (pc' := 797) rfl (by decide) rfl ?_
        refine xr_iadd (pc' := 798) rfl rfl ?_
        obtain ⟨v148, hv148, h⟩ := xbind h
        refine xr_sld (pc' := 799) rfl hv148 rfl ?_
        refine xr_aload_n (pc' := 800) rfl rfl rfl ?_
        refine xr_iload_n (pc' := 801) rfl rfl rfl ?_
        refine xr_iconst (v := 4) (pc' := 802) rfl (by decide) rfl ?_
        refine xr_iadd (pc' := 803) rfl rfl ?_
        obtain ⟨v149, hv149, h⟩ := xbind h
        refine xr_sld (pc' := 804) rfl hv149 rfl ?_
        obtain ⟨u150, hu150, h⟩ := xbind h
        obtain ⟨q151, hq151, h⟩ := xbind h
        refine xr_callV (pc' := 807) (C := 7) (As := [_, _, _, _]) (rest := _) rfl hu150 mC_95 mL_95 rfl (Nat.le_of_ble_eq_true rfl) rfl (Nat.le_of_ble_eq_true rfl) (TfX_ahead _ _ _ _ _ hq151) rfl ?_
        refine xr_aload_n (pc' := 808) rfl rfl rfl ?_
        refine xr_aload_n (pc' := 809) rfl rfl rfl ?_
        refine xr_iload_n (pc' := 810) rfl rfl rfl ?_
        refine xr_iconst (v := 1) (pc' := 811) rfl (by decide) rfl ?_
        refine xr_iadd (pc' := 812) rfl rfl ?_
        obtain ⟨v152, hv152, h⟩ := xbind h
        refine xr_sld (pc' := 813) rfl hv152 rfl ?_
        refine xr_aload_n (pc' := 814) rfl rfl rfl ?_
        refine xr_iload_n (pc' := 815) rfl rfl rfl ?_
        refine xr_iconst (v := 2) (pc' := 816) rfl (by decide) rfl ?_
        refine xr_iadd (pc' := 817) rfl rfl ?_
        obtain ⟨v153, hv153, h⟩ := xbind h
        refine xr_sld (pc' := 818) rfl hv153 rfl ?_
        refine xr_aload_n (pc' := 819) rfl rfl rfl ?_
        refine xr_iload_n (pc' := 820) rfl rfl rfl ?_
        refine xr_iconst (v := 3) (pc' := 821) rfl (by decide) rfl ?_
        refine xr_iadd (pc' := 822) rfl rfl ?_
        obtain ⟨v154, hv154, h⟩ := xbind h
        refine xr_sld (pc' := 823) rfl hv154 rfl ?_
        refine xr_aload_n (pc' := 824) rfl rfl rfl ?_
        refine xr_iload_n (pc' := 825) rfl rfl rfl ?_
        refine xr_iconst (v := 4) (pc' := 826) rfl (by decide) rfl ?_
        refine xr_iadd (pc' := 827) rfl rfl ?_
        obtain ⟨v155, hv155, h⟩ := xbind h
        refine xr_sld (pc' := 828) rfl hv155 rfl ?_
        obtain ⟨u156, hu156, h⟩ := xbind h
        obtain ⟨q157, hq157, h⟩ := xbind h
        refine xr_callV (pc' := 831) (C := 8) (As := [_, _, _, _]) (rest := _) rfl hu156 mC_227 mL_227 rfl (Nat.le_of_ble_eq_true rfl) rfl (Nat.le_of_ble_eq_true rfl) (TfM_ahead _ _ _ _ _ hq157) rfl ?_
        rcases xite h with ⟨hc, h⟩ | ⟨hc, h⟩
        · refine xr_icmp_eq_t (t := 1337) rfl hc ?_
          exact TfL_law_1337 L xs _ (fun M l1 l2 l3  h => ih M l1 l2 l3  h) q157.2 _ _ _   h
        · refine xr_icmp_eq_f (pc' := 834) rfl hc rfl ?_
          refine xr_iconst (v := 0) (pc' := 835) rfl (by decide) rfl ?_
          obtain ⟨rfl, rfl⟩ := xsome2 h
          exact xr_zret rfl mR_272 (by decide)
      rcases xite h with ⟨hc33_21, h⟩ | ⟨hc33_21, h⟩
      · refine xr_tsw_in (t := 836) rfl (by rw [hc33_21]; decide) (by rw [hc33_21]; rfl) (by decide) ?_
        refine xr_aload_n (pc' := 837) rfl rfl rfl ?_
        refine xr_aload_n (pc' := 838) rfl rfl rfl ?_
        refine xr_iload_n (pc' := 839) rfl rfl rfl ?_
        refine xr_iconst (v := 1) (pc' := 840) rfl (by decide) rfl ?_
        refine xr_iadd (pc' := 841) rfl rfl ?_
        obtain ⟨v158, hv158, h⟩ := xbind h
        refine xr_sld (pc' := 842) rfl hv158 rfl ?_
        refine xr_aload_n (pc' := 843) rfl rfl rfl ?_
        refine xr_iload_n (pc' := 844) rfl rfl rfl ?_
        refine xr_iconst (v := 2) (pc' := 845) rfl (by decide) rfl ?_
        refine xr_iadd (pc' := 846) rfl rfl ?_
        obtain ⟨v159, hv159, h⟩ := xbind h
        refine xr_sld (pc' := 847) rfl hv159 rfl ?_
        refine xr_aload_n (pc' := 848) rfl rfl rfl ?_
        refine xr_iload_n (pc' := 849) rfl rfl rfl ?_
        refine xr_iconst (v := 3) (pc' := 850) rfl (by decide) rfl ?_
        refine xr_iadd (pc' := 851) rfl rfl ?_
        obtain ⟨v160, hv160, h⟩ := xbind h
        refine xr_sld (pc' := 852) rfl hv160 rfl ?_
        refine xr_aload_n (pc' := 853) rfl rfl rfl ?_
        refine xr_iload_n (pc' := 854) rfl rfl rfl ?_
        refine xr_iconst (v := 4) (pc' := 855) rfl (by decide) rfl ?_
        refine xr_iadd (pc' := 856) rfl rfl ?_
        obtain ⟨v161, hv161, h⟩ := xbind h
        refine xr_sld (pc' := 857) rfl hv161 rfl ?_
        obtain ⟨u162, hu162, h⟩ := xbind h
        obtain ⟨q163, hq163, h⟩ := xbind h
        refine xr_callV (pc' := 860) (C := 7) (As := [_, _, _, _]) (rest := _) rfl hu162 mC_101 mL_101 rfl (Nat.le_of_ble_eq_true rfl) rfl (Nat.le_of_ble_eq_true rfl) (TfX_trip _ _ _ _ _ hq163) rfl ?_
        refine xr_aload_n (pc' := 861) rfl rfl rfl ?_
        refine xr_aload_n (pc' := 862) rfl rfl rfl ?_
        refine xr_iload_n (pc' := 863) rfl rfl rfl ?_
        refine xr_iconst (v := 1) (pc' := 864) rfl (by decide) rfl ?_
        refine xr_iadd (pc' := 865) rfl rfl ?_
        obtain ⟨v164, hv164, h⟩ := xbind h
        refine xr_sld (pc' := 866) rfl hv164 rfl ?_
        refine xr_aload_n (pc' := 867) rfl rfl rfl ?_
        refine xr_iload_n (pc' := 868) rfl rfl rfl ?_
        refine xr_iconst (v := 2) (pc' := 869) rfl (by decide) rfl ?_
        refine xr_iadd (pc' := 870) rfl rfl ?_
        obtain ⟨v165, hv165, h⟩ := xbind h
        refine xr_sld (pc' := 871) rfl hv165 rfl ?_
        refine xr_aload_n (pc' := 872) rfl rfl rfl ?_
        refine xr_iload_n (pc' := 873) rfl rfl rfl ?_
        refine xr_iconst (v := 3) (pc' := 874) rfl (by decide) rfl ?_
        refine xr_iadd (pc' := 875) rfl rfl ?_
        obtain ⟨v166, hv166, h⟩ := xbind h
        refine xr_sld (pc' := 876) rfl hv166 rfl ?_
        refine xr_aload_n (pc' := 877) rfl rfl rfl ?_
        refine xr_iload_n (pc' := 878) rfl rfl rfl ?_
        refine xr_iconst (v := 4) (pc' := 879) rfl (by decide) rfl ?_
        refine xr_iadd (pc' := 880) rfl rfl ?_
        obtain ⟨v167, hv167, h⟩ := xbind h
        refine xr_sld (pc' := 881) rfl hv167 rfl ?_
        obtain ⟨u168, hu168, h⟩ := xbind h
        obtain ⟨q169, hq169, h⟩ := xbind h
        refine xr_callV (pc' := 884) (C := 8) (As := [_, _, _, _]) (rest := _) rfl hu168 mC_230 mL_230 rfl (Nat.le_of_ble_eq_true rfl) rfl (Nat.le_of_ble_eq_true rfl) (TfM_trip _ _ _ _ _ hq169) rfl ?_
        rcases xite h with ⟨hc, h⟩ | ⟨hc, h⟩
        · refine xr_icmp_eq_t (t := 1337) rfl hc ?_
          exact TfL_law_1337 L xs _ (fun M l1 l2 l3  h => ih M l1 l2 l3  h) q169.2 _ _ _   h
        · refine xr_icmp_eq_f (pc' := 887) rfl hc rfl ?_
          refine xr_iconst (v := 0) (pc' := 888) rfl (by decide) rfl ?_
          obtain ⟨rfl, rfl⟩ := xsome2 h
          exact xr_zret rfl mR_272 (by decide)
      rcases xite h with ⟨hc33_22, h⟩ | ⟨hc33_22, h⟩
      · refine xr_tsw_in (t := 889) rfl (by rw [hc33_22]; decide) (by rw [hc33_22]; rfl) (by decide) ?_
        refine xr_aload_n (pc' := 890) rfl rfl rfl ?_
        refine xr_aload_n (pc' := 891) rfl rfl rfl ?_
        refine xr_iload_n (pc' := 892) rfl rfl rfl ?_
        refine xr_iconst (v := 1) (pc' := 893) rfl (by decide) rfl ?_
        refine xr_iadd (pc' := 894) rfl rfl ?_
        obtain ⟨v170, hv170, h⟩ := xbind h
        refine xr_sld (pc' := 895) rfl hv170 rfl ?_
        refine xr_aload_n (pc' := 896) rfl rfl rfl ?_
        refine xr_iload_n (pc' := 897) rfl rfl rfl ?_
        refine xr_iconst (v := 2) (pc' := 898) rfl (by decide) rfl ?_
        refine xr_iadd (pc' := 899) rfl rfl ?_
        obtain ⟨v171, hv171, h⟩ := xbind h
        refine xr_sld (pc' := 900) rfl hv171 rfl ?_
        refine xr_aload_n (pc' := 901) rfl rfl rfl ?_
        refine xr_iload_n (pc' := 902) rfl rfl rfl ?_
        refine xr_iconst (v := 3) (pc' := 903) rfl (by decide) rfl ?_
        refine xr_iadd (pc' := 904) rfl rfl ?_
        obtain ⟨v172, hv172, h⟩ := xbind h
        refine xr_sld (pc' := 905) rfl hv172 rfl ?_
        obtain ⟨u173, hu173, h⟩ := xbind h
        obtain ⟨q174, hq174, h⟩ := xbind h
        refine xr_callV (pc' := 908) (C := 7) (As := [_, _, _]) (rest := _) rfl hu173 mC_102 mL_102 rfl (Nat.le_of_ble_eq_true rfl) rfl (Nat.le_of_ble_eq_true rfl) (TfX_drawn _ _ _ _ hq174) rfl ?_
        refine xr_aload_n (pc' := 909) rfl rfl rfl ?_
        refine xr_aload_n (pc' := 910) rfl rfl rfl ?_
        refine xr_iload_n (pc' := 911) rfl rfl rfl ?_
        refine xr_iconst (v := 1) (pc' := 912) rfl (by decide) rfl ?_
        refine xr_iadd (pc' := 913) rfl rfl ?_
        obtain ⟨v175, hv175, h⟩ := xbind h
        refine xr_sld (pc' := 914) rfl hv175 rfl ?_
        refine xr_aload_n (pc' := 915) rfl rfl rfl ?_
        refine xr_iload_n (pc' := 916) rfl rfl rfl ?_
        refine xr_iconst (v := 2) (pc' := 917) rfl (by decide) rfl ?_
        refine xr_iadd (pc' := 918) rfl rfl ?_
        obtain ⟨v176, hv176, h⟩ := xbind h
        refine xr_sld (pc' := 919) rfl hv176 rfl ?_
        refine xr_aload_n (pc' := 920) rfl rfl rfl ?_
        refine xr_iload_n (pc' := 921) rfl rfl rfl ?_
        refine xr_iconst (v := 3) (pc' := 922) rfl (by decide) rfl ?_
        refine xr_iadd (pc' := 923) rfl rfl ?_
        obtain ⟨v177, hv177, h⟩ := xbind h
        refine xr_sld (pc' := 924) rfl hv177 rfl ?_
        obtain ⟨u178, hu178, h⟩ := xbind h
        obtain ⟨q179, hq179, h⟩ := xbind h
        refine xr_callV (pc' := 927) (C := 8) (As := [_, _, _]) (rest := _) rfl hu178 mC_231 mL_231 rfl (Nat.le_of_ble_eq_true rfl) rfl (Nat.le_of_ble_eq_true rfl) (TfM_drawn _ _ _ _ hq179) rfl ?_
        rcases xite h with ⟨hc, h⟩ | ⟨hc, h⟩
        · refine xr_icmp_eq_t (t := 1337) rfl hc ?_
          exact TfL_law_1337 L xs _ (fun M l1 l2 l3  h => ih M l1 l2 l3  h) q179.2 _ _ _   h
        · refine xr_icmp_eq_f (pc' := 930) rfl hc rfl ?_
          refine xr_iconst (v := 0) (pc' := 931) rfl (by decide) rfl ?_
          obtain ⟨rfl, rfl⟩ := xsome2 h
          exact xr_zret rfl mR_272 (by decide)
      rcases xite h with ⟨hc33_23, h⟩ | ⟨hc33_23, h⟩
      · refine xr_tsw_in (t := 932) rfl (by rw [hc33_23]; decide) (by rw [hc33_23]; rfl) (by decide) ?_
        refine xr_aload_n (pc' := 933) rfl rfl rfl ?_
        refine xr_aload_n (pc' := 934) rfl rfl rfl ?_
        refine xr_iload_n (pc' := 935) rfl rfl rfl ?_
        refine xr_iconst (v := 1) (pc' := 936) rfl (by decide) rfl ?_
        refine xr_iadd (pc' := 937) rfl rfl ?_
        obtain ⟨v180, hv180, h⟩ := xbind h
        refine xr_sld (pc' := 938) rfl hv180 rfl ?_
        obtain ⟨u181, hu181, h⟩ := xbind h
        obtain ⟨q182, hq182, h⟩ := xbind h
        refine xr_callV (pc' := 941) (C := 7) (As := [_]) (rest := _) rfl hu181 mC_104 mL_104 rfl (Nat.le_of_ble_eq_true rfl) rfl (Nat.le_of_ble_eq_true rfl) (TfX_feed _ _ hq182) rfl ?_
        refine xr_aload_n (pc' := 942) rfl rfl rfl ?_
        refine xr_aload_n (pc' := 943) rfl rfl rfl ?_
        refine xr_iload_n (pc' := 944) rfl rfl rfl ?_
        refine xr_iconst (v := 1) (pc' := 945) rfl (by decide) rfl ?_
        refine xr_iadd (pc' := 946) rfl rfl ?_
        obtain ⟨v183, hv183, h⟩ := xbind h
        refine xr_sld (pc' := 947) rfl hv183 rfl ?_
        obtain ⟨u184, hu184, h⟩ := xbind h
        obtain ⟨q185, hq185, h⟩ := xbind h
        refine xr_callV (pc' := 950) (C := 8) (As := [_]) (rest := _) rfl hu184 mC_234 mL_234 rfl (Nat.le_of_ble_eq_true rfl) rfl (Nat.le_of_ble_eq_true rfl) (TfM_feed _ _ hq185) rfl ?_
        rcases xite h with ⟨hc, h⟩ | ⟨hc, h⟩
        · refine xr_icmp_eq_t (t := 1337) rfl hc ?_
          exact TfL_law_1337 L xs _ (fun M l1 l2 l3  h => ih M l1 l2 l3  h) q185.2 _ _ _   h
        · refine xr_icmp_eq_f (pc' := 953) rfl hc rfl ?_
          refine xr_iconst (v := 0) (pc' := 954) rfl (by decide) rfl ?_
          obtain ⟨rfl, rfl⟩ := xsome2 h
          exact xr_zret rfl mR_272 (by decide)
      rcases xite h with ⟨hc33_24, h⟩ | ⟨hc33_24, h⟩
      · refine xr_tsw_in (t := 955) rfl (by rw [hc33_24]; decide) (by rw [hc33_24]; rfl) (by decide) ?_
        refine xr_aload_n (pc' := 956) rfl rfl rfl ?_
        obtain ⟨u186, hu186, h⟩ := xbind h
        obtain ⟨q187, hq187, h⟩ := xbind h
        refine xr_callV (pc' := 959) (C := 7) (As := []) (rest := _) rfl hu186 mC_105 mL_105 rfl (Nat.le_of_ble_eq_true rfl) rfl (Nat.le_of_ble_eq_true rfl) (TfX_trace _  hq187) rfl ?_
        refine xr_aload_n (pc' := 960) rfl rfl rfl ?_
        obtain ⟨u188, hu188, h⟩ := xbind h
        obtain ⟨q189, hq189, h⟩ := xbind h
        refine xr_callV (pc' := 963) (C := 8) (As := []) (rest := _) rfl hu188 mC_235 mL_235 rfl (Nat.le_of_ble_eq_true rfl) rfl (Nat.le_of_ble_eq_true rfl) (TfM_trace _  hq189) rfl ?_
        rcases xite h with ⟨hc, h⟩ | ⟨hc, h⟩
        · refine xr_icmp_eq_t (t := 1337) rfl hc ?_
          exact TfL_law_1337 L xs _ (fun M l1 l2 l3  h => ih M l1 l2 l3  h) q189.2 _ _ _   h
        · refine xr_icmp_eq_f (pc' := 966) rfl hc rfl ?_
          refine xr_iconst (v := 0) (pc' := 967) rfl (by decide) rfl ?_
          obtain ⟨rfl, rfl⟩ := xsome2 h
          exact xr_zret rfl mR_272 (by decide)
      rcases xite h with ⟨hc33_25, h⟩ | ⟨hc33_25, h⟩
      · refine xr_tsw_in (t := 968) rfl (by rw [hc33_25]; decide) (by rw [hc33_25]; rfl) (by decide) ?_
        refine xr_aload_n (pc' := 969) rfl rfl rfl ?_
        obtain ⟨u190, hu190, h⟩ := xbind h
        obtain ⟨q191, hq191, h⟩ := xbind h
        refine xr_callV (pc' := 972) (C := 7) (As := []) (rest := _) rfl hu190 mC_122 mL_122 rfl (Nat.le_of_ble_eq_true rfl) rfl (Nat.le_of_ble_eq_true rfl) (TfX_run _  hq191) rfl ?_
        refine xr_aload_n (pc' := 973) rfl rfl rfl ?_
        obtain ⟨u192, hu192, h⟩ := xbind h
        obtain ⟨q193, hq193, h⟩ := xbind h
        refine xr_callV (pc' := 976) (C := 8) (As := []) (rest := _) rfl hu192 mC_244 mL_244 rfl (Nat.le_of_ble_eq_true rfl) rfl (Nat.le_of_ble_eq_true rfl) (TfM_run _  hq193) rfl ?_
        rcases xite h with ⟨hc, h⟩ | ⟨hc, h⟩
        · refine xr_icmp_eq_t (t := 1337) rfl hc ?_
          exact TfL_law_1337 L xs _ (fun M l1 l2 l3  h => ih M l1 l2 l3  h) q193.2 _ _ _   h
        · refine xr_icmp_eq_f (pc' := 979) rfl hc rfl ?_
          refine xr_iconst (v := 0) (pc' := 980) rfl (by decide) rfl ?_
          obtain ⟨rfl, rfl⟩ := xsome2 h
          exact xr_zret rfl mR_272 (by decide)
      rcases xite h with ⟨hc33_26, h⟩ | ⟨hc33_26, h⟩
      · refine xr_tsw_in (t := 981) rfl (by rw [hc33_26]; decide) (by rw [hc33_26]; rfl) (by decide) ?_
        refine xr_aload_n (pc' := 982) rfl rfl rfl ?_
        obtain ⟨u194, hu194, h⟩ := xbind h
        obtain ⟨q195, hq195, h⟩ := xbind h
        refine xr_callV (pc' := 985) (C := 7) (As := []) (rest := _) rfl hu194 mC_132 mL_132 rfl (Nat.le_of_ble_eq_true rfl) rfl (Nat.le_of_ble_eq_true rfl) (TfX_why _  hq195) rfl ?_
        refine xr_aload_n (pc' := 986) rfl rfl rfl ?_
        obtain ⟨u196, hu196, h⟩ := xbind h
        obtain ⟨q197, hq197, h⟩ := xbind h
        refine xr_callV (pc' := 989) (C := 8) (As := []) (rest := _) rfl hu196 mC_257 mL_257 rfl (Nat.le_of_ble_eq_true rfl) rfl (Nat.le_of_ble_eq_true rfl) (TfM_why _  hq197) rfl ?_
        rcases xite h with ⟨hc, h⟩ | ⟨hc, h⟩
        · refine xr_icmp_eq_t (t := 1337) rfl hc ?_
          exact TfL_law_1337 L xs _ (fun M l1 l2 l3  h => ih M l1 l2 l3  h) q197.2 _ _ _   h
        · refine xr_icmp_eq_f (pc' := 992) rfl hc rfl ?_
          refine xr_iconst (v := 0) (pc' := 993) rfl (by decide) rfl ?_
          obtain ⟨rfl, rfl⟩ := xsome2 h
          exact xr_zret rfl mR_272 (by decide)
      rcases xite h with ⟨hc33_27, h⟩ | ⟨hc33_27, h⟩
      · refine xr_tsw_in (t := 994) rfl (by rw [hc33_27]; decide) (by rw [hc33_27]; rfl) (by decide) ?_
        refine xr_aload_n (pc' := 995) rfl rfl rfl ?_
        refine xr_aload_n (pc' := 996) rfl rfl rfl ?_
        refine xr_iload_n (pc' := 997) rfl rfl rfl ?_
        refine xr_iconst (v := 1) (pc' := 998) rfl (by decide) rfl ?_
        refine xr_iadd (pc' := 999) rfl rfl ?_
        obtain ⟨v198, hv198, h⟩ := xbind h
        refine xr_sld (pc' := 1000) rfl hv198 rfl ?_
        obtain ⟨u199, hu199, h⟩ := xbind h
        obtain ⟨q200, hq200, h⟩ := xbind h
        refine xr_callV (pc' := 1003) (C := 7) (As := [_]) (rest := _) rfl hu199 mC_133 mL_133 rfl (Nat.le_of_ble_eq_true rfl) rfl (Nat.le_of_ble_eq_true rfl) (TfX_dry _ _ hq200) rfl ?_
        refine xr_aload_n (pc' := 1004) rfl rfl rfl ?_
        refine xr_aload_n (pc' := 1005) rfl rfl rfl ?_
        refine xr_iload_n (pc' := 1006) rfl rfl rfl ?_
        refine xr_iconst (v := 1) (pc' := 1007) rfl (by decide) rfl ?_
        refine xr_iadd (pc' := 1008) rfl rfl ?_
        obtain ⟨v201, hv201, h⟩ := xbind h
        refine xr_sld (pc' := 1009) rfl hv201 rfl ?_
        obtain ⟨u202, hu202, h⟩ := xbind h
        obtain ⟨q203, hq203, h⟩ := xbind h
        refine xr_callV (pc' := 1012) (C := 8) (As := [_]) (rest := _) rfl hu202 mC_258 mL_258 rfl (Nat.le_of_ble_eq_true rfl) rfl (Nat.le_of_ble_eq_true rfl) (TfM_dry _ _ hq203) rfl ?_
        rcases xite h with ⟨hc, h⟩ | ⟨hc, h⟩
        · refine xr_icmp_eq_t (t := 1337) rfl hc ?_
          exact TfL_law_1337 L xs _ (fun M l1 l2 l3  h => ih M l1 l2 l3  h) q203.2 _ _ _   h
        · refine xr_icmp_eq_f (pc' := 1015) rfl hc rfl ?_
          refine xr_iconst (v := 0) (pc' := 1016) rfl (by decide) rfl ?_
          obtain ⟨rfl, rfl⟩ := xsome2 h
          exact xr_zret rfl mR_272 (by decide)
      rcases xite h with ⟨hc33_28, h⟩ | ⟨hc33_28, h⟩
      · refine xr_tsw_in (t := 1017) rfl (by rw [hc33_28]; decide) (by rw [hc33_28]; rfl) (by decide) ?_
        refine xr_aload_n (pc' := 1018) rfl rfl rfl ?_
        refine xr_aload_n (pc' := 1019) rfl rfl rfl ?_
        refine xr_iload_n (pc' := 1020) rfl rfl rfl ?_
        refine xr_iconst (v := 1) (pc' := 1021) rfl (by decide) rfl ?_
        refine xr_iadd (pc' := 1022) rfl rfl ?_
        obtain ⟨v204, hv204, h⟩ := xbind h
        refine xr_sld (pc' := 1023) rfl hv204 rfl ?_
        obtain ⟨u205, hu205, h⟩ := xbind h
        obtain ⟨q206, hq206, h⟩ := xbind h
        refine xr_callV (pc' := 1026) (C := 7) (As := [_]) (rest := _) rfl hu205 mC_134 mL_134 rfl (Nat.le_of_ble_eq_true rfl) rfl (Nat.le_of_ble_eq_true rfl) (TfX_tuned _ _ hq206) rfl ?_
        refine xr_aload_n (pc' := 1027) rfl rfl rfl ?_
        refine xr_aload_n (pc' := 1028) rfl rfl rfl ?_
        refine xr_iload_n (pc' := 1029) rfl rfl rfl ?_
        refine xr_iconst (v := 1) (pc' := 1030) rfl (by decide) rfl ?_
        refine xr_iadd (pc' := 1031) rfl rfl ?_
        obtain ⟨v207, hv207, h⟩ := xbind h
        refine xr_sld (pc' := 1032) rfl hv207 rfl ?_
        obtain ⟨u208, hu208, h⟩ := xbind h
        obtain ⟨q209, hq209, h⟩ := xbind h
        refine xr_callV (pc' := 1035) (C := 8) (As := [_]) (rest := _) rfl hu208 mC_260 mL_260 rfl (Nat.le_of_ble_eq_true rfl) rfl (Nat.le_of_ble_eq_true rfl) (TfM_tuned _ _ hq209) rfl ?_
        rcases xite h with ⟨hc, h⟩ | ⟨hc, h⟩
        · refine xr_icmp_eq_t (t := 1337) rfl hc ?_
          exact TfL_law_1337 L xs _ (fun M l1 l2 l3  h => ih M l1 l2 l3  h) q209.2 _ _ _   h
        · refine xr_icmp_eq_f (pc' := 1038) rfl hc rfl ?_
          refine xr_iconst (v := 0) (pc' := 1039) rfl (by decide) rfl ?_
          obtain ⟨rfl, rfl⟩ := xsome2 h
          exact xr_zret rfl mR_272 (by decide)
      rcases xite h with ⟨hc33_29, h⟩ | ⟨hc33_29, h⟩
      · refine xr_tsw_in (t := 1040) rfl (by rw [hc33_29]; decide) (by rw [hc33_29]; rfl) (by decide) ?_
        refine xr_aload_n (pc' := 1041) rfl rfl rfl ?_
        refine xr_aload_n (pc' := 1042) rfl rfl rfl ?_
        refine xr_iload_n (pc' := 1043) rfl rfl rfl ?_
        refine xr_iconst (v := 1) (pc' := 1044) rfl (by decide) rfl ?_
        refine xr_iadd (pc' := 1045) rfl rfl ?_
        obtain ⟨v210, hv210, h⟩ := xbind h
        refine xr_sld (pc' := 1046) rfl hv210 rfl ?_
        obtain ⟨u211, hu211, h⟩ := xbind h
        obtain ⟨q212, hq212, h⟩ := xbind h
        refine xr_callV (pc' := 1049) (C := 7) (As := [_]) (rest := _) rfl hu211 mC_136 mL_136 rfl (Nat.le_of_ble_eq_true rfl) rfl (Nat.le_of_ble_eq_true rfl) (TfX_names _ _ hq212) rfl ?_
        refine xr_aload_n (pc' := 1050) rfl rfl rfl ?_
        refine xr_aload_n (pc' := 1051) rfl rfl rfl ?_
        refine xr_iload_n (pc' := 1052) rfl rfl rfl ?_
        refine xr_iconst (v := 1) (pc' := 1053) rfl (by decide) rfl ?_
        refine xr_iadd (pc' := 1054) rfl rfl ?_
        obtain ⟨v213, hv213, h⟩ := xbind h
        refine xr_sld (pc' := 1055) rfl hv213 rfl ?_
        obtain ⟨u214, hu214, h⟩ := xbind h
        obtain ⟨q215, hq215, h⟩ := xbind h
        refine xr_callV (pc' := 1058) (C := 8) (As := [_]) (rest := _) rfl hu214 mC_261 mL_261 rfl (Nat.le_of_ble_eq_true rfl) rfl (Nat.le_of_ble_eq_true rfl) (TfM_names _ _ hq215) rfl ?_
        rcases xite h with ⟨hc, h⟩ | ⟨hc, h⟩
        · refine xr_icmp_eq_t (t := 1337) rfl hc ?_
          exact TfL_law_1337 L xs _ (fun M l1 l2 l3  h => ih M l1 l2 l3  h) q215.2 _ _ _   h
        · refine xr_icmp_eq_f (pc' := 1061) rfl hc rfl ?_
          refine xr_iconst (v := 0) (pc' := 1062) rfl (by decide) rfl ?_
          obtain ⟨rfl, rfl⟩ := xsome2 h
          exact xr_zret rfl mR_272 (by decide)
      rcases xite h with ⟨hc33_30, h⟩ | ⟨hc33_30, h⟩
      · refine xr_tsw_in (t := 1063) rfl (by rw [hc33_30]; decide) (by rw [hc33_30]; rfl) (by decide) ?_
        refine xr_aload_n (pc' := 1064) rfl rfl rfl ?_
        obtain ⟨u216, hu216, h⟩ := xbind h
        obtain ⟨q217, hq217, h⟩ := xbind h
        refine xr_callV (pc' := 1067) (C := 7) (As := []) (rest := _) rfl hu216 mC_137 mL_137 rfl (Nat.le_of_ble_eq_true rfl) rfl (Nat.le_of_ble_eq_true rfl) (TfX_image _  hq217) rfl ?_
        refine xr_aload_n (pc' := 1068) rfl rfl rfl ?_
        obtain ⟨u218, hu218, h⟩ := xbind h
        obtain ⟨q219, hq219, h⟩ := xbind h
        refine xr_callV (pc' := 1071) (C := 8) (As := []) (rest := _) rfl hu218 mC_155 mL_155 rfl (Nat.le_of_ble_eq_true rfl) rfl (Nat.le_of_ble_eq_true rfl) (TfM_image _  hq219) rfl ?_
        rcases xite h with ⟨hc, h⟩ | ⟨hc, h⟩
        · refine xr_icmp_eq_t (t := 1337) rfl hc ?_
          exact TfL_law_1337 L xs _ (fun M l1 l2 l3  h => ih M l1 l2 l3  h) q219.2 _ _ _   h
        · refine xr_icmp_eq_f (pc' := 1074) rfl hc rfl ?_
          refine xr_iconst (v := 0) (pc' := 1075) rfl (by decide) rfl ?_
          obtain ⟨rfl, rfl⟩ := xsome2 h
          exact xr_zret rfl mR_272 (by decide)
      rcases xite h with ⟨hc33_31, h⟩ | ⟨hc33_31, h⟩
      · refine xr_tsw_in (t := 1076) rfl (by rw [hc33_31]; decide) (by rw [hc33_31]; rfl) (by decide) ?_
        refine xr_aload_n (pc' := 1077) rfl rfl rfl ?_
        obtain ⟨u220, hu220, h⟩ := xbind h
        obtain ⟨q221, hq221, h⟩ := xbind h
        refine xr_callV (pc' := 1080) (C := 7) (As := []) (rest := _) rfl hu220 mC_138 mL_138 rfl (Nat.le_of_ble_eq_true rfl) rfl (Nat.le_of_ble_eq_true rfl) (TfX_back _  hq221) rfl ?_
        refine xr_aload_n (pc' := 1081) rfl rfl rfl ?_
        obtain ⟨u222, hu222, h⟩ := xbind h
        obtain ⟨q223, hq223, h⟩ := xbind h
        refine xr_callV (pc' := 1084) (C := 8) (As := []) (rest := _) rfl hu222 mC_161 mL_161 rfl (Nat.le_of_ble_eq_true rfl) rfl (Nat.le_of_ble_eq_true rfl) (TfM_back _  hq223) rfl ?_
        rcases xite h with ⟨hc, h⟩ | ⟨hc, h⟩
        · refine xr_icmp_eq_t (t := 1337) rfl hc ?_
          exact TfL_law_1337 L xs _ (fun M l1 l2 l3  h => ih M l1 l2 l3  h) q223.2 _ _ _   h
        · refine xr_icmp_eq_f (pc' := 1087) rfl hc rfl ?_
          refine xr_iconst (v := 0) (pc' := 1088) rfl (by decide) rfl ?_
          obtain ⟨rfl, rfl⟩ := xsome2 h
          exact xr_zret rfl mR_272 (by decide)
      rcases xite h with ⟨hc33_32, h⟩ | ⟨hc33_32, h⟩
      · refine xr_tsw_in (t := 1089) rfl (by rw [hc33_32]; decide) (by rw [hc33_32]; rfl) (by decide) ?_
        refine xr_aload_n (pc' := 1090) rfl rfl rfl ?_
        refine xr_aload_n (pc' := 1091) rfl rfl rfl ?_
        refine xr_iload_n (pc' := 1092) rfl rfl rfl ?_
        refine xr_iconst (v := 1) (pc' := 1093) rfl (by decide) rfl ?_
        refine xr_iadd (pc' := 1094) rfl rfl ?_
        obtain ⟨v224, hv224, h⟩ := xbind h
        refine xr_sld (pc' := 1095) rfl hv224 rfl ?_
        refine xr_aload_n (pc' := 1096) rfl rfl rfl ?_
        refine xr_iload_n (pc' := 1097) rfl rfl rfl ?_
        refine xr_iconst (v := 2) (pc' := 1098) rfl (by decide) rfl ?_
        refine xr_iadd (pc' := 1099) rfl rfl ?_
        obtain ⟨v225, hv225, h⟩ := xbind h
        refine xr_sld (pc' := 1100) rfl hv225 rfl ?_
        obtain ⟨u226, hu226, h⟩ := xbind h
        obtain ⟨q227, hq227, h⟩ := xbind h
        refine xr_callV (pc' := 1103) (C := 7) (As := [_, _]) (rest := _) rfl hu226 mC_139 mL_139 rfl (Nat.le_of_ble_eq_true rfl) rfl (Nat.le_of_ble_eq_true rfl) (TfX_bin _ _ _ hq227) rfl ?_
        refine xr_aload_n (pc' := 1104) rfl rfl rfl ?_
        refine xr_aload_n (pc' := 1105) rfl rfl rfl ?_
        refine xr_iload_n (pc' := 1106) rfl rfl rfl ?_
        refine xr_iconst (v := 1) (pc' := 1107) rfl (by decide) rfl ?_
        refine xr_iadd (pc' := 1108) rfl rfl ?_
        obtain ⟨v228, hv228, h⟩ := xbind h
        refine xr_sld (pc' := 1109) rfl hv228 rfl ?_
        refine xr_aload_n (pc' := 1110) rfl rfl rfl ?_
        refine xr_iload_n (pc' := 1111) rfl rfl rfl ?_
        refine xr_iconst (v := 2) (pc' := 1112) rfl (by decide) rfl ?_
        refine xr_iadd (pc' := 1113) rfl rfl ?_
        obtain ⟨v229, hv229, h⟩ := xbind h
        refine xr_sld (pc' := 1114) rfl hv229 rfl ?_
        obtain ⟨u230, hu230, h⟩ := xbind h
        obtain ⟨q231, hq231, h⟩ := xbind h
        refine xr_callV (pc' := 1117) (C := 8) (As := [_, _]) (rest := _) rfl hu230 mC_262 mL_262 rfl (Nat.le_of_ble_eq_true rfl) rfl (Nat.le_of_ble_eq_true rfl) (TfM_bin _ _ _ hq231) rfl ?_
        rcases xite h with ⟨hc, h⟩ | ⟨hc, h⟩
        · refine xr_icmp_eq_t (t := 1337) rfl hc ?_
          exact TfL_law_1337 L xs _ (fun M l1 l2 l3  h => ih M l1 l2 l3  h) q231.2 _ _ _   h
        · refine xr_icmp_eq_f (pc' := 1120) rfl hc rfl ?_
          refine xr_iconst (v := 0) (pc' := 1121) rfl (by decide) rfl ?_
          obtain ⟨rfl, rfl⟩ := xsome2 h
          exact xr_zret rfl mR_272 (by decide)
      rcases xite h with ⟨hc33_33, h⟩ | ⟨hc33_33, h⟩
      · refine xr_tsw_in (t := 1122) rfl (by rw [hc33_33]; decide) (by rw [hc33_33]; rfl) (by decide) ?_
        refine xr_aload_n (pc' := 1123) rfl rfl rfl ?_
        refine xr_aload_n (pc' := 1124) rfl rfl rfl ?_
        refine xr_iload_n (pc' := 1125) rfl rfl rfl ?_
        refine xr_iconst (v := 1) (pc' := 1126) rfl (by decide) rfl ?_
        refine xr_iadd (pc' := 1127) rfl rfl ?_
        obtain ⟨v232, hv232, h⟩ := xbind h
        refine xr_sld (pc' := 1128) rfl hv232 rfl ?_
        refine xr_aload_n (pc' := 1129) rfl rfl rfl ?_
        refine xr_iload_n (pc' := 1130) rfl rfl rfl ?_
        refine xr_iconst (v := 2) (pc' := 1131) rfl (by decide) rfl ?_
        refine xr_iadd (pc' := 1132) rfl rfl ?_
        obtain ⟨v233, hv233, h⟩ := xbind h
        refine xr_sld (pc' := 1133) rfl hv233 rfl ?_
        refine xr_aload_n (pc' := 1134) rfl rfl rfl ?_
        refine xr_iload_n (pc' := 1135) rfl rfl rfl ?_
        refine xr_iconst (v := 3) (pc' := 1136) rfl (by decide) rfl ?_
        refine xr_iadd (pc' := 1137) rfl rfl ?_
        obtain ⟨v234, hv234, h⟩ := xbind h
        refine xr_sld (pc' := 1138) rfl hv234 rfl ?_
        obtain ⟨u235, hu235, h⟩ := xbind h
        obtain ⟨q236, hq236, h⟩ := xbind h
        refine xr_callV (pc' := 1141) (C := 7) (As := [_, _, _]) (rest := _) rfl hu235 mC_142 mL_142 rfl (Nat.le_of_ble_eq_true rfl) rfl (Nat.le_of_ble_eq_true rfl) (TfX_lay _ _ _ _ hq236) rfl ?_
        refine xr_aload_n (pc' := 1142) rfl rfl rfl ?_
        refine xr_aload_n (pc' := 1143) rfl rfl rfl ?_
        refine xr_iload_n (pc' := 1144) rfl rfl rfl ?_
        refine xr_iconst (v := 1) (pc' := 1145) rfl (by decide) rfl ?_
        refine xr_iadd (pc' := 1146) rfl rfl ?_
        obtain ⟨v237, hv237, h⟩ := xbind h
        refine xr_sld (pc' := 1147) rfl hv237 rfl ?_
        refine xr_aload_n (pc' := 1148) rfl rfl rfl ?_
        refine xr_iload_n (pc' := 1149) rfl rfl rfl ?_
        refine xr_iconst (v := 2) (pc' := 1150) rfl (by decide) rfl ?_
        refine xr_iadd (pc' := 1151) rfl rfl ?_
        obtain ⟨v238, hv238, h⟩ := xbind h
        refine xr_sld (pc' := 1152) rfl hv238 rfl ?_
        refine xr_aload_n (pc' := 1153) rfl rfl rfl ?_
        refine xr_iload_n (pc' := 1154) rfl rfl rfl ?_
        refine xr_iconst (v := 3) (pc' := 1155) rfl (by decide) rfl ?_
        refine xr_iadd (pc' := 1156) rfl rfl ?_
        obtain ⟨v239, hv239, h⟩ := xbind h
        refine xr_sld (pc' := 1157) rfl hv239 rfl ?_
        obtain ⟨u240, hu240, h⟩ := xbind h
        obtain ⟨q241, hq241, h⟩ := xbind h
        refine xr_callV (pc' := 1160) (C := 8) (As := [_, _, _]) (rest := _) rfl hu240 mC_264 mL_264 rfl (Nat.le_of_ble_eq_true rfl) rfl (Nat.le_of_ble_eq_true rfl) (TfM_lay _ _ _ _ hq241) rfl ?_
        rcases xite h with ⟨hc, h⟩ | ⟨hc, h⟩
        · refine xr_icmp_eq_t (t := 1337) rfl hc ?_
          exact TfL_law_1337 L xs _ (fun M l1 l2 l3  h => ih M l1 l2 l3  h) q241.2 _ _ _   h
        · refine xr_icmp_eq_f (pc' := 1163) rfl hc rfl ?_
          refine xr_iconst (v := 0) (pc' := 1164) rfl (by decide) rfl ?_
          obtain ⟨rfl, rfl⟩ := xsome2 h
          exact xr_zret rfl mR_272 (by decide)
      rcases xite h with ⟨hc33_34, h⟩ | ⟨hc33_34, h⟩
      · refine xr_tsw_in (t := 1165) rfl (by rw [hc33_34]; decide) (by rw [hc33_34]; rfl) (by decide) ?_
        refine xr_aload_n (pc' := 1166) rfl rfl rfl ?_
        refine xr_aload_n (pc' := 1167) rfl rfl rfl ?_
        refine xr_iload_n (pc' := 1168) rfl rfl rfl ?_
        refine xr_iconst (v := 1) (pc' := 1169) rfl (by decide) rfl ?_
        refine xr_iadd (pc' := 1170) rfl rfl ?_
        obtain ⟨v242, hv242, h⟩ := xbind h
        refine xr_sld (pc' := 1171) rfl hv242 rfl ?_
        refine xr_aload_n (pc' := 1172) rfl rfl rfl ?_
        refine xr_iload_n (pc' := 1173) rfl rfl rfl ?_
        refine xr_iconst (v := 2) (pc' := 1174) rfl (by decide) rfl ?_
        refine xr_iadd (pc' := 1175) rfl rfl ?_
        obtain ⟨v243, hv243, h⟩ := xbind h
        refine xr_sld (pc' := 1176) rfl hv243 rfl ?_
        obtain ⟨u244, hu244, h⟩ := xbind h
        obtain ⟨q245, hq245, h⟩ := xbind h
        refine xr_callV (pc' := 1179) (C := 7) (As := [_, _]) (rest := _) rfl hu244 mC_146 mL_146 rfl (Nat.le_of_ble_eq_true rfl) rfl (Nat.le_of_ble_eq_true rfl) (TfX_at _ _ _ hq245) rfl ?_
        refine xr_aload_n (pc' := 1180) rfl rfl rfl ?_
        refine xr_aload_n (pc' := 1181) rfl rfl rfl ?_
        refine xr_iload_n (pc' := 1182) rfl rfl rfl ?_
        refine xr_iconst (v := 1) (pc' := 1183) rfl (by decide) rfl ?_
        refine xr_iadd (pc' := 1184) rfl rfl ?_
        obtain ⟨v246, hv246, h⟩ := xbind h
        refine xr_sld (pc' := 1185) rfl hv246 rfl ?_
        refine xr_aload_n (pc' := 1186) rfl rfl rfl ?_
        refine xr_iload_n (pc' := 1187) rfl rfl rfl ?_
        refine xr_iconst (v := 2) (pc' := 1188) rfl (by decide) rfl ?_
        refine xr_iadd (pc' := 1189) rfl rfl ?_
        obtain ⟨v247, hv247, h⟩ := xbind h
        refine xr_sld (pc' := 1190) rfl hv247 rfl ?_
        obtain ⟨u248, hu248, h⟩ := xbind h
        obtain ⟨q249, hq249, h⟩ := xbind h
        refine xr_callV (pc' := 1193) (C := 8) (As := [_, _]) (rest := _) rfl hu248 mC_265 mL_265 rfl (Nat.le_of_ble_eq_true rfl) rfl (Nat.le_of_ble_eq_true rfl) (TfM_at _ _ _ hq249) rfl ?_
        rcases xite h with ⟨hc, h⟩ | ⟨hc, h⟩
        · refine xr_icmp_eq_t (t := 1337) rfl hc ?_
          exact TfL_law_1337 L xs _ (fun M l1 l2 l3  h => ih M l1 l2 l3  h) q249.2 _ _ _   h
        · refine xr_icmp_eq_f (pc' := 1196) rfl hc rfl ?_
          refine xr_iconst (v := 0) (pc' := 1197) rfl (by decide) rfl ?_
          obtain ⟨rfl, rfl⟩ := xsome2 h
          exact xr_zret rfl mR_272 (by decide)
      rcases xite h with ⟨hc33_35, h⟩ | ⟨hc33_35, h⟩
      · refine xr_tsw_in (t := 1198) rfl (by rw [hc33_35]; decide) (by rw [hc33_35]; rfl) (by decide) ?_
        refine xr_aload_n (pc' := 1199) rfl rfl rfl ?_
        refine xr_aload_n (pc' := 1200) rfl rfl rfl ?_
        refine xr_iload_n (pc' := 1201) rfl rfl rfl ?_
        refine xr_iconst (v := 1) (pc' := 1202) rfl (by decide) rfl ?_
        refine xr_iadd (pc' := 1203) rfl rfl ?_
        obtain ⟨v250, hv250, h⟩ := xbind h
        refine xr_sld (pc' := 1204) rfl hv250 rfl ?_
        refine xr_aload_n (pc' := 1205) rfl rfl rfl ?_
        refine xr_iload_n (pc' := 1206) rfl rfl rfl ?_
        refine xr_iconst (v := 2) (pc' := 1207) rfl (by decide) rfl ?_
        refine xr_iadd (pc' := 1208) rfl rfl ?_
        obtain ⟨v251, hv251, h⟩ := xbind h
        refine xr_sld (pc' := 1209) rfl hv251 rfl ?_
        refine xr_aload_n (pc' := 1210) rfl rfl rfl ?_
        refine xr_iload_n (pc' := 1211) rfl rfl rfl ?_
        refine xr_iconst (v := 3) (pc' := 1212) rfl (by decide) rfl ?_
        refine xr_iadd (pc' := 1213) rfl rfl ?_
        obtain ⟨v252, hv252, h⟩ := xbind h
        refine xr_sld (pc' := 1214) rfl hv252 rfl ?_
        refine xr_aload_n (pc' := 1215) rfl rfl rfl ?_
        refine xr_iload_n (pc' := 1216) rfl rfl rfl ?_
        refine xr_iconst (v := 4) (pc' := 1217) rfl (by decide) rfl ?_
        refine xr_iadd (pc' := 1218) rfl rfl ?_
        obtain ⟨v253, hv253, h⟩ := xbind h
        refine xr_sld (pc' := 1219) rfl hv253 rfl ?_
        obtain ⟨u254, hu254, h⟩ := xbind h
        obtain ⟨q255, hq255, h⟩ := xbind h
        refine xr_callV (pc' := 1222) (C := 7) (As := [_, _, _, _]) (rest := _) rfl hu254 mC_148 mL_148 rfl (Nat.le_of_ble_eq_true rfl) rfl (Nat.le_of_ble_eq_true rfl) (TfX_pour _ _ _ _ _ hq255) rfl ?_
        refine xr_aload_n (pc' := 1223) rfl rfl rfl ?_
        refine xr_aload_n (pc' := 1224) rfl rfl rfl ?_
        refine xr_iload_n (pc' := 1225) rfl rfl rfl ?_
        refine xr_iconst (v := 1) (pc' := 1226) rfl (by decide) rfl ?_
        refine xr_iadd (pc' := 1227) rfl rfl ?_
        obtain ⟨v256, hv256, h⟩ := xbind h
        refine xr_sld (pc' := 1228) rfl hv256 rfl ?_
        refine xr_aload_n (pc' := 1229) rfl rfl rfl ?_
        refine xr_iload_n (pc' := 1230) rfl rfl rfl ?_
        refine xr_iconst (v := 2) (pc' := 1231) rfl (by decide) rfl ?_
        refine xr_iadd (pc' := 1232) rfl rfl ?_
        obtain ⟨v257, hv257, h⟩ := xbind h
        refine xr_sld (pc' := 1233) rfl hv257 rfl ?_
        refine xr_aload_n (pc' := 1234) rfl rfl rfl ?_
        refine xr_iload_n (pc' := 1235) rfl rfl rfl ?_
        refine xr_iconst (v := 3) (pc' := 1236) rfl (by decide) rfl ?_
        refine xr_iadd (pc' := 1237) rfl rfl ?_
        obtain ⟨v258, hv258, h⟩ := xbind h
        refine xr_sld (pc' := 1238) rfl hv258 rfl ?_
        refine xr_aload_n (pc' := 1239) rfl rfl rfl ?_
        refine xr_iload_n (pc' := 1240) rfl rfl rfl ?_
        refine xr_iconst (v := 4) (pc' := 1241) rfl (by decide) rfl ?_
        refine xr_iadd (pc' := 1242) rfl rfl ?_
        obtain ⟨v259, hv259, h⟩ := xbind h
        refine xr_sld (pc' := 1243) rfl hv259 rfl ?_
        obtain ⟨u260, hu260, h⟩ := xbind h
        obtain ⟨q261, hq261, h⟩ := xbind h
        refine xr_callV (pc' := 1246) (C := 8) (As := [_, _, _, _]) (rest := _) rfl hu260 mC_266 mL_266 rfl (Nat.le_of_ble_eq_true rfl) rfl (Nat.le_of_ble_eq_true rfl) (TfM_pour _ _ _ _ _ hq261) rfl ?_
        rcases xite h with ⟨hc, h⟩ | ⟨hc, h⟩
        · refine xr_icmp_eq_t (t := 1337) rfl hc ?_
          exact TfL_law_1337 L xs _ (fun M l1 l2 l3  h => ih M l1 l2 l3  h) q261.2 _ _ _   h
        · refine xr_icmp_eq_f (pc' := 1249) rfl hc rfl ?_
          refine xr_iconst (v := 0) (pc' := 1250) rfl (by decide) rfl ?_
          obtain ⟨rfl, rfl⟩ := xsome2 h
          exact xr_zret rfl mR_272 (by decide)
      rcases xite h with ⟨hc33_36, h⟩ | ⟨hc33_36, h⟩
      · refine xr_tsw_in (t := 1251) rfl (by rw [hc33_36]; decide) (by rw [hc33_36]; rfl) (by decide) ?_
        refine xr_aload_n (pc' := 1252) rfl rfl rfl ?_
        refine xr_aload_n (pc' := 1253) rfl rfl rfl ?_
        refine xr_iload_n (pc' := 1254) rfl rfl rfl ?_
        refine xr_iconst (v := 1) (pc' := 1255) rfl (by decide) rfl ?_
        refine xr_iadd (pc' := 1256) rfl rfl ?_
        obtain ⟨v262, hv262, h⟩ := xbind h
        refine xr_sld (pc' := 1257) rfl hv262 rfl ?_
        refine xr_aload_n (pc' := 1258) rfl rfl rfl ?_
        refine xr_iload_n (pc' := 1259) rfl rfl rfl ?_
        refine xr_iconst (v := 2) (pc' := 1260) rfl (by decide) rfl ?_
        refine xr_iadd (pc' := 1261) rfl rfl ?_
        obtain ⟨v263, hv263, h⟩ := xbind h
        refine xr_sld (pc' := 1262) rfl hv263 rfl ?_
        refine xr_aload_n (pc' := 1263) rfl rfl rfl ?_
        refine xr_iload_n (pc' := 1264) rfl rfl rfl ?_
        refine xr_iconst (v := 3) (pc' := 1265) rfl (by decide) rfl ?_
        refine xr_iadd (pc' := 1266) rfl rfl ?_
        obtain ⟨v264, hv264, h⟩ := xbind h
        refine xr_sld (pc' := 1267) rfl hv264 rfl ?_
        refine xr_aload_n (pc' := 1268) rfl rfl rfl ?_
        refine xr_iload_n (pc' := 1269) rfl rfl rfl ?_
        refine xr_iconst (v := 4) (pc' := 1270) rfl (by decide) rfl ?_
        refine xr_iadd (pc' := 1271) rfl rfl ?_
        obtain ⟨v265, hv265, h⟩ := xbind h
        refine xr_sld (pc' := 1272) rfl hv265 rfl ?_
        refine xr_aload_n (pc' := 1273) rfl rfl rfl ?_
        refine xr_iload_n (pc' := 1274) rfl rfl rfl ?_
        refine xr_iconst (v := 5) (pc' := 1275) rfl (by decide) rfl ?_
        refine xr_iadd (pc' := 1276) rfl rfl ?_
        obtain ⟨v266, hv266, h⟩ := xbind h
        refine xr_sld (pc' := 1277) rfl hv266 rfl ?_
        obtain ⟨u267, hu267, h⟩ := xbind h
        obtain ⟨q268, hq268, h⟩ := xbind h
        refine xr_callV (pc' := 1280) (C := 7) (As := [_, _, _, _, _]) (rest := _) rfl hu267 mC_149 mL_149 rfl (Nat.le_of_ble_eq_true rfl) rfl (Nat.le_of_ble_eq_true rfl) (TfX_shift _ _ _ _ _ _ hq268) rfl ?_
        refine xr_aload_n (pc' := 1281) rfl rfl rfl ?_
        refine xr_aload_n (pc' := 1282) rfl rfl rfl ?_
        refine xr_iload_n (pc' := 1283) rfl rfl rfl ?_
        refine xr_iconst (v := 1) (pc' := 1284) rfl (by decide) rfl ?_
        refine xr_iadd (pc' := 1285) rfl rfl ?_
        obtain ⟨v269, hv269, h⟩ := xbind h
        refine xr_sld (pc' := 1286) rfl hv269 rfl ?_
        refine xr_aload_n (pc' := 1287) rfl rfl rfl ?_
        refine xr_iload_n (pc' := 1288) rfl rfl rfl ?_
        refine xr_iconst (v := 2) (pc' := 1289) rfl (by decide) rfl ?_
        refine xr_iadd (pc' := 1290) rfl rfl ?_
        obtain ⟨v270, hv270, h⟩ := xbind h
        refine xr_sld (pc' := 1291) rfl hv270 rfl ?_
        refine xr_aload_n (pc' := 1292) rfl rfl rfl ?_
        refine xr_iload_n (pc' := 1293) rfl rfl rfl ?_
        refine xr_iconst (v := 3) (pc' := 1294) rfl (by decide) rfl ?_
        refine xr_iadd (pc' := 1295) rfl rfl ?_
        obtain ⟨v271, hv271, h⟩ := xbind h
        refine xr_sld (pc' := 1296) rfl hv271 rfl ?_
        refine xr_aload_n (pc' := 1297) rfl rfl rfl ?_
        refine xr_iload_n (pc' := 1298) rfl rfl rfl ?_
        refine xr_iconst (v := 4) (pc' := 1299) rfl (by decide) rfl ?_
        refine xr_iadd (pc' := 1300) rfl rfl ?_
        obtain ⟨v272, hv272, h⟩ := xbind h
        refine xr_sld (pc' := 1301) rfl hv272 rfl ?_
        refine xr_aload_n (pc' := 1302) rfl rfl rfl ?_
        refine xr_iload_n (pc' := 1303) rfl rfl rfl ?_
        refine xr_iconst (v := 5) (pc' := 1304) rfl (by decide) rfl ?_
        refine xr_iadd (pc' := 1305) rfl rfl ?_
        obtain ⟨v273, hv273, h⟩ := xbind h
        refine xr_sld (pc' := 1306) rfl hv273 rfl ?_
        obtain ⟨u274, hu274, h⟩ := xbind h
        obtain ⟨q275, hq275, h⟩ := xbind h
        refine xr_callV (pc' := 1309) (C := 8) (As := [_, _, _, _, _]) (rest := _) rfl hu274 mC_268 mL_268 rfl (Nat.le_of_ble_eq_true rfl) rfl (Nat.le_of_ble_eq_true rfl) (TfM_shift _ _ _ _ _ _ hq275) rfl ?_
        rcases xite h with ⟨hc, h⟩ | ⟨hc, h⟩
        · refine xr_icmp_eq_t (t := 1337) rfl hc ?_
          exact TfL_law_1337 L xs _ (fun M l1 l2 l3  h => ih M l1 l2 l3  h) q275.2 _ _ _   h
        · refine xr_icmp_eq_f (pc' := 1312) rfl hc rfl ?_
          refine xr_iconst (v := 0) (pc' := 1313) rfl (by decide) rfl ?_
          obtain ⟨rfl, rfl⟩ := xsome2 h
          exact xr_zret rfl mR_272 (by decide)
      rcases xite h with ⟨hc33_37, h⟩ | ⟨hc33_37, h⟩
      · refine xr_tsw_in (t := 1314) rfl (by rw [hc33_37]; decide) (by rw [hc33_37]; rfl) (by decide) ?_
        refine xr_aload_n (pc' := 1315) rfl rfl rfl ?_
        refine xr_aload_n (pc' := 1316) rfl rfl rfl ?_
        refine xr_iload_n (pc' := 1317) rfl rfl rfl ?_
        refine xr_iconst (v := 1) (pc' := 1318) rfl (by decide) rfl ?_
        refine xr_iadd (pc' := 1319) rfl rfl ?_
        obtain ⟨v276, hv276, h⟩ := xbind h
        refine xr_sld (pc' := 1320) rfl hv276 rfl ?_
        obtain ⟨u277, hu277, h⟩ := xbind h
        obtain ⟨q278, hq278, h⟩ := xbind h
        refine xr_callV (pc' := 1323) (C := 7) (As := [_]) (rest := _) rfl hu277 mC_152 mL_152 rfl (Nat.le_of_ble_eq_true rfl) rfl (Nat.le_of_ble_eq_true rfl) (TfX_count _ _ hq278) rfl ?_
        refine xr_aload_n (pc' := 1324) rfl rfl rfl ?_
        refine xr_aload_n (pc' := 1325) rfl rfl rfl ?_
        refine xr_iload_n (pc' := 1326) rfl rfl rfl ?_
        refine xr_iconst (v := 1) (pc' := 1327) rfl (by decide) rfl ?_
        refine xr_iadd (pc' := 1328) rfl rfl ?_
        obtain ⟨v279, hv279, h⟩ := xbind h
        refine xr_sld (pc' := 1329) rfl hv279 rfl ?_
        obtain ⟨u280, hu280, h⟩ := xbind h
        obtain ⟨q281, hq281, h⟩ := xbind h
        refine xr_callV (pc' := 1332) (C := 8) (As := [_]) (rest := _) rfl hu280 mC_269 mL_269 rfl (Nat.le_of_ble_eq_true rfl) rfl (Nat.le_of_ble_eq_true rfl) (TfM_count _ _ hq281) rfl ?_
        rcases xite h with ⟨hc, h⟩ | ⟨hc, h⟩
        · refine xr_icmp_eq_t (t := 1337) rfl hc ?_
          exact TfL_law_1337 L xs _ (fun M l1 l2 l3  h => ih M l1 l2 l3  h) q281.2 _ _ _   h
        · refine xr_icmp_eq_f (pc' := 1335) rfl hc rfl ?_
          refine xr_iconst (v := 0) (pc' := 1336) rfl (by decide) rfl ?_
          obtain ⟨rfl, rfl⟩ := xsome2 h
          exact xr_zret rfl mR_272 (by decide)
      have hc33_0 := lv_neT hc33_0 (by decide : (0 : Int32).toInt = 0)
      have hc33_1 := lv_neT hc33_1 (by decide : (1 : Int32).toInt = 1)
      have hc33_2 := lv_neT hc33_2 (by decide : (2 : Int32).toInt = 2)
      have hc33_3 := lv_neT hc33_3 (by decide : (3 : Int32).toInt = 3)
      have hc33_4 := lv_neT hc33_4 (by decide : (4 : Int32).toInt = 4)
      have hc33_5 := lv_neT hc33_5 (by decide : (5 : Int32).toInt = 5)
      have hc33_6 := lv_neT hc33_6 (by decide : (6 : Int32).toInt = 6)
      have hc33_7 := lv_neT hc33_7 (by decide : (7 : Int32).toInt = 7)
      have hc33_8 := lv_neT hc33_8 (by decide : (8 : Int32).toInt = 8)
      have hc33_9 := lv_neT hc33_9 (by decide : (9 : Int32).toInt = 9)
      have hc33_10 := lv_neT hc33_10 (by decide : (10 : Int32).toInt = 10)
      have hc33_11 := lv_neT hc33_11 (by decide : (11 : Int32).toInt = 11)
      have hc33_12 := lv_neT hc33_12 (by decide : (12 : Int32).toInt = 12)
      have hc33_13 := lv_neT hc33_13 (by decide : (13 : Int32).toInt = 13)
      have hc33_14 := lv_neT hc33_14 (by decide : (14 : Int32).toInt = 14)
      have hc33_15 := lv_neT hc33_15 (by decide : (15 : Int32).toInt = 15)
      have hc33_16 := lv_neT hc33_16 (by decide : (16 : Int32).toInt = 16)
      have hc33_17 := lv_neT hc33_17 (by decide : (17 : Int32).toInt = 17)
      have hc33_18 := lv_neT hc33_18 (by decide : (18 : Int32).toInt = 18)
      have hc33_19 := lv_neT hc33_19 (by decide : (19 : Int32).toInt = 19)
      have hc33_20 := lv_neT hc33_20 (by decide : (20 : Int32).toInt = 20)
      have hc33_21 := lv_neT hc33_21 (by decide : (21 : Int32).toInt = 21)
      have hc33_22 := lv_neT hc33_22 (by decide : (22 : Int32).toInt = 22)
      have hc33_23 := lv_neT hc33_23 (by decide : (23 : Int32).toInt = 23)
      have hc33_24 := lv_neT hc33_24 (by decide : (24 : Int32).toInt = 24)
      have hc33_25 := lv_neT hc33_25 (by decide : (25 : Int32).toInt = 25)
      have hc33_26 := lv_neT hc33_26 (by decide : (26 : Int32).toInt = 26)
      have hc33_27 := lv_neT hc33_27 (by decide : (27 : Int32).toInt = 27)
      have hc33_28 := lv_neT hc33_28 (by decide : (28 : Int32).toInt = 28)
      have hc33_29 := lv_neT hc33_29 (by decide : (29 : Int32).toInt = 29)
      have hc33_30 := lv_neT hc33_30 (by decide : (30 : Int32).toInt = 30)
      have hc33_31 := lv_neT hc33_31 (by decide : (31 : Int32).toInt = 31)
      have hc33_32 := lv_neT hc33_32 (by decide : (32 : Int32).toInt = 32)
      have hc33_33 := lv_neT hc33_33 (by decide : (33 : Int32).toInt = 33)
      have hc33_34 := lv_neT hc33_34 (by decide : (34 : Int32).toInt = 34)
      have hc33_35 := lv_neT hc33_35 (by decide : (35 : Int32).toInt = 35)
      have hc33_36 := lv_neT hc33_36 (by decide : (36 : Int32).toInt = 36)
      have hc33_37 := lv_neT hc33_37 (by decide : (37 : Int32).toInt = 37)
      refine xr_tsw_out (t := 1337) rfl (by omega) (by decide) ?_
      exact TfL_law_1337 L xs _ (fun M l1 l2 l3  h => ih M l1 l2 l3  h) M _ _ _   h
