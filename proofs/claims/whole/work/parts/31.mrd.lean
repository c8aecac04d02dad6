/-! the model's reads and writes, cell by cell -/
theorem kl_0 : (0 : Int32) = nI 0 := of_decide_eq_true rfl
theorem kl_1 : (1 : Int32) = nI 1 := of_decide_eq_true rfl
theorem kl_2 : (2 : Int32) = nI 2 := of_decide_eq_true rfl
theorem kl_3 : (3 : Int32) = nI 3 := of_decide_eq_true rfl
theorem kl_4 : (4 : Int32) = nI 4 := of_decide_eq_true rfl
theorem kl_5 : (5 : Int32) = nI 5 := of_decide_eq_true rfl
theorem kl_6 : (6 : Int32) = nI 6 := of_decide_eq_true rfl
theorem kl_7 : (7 : Int32) = nI 7 := of_decide_eq_true rfl
theorem kl_8 : (8 : Int32) = nI 8 := of_decide_eq_true rfl
theorem kl_10 : (10 : Int32) = nI 10 := of_decide_eq_true rfl
theorem kl_13 : (13 : Int32) = nI 13 := of_decide_eq_true rfl
theorem kl_14 : (14 : Int32) = nI 14 := of_decide_eq_true rfl
theorem kl_15 : (15 : Int32) = nI 15 := of_decide_eq_true rfl
theorem kl_16 : (16 : Int32) = nI 16 := of_decide_eq_true rfl
theorem kl_24 : (24 : Int32) = nI 24 := of_decide_eq_true rfl
theorem kl_25 : (25 : Int32) = nI 25 := of_decide_eq_true rfl
theorem kl_26 : (26 : Int32) = nI 26 := of_decide_eq_true rfl
theorem kl_31 : (31 : Int32) = nI 31 := of_decide_eq_true rfl
theorem kl_32 : (32 : Int32) = nI 32 := of_decide_eq_true rfl
theorem kl_36 : (36 : Int32) = nI 36 := of_decide_eq_true rfl
theorem kl_40 : (40 : Int32) = nI 40 := of_decide_eq_true rfl
theorem kl_62 : (62 : Int32) = nI 62 := of_decide_eq_true rfl
theorem kl_99 : (99 : Int32) = nI 99 := of_decide_eq_true rfl
theorem kl_100 : (100 : Int32) = nI 100 := of_decide_eq_true rfl
theorem kl_255 : (255 : Int32) = nI 255 := of_decide_eq_true rfl
theorem kl_400 : (400 : Int32) = nI 400 := of_decide_eq_true rfl
theorem kl_992 : (992 : Int32) = nI 992 := of_decide_eq_true rfl
theorem kl_1023 : (1023 : Int32) = nI 1023 := of_decide_eq_true rfl
theorem kl_1024 : (1024 : Int32) = nI 1024 := of_decide_eq_true rfl
theorem kl_1984 : (1984 : Int32) = nI 1984 := of_decide_eq_true rfl
theorem kl_9200 : (9200 : Int32) = nI 9200 := of_decide_eq_true rfl
theorem kl_4600 : (4600 : Int32) = nI 4600 := of_decide_eq_true rfl
theorem kl_48 : (48 : Int32) = nI 48 := of_decide_eq_true rfl
theorem kl_57 : (57 : Int32) = nI 57 := of_decide_eq_true rfl
theorem kl_97 : (97 : Int32) = nI 97 := of_decide_eq_true rfl
theorem kl_122 : (122 : Int32) = nI 122 := of_decide_eq_true rfl
theorem kl_32767 : (32767 : Int32) = nI 32767 := of_decide_eq_true rfl
theorem mM_W {d : Int32} {s : xS} {X : xMem} : XW (mM d s X) = XW X := rfl
theorem xob_44 {d : Int32} {s : xS} {X : xMem} (hW : XW X) : xob (mM d s X) (some (44, 0, 0)) 8 = some (44, 0, 0) := xob_w (M := mM d s X) hW sh_44
theorem gR_0 {d : Int32} {s : xS} {X : xMem} (hW : XW X) : xgR (mM d s X) (some (44, 0, 0)) 8 0 = some (some (45, 0, 0)) := xgR_w (M := mM d s X) hW sh_44 (by decide) (by decide) rfl
theorem gR_1 {d : Int32} {s : xS} {X : xMem} (hW : XW X) : xgR (mM d s X) (some (44, 0, 0)) 8 1 = some (some (46, 0, 0)) := xgR_w (M := mM d s X) hW sh_44 (by decide) (by decide) rfl
theorem gR_2 {d : Int32} {s : xS} {X : xMem} (hW : XW X) : xgR (mM d s X) (some (44, 0, 0)) 8 2 = some (some (47, 0, 0)) := xgR_w (M := mM d s X) hW sh_44 (by decide) (by decide) rfl
theorem gR_3 {d : Int32} {s : xS} {X : xMem} (hW : XW X) : xgR (mM d s X) (some (44, 0, 0)) 8 3 = some (some (48, 0, 0)) := xgR_w (M := mM d s X) hW sh_44 (by decide) (by decide) rfl
theorem gR_4 {d : Int32} {s : xS} {X : xMem} (hW : XW X) : xgR (mM d s X) (some (44, 0, 0)) 8 4 = some (some (49, 0, 0)) := xgR_w (M := mM d s X) hW sh_44 (by decide) (by decide) rfl
theorem gR_5 {d : Int32} {s : xS} {X : xMem} (hW : XW X) : xgR (mM d s X) (some (44, 0, 0)) 8 5 = some (some (50, 0, 0)) := xgR_w (M := mM d s X) hW sh_44 (by decide) (by decide) rfl
theorem gR_6 {d : Int32} {s : xS} {X : xMem} (hW : XW X) : xgR (mM d s X) (some (44, 0, 0)) 8 6 = some (some (51, 0, 0)) := xgR_w (M := mM d s X) hW sh_44 (by decide) (by decide) rfl
theorem gR_7 {d : Int32} {s : xS} {X : xMem} (hW : XW X) : xgR (mM d s X) (some (44, 0, 0)) 8 7 = some (some (52, 0, 0)) := xgR_w (M := mM d s X) hW sh_44 (by decide) (by decide) rfl
theorem gR_8 {d : Int32} {s : xS} {X : xMem} (hW : XW X) : xgR (mM d s X) (some (44, 0, 0)) 8 8 = some (some (53, 0, 0)) := xgR_w (M := mM d s X) hW sh_44 (by decide) (by decide) rfl
theorem gR_9 {d : Int32} {s : xS} {X : xMem} (hW : XW X) : xgR (mM d s X) (some (44, 0, 0)) 8 9 = some (some (54, 0, 0)) := xgR_w (M := mM d s X) hW sh_44 (by decide) (by decide) rfl
theorem gR_10 {d : Int32} {s : xS} {X : xMem} (hW : XW X) : xgR (mM d s X) (some (44, 0, 0)) 8 10 = some (some (55, 0, 0)) := xgR_w (M := mM d s X) hW sh_44 (by decide) (by decide) rfl
theorem gR_11 {d : Int32} {s : xS} {X : xMem} (hW : XW X) : xgR (mM d s X) (some (44, 0, 0)) 8 11 = some (some (56, 0, 0)) := xgR_w (M := mM d s X) hW sh_44 (by decide) (by decide) rfl
theorem gR_12 {d : Int32} {s : xS} {X : xMem} (hW : XW X) : xgR (mM d s X) (some (44, 0, 0)) 8 12 = some (some (57, 0, 0)) := xgR_w (M := mM d s X) hW sh_44 (by decide) (by decide) rfl
theorem gR_16 {d : Int32} {s : xS} {X : xMem} (hW : XW X) : xgR (mM d s X) (some (44, 0, 0)) 8 16 = some (some (58, 0, 0)) := xgR_w (M := mM d s X) hW sh_44 (by decide) (by decide) rfl
theorem gR_17 {d : Int32} {s : xS} {X : xMem} (hW : XW X) : xgR (mM d s X) (some (44, 0, 0)) 8 17 = some (some (59, 0, 0)) := xgR_w (M := mM d s X) hW sh_44 (by decide) (by decide) rfl
theorem gR_18 {d : Int32} {s : xS} {X : xMem} (hW : XW X) : xgR (mM d s X) (some (44, 0, 0)) 8 18 = some (some (60, 0, 0)) := xgR_w (M := mM d s X) hW sh_44 (by decide) (by decide) rfl
theorem gR_19 {d : Int32} {s : xS} {X : xMem} (hW : XW X) : xgR (mM d s X) (some (44, 0, 0)) 8 19 = some (some (61, 0, 0)) := xgR_w (M := mM d s X) hW sh_44 (by decide) (by decide) rfl
theorem gR_20 {d : Int32} {s : xS} {X : xMem} (hW : XW X) : xgR (mM d s X) (some (44, 0, 0)) 8 20 = some (some (62, 0, 0)) := xgR_w (M := mM d s X) hW sh_44 (by decide) (by decide) rfl
theorem gR_21 {d : Int32} {s : xS} {X : xMem} (hW : XW X) : xgR (mM d s X) (some (44, 0, 0)) 8 21 = some (some (63, 0, 0)) := xgR_w (M := mM d s X) hW sh_44 (by decide) (by decide) rfl
theorem gR_22 {d : Int32} {s : xS} {X : xMem} (hW : XW X) : xgR (mM d s X) (some (44, 0, 0)) 8 22 = some (some (64, 0, 0)) := xgR_w (M := mM d s X) hW sh_44 (by decide) (by decide) rfl
theorem gR_23 {d : Int32} {s : xS} {X : xMem} (hW : XW X) : xgR (mM d s X) (some (44, 0, 0)) 8 23 = some (some (65, 0, 0)) := xgR_w (M := mM d s X) hW sh_44 (by decide) (by decide) rfl
theorem gR_24 {d : Int32} {s : xS} {X : xMem} (hW : XW X) : xgR (mM d s X) (some (44, 0, 0)) 8 24 = some (some (66, 0, 0)) := xgR_w (M := mM d s X) hW sh_44 (by decide) (by decide) rfl
theorem gR_25 {d : Int32} {s : xS} {X : xMem} (hW : XW X) : xgR (mM d s X) (some (44, 0, 0)) 8 25 = some (some (67, 0, 0)) := xgR_w (M := mM d s X) hW sh_44 (by decide) (by decide) rfl
theorem gR_26 {d : Int32} {s : xS} {X : xMem} (hW : XW X) : xgR (mM d s X) (some (44, 0, 0)) 8 26 = some (some (68, 0, 0)) := xgR_w (M := mM d s X) hW sh_44 (by decide) (by decide) rfl
theorem gR_27 {d : Int32} {s : xS} {X : xMem} (hW : XW X) : xgR (mM d s X) (some (44, 0, 0)) 8 27 = some (some (69, 0, 0)) := xgR_w (M := mM d s X) hW sh_44 (by decide) (by decide) rfl
theorem gR_28 {d : Int32} {s : xS} {X : xMem} (hW : XW X) : xgR (mM d s X) (some (44, 0, 0)) 8 28 = some (some (70, 0, 0)) := xgR_w (M := mM d s X) hW sh_44 (by decide) (by decide) rfl
theorem gR_29 {d : Int32} {s : xS} {X : xMem} (hW : XW X) : xgR (mM d s X) (some (44, 0, 0)) 8 29 = some (some (71, 0, 0)) := xgR_w (M := mM d s X) hW sh_44 (by decide) (by decide) rfl
theorem gR_30 {d : Int32} {s : xS} {X : xMem} (hW : XW X) : xgR (mM d s X) (some (44, 0, 0)) 8 30 = some (some (72, 0, 0)) := xgR_w (M := mM d s X) hW sh_44 (by decide) (by decide) rfl
theorem gR_31 {d : Int32} {s : xS} {X : xMem} (hW : XW X) : xgR (mM d s X) (some (44, 0, 0)) 8 31 = some (some (73, 0, 0)) := xgR_w (M := mM d s X) hW sh_44 (by decide) (by decide) rfl
theorem gR_35 {d : Int32} {s : xS} {X : xMem} (hW : XW X) : xgR (mM d s X) (some (44, 0, 0)) 8 35 = some (some (74, 0, 0)) := xgR_w (M := mM d s X) hW sh_44 (by decide) (by decide) rfl
theorem gR_38 {d : Int32} {s : xS} {X : xMem} (hW : XW X) : xgR (mM d s X) (some (44, 0, 0)) 8 38 = some (some (75, 0, 0)) := xgR_w (M := mM d s X) hW sh_44 (by decide) (by decide) rfl
theorem gR_39 {d : Int32} {s : xS} {X : xMem} (hW : XW X) : xgR (mM d s X) (some (44, 0, 0)) 8 39 = some (some (76, 0, 0)) := xgR_w (M := mM d s X) hW sh_44 (by decide) (by decide) rfl
theorem gR_40 {d : Int32} {s : xS} {X : xMem} (hW : XW X) : xgR (mM d s X) (some (44, 0, 0)) 8 40 = some (some (77, 0, 0)) := xgR_w (M := mM d s X) hW sh_44 (by decide) (by decide) rfl
theorem gR_41 {d : Int32} {s : xS} {X : xMem} (hW : XW X) : xgR (mM d s X) (some (44, 0, 0)) 8 41 = some (some (78, 0, 0)) := xgR_w (M := mM d s X) hW sh_44 (by decide) (by decide) rfl
theorem gR_52 {d : Int32} {s : xS} {X : xMem} (hW : XW X) : xgR (mM d s X) (some (44, 0, 0)) 8 52 = some (some (79, 0, 0)) := xgR_w (M := mM d s X) hW sh_44 (by decide) (by decide) rfl
theorem gR_53 {d : Int32} {s : xS} {X : xMem} (hW : XW X) : xgR (mM d s X) (some (44, 0, 0)) 8 53 = some (some (80, 0, 0)) := xgR_w (M := mM d s X) hW sh_44 (by decide) (by decide) rfl
theorem gR_54 {d : Int32} {s : xS} {X : xMem} (hW : XW X) : xgR (mM d s X) (some (44, 0, 0)) 8 54 = some (some (81, 0, 0)) := xgR_w (M := mM d s X) hW sh_44 (by decide) (by decide) rfl
theorem aI_45 {d : Int32} {s : xS} {X : xMem} {j : Nat} (hW : XW X) (hj : j < 4) : xaI (mM d s X) (some (45, 0, 0)) (nI j) = some (nI (s.1 0 j)) := (xaI_w (M := mM d s X) hW sh_45 hj (by decide)).trans (congrArg some (mM_rd (t := 0) rfl hj))
theorem uI_45 {d : Int32} {s : xS} {X : xMem} {j v : Nat} (hW : XW X) (hj : j < 4) : xuI (mM d s X) (some (45, 0, 0)) (nI j) (nI v) = some (mM d (sA s 0 j v) X) := (xuI_w (M := mM d s X) hW sh_45 hj (by decide)).trans (congrArg some (mM_w0 rfl hj))
theorem aI_46 {d : Int32} {s : xS} {X : xMem} {j : Nat} (hW : XW X) (hj : j < 4) : xaI (mM d s X) (some (46, 0, 0)) (nI j) = some (nI (s.1 1 j)) := (xaI_w (M := mM d s X) hW sh_46 hj (by decide)).trans (congrArg some (mM_rd (t := 0) rfl hj))
theorem uI_46 {d : Int32} {s : xS} {X : xMem} {j v : Nat} (hW : XW X) (hj : j < 4) : xuI (mM d s X) (some (46, 0, 0)) (nI j) (nI v) = some (mM d (sA s 1 j v) X) := (xuI_w (M := mM d s X) hW sh_46 hj (by decide)).trans (congrArg some (mM_w0 rfl hj))
theorem aI_47 {d : Int32} {s : xS} {X : xMem} {j : Nat} (hW : XW X) (hj : j < 4) : xaI (mM d s X) (some (47, 0, 0)) (nI j) = some (nI (s.1 2 j)) := (xaI_w (M := mM d s X) hW sh_47 hj (by decide)).trans (congrArg some (mM_rd (t := 0) rfl hj))
theorem uI_47 {d : Int32} {s : xS} {X : xMem} {j v : Nat} (hW : XW X) (hj : j < 4) : xuI (mM d s X) (some (47, 0, 0)) (nI j) (nI v) = some (mM d (sA s 2 j v) X) := (xuI_w (M := mM d s X) hW sh_47 hj (by decide)).trans (congrArg some (mM_w0 rfl hj))
theorem aI_48 {d : Int32} {s : xS} {X : xMem} {j : Nat} (hW : XW X) (hj : j < 4) : xaI (mM d s X) (some (48, 0, 0)) (nI j) = some (nI (s.1 4 j)) := (xaI_w (M := mM d s X) hW sh_48 hj (by decide)).trans (congrArg some (mM_rd (t := 0) rfl hj))
theorem uI_48 {d : Int32} {s : xS} {X : xMem} {j v : Nat} (hW : XW X) (hj : j < 4) : xuI (mM d s X) (some (48, 0, 0)) (nI j) (nI v) = some (mM d (sA s 4 j v) X) := (xuI_w (M := mM d s X) hW sh_48 hj (by decide)).trans (congrArg some (mM_w0 rfl hj))
theorem aI_49 {d : Int32} {s : xS} {X : xMem} {j : Nat} (hW : XW X) (hj : j < 4) : xaI (mM d s X) (some (49, 0, 0)) (nI j) = some (nI (s.1 5 j)) := (xaI_w (M := mM d s X) hW sh_49 hj (by decide)).trans (congrArg some (mM_rd (t := 0) rfl hj))
theorem uI_49 {d : Int32} {s : xS} {X : xMem} {j v : Nat} (hW : XW X) (hj : j < 4) : xuI (mM d s X) (some (49, 0, 0)) (nI j) (nI v) = some (mM d (sA s 5 j v) X) := (xuI_w (M := mM d s X) hW sh_49 hj (by decide)).trans (congrArg some (mM_w0 rfl hj))
theorem aI_50 {d : Int32} {s : xS} {X : xMem} {j : Nat} (hW : XW X) (hj : j < 4) : xaI (mM d s X) (some (50, 0, 0)) (nI j) = some (nI (s.1 6 j)) := (xaI_w (M := mM d s X) hW sh_50 hj (by decide)).trans (congrArg some (mM_rd (t := 0) rfl hj))
theorem uI_50 {d : Int32} {s : xS} {X : xMem} {j v : Nat} (hW : XW X) (hj : j < 4) : xuI (mM d s X) (some (50, 0, 0)) (nI j) (nI v) = some (mM d (sA s 6 j v) X) := (xuI_w (M := mM d s X) hW sh_50 hj (by decide)).trans (congrArg some (mM_w0 rfl hj))
theorem aI_51 {d : Int32} {s : xS} {X : xMem} {j : Nat} (hW : XW X) (hj : j < 4) : xaI (mM d s X) (some (51, 0, 0)) (nI j) = some (nI (s.1 7 j)) := (xaI_w (M := mM d s X) hW sh_51 hj (by decide)).trans (congrArg some (mM_rd (t := 0) rfl hj))
theorem uI_51 {d : Int32} {s : xS} {X : xMem} {j v : Nat} (hW : XW X) (hj : j < 4) : xuI (mM d s X) (some (51, 0, 0)) (nI j) (nI v) = some (mM d (sA s 7 j v) X) := (xuI_w (M := mM d s X) hW sh_51 hj (by decide)).trans (congrArg some (mM_w0 rfl hj))
theorem aI_52 {d : Int32} {s : xS} {X : xMem} {j : Nat} (hW : XW X) (hj : j < 4) : xaI (mM d s X) (some (52, 0, 0)) (nI j) = some (nI (s.1 8 j)) := (xaI_w (M := mM d s X) hW sh_52 hj (by decide)).trans (congrArg some (mM_rd (t := 0) rfl hj))
theorem uI_52 {d : Int32} {s : xS} {X : xMem} {j v : Nat} (hW : XW X) (hj : j < 4) : xuI (mM d s X) (some (52, 0, 0)) (nI j) (nI v) = some (mM d (sA s 8 j v) X) := (xuI_w (M := mM d s X) hW sh_52 hj (by decide)).trans (congrArg some (mM_w0 rfl hj))
theorem aI_53 {d : Int32} {s : xS} {X : xMem} {j : Nat} (hW : XW X) (hj : j < 4) : xaI (mM d s X) (some (53, 0, 0)) (nI j) = some (nI (s.1 9 j)) := (xaI_w (M := mM d s X) hW sh_53 hj (by decide)).trans (congrArg some (mM_rd (t := 0) rfl hj))
theorem uI_53 {d : Int32} {s : xS} {X : xMem} {j v : Nat} (hW : XW X) (hj : j < 4) : xuI (mM d s X) (some (53, 0, 0)) (nI j) (nI v) = some (mM d (sA s 9 j v) X) := (xuI_w (M := mM d s X) hW sh_53 hj (by decide)).trans (congrArg some (mM_w0 rfl hj))
theorem aI_54 {d : Int32} {s : xS} {X : xMem} {j : Nat} (hW : XW X) (hj : j < 4) : xaI (mM d s X) (some (54, 0, 0)) (nI j) = some (nI (s.1 10 j)) := (xaI_w (M := mM d s X) hW sh_54 hj (by decide)).trans (congrArg some (mM_rd (t := 0) rfl hj))
theorem uI_54 {d : Int32} {s : xS} {X : xMem} {j v : Nat} (hW : XW X) (hj : j < 4) : xuI (mM d s X) (some (54, 0, 0)) (nI j) (nI v) = some (mM d (sA s 10 j v) X) := (xuI_w (M := mM d s X) hW sh_54 hj (by decide)).trans (congrArg some (mM_w0 rfl hj))
theorem aI_55 {d : Int32} {s : xS} {X : xMem} {j : Nat} (hW : XW X) (hj : j < 4) : xaI (mM d s X) (some (55, 0, 0)) (nI j) = some (nI (s.1 11 j)) := (xaI_w (M := mM d s X) hW sh_55 hj (by decide)).trans (congrArg some (mM_rd (t := 0) rfl hj))
theorem uI_55 {d : Int32} {s : xS} {X : xMem} {j v : Nat} (hW : XW X) (hj : j < 4) : xuI (mM d s X) (some (55, 0, 0)) (nI j) (nI v) = some (mM d (sA s 11 j v) X) := (xuI_w (M := mM d s X) hW sh_55 hj (by decide)).trans (congrArg some (mM_w0 rfl hj))
theorem aI_56 {d : Int32} {s : xS} {X : xMem} {j : Nat} (hW : XW X) (hj : j < 4) : xaI (mM d s X) (some (56, 0, 0)) (nI j) = some (nI (s.1 12 j)) := (xaI_w (M := mM d s X) hW sh_56 hj (by decide)).trans (congrArg some (mM_rd (t := 0) rfl hj))
theorem uI_56 {d : Int32} {s : xS} {X : xMem} {j v : Nat} (hW : XW X) (hj : j < 4) : xuI (mM d s X) (some (56, 0, 0)) (nI j) (nI v) = some (mM d (sA s 12 j v) X) := (xuI_w (M := mM d s X) hW sh_56 hj (by decide)).trans (congrArg some (mM_w0 rfl hj))
theorem aI_58 {d : Int32} {s : xS} {X : xMem} {j : Nat} (hW : XW X) (hj : j < 32) : xaI (mM d s X) (some (58, 0, 0)) (nI j) = some (en 4 (-9) (s.1 13 j)) := (xaI_w (M := mM d s X) hW sh_58 hj (by decide)).trans (congrArg some (mM_rd (t := 4) rfl hj))
theorem uI_58 {d : Int32} {s : xS} {X : xMem} {j v : Nat} (hW : XW X) (hj : j < 32) : xuI (mM d s X) (some (58, 0, 0)) (nI j) (en 4 (-9) v) = some (mM d (sA s 13 j v) X) := (xuI_w (M := mM d s X) hW sh_58 hj (by decide)).trans (congrArg some (mM_we (t := 3) rfl hj))
theorem uN_58 {d : Int32} {s : xS} {X : xMem} {j : Nat} (hW : XW X) (hj : j < 32) : xuI (mM d s X) (some (58, 0, 0)) (nI j) (-9) = some (mM d (sA s 13 j 4) X) := uI_58 (v := 4) hW hj
theorem uM_58 {d : Int32} {s : xS} {X : xMem} {j v : Nat} (hW : XW X) (hj : j < 32) (hv : v < 4) : xuI (mM d s X) (some (58, 0, 0)) (nI j) (nI v) = some (mM d (sA s 13 j v) X) := by rw [← en_lt (z := -9) hv]; exact uI_58 hW hj
theorem aI_59 {d : Int32} {s : xS} {X : xMem} {j : Nat} (hW : XW X) (hj : j < 32) : xaI (mM d s X) (some (59, 0, 0)) (nI j) = some (nI (s.1 14 j)) := (xaI_w (M := mM d s X) hW sh_59 hj (by decide)).trans (congrArg some (mM_rd (t := 0) rfl hj))
theorem uI_59 {d : Int32} {s : xS} {X : xMem} {j v : Nat} (hW : XW X) (hj : j < 32) : xuI (mM d s X) (some (59, 0, 0)) (nI j) (nI v) = some (mM d (sA s 14 j v) X) := (xuI_w (M := mM d s X) hW sh_59 hj (by decide)).trans (congrArg some (mM_w0 rfl hj))
theorem aI_60 {d : Int32} {s : xS} {X : xMem} {j : Nat} (hW : XW X) (hj : j < 1984) : xaI (mM d s X) (some (60, 0, 0)) (nI j) = some (nI (s.1 17 j)) := (xaI_w (M := mM d s X) hW sh_60 hj (by decide)).trans (congrArg some (mM_rd (t := 0) rfl hj))
theorem uI_60 {d : Int32} {s : xS} {X : xMem} {j v : Nat} (hW : XW X) (hj : j < 1984) : xuI (mM d s X) (some (60, 0, 0)) (nI j) (nI v) = some (mM d (sA s 17 j v) X) := (xuI_w (M := mM d s X) hW sh_60 hj (by decide)).trans (congrArg some (mM_w0 rfl hj))
theorem aI_62 {d : Int32} {s : xS} {X : xMem} {j : Nat} (hW : XW X) (hj : j < 16) : xaI (mM d s X) (some (62, 0, 0)) (nI j) = some (en 24 (-9) (s.1 15 j)) := (xaI_w (M := mM d s X) hW sh_62 hj (by decide)).trans (congrArg some (mM_rd (t := 24) rfl hj))
theorem uI_62 {d : Int32} {s : xS} {X : xMem} {j v : Nat} (hW : XW X) (hj : j < 16) : xuI (mM d s X) (some (62, 0, 0)) (nI j) (en 24 (-9) v) = some (mM d (sA s 15 j v) X) := (xuI_w (M := mM d s X) hW sh_62 hj (by decide)).trans (congrArg some (mM_we (t := 23) rfl hj))
theorem uN_62 {d : Int32} {s : xS} {X : xMem} {j : Nat} (hW : XW X) (hj : j < 16) : xuI (mM d s X) (some (62, 0, 0)) (nI j) (-9) = some (mM d (sA s 15 j 24) X) := uI_62 (v := 24) hW hj
theorem uM_62 {d : Int32} {s : xS} {X : xMem} {j v : Nat} (hW : XW X) (hj : j < 16) (hv : v < 24) : xuI (mM d s X) (some (62, 0, 0)) (nI j) (nI v) = some (mM d (sA s 15 j v) X) := by rw [← en_lt (z := -9) hv]; exact uI_62 hW hj
theorem aI_63 {d : Int32} {s : xS} {X : xMem} {j : Nat} (hW : XW X) (hj : j < 16) : xaI (mM d s X) (some (63, 0, 0)) (nI j) = some (en 24 (-9) (s.1 16 j)) := (xaI_w (M := mM d s X) hW sh_63 hj (by decide)).trans (congrArg some (mM_rd (t := 24) rfl hj))
theorem uI_63 {d : Int32} {s : xS} {X : xMem} {j v : Nat} (hW : XW X) (hj : j < 16) : xuI (mM d s X) (some (63, 0, 0)) (nI j) (en 24 (-9) v) = some (mM d (sA s 16 j v) X) := (xuI_w (M := mM d s X) hW sh_63 hj (by decide)).trans (congrArg some (mM_we (t := 23) rfl hj))
theorem uN_63 {d : Int32} {s : xS} {X : xMem} {j : Nat} (hW : XW X) (hj : j < 16) : xuI (mM d s X) (some (63, 0, 0)) (nI j) (-9) = some (mM d (sA s 16 j 24) X) := uI_63 (v := 24) hW hj
theorem uM_63 {d : Int32} {s : xS} {X : xMem} {j v : Nat} (hW : XW X) (hj : j < 16) (hv : v < 24) : xuI (mM d s X) (some (63, 0, 0)) (nI j) (nI v) = some (mM d (sA s 16 j v) X) := by rw [← en_lt (z := -9) hv]; exact uI_63 hW hj
theorem aI_64 {d : Int32} {s : xS} {X : xMem} {j : Nat} (hW : XW X) (hj : j < 24) : xaI (mM d s X) (some (64, 0, 0)) (nI j) = some (nI (s.1 18 j)) := (xaI_w (M := mM d s X) hW sh_64 hj (by decide)).trans (congrArg some (mM_rd (t := 0) rfl hj))
theorem uI_64 {d : Int32} {s : xS} {X : xMem} {j v : Nat} (hW : XW X) (hj : j < 24) : xuI (mM d s X) (some (64, 0, 0)) (nI j) (nI v) = some (mM d (sA s 18 j v) X) := (xuI_w (M := mM d s X) hW sh_64 hj (by decide)).trans (congrArg some (mM_w0 rfl hj))
theorem aI_65 {d : Int32} {s : xS} {X : xMem} {j : Nat} (hW : XW X) (hj : j < 24) : xaI (mM d s X) (some (65, 0, 0)) (nI j) = some (nI (s.1 20 j)) := (xaI_w (M := mM d s X) hW sh_65 hj (by decide)).trans (congrArg some (mM_rd (t := 0) rfl hj))
theorem uI_65 {d : Int32} {s : xS} {X : xMem} {j v : Nat} (hW : XW X) (hj : j < 24) : xuI (mM d s X) (some (65, 0, 0)) (nI j) (nI v) = some (mM d (sA s 20 j v) X) := (xuI_w (M := mM d s X) hW sh_65 hj (by decide)).trans (congrArg some (mM_w0 rfl hj))
theorem aI_66 {d : Int32} {s : xS} {X : xMem} {j : Nat} (hW : XW X) (hj : j < 192) : xaI (mM d s X) (some (66, 0, 0)) (nI j) = some (nI (s.1 21 j)) := (xaI_w (M := mM d s X) hW sh_66 hj (by decide)).trans (congrArg some (mM_rd (t := 0) rfl hj))
theorem uI_66 {d : Int32} {s : xS} {X : xMem} {j v : Nat} (hW : XW X) (hj : j < 192) : xuI (mM d s X) (some (66, 0, 0)) (nI j) (nI v) = some (mM d (sA s 21 j v) X) := (xuI_w (M := mM d s X) hW sh_66 hj (by decide)).trans (congrArg some (mM_w0 rfl hj))
theorem aI_67 {d : Int32} {s : xS} {X : xMem} {j : Nat} (hW : XW X) (hj : j < 96) : xaI (mM d s X) (some (67, 0, 0)) (nI j) = some (nI (s.1 23 j)) := (xaI_w (M := mM d s X) hW sh_67 hj (by decide)).trans (congrArg some (mM_rd (t := 0) rfl hj))
theorem uI_67 {d : Int32} {s : xS} {X : xMem} {j v : Nat} (hW : XW X) (hj : j < 96) : xuI (mM d s X) (some (67, 0, 0)) (nI j) (nI v) = some (mM d (sA s 23 j v) X) := (xuI_w (M := mM d s X) hW sh_67 hj (by decide)).trans (congrArg some (mM_w0 rfl hj))
theorem aI_68 {d : Int32} {s : xS} {X : xMem} {j : Nat} (hW : XW X) (hj : j < 4) : xaI (mM d s X) (some (68, 0, 0)) (nI j) = some (nI (s.1 22 j)) := (xaI_w (M := mM d s X) hW sh_68 hj (by decide)).trans (congrArg some (mM_rd (t := 0) rfl hj))
theorem uI_68 {d : Int32} {s : xS} {X : xMem} {j v : Nat} (hW : XW X) (hj : j < 4) : xuI (mM d s X) (some (68, 0, 0)) (nI j) (nI v) = some (mM d (sA s 22 j v) X) := (xuI_w (M := mM d s X) hW sh_68 hj (by decide)).trans (congrArg some (mM_w0 rfl hj))
theorem aI_69 {d : Int32} {s : xS} {X : xMem} {j : Nat} (hW : XW X) (hj : j < 96) : xaI (mM d s X) (some (69, 0, 0)) (nI j) = some (nI (s.1 25 j)) := (xaI_w (M := mM d s X) hW sh_69 hj (by decide)).trans (congrArg some (mM_rd (t := 0) rfl hj))
theorem uI_69 {d : Int32} {s : xS} {X : xMem} {j v : Nat} (hW : XW X) (hj : j < 96) : xuI (mM d s X) (some (69, 0, 0)) (nI j) (nI v) = some (mM d (sA s 25 j v) X) := (xuI_w (M := mM d s X) hW sh_69 hj (by decide)).trans (congrArg some (mM_w0 rfl hj))
theorem aI_70 {d : Int32} {s : xS} {X : xMem} {j : Nat} (hW : XW X) (hj : j < 4) : xaI (mM d s X) (some (70, 0, 0)) (nI j) = some (nI (s.1 24 j)) := (xaI_w (M := mM d s X) hW sh_70 hj (by decide)).trans (congrArg some (mM_rd (t := 0) rfl hj))
theorem uI_70 {d : Int32} {s : xS} {X : xMem} {j v : Nat} (hW : XW X) (hj : j < 4) : xuI (mM d s X) (some (70, 0, 0)) (nI j) (nI v) = some (mM d (sA s 24 j v) X) := (xuI_w (M := mM d s X) hW sh_70 hj (by decide)).trans (congrArg some (mM_w0 rfl hj))
theorem aI_61 {d : Int32} {s : xS} {X : xMem} {j : Nat} (hW : XW X) (hj : j < 1984) : xaI (mM d s X) (some (61, 0, 0)) (nI j) = some (s.2.1 j) := (xaI_w (M := mM d s X) hW sh_61 hj (by decide)).trans (congrArg some (mM_rW hj))
theorem uI_61 {d : Int32} {s : xS} {X : xMem} {j : Nat} {v : Int32} (hW : XW X) (hj : j < 1984) : xuI (mM d s X) (some (61, 0, 0)) (nI j) v = some (mM d (sW s j v) X) := (xuI_w (M := mM d s X) hW sh_61 hj (by decide)).trans (congrArg some (mM_wW hj))
theorem aL_57 {d : Int32} {s : xS} {X : xMem} {j : Nat} (hW : XW X) (hj : j < 4) : xaL (mM d s X) (some (57, 0, 0)) (nI j) = some (s.2.2 j) := (xaL_w (M := mM d s X) hW sh_57 hj (by decide)).trans (congrArg some (mM_rT hj))
theorem uL_57 {d : Int32} {s : xS} {X : xMem} {j : Nat} {v : Int64} (hW : XW X) (hj : j < 4) : xuL (mM d s X) (some (57, 0, 0)) (nI j) v = some (mM d (sT s j v) X) := (xuL_w (M := mM d s X) hW sh_57 hj (by decide)).trans (congrArg some (mM_wT hj))
theorem aI_71 {d : Int32} {s : xS} {X : xMem} {j : Nat} (hW : XW X) (hj : j < 26) : xaI (mM d s X) (some (71, 0, 0)) (nI j) = some (X.1 (71, 0, 0) j) := (xaI_w (M := mM d s X) hW sh_71 hj (by decide)).trans (congrArg some (mM_out rfl (by decide) (by decide)))
theorem uI_71 {d : Int32} {s : xS} {X : xMem} {j : Nat} {v : Int32} (hW : XW X) (hj : j < 26) : xuI (mM d s X) (some (71, 0, 0)) (nI j) v = some (mM d s (xsi X (71, 0, 0) j v)) := (xuI_w (M := mM d s X) hW sh_71 hj (by decide)).trans (congrArg some (mM_out' rfl (by decide) (by decide)))
theorem aI_72 {d : Int32} {s : xS} {X : xMem} {j : Nat} (hW : XW X) (hj : j < 9200) : xaI (mM d s X) (some (72, 0, 0)) (nI j) = some (X.1 (72, 0, 0) j) := (xaI_w (M := mM d s X) hW sh_72 hj (by decide)).trans (congrArg some (mM_out rfl (by decide) (by decide)))
theorem uI_72 {d : Int32} {s : xS} {X : xMem} {j : Nat} {v : Int32} (hW : XW X) (hj : j < 9200) : xuI (mM d s X) (some (72, 0, 0)) (nI j) v = some (mM d s (xsi X (72, 0, 0) j v)) := (xuI_w (M := mM d s X) hW sh_72 hj (by decide)).trans (congrArg some (mM_out' rfl (by decide) (by decide)))
theorem aI_74 {d : Int32} {s : xS} {X : xMem} {j : Nat} (hW : XW X) (hj : j < 400) : xaI (mM d s X) (some (74, 0, 0)) (nI j) = some (X.1 (74, 0, 0) j) := (xaI_w (M := mM d s X) hW sh_74 hj (by decide)).trans (congrArg some (mM_out rfl (by decide) (by decide)))
theorem uI_74 {d : Int32} {s : xS} {X : xMem} {j : Nat} {v : Int32} (hW : XW X) (hj : j < 400) : xuI (mM d s X) (some (74, 0, 0)) (nI j) v = some (mM d s (xsi X (74, 0, 0) j v)) := (xuI_w (M := mM d s X) hW sh_74 hj (by decide)).trans (congrArg some (mM_out' rfl (by decide) (by decide)))
theorem aI_75 {d : Int32} {s : xS} {X : xMem} {j : Nat} (hW : XW X) (hj : j < 100) : xaI (mM d s X) (some (75, 0, 0)) (nI j) = some (X.1 (75, 0, 0) j) := (xaI_w (M := mM d s X) hW sh_75 hj (by decide)).trans (congrArg some (mM_out rfl (by decide) (by decide)))
theorem uI_75 {d : Int32} {s : xS} {X : xMem} {j : Nat} {v : Int32} (hW : XW X) (hj : j < 100) : xuI (mM d s X) (some (75, 0, 0)) (nI j) v = some (mM d s (xsi X (75, 0, 0) j v)) := (xuI_w (M := mM d s X) hW sh_75 hj (by decide)).trans (congrArg some (mM_out' rfl (by decide) (by decide)))
theorem aI_76 {d : Int32} {s : xS} {X : xMem} {j : Nat} (hW : XW X) (hj : j < 100) : xaI (mM d s X) (some (76, 0, 0)) (nI j) = some (X.1 (76, 0, 0) j) := (xaI_w (M := mM d s X) hW sh_76 hj (by decide)).trans (congrArg some (mM_out rfl (by decide) (by decide)))
theorem uI_76 {d : Int32} {s : xS} {X : xMem} {j : Nat} {v : Int32} (hW : XW X) (hj : j < 100) : xuI (mM d s X) (some (76, 0, 0)) (nI j) v = some (mM d s (xsi X (76, 0, 0) j v)) := (xuI_w (M := mM d s X) hW sh_76 hj (by decide)).trans (congrArg some (mM_out' rfl (by decide) (by decide)))
theorem aI_77 {d : Int32} {s : xS} {X : xMem} {j : Nat} (hW : XW X) (hj : j < 5) : xaI (mM d s X) (some (77, 0, 0)) (nI j) = some (X.1 (77, 0, 0) j) := (xaI_w (M := mM d s X) hW sh_77 hj (by decide)).trans (congrArg some (mM_out rfl (by decide) (by decide)))
theorem uI_77 {d : Int32} {s : xS} {X : xMem} {j : Nat} {v : Int32} (hW : XW X) (hj : j < 5) : xuI (mM d s X) (some (77, 0, 0)) (nI j) v = some (mM d s (xsi X (77, 0, 0) j v)) := (xuI_w (M := mM d s X) hW sh_77 hj (by decide)).trans (congrArg some (mM_out' rfl (by decide) (by decide)))
theorem aI_78 {d : Int32} {s : xS} {X : xMem} {j : Nat} (hW : XW X) (hj : j < 5) : xaI (mM d s X) (some (78, 0, 0)) (nI j) = some (X.1 (78, 0, 0) j) := (xaI_w (M := mM d s X) hW sh_78 hj (by decide)).trans (congrArg some (mM_out rfl (by decide) (by decide)))
theorem uI_78 {d : Int32} {s : xS} {X : xMem} {j : Nat} {v : Int32} (hW : XW X) (hj : j < 5) : xuI (mM d s X) (some (78, 0, 0)) (nI j) v = some (mM d s (xsi X (78, 0, 0) j v)) := (xuI_w (M := mM d s X) hW sh_78 hj (by decide)).trans (congrArg some (mM_out' rfl (by decide) (by decide)))
theorem aI_79 {d : Int32} {s : xS} {X : xMem} {j : Nat} (hW : XW X) (hj : j < 160) : xaI (mM d s X) (some (79, 0, 0)) (nI j) = some (X.1 (79, 0, 0) j) := (xaI_w (M := mM d s X) hW sh_79 hj (by decide)).trans (congrArg some (mM_out rfl (by decide) (by decide)))
theorem uI_79 {d : Int32} {s : xS} {X : xMem} {j : Nat} {v : Int32} (hW : XW X) (hj : j < 160) : xuI (mM d s X) (some (79, 0, 0)) (nI j) v = some (mM d s (xsi X (79, 0, 0) j v)) := (xuI_w (M := mM d s X) hW sh_79 hj (by decide)).trans (congrArg some (mM_out' rfl (by decide) (by decide)))
theorem aI_80 {d : Int32} {s : xS} {X : xMem} {j : Nat} (hW : XW X) (hj : j < 4) : xaI (mM d s X) (some (80, 0, 0)) (nI j) = some (X.1 (80, 0, 0) j) := (xaI_w (M := mM d s X) hW sh_80 hj (by decide)).trans (congrArg some (mM_out rfl (by decide) (by decide)))
theorem uI_80 {d : Int32} {s : xS} {X : xMem} {j : Nat} {v : Int32} (hW : XW X) (hj : j < 4) : xuI (mM d s X) (some (80, 0, 0)) (nI j) v = some (mM d s (xsi X (80, 0, 0) j v)) := (xuI_w (M := mM d s X) hW sh_80 hj (by decide)).trans (congrArg some (mM_out' rfl (by decide) (by decide)))
theorem aI_81 {d : Int32} {s : xS} {X : xMem} {j : Nat} (hW : XW X) (hj : j < 40) : xaI (mM d s X) (some (81, 0, 0)) (nI j) = some (X.1 (81, 0, 0) j) := (xaI_w (M := mM d s X) hW sh_81 hj (by decide)).trans (congrArg some (mM_out rfl (by decide) (by decide)))
theorem uI_81 {d : Int32} {s : xS} {X : xMem} {j : Nat} {v : Int32} (hW : XW X) (hj : j < 40) : xuI (mM d s X) (some (81, 0, 0)) (nI j) v = some (mM d s (xsi X (81, 0, 0) j v)) := (xuI_w (M := mM d s X) hW sh_81 hj (by decide)).trans (congrArg some (mM_out' rfl (by decide) (by decide)))
theorem gI_13 {d : Int32} {s : xS} {X : xMem} (hW : XW X) : xgI (mM d s X) (some (44, 0, 0)) 8 13 = some (nI (s.1 19 0)) := xgI_w (M := mM d s X) hW sh_44
theorem pI_13 {d : Int32} {s : xS} {X : xMem} {v : Nat} (hW : XW X) : xpI (mM d s X) (some (44, 0, 0)) 8 13 (nI v) = some (mM d (sA s 19 0 v) X) := (xpI_w (M := mM d s X) hW sh_44).trans (congrArg some mM_w13)
theorem gI_14 {d : Int32} {s : xS} {X : xMem} (hW : XW X) : xgI (mM d s X) (some (44, 0, 0)) 8 14 = some (nI (s.1 19 1)) := xgI_w (M := mM d s X) hW sh_44
theorem pI_14 {d : Int32} {s : xS} {X : xMem} {v : Nat} (hW : XW X) : xpI (mM d s X) (some (44, 0, 0)) 8 14 (nI v) = some (mM d (sA s 19 1 v) X) := (xpI_w (M := mM d s X) hW sh_44).trans (congrArg some mM_w14)
theorem gI_15 {d : Int32} {s : xS} {X : xMem} (hW : XW X) : xgI (mM d s X) (some (44, 0, 0)) 8 15 = some (nI (s.1 19 2) + d) := xgI_w (M := mM d s X) hW sh_44
theorem nI_swp {a b : Nat} {d : Int32} : nI a + d + nI b = nI (a + b) + d := by rw [← nI_add, Int32.add_assoc, Int32.add_comm d, ← Int32.add_assoc]
theorem pI_15 {d : Int32} {s : xS} {X : xMem} {v : Nat} (hW : XW X) : xpI (mM d s X) (some (44, 0, 0)) 8 15 (nI v + d) = some (mM d (sA s 19 2 v) X) := (xpI_w (M := mM d s X) hW sh_44).trans (congrArg some mM_w15)
theorem gI_32 {d : Int32} {s : xS} {X : xMem} (hW : XW X) : xgI (mM d s X) (some (44, 0, 0)) 8 32 = some (X.1 (44, 0, 0) 32) := (xgI_w (M := mM d s X) hW sh_44).trans (congrArg some (mM_oF (by decide)))
theorem pI_32 {d : Int32} {s : xS} {X : xMem} {v : Int32} (hW : XW X) : xpI (mM d s X) (some (44, 0, 0)) 8 32 v = some (mM d s (xsi X (44, 0, 0) 32 v)) := (xpI_w (M := mM d s X) hW sh_44).trans (congrArg some (mM_oF' (by decide)))
theorem gI_33 {d : Int32} {s : xS} {X : xMem} (hW : XW X) : xgI (mM d s X) (some (44, 0, 0)) 8 33 = some (X.1 (44, 0, 0) 33) := (xgI_w (M := mM d s X) hW sh_44).trans (congrArg some (mM_oF (by decide)))
theorem pI_33 {d : Int32} {s : xS} {X : xMem} {v : Int32} (hW : XW X) : xpI (mM d s X) (some (44, 0, 0)) 8 33 v = some (mM d s (xsi X (44, 0, 0) 33 v)) := (xpI_w (M := mM d s X) hW sh_44).trans (congrArg some (mM_oF' (by decide)))
theorem gI_34 {d : Int32} {s : xS} {X : xMem} (hW : XW X) : xgI (mM d s X) (some (44, 0, 0)) 8 34 = some (X.1 (44, 0, 0) 34) := (xgI_w (M := mM d s X) hW sh_44).trans (congrArg some (mM_oF (by decide)))
theorem pI_34 {d : Int32} {s : xS} {X : xMem} {v : Int32} (hW : XW X) : xpI (mM d s X) (some (44, 0, 0)) 8 34 v = some (mM d s (xsi X (44, 0, 0) 34 v)) := (xpI_w (M := mM d s X) hW sh_44).trans (congrArg some (mM_oF' (by decide)))
theorem gI_36 {d : Int32} {s : xS} {X : xMem} (hW : XW X) : xgI (mM d s X) (some (44, 0, 0)) 8 36 = some (X.1 (44, 0, 0) 36) := (xgI_w (M := mM d s X) hW sh_44).trans (congrArg some (mM_oF (by decide)))
theorem pI_36 {d : Int32} {s : xS} {X : xMem} {v : Int32} (hW : XW X) : xpI (mM d s X) (some (44, 0, 0)) 8 36 v = some (mM d s (xsi X (44, 0, 0) 36 v)) := (xpI_w (M := mM d s X) hW sh_44).trans (congrArg some (mM_oF' (by decide)))
theorem gI_37 {d : Int32} {s : xS} {X : xMem} (hW : XW X) : xgI (mM d s X) (some (44, 0, 0)) 8 37 = some (X.1 (44, 0, 0) 37) := (xgI_w (M := mM d s X) hW sh_44).trans (congrArg some (mM_oF (by decide)))
theorem pI_37 {d : Int32} {s : xS} {X : xMem} {v : Int32} (hW : XW X) : xpI (mM d s X) (some (44, 0, 0)) 8 37 v = some (mM d s (xsi X (44, 0, 0) 37 v)) := (xpI_w (M := mM d s X) hW sh_44).trans (congrArg some (mM_oF' (by decide)))
theorem gI_42 {d : Int32} {s : xS} {X : xMem} (hW : XW X) : xgI (mM d s X) (some (44, 0, 0)) 8 42 = some (X.1 (44, 0, 0) 42) := (xgI_w (M := mM d s X) hW sh_44).trans (congrArg some (mM_oF (by decide)))
theorem pI_42 {d : Int32} {s : xS} {X : xMem} {v : Int32} (hW : XW X) : xpI (mM d s X) (some (44, 0, 0)) 8 42 v = some (mM d s (xsi X (44, 0, 0) 42 v)) := (xpI_w (M := mM d s X) hW sh_44).trans (congrArg some (mM_oF' (by decide)))
theorem gI_43 {d : Int32} {s : xS} {X : xMem} (hW : XW X) : xgI (mM d s X) (some (44, 0, 0)) 8 43 = some (X.1 (44, 0, 0) 43) := (xgI_w (M := mM d s X) hW sh_44).trans (congrArg some (mM_oF (by decide)))
theorem pI_43 {d : Int32} {s : xS} {X : xMem} {v : Int32} (hW : XW X) : xpI (mM d s X) (some (44, 0, 0)) 8 43 v = some (mM d s (xsi X (44, 0, 0) 43 v)) := (xpI_w (M := mM d s X) hW sh_44).trans (congrArg some (mM_oF' (by decide)))
theorem gI_44 {d : Int32} {s : xS} {X : xMem} (hW : XW X) : xgI (mM d s X) (some (44, 0, 0)) 8 44 = some (X.1 (44, 0, 0) 44) := (xgI_w (M := mM d s X) hW sh_44).trans (congrArg some (mM_oF (by decide)))
theorem pI_44 {d : Int32} {s : xS} {X : xMem} {v : Int32} (hW : XW X) : xpI (mM d s X) (some (44, 0, 0)) 8 44 v = some (mM d s (xsi X (44, 0, 0) 44 v)) := (xpI_w (M := mM d s X) hW sh_44).trans (congrArg some (mM_oF' (by decide)))
theorem gI_45 {d : Int32} {s : xS} {X : xMem} (hW : XW X) : xgI (mM d s X) (some (44, 0, 0)) 8 45 = some (X.1 (44, 0, 0) 45) := (xgI_w (M := mM d s X) hW sh_44).trans (congrArg some (mM_oF (by decide)))
theorem pI_45 {d : Int32} {s : xS} {X : xMem} {v : Int32} (hW : XW X) : xpI (mM d s X) (some (44, 0, 0)) 8 45 v = some (mM d s (xsi X (44, 0, 0) 45 v)) := (xpI_w (M := mM d s X) hW sh_44).trans (congrArg some (mM_oF' (by decide)))
theorem gI_46 {d : Int32} {s : xS} {X : xMem} (hW : XW X) : xgI (mM d s X) (some (44, 0, 0)) 8 46 = some (X.1 (44, 0, 0) 46) := (xgI_w (M := mM d s X) hW sh_44).trans (congrArg some (mM_oF (by decide)))
theorem pI_46 {d : Int32} {s : xS} {X : xMem} {v : Int32} (hW : XW X) : xpI (mM d s X) (some (44, 0, 0)) 8 46 v = some (mM d s (xsi X (44, 0, 0) 46 v)) := (xpI_w (M := mM d s X) hW sh_44).trans (congrArg some (mM_oF' (by decide)))
theorem gI_47 {d : Int32} {s : xS} {X : xMem} (hW : XW X) : xgI (mM d s X) (some (44, 0, 0)) 8 47 = some (X.1 (44, 0, 0) 47) := (xgI_w (M := mM d s X) hW sh_44).trans (congrArg some (mM_oF (by decide)))
theorem pI_47 {d : Int32} {s : xS} {X : xMem} {v : Int32} (hW : XW X) : xpI (mM d s X) (some (44, 0, 0)) 8 47 v = some (mM d s (xsi X (44, 0, 0) 47 v)) := (xpI_w (M := mM d s X) hW sh_44).trans (congrArg some (mM_oF' (by decide)))
theorem gI_48 {d : Int32} {s : xS} {X : xMem} (hW : XW X) : xgI (mM d s X) (some (44, 0, 0)) 8 48 = some (X.1 (44, 0, 0) 48) := (xgI_w (M := mM d s X) hW sh_44).trans (congrArg some (mM_oF (by decide)))
theorem pI_48 {d : Int32} {s : xS} {X : xMem} {v : Int32} (hW : XW X) : xpI (mM d s X) (some (44, 0, 0)) 8 48 v = some (mM d s (xsi X (44, 0, 0) 48 v)) := (xpI_w (M := mM d s X) hW sh_44).trans (congrArg some (mM_oF' (by decide)))
theorem gI_49 {d : Int32} {s : xS} {X : xMem} (hW : XW X) : xgI (mM d s X) (some (44, 0, 0)) 8 49 = some (X.1 (44, 0, 0) 49) := (xgI_w (M := mM d s X) hW sh_44).trans (congrArg some (mM_oF (by decide)))
theorem pI_49 {d : Int32} {s : xS} {X : xMem} {v : Int32} (hW : XW X) : xpI (mM d s X) (some (44, 0, 0)) 8 49 v = some (mM d s (xsi X (44, 0, 0) 49 v)) := (xpI_w (M := mM d s X) hW sh_44).trans (congrArg some (mM_oF' (by decide)))
theorem gI_50 {d : Int32} {s : xS} {X : xMem} (hW : XW X) : xgI (mM d s X) (some (44, 0, 0)) 8 50 = some (X.1 (44, 0, 0) 50) := (xgI_w (M := mM d s X) hW sh_44).trans (congrArg some (mM_oF (by decide)))
theorem pI_50 {d : Int32} {s : xS} {X : xMem} {v : Int32} (hW : XW X) : xpI (mM d s X) (some (44, 0, 0)) 8 50 v = some (mM d s (xsi X (44, 0, 0) 50 v)) := (xpI_w (M := mM d s X) hW sh_44).trans (congrArg some (mM_oF' (by decide)))
theorem gI_51 {d : Int32} {s : xS} {X : xMem} (hW : XW X) : xgI (mM d s X) (some (44, 0, 0)) 8 51 = some (X.1 (44, 0, 0) 51) := (xgI_w (M := mM d s X) hW sh_44).trans (congrArg some (mM_oF (by decide)))
theorem pI_51 {d : Int32} {s : xS} {X : xMem} {v : Int32} (hW : XW X) : xpI (mM d s X) (some (44, 0, 0)) 8 51 v = some (mM d s (xsi X (44, 0, 0) 51 v)) := (xpI_w (M := mM d s X) hW sh_44).trans (congrArg some (mM_oF' (by decide)))
theorem pZ_32 {d : Int32} {s : xS} {X : xMem} {v : Int32} (hW : XW X) (hv : v = 0 ∨ v = 1) : xpZ (mM d s X) (some (44, 0, 0)) 8 32 v = some (mM d s (xsi X (44, 0, 0) 32 v)) := (xpZ_w (M := mM d s X) hW sh_44 hv).trans (congrArg some (mM_oF' (by decide)))
theorem pZ_33 {d : Int32} {s : xS} {X : xMem} {v : Int32} (hW : XW X) (hv : v = 0 ∨ v = 1) : xpZ (mM d s X) (some (44, 0, 0)) 8 33 v = some (mM d s (xsi X (44, 0, 0) 33 v)) := (xpZ_w (M := mM d s X) hW sh_44 hv).trans (congrArg some (mM_oF' (by decide)))
theorem pZ_46 {d : Int32} {s : xS} {X : xMem} {v : Int32} (hW : XW X) (hv : v = 0 ∨ v = 1) : xpZ (mM d s X) (some (44, 0, 0)) 8 46 v = some (mM d s (xsi X (44, 0, 0) 46 v)) := (xpZ_w (M := mM d s X) hW sh_44 hv).trans (congrArg some (mM_oF' (by decide)))
