/-! facts of the methods: locals, return, receiver (by program) -/
def xF : Nat := 2000000
theorem mL_4 : xL 4 = 4 := by decide +kernel
theorem mR_4 : xR 4 = none := by decide +kernel
theorem mL_11 : xL 11 = 3 := by decide +kernel
theorem mR_11 : xR 11 = some .boolean := by decide +kernel
theorem mL_15 : xL 15 = 1 := by decide +kernel
theorem mR_15 : xR 15 = none := by decide +kernel
theorem mC_15 : (xcl[4]?).map (fun r => r.1) = some (xY 15).cls := by decide +kernel
theorem mL_14 : xL 14 = 1 := by decide +kernel
theorem mR_14 : xR 14 = none := by decide +kernel
theorem mC_14 : (xcl[2]?).map (fun r => r.1) = some (xY 14).cls := by decide +kernel
theorem mL_16 : xL 16 = 1 := by decide +kernel
theorem mR_16 : xR 16 = none := by decide +kernel
theorem mC_16 : (xcl[2]?).map (fun r => r.1) = some (xY 16).cls := by decide +kernel
theorem mL_13 : xL 13 = 4 := by decide +kernel
theorem mR_13 : xR 13 = none := by decide +kernel
theorem mC_13 : (xcl[2]?).map (fun r => r.1) = some (xY 13).cls := by decide +kernel
theorem mL_12 : xL 12 = 5 := by decide +kernel
theorem mR_12 : xR 12 = some .int := by decide +kernel
theorem mC_12 : (xcl[3]?).map (fun r => r.1) = some (xY 12).cls := by decide +kernel
theorem mL_10 : xL 10 = 5 := by decide +kernel
theorem mR_10 : xR 10 = some .int := by decide +kernel
theorem mC_10 : (xcl[7]?).map (fun r => r.1) = some (xY 10).cls := by decide +kernel
theorem mL_18 : xL 18 = 2 := by decide +kernel
theorem mR_18 : xR 18 = some (.object "MagazineDepot$Cache") := by decide +kernel
theorem mC_18 : (xcl[3]?).map (fun r => r.1) = some (xY 18).cls := by decide +kernel
theorem mL_17 : xL 17 = 5 := by decide +kernel
theorem mR_17 : xR 17 = some .int := by decide +kernel
theorem mC_17 : (xcl[7]?).map (fun r => r.1) = some (xY 17).cls := by decide +kernel
theorem mL_20 : xL 20 = 1 := by decide +kernel
theorem mR_20 : xR 20 = some .boolean := by decide +kernel
theorem mL_23 : xL 23 = 2 := by decide +kernel
theorem mR_23 : xR 23 = some (.object "MagazineDepot$Pile") := by decide +kernel
theorem mC_23 : (xcl[3]?).map (fun r => r.1) = some (xY 23).cls := by decide +kernel
theorem mL_22 : xL 22 = 3 := by decide +kernel
theorem mR_22 : xR 22 = some .boolean := by decide +kernel
theorem mC_22 : (xcl[3]?).map (fun r => r.1) = some (xY 22).cls := by decide +kernel
theorem mL_25 : xL 25 = 3 := by decide +kernel
theorem mR_25 : xR 25 = none := by decide +kernel
theorem mC_25 : (xcl[2]?).map (fun r => r.1) = some (xY 25).cls := by decide +kernel
theorem mL_26 : xL 26 = 2 := by decide +kernel
theorem mR_26 : xR 26 = none := by decide +kernel
theorem mC_26 : (xcl[3]?).map (fun r => r.1) = some (xY 26).cls := by decide +kernel
theorem mL_27 : xL 27 = 2 := by decide +kernel
theorem mR_27 : xR 27 = none := by decide +kernel
theorem mC_27 : (xcl[4]?).map (fun r => r.1) = some (xY 27).cls := by decide +kernel
theorem mL_29 : xL 29 = 1 := by decide +kernel
theorem mR_29 : xR 29 = some .int := by decide +kernel
theorem mC_29 : (xcl[4]?).map (fun r => r.1) = some (xY 29).cls := by decide +kernel
theorem mL_28 : xL 28 = 2 := by decide +kernel
theorem mR_28 : xR 28 = some .int := by decide +kernel
theorem mC_28 : (xcl[2]?).map (fun r => r.1) = some (xY 28).cls := by decide +kernel
theorem mL_24 : xL 24 = 3 := by decide +kernel
theorem mR_24 : xR 24 = none := by decide +kernel
theorem mC_24 : (xcl[3]?).map (fun r => r.1) = some (xY 24).cls := by decide +kernel
theorem mL_32 : xL 32 = 3 := by decide +kernel
theorem mR_32 : xR 32 = some .int := by decide +kernel
theorem mC_32 : (xcl[0]?).map (fun r => r.1) = some (xY 32).cls := by decide +kernel
theorem mL_34 : xL 34 = 1 := by decide +kernel
theorem mR_34 : xR 34 = some .long := by decide +kernel
theorem mL_33 : xL 33 = 4 := by decide +kernel
theorem mR_33 : xR 33 = some .int := by decide +kernel
theorem mC_33 : (xcl[0]?).map (fun r => r.1) = some (xY 33).cls := by decide +kernel
theorem mL_35 : xL 35 = 2 := by decide +kernel
theorem mR_35 : xR 35 = none := by decide +kernel
theorem mC_35 : (xcl[2]?).map (fun r => r.1) = some (xY 35).cls := by decide +kernel
theorem mL_37 : xL 37 = 2 := by decide +kernel
theorem mR_37 : xR 37 = some .int := by decide +kernel
theorem mL_36 : xL 36 = 4 := by decide +kernel
theorem mR_36 : xR 36 = some .int := by decide +kernel
theorem mC_36 : (xcl[0]?).map (fun r => r.1) = some (xY 36).cls := by decide +kernel
theorem mL_38 : xL 38 = 3 := by decide +kernel
theorem mR_38 : xR 38 = some .int := by decide +kernel
theorem mC_38 : (xcl[0]?).map (fun r => r.1) = some (xY 38).cls := by decide +kernel
theorem mL_39 : xL 39 = 4 := by decide +kernel
theorem mR_39 : xR 39 = some .int := by decide +kernel
theorem mL_40 : xL 40 = 3 := by decide +kernel
theorem mR_40 : xR 40 = none := by decide +kernel
theorem mC_40 : (xcl[0]?).map (fun r => r.1) = some (xY 40).cls := by decide +kernel
theorem mL_41 : xL 41 = 6 := by decide +kernel
theorem mR_41 : xR 41 = none := by decide +kernel
theorem mC_41 : (xcl[0]?).map (fun r => r.1) = some (xY 41).cls := by decide +kernel
theorem mL_31 : xL 31 = 5 := by decide +kernel
theorem mR_31 : xR 31 = some .int := by decide +kernel
theorem mC_31 : (xcl[3]?).map (fun r => r.1) = some (xY 31).cls := by decide +kernel
theorem mL_21 : xL 21 = 6 := by decide +kernel
theorem mR_21 : xR 21 = some .int := by decide +kernel
theorem mC_21 : (xcl[3]?).map (fun r => r.1) = some (xY 21).cls := by decide +kernel
theorem mL_19 : xL 19 = 4 := by decide +kernel
theorem mR_19 : xR 19 = some .int := by decide +kernel
theorem mC_19 : (xcl[7]?).map (fun r => r.1) = some (xY 19).cls := by decide +kernel
theorem mL_44 : xL 44 = 1 := by decide +kernel
theorem mR_44 : xR 44 = some .boolean := by decide +kernel
theorem mL_43 : xL 43 = 5 := by decide +kernel
theorem mR_43 : xR 43 = some .int := by decide +kernel
theorem mC_43 : (xcl[0]?).map (fun r => r.1) = some (xY 43).cls := by decide +kernel
theorem mL_46 : xL 46 = 4 := by decide +kernel
theorem mR_46 : xR 46 = some .int := by decide +kernel
theorem mC_46 : (xcl[0]?).map (fun r => r.1) = some (xY 46).cls := by decide +kernel
theorem mL_45 : xL 45 = 2 := by decide +kernel
theorem mR_45 : xR 45 = some .boolean := by decide +kernel
theorem mC_45 : (xcl[0]?).map (fun r => r.1) = some (xY 45).cls := by decide +kernel
theorem mL_48 : xL 48 = 2 := by decide +kernel
theorem mR_48 : xR 48 = some .int := by decide +kernel
theorem mC_48 : (xcl[0]?).map (fun r => r.1) = some (xY 48).cls := by decide +kernel
theorem mL_49 : xL 49 = 2 := by decide +kernel
theorem mR_49 : xR 49 = some .int := by decide +kernel
theorem mC_49 : (xcl[0]?).map (fun r => r.1) = some (xY 49).cls := by decide +kernel
theorem mL_50 : xL 50 = 3 := by decide +kernel
theorem mR_50 : xR 50 = some .boolean := by decide +kernel
theorem mL_47 : xL 47 = 3 := by decide +kernel
theorem mR_47 : xR 47 = some .boolean := by decide +kernel
theorem mC_47 : (xcl[3]?).map (fun r => r.1) = some (xY 47).cls := by decide +kernel
theorem mL_52 : xL 52 = 4 := by decide +kernel
theorem mR_52 : xR 52 = some .boolean := by decide +kernel
theorem mC_52 : (xcl[3]?).map (fun r => r.1) = some (xY 52).cls := by decide +kernel
theorem mL_54 : xL 54 = 2 := by decide +kernel
theorem mR_54 : xR 54 = some .int := by decide +kernel
theorem mC_54 : (xcl[2]?).map (fun r => r.1) = some (xY 54).cls := by decide +kernel
theorem mL_55 : xL 55 = 2 := by decide +kernel
theorem mR_55 : xR 55 = some .int := by decide +kernel
theorem mC_55 : (xcl[3]?).map (fun r => r.1) = some (xY 55).cls := by decide +kernel
theorem mL_53 : xL 53 = 4 := by decide +kernel
theorem mR_53 : xR 53 = none := by decide +kernel
theorem mC_53 : (xcl[3]?).map (fun r => r.1) = some (xY 53).cls := by decide +kernel
theorem mL_57 : xL 57 = 4 := by decide +kernel
theorem mR_57 : xR 57 = some .long := by decide +kernel
theorem mL_56 : xL 56 = 3 := by decide +kernel
theorem mR_56 : xR 56 = none := by decide +kernel
theorem mC_56 : (xcl[3]?).map (fun r => r.1) = some (xY 56).cls := by decide +kernel
theorem mL_51 : xL 51 = 5 := by decide +kernel
theorem mR_51 : xR 51 = none := by decide +kernel
theorem mC_51 : (xcl[3]?).map (fun r => r.1) = some (xY 51).cls := by decide +kernel
theorem mL_59 : xL 59 = 5 := by decide +kernel
theorem mR_59 : xR 59 = some .int := by decide +kernel
theorem mC_59 : (xcl[0]?).map (fun r => r.1) = some (xY 59).cls := by decide +kernel
theorem mL_58 : xL 58 = 5 := by decide +kernel
theorem mR_58 : xR 58 = some .int := by decide +kernel
theorem mC_58 : (xcl[0]?).map (fun r => r.1) = some (xY 58).cls := by decide +kernel
theorem mL_42 : xL 42 = 4 := by decide +kernel
theorem mR_42 : xR 42 = some .int := by decide +kernel
theorem mC_42 : (xcl[7]?).map (fun r => r.1) = some (xY 42).cls := by decide +kernel
theorem mL_60 : xL 60 = 4 := by decide +kernel
theorem mR_60 : xR 60 = some .int := by decide +kernel
theorem mC_60 : (xcl[7]?).map (fun r => r.1) = some (xY 60).cls := by decide +kernel
theorem mL_61 : xL 61 = 4 := by decide +kernel
theorem mR_61 : xR 61 = some .long := by decide +kernel
theorem mC_61 : (xcl[7]?).map (fun r => r.1) = some (xY 61).cls := by decide +kernel
theorem mL_64 : xL 64 = 1 := by decide +kernel
theorem mR_64 : xR 64 = some .boolean := by decide +kernel
theorem mL_63 : xL 63 = 6 := by decide +kernel
theorem mR_63 : xR 63 = some .int := by decide +kernel
theorem mC_63 : (xcl[7]?).map (fun r => r.1) = some (xY 63).cls := by decide +kernel
theorem mL_62 : xL 62 = 2 := by decide +kernel
theorem mR_62 : xR 62 = some .int := by decide +kernel
theorem mC_62 : (xcl[7]?).map (fun r => r.1) = some (xY 62).cls := by decide +kernel
theorem mL_65 : xL 65 = 2 := by decide +kernel
theorem mR_65 : xR 65 = some .int := by decide +kernel
theorem mC_65 : (xcl[7]?).map (fun r => r.1) = some (xY 65).cls := by decide +kernel
theorem mL_69 : xL 69 = 2 := by decide +kernel
theorem mR_69 : xR 69 = some .int := by decide +kernel
theorem mC_69 : (xcl[4]?).map (fun r => r.1) = some (xY 69).cls := by decide +kernel
theorem mL_70 : xL 70 = 5 := by decide +kernel
theorem mR_70 : xR 70 = none := by decide +kernel
theorem mC_70 : (xcl[3]?).map (fun r => r.1) = some (xY 70).cls := by decide +kernel
theorem mL_71 : xL 71 = 3 := by decide +kernel
theorem mR_71 : xR 71 = none := by decide +kernel
theorem mC_71 : (xcl[4]?).map (fun r => r.1) = some (xY 71).cls := by decide +kernel
theorem mL_68 : xL 68 = 5 := by decide +kernel
theorem mR_68 : xR 68 = none := by decide +kernel
theorem mC_68 : (xcl[3]?).map (fun r => r.1) = some (xY 68).cls := by decide +kernel
theorem mL_73 : xL 73 = 1 := by decide +kernel
theorem mR_73 : xR 73 = some .boolean := by decide +kernel
theorem mC_73 : (xcl[2]?).map (fun r => r.1) = some (xY 73).cls := by decide +kernel
theorem mL_74 : xL 74 = 3 := by decide +kernel
theorem mR_74 : xR 74 = none := by decide +kernel
theorem mC_74 : (xcl[3]?).map (fun r => r.1) = some (xY 74).cls := by decide +kernel
theorem mL_67 : xL 67 = 4 := by decide +kernel
theorem mR_67 : xR 67 = some .int := by decide +kernel
theorem mC_67 : (xcl[3]?).map (fun r => r.1) = some (xY 67).cls := by decide +kernel
theorem mL_66 : xL 66 = 1 := by decide +kernel
theorem mR_66 : xR 66 = some .int := by decide +kernel
theorem mC_66 : (xcl[7]?).map (fun r => r.1) = some (xY 66).cls := by decide +kernel
theorem mL_76 : xL 76 = 3 := by decide +kernel
theorem mR_76 : xR 76 = none := by decide +kernel
theorem mC_76 : (xcl[3]?).map (fun r => r.1) = some (xY 76).cls := by decide +kernel
theorem mL_75 : xL 75 = 5 := by decide +kernel
theorem mR_75 : xR 75 = some .int := by decide +kernel
theorem mC_75 : (xcl[7]?).map (fun r => r.1) = some (xY 75).cls := by decide +kernel
theorem mL_78 : xL 78 = 4 := by decide +kernel
theorem mR_78 : xR 78 = some .int := by decide +kernel
theorem mC_78 : (xcl[0]?).map (fun r => r.1) = some (xY 78).cls := by decide +kernel
theorem mL_77 : xL 77 = 2 := by decide +kernel
theorem mR_77 : xR 77 = some .int := by decide +kernel
theorem mC_77 : (xcl[7]?).map (fun r => r.1) = some (xY 77).cls := by decide +kernel
theorem mL_79 : xL 79 = 3 := by decide +kernel
theorem mR_79 : xR 79 = some .int := by decide +kernel
theorem mC_79 : (xcl[7]?).map (fun r => r.1) = some (xY 79).cls := by decide +kernel
theorem mL_81 : xL 81 = 6 := by decide +kernel
theorem mR_81 : xR 81 = some .int := by decide +kernel
theorem mC_81 : (xcl[0]?).map (fun r => r.1) = some (xY 81).cls := by decide +kernel
theorem mL_80 : xL 80 = 2 := by decide +kernel
theorem mR_80 : xR 80 = some .int := by decide +kernel
theorem mC_80 : (xcl[7]?).map (fun r => r.1) = some (xY 80).cls := by decide +kernel
theorem mL_84 : xL 84 = 2 := by decide +kernel
theorem mR_84 : xR 84 = some .int := by decide +kernel
theorem mC_84 : (xcl[0]?).map (fun r => r.1) = some (xY 84).cls := by decide +kernel
theorem mL_83 : xL 83 = 3 := by decide +kernel
theorem mR_83 : xR 83 = some .int := by decide +kernel
theorem mC_83 : (xcl[0]?).map (fun r => r.1) = some (xY 83).cls := by decide +kernel
theorem mL_82 : xL 82 = 4 := by decide +kernel
theorem mR_82 : xR 82 = some .int := by decide +kernel
theorem mC_82 : (xcl[7]?).map (fun r => r.1) = some (xY 82).cls := by decide +kernel
theorem mL_85 : xL 85 = 4 := by decide +kernel
theorem mR_85 : xR 85 = some .int := by decide +kernel
theorem mC_85 : (xcl[7]?).map (fun r => r.1) = some (xY 85).cls := by decide +kernel
theorem mL_86 : xL 86 = 3 := by decide +kernel
theorem mR_86 : xR 86 = some .long := by decide +kernel
theorem mC_86 : (xcl[7]?).map (fun r => r.1) = some (xY 86).cls := by decide +kernel
theorem mL_88 : xL 88 = 7 := by decide +kernel
theorem mR_88 : xR 88 = some .int := by decide +kernel
theorem mC_88 : (xcl[0]?).map (fun r => r.1) = some (xY 88).cls := by decide +kernel
theorem mL_89 : xL 89 = 2 := by decide +kernel
theorem mR_89 : xR 89 = some .int := by decide +kernel
theorem mC_89 : (xcl[2]?).map (fun r => r.1) = some (xY 89).cls := by decide +kernel
theorem mL_87 : xL 87 = 4 := by decide +kernel
theorem mR_87 : xR 87 = some .int := by decide +kernel
theorem mC_87 : (xcl[7]?).map (fun r => r.1) = some (xY 87).cls := by decide +kernel
theorem mL_90 : xL 90 = 3 := by decide +kernel
theorem mR_90 : xR 90 = some .long := by decide +kernel
theorem mC_90 : (xcl[7]?).map (fun r => r.1) = some (xY 90).cls := by decide +kernel
theorem mL_92 : xL 92 = 1 := by decide +kernel
theorem mR_92 : xR 92 = some .int := by decide +kernel
theorem mC_92 : (xcl[4]?).map (fun r => r.1) = some (xY 92).cls := by decide +kernel
theorem mL_91 : xL 91 = 6 := by decide +kernel
theorem mR_91 : xR 91 = some .int := by decide +kernel
theorem mC_91 : (xcl[7]?).map (fun r => r.1) = some (xY 91).cls := by decide +kernel
theorem mL_94 : xL 94 = 4 := by decide +kernel
theorem mR_94 : xR 94 = some (.array .int) := by decide +kernel
theorem mC_94 : (xcl[0]?).map (fun r => r.1) = some (xY 94).cls := by decide +kernel
theorem mL_93 : xL 93 = 10 := by decide +kernel
theorem mR_93 : xR 93 = some .int := by decide +kernel
theorem mC_93 : (xcl[7]?).map (fun r => r.1) = some (xY 93).cls := by decide +kernel
theorem mL_96 : xL 96 = 4 := by decide +kernel
theorem mR_96 : xR 96 = some .boolean := by decide +kernel
theorem mC_96 : (xcl[7]?).map (fun r => r.1) = some (xY 96).cls := by decide +kernel
theorem mL_98 : xL 98 = 2 := by decide +kernel
theorem mR_98 : xR 98 = none := by decide +kernel
theorem mC_98 : (xcl[0]?).map (fun r => r.1) = some (xY 98).cls := by decide +kernel
theorem mL_100 : xL 100 = 3 := by decide +kernel
theorem mR_100 : xR 100 = none := by decide +kernel
theorem mC_100 : (xcl[4]?).map (fun r => r.1) = some (xY 100).cls := by decide +kernel
theorem mL_99 : xL 99 = 2 := by decide +kernel
theorem mR_99 : xR 99 = none := by decide +kernel
theorem mC_99 : (xcl[2]?).map (fun r => r.1) = some (xY 99).cls := by decide +kernel
theorem mL_97 : xL 97 = 3 := by decide +kernel
theorem mR_97 : xR 97 = none := by decide +kernel
theorem mC_97 : (xcl[3]?).map (fun r => r.1) = some (xY 97).cls := by decide +kernel
theorem mL_95 : xL 95 = 7 := by decide +kernel
theorem mR_95 : xR 95 = some .int := by decide +kernel
theorem mC_95 : (xcl[7]?).map (fun r => r.1) = some (xY 95).cls := by decide +kernel
theorem mL_101 : xL 101 = 7 := by decide +kernel
theorem mR_101 : xR 101 = some .int := by decide +kernel
theorem mC_101 : (xcl[7]?).map (fun r => r.1) = some (xY 101).cls := by decide +kernel
theorem mL_103 : xL 103 = 5 := by decide +kernel
theorem mR_103 : xR 103 = some .int := by decide +kernel
theorem mC_103 : (xcl[7]?).map (fun r => r.1) = some (xY 103).cls := by decide +kernel
theorem mL_102 : xL 102 = 7 := by decide +kernel
theorem mR_102 : xR 102 = some .int := by decide +kernel
theorem mC_102 : (xcl[7]?).map (fun r => r.1) = some (xY 102).cls := by decide +kernel
theorem mL_104 : xL 104 = 2 := by decide +kernel
theorem mR_104 : xR 104 = some .int := by decide +kernel
theorem mC_104 : (xcl[7]?).map (fun r => r.1) = some (xY 104).cls := by decide +kernel
theorem mL_108 : xL 108 = 1 := by decide +kernel
theorem mR_108 : xR 108 = some .int := by decide +kernel
theorem mC_108 : (xcl[6]?).map (fun r => r.1) = some (xY 108).cls := by decide +kernel
theorem mL_109 : xL 109 = 2 := by decide +kernel
theorem mR_109 : xR 109 = some .boolean := by decide +kernel
theorem mC_109 : (xcl[6]?).map (fun r => r.1) = some (xY 109).cls := by decide +kernel
theorem mL_111 : xL 111 = 4 := by decide +kernel
theorem mR_111 : xR 111 = some .int := by decide +kernel
theorem mC_111 : (xcl[6]?).map (fun r => r.1) = some (xY 111).cls := by decide +kernel
theorem mL_112 : xL 112 = 3 := by decide +kernel
theorem mR_112 : xR 112 = none := by decide +kernel
theorem mC_112 : (xcl[6]?).map (fun r => r.1) = some (xY 112).cls := by decide +kernel
theorem mL_113 : xL 113 = 2 := by decide +kernel
theorem mR_113 : xR 113 = some .boolean := by decide +kernel
theorem mC_113 : (xcl[6]?).map (fun r => r.1) = some (xY 113).cls := by decide +kernel
theorem mL_114 : xL 114 = 3 := by decide +kernel
theorem mR_114 : xR 114 = some .boolean := by decide +kernel
theorem mC_114 : (xcl[6]?).map (fun r => r.1) = some (xY 114).cls := by decide +kernel
theorem mL_110 : xL 110 = 2 := by decide +kernel
theorem mR_110 : xR 110 = some .boolean := by decide +kernel
theorem mC_110 : (xcl[6]?).map (fun r => r.1) = some (xY 110).cls := by decide +kernel
theorem mL_116 : xL 116 = 1 := by decide +kernel
theorem mR_116 : xR 116 = some .boolean := by decide +kernel
theorem mC_116 : (xcl[6]?).map (fun r => r.1) = some (xY 116).cls := by decide +kernel
theorem mL_115 : xL 115 = 1 := by decide +kernel
theorem mR_115 : xR 115 = some .boolean := by decide +kernel
theorem mC_115 : (xcl[6]?).map (fun r => r.1) = some (xY 115).cls := by decide +kernel
theorem mL_119 : xL 119 = 4 := by decide +kernel
theorem mR_119 : xR 119 = some .int := by decide +kernel
theorem mC_119 : (xcl[6]?).map (fun r => r.1) = some (xY 119).cls := by decide +kernel
theorem mL_118 : xL 118 = 2 := by decide +kernel
theorem mR_118 : xR 118 = some .boolean := by decide +kernel
theorem mC_118 : (xcl[6]?).map (fun r => r.1) = some (xY 118).cls := by decide +kernel
theorem mL_117 : xL 117 = 1 := by decide +kernel
theorem mR_117 : xR 117 = some .boolean := by decide +kernel
theorem mC_117 : (xcl[6]?).map (fun r => r.1) = some (xY 117).cls := by decide +kernel
theorem mL_120 : xL 120 = 3 := by decide +kernel
theorem mR_120 : xR 120 = some .boolean := by decide +kernel
theorem mC_120 : (xcl[6]?).map (fun r => r.1) = some (xY 120).cls := by decide +kernel
theorem mL_107 : xL 107 = 2 := by decide +kernel
theorem mR_107 : xR 107 = some .boolean := by decide +kernel
theorem mC_107 : (xcl[6]?).map (fun r => r.1) = some (xY 107).cls := by decide +kernel
theorem mL_121 : xL 121 = 3 := by decide +kernel
theorem mR_121 : xR 121 = none := by decide +kernel
theorem mC_121 : (xcl[6]?).map (fun r => r.1) = some (xY 121).cls := by decide +kernel
theorem mL_106 : xL 106 = 5 := by decide +kernel
theorem mR_106 : xR 106 = some .int := by decide +kernel
theorem mC_106 : (xcl[6]?).map (fun r => r.1) = some (xY 106).cls := by decide +kernel
theorem mL_105 : xL 105 = 3 := by decide +kernel
theorem mR_105 : xR 105 = some .int := by decide +kernel
theorem mC_105 : (xcl[7]?).map (fun r => r.1) = some (xY 105).cls := by decide +kernel
theorem mL_126 : xL 126 = 1 := by decide +kernel
theorem mR_126 : xR 126 = some .boolean := by decide +kernel
theorem mC_126 : (xcl[5]?).map (fun r => r.1) = some (xY 126).cls := by decide +kernel
theorem mL_125 : xL 125 = 3 := by decide +kernel
theorem mR_125 : xR 125 = some .int := by decide +kernel
theorem mC_125 : (xcl[5]?).map (fun r => r.1) = some (xY 125).cls := by decide +kernel
theorem mL_127 : xL 127 = 4 := by decide +kernel
theorem mR_127 : xR 127 = none := by decide +kernel
theorem mC_127 : (xcl[5]?).map (fun r => r.1) = some (xY 127).cls := by decide +kernel
theorem mL_129 : xL 129 = 3 := by decide +kernel
theorem mR_129 : xR 129 = some .int := by decide +kernel
theorem mC_129 : (xcl[5]?).map (fun r => r.1) = some (xY 129).cls := by decide +kernel
theorem mL_128 : xL 128 = 4 := by decide +kernel
theorem mR_128 : xR 128 = none := by decide +kernel
theorem mC_128 : (xcl[5]?).map (fun r => r.1) = some (xY 128).cls := by decide +kernel
theorem mL_130 : xL 130 = 3 := by decide +kernel
theorem mR_130 : xR 130 = none := by decide +kernel
theorem mC_130 : (xcl[5]?).map (fun r => r.1) = some (xY 130).cls := by decide +kernel
theorem mL_131 : xL 131 = 3 := by decide +kernel
theorem mR_131 : xR 131 = some .int := by decide +kernel
theorem mC_131 : (xcl[5]?).map (fun r => r.1) = some (xY 131).cls := by decide +kernel
theorem mL_124 : xL 124 = 3 := by decide +kernel
theorem mR_124 : xR 124 = some .int := by decide +kernel
theorem mC_124 : (xcl[5]?).map (fun r => r.1) = some (xY 124).cls := by decide +kernel
theorem mL_123 : xL 123 = 6 := by decide +kernel
theorem mR_123 : xR 123 = none := by decide +kernel
theorem mC_123 : (xcl[5]?).map (fun r => r.1) = some (xY 123).cls := by decide +kernel
theorem mL_122 : xL 122 = 1 := by decide +kernel
theorem mR_122 : xR 122 = some .int := by decide +kernel
theorem mC_122 : (xcl[7]?).map (fun r => r.1) = some (xY 122).cls := by decide +kernel
theorem mL_132 : xL 132 = 1 := by decide +kernel
theorem mR_132 : xR 132 = some .int := by decide +kernel
theorem mC_132 : (xcl[7]?).map (fun r => r.1) = some (xY 132).cls := by decide +kernel
theorem mL_133 : xL 133 = 2 := by decide +kernel
theorem mR_133 : xR 133 = some .int := by decide +kernel
theorem mC_133 : (xcl[7]?).map (fun r => r.1) = some (xY 133).cls := by decide +kernel
theorem mL_135 : xL 135 = 4 := by decide +kernel
theorem mR_135 : xR 135 = none := by decide +kernel
theorem mC_135 : (xcl[3]?).map (fun r => r.1) = some (xY 135).cls := by decide +kernel
theorem mL_134 : xL 134 = 6 := by decide +kernel
theorem mR_134 : xR 134 = some .int := by decide +kernel
theorem mC_134 : (xcl[7]?).map (fun r => r.1) = some (xY 134).cls := by decide +kernel
theorem mL_136 : xL 136 = 2 := by decide +kernel
theorem mR_136 : xR 136 = some .int := by decide +kernel
theorem mC_136 : (xcl[7]?).map (fun r => r.1) = some (xY 136).cls := by decide +kernel
theorem mL_137 : xL 137 = 1 := by decide +kernel
theorem mR_137 : xR 137 = some .int := by decide +kernel
theorem mC_137 : (xcl[7]?).map (fun r => r.1) = some (xY 137).cls := by decide +kernel
theorem mL_138 : xL 138 = 1 := by decide +kernel
theorem mR_138 : xR 138 = some .int := by decide +kernel
theorem mC_138 : (xcl[7]?).map (fun r => r.1) = some (xY 138).cls := by decide +kernel
theorem mL_140 : xL 140 = 2 := by decide +kernel
theorem mR_140 : xR 140 = some .boolean := by decide +kernel
theorem mC_140 : (xcl[1]?).map (fun r => r.1) = some (xY 140).cls := by decide +kernel
theorem mL_141 : xL 141 = 3 := by decide +kernel
theorem mR_141 : xR 141 = none := by decide +kernel
theorem mC_141 : (xcl[1]?).map (fun r => r.1) = some (xY 141).cls := by decide +kernel
theorem mL_139 : xL 139 = 3 := by decide +kernel
theorem mR_139 : xR 139 = some .int := by decide +kernel
theorem mC_139 : (xcl[7]?).map (fun r => r.1) = some (xY 139).cls := by decide +kernel
theorem mL_143 : xL 143 = 2 := by decide +kernel
theorem mR_143 : xR 143 = some .boolean := by decide +kernel
theorem mC_143 : (xcl[1]?).map (fun r => r.1) = some (xY 143).cls := by decide +kernel
theorem mL_144 : xL 144 = 3 := by decide +kernel
theorem mR_144 : xR 144 = some .boolean := by decide +kernel
theorem mC_144 : (xcl[1]?).map (fun r => r.1) = some (xY 144).cls := by decide +kernel
theorem mL_145 : xL 145 = 4 := by decide +kernel
theorem mR_145 : xR 145 = none := by decide +kernel
theorem mC_145 : (xcl[1]?).map (fun r => r.1) = some (xY 145).cls := by decide +kernel
theorem mL_142 : xL 142 = 4 := by decide +kernel
theorem mR_142 : xR 142 = some .int := by decide +kernel
theorem mC_142 : (xcl[7]?).map (fun r => r.1) = some (xY 142).cls := by decide +kernel
theorem mL_147 : xL 147 = 3 := by decide +kernel
theorem mR_147 : xR 147 = some .int := by decide +kernel
theorem mC_147 : (xcl[1]?).map (fun r => r.1) = some (xY 147).cls := by decide +kernel
theorem mL_146 : xL 146 = 4 := by decide +kernel
theorem mR_146 : xR 146 = some .int := by decide +kernel
theorem mC_146 : (xcl[7]?).map (fun r => r.1) = some (xY 146).cls := by decide +kernel
theorem mL_148 : xL 148 = 7 := by decide +kernel
theorem mR_148 : xR 148 = some .int := by decide +kernel
theorem mC_148 : (xcl[7]?).map (fun r => r.1) = some (xY 148).cls := by decide +kernel
theorem mL_150 : xL 150 = 4 := by decide +kernel
theorem mR_150 : xR 150 = some .boolean := by decide +kernel
theorem mC_150 : (xcl[1]?).map (fun r => r.1) = some (xY 150).cls := by decide +kernel
theorem mL_151 : xL 151 = 6 := by decide +kernel
theorem mR_151 : xR 151 = none := by decide +kernel
theorem mC_151 : (xcl[1]?).map (fun r => r.1) = some (xY 151).cls := by decide +kernel
theorem mL_149 : xL 149 = 6 := by decide +kernel
theorem mR_149 : xR 149 = some .int := by decide +kernel
theorem mC_149 : (xcl[7]?).map (fun r => r.1) = some (xY 149).cls := by decide +kernel
theorem mL_153 : xL 153 = 6 := by decide +kernel
theorem mR_153 : xR 153 = some .int := by decide +kernel
theorem mC_153 : (xcl[7]?).map (fun r => r.1) = some (xY 153).cls := by decide +kernel
theorem mL_152 : xL 152 = 2 := by decide +kernel
theorem mR_152 : xR 152 = some .int := by decide +kernel
theorem mC_152 : (xcl[7]?).map (fun r => r.1) = some (xY 152).cls := by decide +kernel
theorem mL_158 : xL 158 = 3 := by decide +kernel
theorem mR_158 : xR 158 = none := by decide +kernel
theorem mC_158 : (xcl[8]?).map (fun r => r.1) = some (xY 158).cls := by decide +kernel
theorem mL_157 : xL 157 = 1 := by decide +kernel
theorem mR_157 : xR 157 = none := by decide +kernel
theorem mC_157 : (xcl[8]?).map (fun r => r.1) = some (xY 157).cls := by decide +kernel
theorem mL_159 : xL 159 = 1 := by decide +kernel
theorem mR_159 : xR 159 = none := by decide +kernel
theorem mC_159 : (xcl[8]?).map (fun r => r.1) = some (xY 159).cls := by decide +kernel
theorem mL_160 : xL 160 = 3 := by decide +kernel
theorem mR_160 : xR 160 = some .int := by decide +kernel
theorem mC_160 : (xcl[8]?).map (fun r => r.1) = some (xY 160).cls := by decide +kernel
theorem mL_156 : xL 156 = 4 := by decide +kernel
theorem mR_156 : xR 156 = none := by decide +kernel
theorem mC_156 : (xcl[8]?).map (fun r => r.1) = some (xY 156).cls := by decide +kernel
theorem mL_155 : xL 155 = 1 := by decide +kernel
theorem mR_155 : xR 155 = some .int := by decide +kernel
theorem mC_155 : (xcl[8]?).map (fun r => r.1) = some (xY 155).cls := by decide +kernel
theorem mL_161 : xL 161 = 1 := by decide +kernel
theorem mR_161 : xR 161 = some .int := by decide +kernel
theorem mC_161 : (xcl[8]?).map (fun r => r.1) = some (xY 161).cls := by decide +kernel
theorem mL_163 : xL 163 = 3 := by decide +kernel
theorem mR_163 : xR 163 = some .boolean := by decide +kernel
theorem mL_164 : xL 164 = 3 := by decide +kernel
theorem mR_164 : xR 164 = some .boolean := by decide +kernel
theorem mL_162 : xL 162 = 6 := by decide +kernel
theorem mR_162 : xR 162 = some .int := by decide +kernel
theorem mC_162 : (xcl[8]?).map (fun r => r.1) = some (xY 162).cls := by decide +kernel
theorem mL_166 : xL 166 = 2 := by decide +kernel
theorem mR_166 : xR 166 = some .boolean := by decide +kernel
theorem mC_166 : (xcl[8]?).map (fun r => r.1) = some (xY 166).cls := by decide +kernel
theorem mL_165 : xL 165 = 4 := by decide +kernel
theorem mR_165 : xR 165 = some .int := by decide +kernel
theorem mC_165 : (xcl[8]?).map (fun r => r.1) = some (xY 165).cls := by decide +kernel
theorem mL_168 : xL 168 = 1 := by decide +kernel
theorem mR_168 : xR 168 = some .boolean := by decide +kernel
theorem mL_170 : xL 170 = 2 := by decide +kernel
theorem mR_170 : xR 170 = some .boolean := by decide +kernel
theorem mC_170 : (xcl[8]?).map (fun r => r.1) = some (xY 170).cls := by decide +kernel
theorem mL_172 : xL 172 = 2 := by decide +kernel
theorem mR_172 : xR 172 = some .int := by decide +kernel
theorem mC_172 : (xcl[8]?).map (fun r => r.1) = some (xY 172).cls := by decide +kernel
theorem mL_171 : xL 171 = 3 := by decide +kernel
theorem mR_171 : xR 171 = some .int := by decide +kernel
theorem mC_171 : (xcl[8]?).map (fun r => r.1) = some (xY 171).cls := by decide +kernel
theorem mL_173 : xL 173 = 3 := by decide +kernel
theorem mR_173 : xR 173 = none := by decide +kernel
theorem mC_173 : (xcl[8]?).map (fun r => r.1) = some (xY 173).cls := by decide +kernel
theorem mL_177 : xL 177 = 2 := by decide +kernel
theorem mR_177 : xR 177 = some .int := by decide +kernel
theorem mC_177 : (xcl[8]?).map (fun r => r.1) = some (xY 177).cls := by decide +kernel
theorem mL_176 : xL 176 = 3 := by decide +kernel
theorem mR_176 : xR 176 = some .int := by decide +kernel
theorem mC_176 : (xcl[8]?).map (fun r => r.1) = some (xY 176).cls := by decide +kernel
theorem mL_175 : xL 175 = 4 := by decide +kernel
theorem mR_175 : xR 175 = some .int := by decide +kernel
theorem mC_175 : (xcl[8]?).map (fun r => r.1) = some (xY 175).cls := by decide +kernel
theorem mL_179 : xL 179 = 2 := by decide +kernel
theorem mR_179 : xR 179 = some .int := by decide +kernel
theorem mC_179 : (xcl[8]?).map (fun r => r.1) = some (xY 179).cls := by decide +kernel
theorem mL_180 : xL 180 = 3 := by decide +kernel
theorem mR_180 : xR 180 = some .int := by decide +kernel
theorem mC_180 : (xcl[8]?).map (fun r => r.1) = some (xY 180).cls := by decide +kernel
theorem mL_178 : xL 178 = 4 := by decide +kernel
theorem mR_178 : xR 178 = some .int := by decide +kernel
theorem mC_178 : (xcl[8]?).map (fun r => r.1) = some (xY 178).cls := by decide +kernel
theorem mL_181 : xL 181 = 3 := by decide +kernel
theorem mR_181 : xR 181 = some .int := by decide +kernel
theorem mC_181 : (xcl[8]?).map (fun r => r.1) = some (xY 181).cls := by decide +kernel
theorem mL_182 : xL 182 = 2 := by decide +kernel
theorem mR_182 : xR 182 = some .int := by decide +kernel
theorem mL_174 : xL 174 = 3 := by decide +kernel
theorem mR_174 : xR 174 = some .int := by decide +kernel
theorem mC_174 : (xcl[8]?).map (fun r => r.1) = some (xY 174).cls := by decide +kernel
theorem mL_183 : xL 183 = 2 := by decide +kernel
theorem mR_183 : xR 183 = none := by decide +kernel
theorem mC_183 : (xcl[8]?).map (fun r => r.1) = some (xY 183).cls := by decide +kernel
theorem mL_184 : xL 184 = 5 := by decide +kernel
theorem mR_184 : xR 184 = some .int := by decide +kernel
theorem mC_184 : (xcl[8]?).map (fun r => r.1) = some (xY 184).cls := by decide +kernel
theorem mL_185 : xL 185 = 5 := by decide +kernel
theorem mR_185 : xR 185 = none := by decide +kernel
theorem mC_185 : (xcl[8]?).map (fun r => r.1) = some (xY 185).cls := by decide +kernel
theorem mL_169 : xL 169 = 5 := by decide +kernel
theorem mR_169 : xR 169 = some .int := by decide +kernel
theorem mC_169 : (xcl[8]?).map (fun r => r.1) = some (xY 169).cls := by decide +kernel
theorem mL_167 : xL 167 = 4 := by decide +kernel
theorem mR_167 : xR 167 = some .int := by decide +kernel
theorem mC_167 : (xcl[8]?).map (fun r => r.1) = some (xY 167).cls := by decide +kernel
theorem mL_188 : xL 188 = 4 := by decide +kernel
theorem mR_188 : xR 188 = some .int := by decide +kernel
theorem mC_188 : (xcl[8]?).map (fun r => r.1) = some (xY 188).cls := by decide +kernel
theorem mL_187 : xL 187 = 3 := by decide +kernel
theorem mR_187 : xR 187 = some .int := by decide +kernel
theorem mC_187 : (xcl[8]?).map (fun r => r.1) = some (xY 187).cls := by decide +kernel
theorem mL_190 : xL 190 = 2 := by decide +kernel
theorem mR_190 : xR 190 = some .int := by decide +kernel
theorem mC_190 : (xcl[8]?).map (fun r => r.1) = some (xY 190).cls := by decide +kernel
theorem mL_189 : xL 189 = 4 := by decide +kernel
theorem mR_189 : xR 189 = some .boolean := by decide +kernel
theorem mC_189 : (xcl[8]?).map (fun r => r.1) = some (xY 189).cls := by decide +kernel
theorem mL_192 : xL 192 = 3 := by decide +kernel
theorem mR_192 : xR 192 = some .boolean := by decide +kernel
theorem mC_192 : (xcl[8]?).map (fun r => r.1) = some (xY 192).cls := by decide +kernel
theorem mL_193 : xL 193 = 3 := by decide +kernel
theorem mR_193 : xR 193 = none := by decide +kernel
theorem mC_193 : (xcl[8]?).map (fun r => r.1) = some (xY 193).cls := by decide +kernel
theorem mL_194 : xL 194 = 2 := by decide +kernel
theorem mR_194 : xR 194 = some .int := by decide +kernel
theorem mC_194 : (xcl[8]?).map (fun r => r.1) = some (xY 194).cls := by decide +kernel
theorem mL_196 : xL 196 = 3 := by decide +kernel
theorem mR_196 : xR 196 = some .int := by decide +kernel
theorem mL_195 : xL 195 = 3 := by decide +kernel
theorem mR_195 : xR 195 = none := by decide +kernel
theorem mC_195 : (xcl[8]?).map (fun r => r.1) = some (xY 195).cls := by decide +kernel
theorem mL_191 : xL 191 = 6 := by decide +kernel
theorem mR_191 : xR 191 = none := by decide +kernel
theorem mC_191 : (xcl[8]?).map (fun r => r.1) = some (xY 191).cls := by decide +kernel
theorem mL_197 : xL 197 = 4 := by decide +kernel
theorem mR_197 : xR 197 = some .int := by decide +kernel
theorem mC_197 : (xcl[8]?).map (fun r => r.1) = some (xY 197).cls := by decide +kernel
theorem mL_186 : xL 186 = 4 := by decide +kernel
theorem mR_186 : xR 186 = some .int := by decide +kernel
theorem mC_186 : (xcl[8]?).map (fun r => r.1) = some (xY 186).cls := by decide +kernel
theorem mL_198 : xL 198 = 4 := by decide +kernel
theorem mR_198 : xR 198 = some .int := by decide +kernel
theorem mC_198 : (xcl[8]?).map (fun r => r.1) = some (xY 198).cls := by decide +kernel
theorem mL_199 : xL 199 = 3 := by decide +kernel
theorem mR_199 : xR 199 = some .long := by decide +kernel
theorem mC_199 : (xcl[8]?).map (fun r => r.1) = some (xY 199).cls := by decide +kernel
theorem mL_201 : xL 201 = 4 := by decide +kernel
theorem mR_201 : xR 201 = some .int := by decide +kernel
theorem mC_201 : (xcl[8]?).map (fun r => r.1) = some (xY 201).cls := by decide +kernel
theorem mL_200 : xL 200 = 2 := by decide +kernel
theorem mR_200 : xR 200 = some .int := by decide +kernel
theorem mC_200 : (xcl[8]?).map (fun r => r.1) = some (xY 200).cls := by decide +kernel
theorem mL_202 : xL 202 = 2 := by decide +kernel
theorem mR_202 : xR 202 = some .int := by decide +kernel
theorem mC_202 : (xcl[8]?).map (fun r => r.1) = some (xY 202).cls := by decide +kernel
theorem mL_205 : xL 205 = 3 := by decide +kernel
theorem mR_205 : xR 205 = some .int := by decide +kernel
theorem mC_205 : (xcl[8]?).map (fun r => r.1) = some (xY 205).cls := by decide +kernel
theorem mL_207 : xL 207 = 4 := by decide +kernel
theorem mR_207 : xR 207 = some .int := by decide +kernel
theorem mC_207 : (xcl[8]?).map (fun r => r.1) = some (xY 207).cls := by decide +kernel
theorem mL_206 : xL 206 = 6 := by decide +kernel
theorem mR_206 : xR 206 = some .int := by decide +kernel
theorem mC_206 : (xcl[8]?).map (fun r => r.1) = some (xY 206).cls := by decide +kernel
theorem mL_210 : xL 210 = 3 := by decide +kernel
theorem mR_210 : xR 210 = some .int := by decide +kernel
theorem mC_210 : (xcl[8]?).map (fun r => r.1) = some (xY 210).cls := by decide +kernel
theorem mL_209 : xL 209 = 3 := by decide +kernel
theorem mR_209 : xR 209 = none := by decide +kernel
theorem mC_209 : (xcl[8]?).map (fun r => r.1) = some (xY 209).cls := by decide +kernel
theorem mL_208 : xL 208 = 2 := by decide +kernel
theorem mR_208 : xR 208 = none := by decide +kernel
theorem mC_208 : (xcl[8]?).map (fun r => r.1) = some (xY 208).cls := by decide +kernel
theorem mL_204 : xL 204 = 3 := by decide +kernel
theorem mR_204 : xR 204 = some .int := by decide +kernel
theorem mC_204 : (xcl[8]?).map (fun r => r.1) = some (xY 204).cls := by decide +kernel
theorem mL_203 : xL 203 = 1 := by decide +kernel
theorem mR_203 : xR 203 = some .int := by decide +kernel
theorem mC_203 : (xcl[8]?).map (fun r => r.1) = some (xY 203).cls := by decide +kernel
theorem mL_211 : xL 211 = 3 := by decide +kernel
theorem mR_211 : xR 211 = some .int := by decide +kernel
theorem mC_211 : (xcl[8]?).map (fun r => r.1) = some (xY 211).cls := by decide +kernel
theorem mL_213 : xL 213 = 5 := by decide +kernel
theorem mR_213 : xR 213 = some .int := by decide +kernel
theorem mC_213 : (xcl[8]?).map (fun r => r.1) = some (xY 213).cls := by decide +kernel
theorem mL_212 : xL 212 = 4 := by decide +kernel
theorem mR_212 : xR 212 = some .int := by decide +kernel
theorem mC_212 : (xcl[8]?).map (fun r => r.1) = some (xY 212).cls := by decide +kernel
theorem mL_214 : xL 214 = 3 := by decide +kernel
theorem mR_214 : xR 214 = some .int := by decide +kernel
theorem mC_214 : (xcl[8]?).map (fun r => r.1) = some (xY 214).cls := by decide +kernel
theorem mL_216 : xL 216 = 7 := by decide +kernel
theorem mR_216 : xR 216 = some .int := by decide +kernel
theorem mC_216 : (xcl[8]?).map (fun r => r.1) = some (xY 216).cls := by decide +kernel
theorem mL_215 : xL 215 = 2 := by decide +kernel
theorem mR_215 : xR 215 = some .int := by decide +kernel
theorem mC_215 : (xcl[8]?).map (fun r => r.1) = some (xY 215).cls := by decide +kernel
theorem mL_218 : xL 218 = 4 := by decide +kernel
theorem mR_218 : xR 218 = some .int := by decide +kernel
theorem mC_218 : (xcl[8]?).map (fun r => r.1) = some (xY 218).cls := by decide +kernel
theorem mL_217 : xL 217 = 4 := by decide +kernel
theorem mR_217 : xR 217 = some .int := by decide +kernel
theorem mC_217 : (xcl[8]?).map (fun r => r.1) = some (xY 217).cls := by decide +kernel
theorem mL_219 : xL 219 = 5 := by decide +kernel
theorem mR_219 : xR 219 = some .int := by decide +kernel
theorem mC_219 : (xcl[8]?).map (fun r => r.1) = some (xY 219).cls := by decide +kernel
theorem mL_220 : xL 220 = 6 := by decide +kernel
theorem mR_220 : xR 220 = some .long := by decide +kernel
theorem mC_220 : (xcl[8]?).map (fun r => r.1) = some (xY 220).cls := by decide +kernel
theorem mL_222 : xL 222 = 4 := by decide +kernel
theorem mR_222 : xR 222 = some .int := by decide +kernel
theorem mC_222 : (xcl[8]?).map (fun r => r.1) = some (xY 222).cls := by decide +kernel
theorem mL_221 : xL 221 = 3 := by decide +kernel
theorem mR_221 : xR 221 = some .int := by decide +kernel
theorem mC_221 : (xcl[8]?).map (fun r => r.1) = some (xY 221).cls := by decide +kernel
theorem mL_223 : xL 223 = 2 := by decide +kernel
theorem mR_223 : xR 223 = some .long := by decide +kernel
theorem mC_223 : (xcl[8]?).map (fun r => r.1) = some (xY 223).cls := by decide +kernel
theorem mL_224 : xL 224 = 5 := by decide +kernel
theorem mR_224 : xR 224 = some .int := by decide +kernel
theorem mC_224 : (xcl[8]?).map (fun r => r.1) = some (xY 224).cls := by decide +kernel
theorem mL_226 : xL 226 = 5 := by decide +kernel
theorem mR_226 : xR 226 = some .int := by decide +kernel
theorem mC_226 : (xcl[8]?).map (fun r => r.1) = some (xY 226).cls := by decide +kernel
theorem mL_225 : xL 225 = 7 := by decide +kernel
theorem mR_225 : xR 225 = some .int := by decide +kernel
theorem mC_225 : (xcl[8]?).map (fun r => r.1) = some (xY 225).cls := by decide +kernel
theorem mL_228 : xL 228 = 1 := by decide +kernel
theorem mR_228 : xR 228 = none := by decide +kernel
theorem mC_228 : (xcl[8]?).map (fun r => r.1) = some (xY 228).cls := by decide +kernel
theorem mL_229 : xL 229 = 1 := by decide +kernel
theorem mR_229 : xR 229 = none := by decide +kernel
theorem mC_229 : (xcl[8]?).map (fun r => r.1) = some (xY 229).cls := by decide +kernel
theorem mL_227 : xL 227 = 7 := by decide +kernel
theorem mR_227 : xR 227 = some .int := by decide +kernel
theorem mC_227 : (xcl[8]?).map (fun r => r.1) = some (xY 227).cls := by decide +kernel
theorem mL_230 : xL 230 = 10 := by decide +kernel
theorem mR_230 : xR 230 = some .int := by decide +kernel
theorem mC_230 : (xcl[8]?).map (fun r => r.1) = some (xY 230).cls := by decide +kernel
theorem mL_232 : xL 232 = 5 := by decide +kernel
theorem mR_232 : xR 232 = none := by decide +kernel
theorem mC_232 : (xcl[8]?).map (fun r => r.1) = some (xY 232).cls := by decide +kernel
theorem mL_233 : xL 233 = 3 := by decide +kernel
theorem mR_233 : xR 233 = some .int := by decide +kernel
theorem mC_233 : (xcl[8]?).map (fun r => r.1) = some (xY 233).cls := by decide +kernel
theorem mL_231 : xL 231 = 8 := by decide +kernel
theorem mR_231 : xR 231 = some .int := by decide +kernel
theorem mC_231 : (xcl[8]?).map (fun r => r.1) = some (xY 231).cls := by decide +kernel
theorem mL_234 : xL 234 = 2 := by decide +kernel
theorem mR_234 : xR 234 = some .int := by decide +kernel
theorem mC_234 : (xcl[8]?).map (fun r => r.1) = some (xY 234).cls := by decide +kernel
theorem mL_238 : xL 238 = 1 := by decide +kernel
theorem mR_238 : xR 238 = some .int := by decide +kernel
theorem mC_238 : (xcl[8]?).map (fun r => r.1) = some (xY 238).cls := by decide +kernel
theorem mL_240 : xL 240 = 3 := by decide +kernel
theorem mR_240 : xR 240 = some .boolean := by decide +kernel
theorem mC_240 : (xcl[8]?).map (fun r => r.1) = some (xY 240).cls := by decide +kernel
theorem mL_239 : xL 239 = 1 := by decide +kernel
theorem mR_239 : xR 239 = some .boolean := by decide +kernel
theorem mC_239 : (xcl[8]?).map (fun r => r.1) = some (xY 239).cls := by decide +kernel
theorem mL_241 : xL 241 = 1 := by decide +kernel
theorem mR_241 : xR 241 = some .boolean := by decide +kernel
theorem mC_241 : (xcl[8]?).map (fun r => r.1) = some (xY 241).cls := by decide +kernel
theorem mL_242 : xL 242 = 1 := by decide +kernel
theorem mR_242 : xR 242 = some .int := by decide +kernel
theorem mC_242 : (xcl[8]?).map (fun r => r.1) = some (xY 242).cls := by decide +kernel
theorem mL_237 : xL 237 = 2 := by decide +kernel
theorem mR_237 : xR 237 = some .int := by decide +kernel
theorem mC_237 : (xcl[8]?).map (fun r => r.1) = some (xY 237).cls := by decide +kernel
theorem mL_243 : xL 243 = 1 := by decide +kernel
theorem mR_243 : xR 243 = some .boolean := by decide +kernel
theorem mC_243 : (xcl[8]?).map (fun r => r.1) = some (xY 243).cls := by decide +kernel
theorem mL_236 : xL 236 = 3 := by decide +kernel
theorem mR_236 : xR 236 = some .boolean := by decide +kernel
theorem mC_236 : (xcl[8]?).map (fun r => r.1) = some (xY 236).cls := by decide +kernel
theorem mL_235 : xL 235 = 4 := by decide +kernel
theorem mR_235 : xR 235 = some .int := by decide +kernel
theorem mC_235 : (xcl[8]?).map (fun r => r.1) = some (xY 235).cls := by decide +kernel
theorem mL_246 : xL 246 = 1 := by decide +kernel
theorem mR_246 : xR 246 = some .boolean := by decide +kernel
theorem mC_246 : (xcl[8]?).map (fun r => r.1) = some (xY 246).cls := by decide +kernel
theorem mL_248 : xL 248 = 5 := by decide +kernel
theorem mR_248 : xR 248 = none := by decide +kernel
theorem mC_248 : (xcl[8]?).map (fun r => r.1) = some (xY 248).cls := by decide +kernel
theorem mL_250 : xL 250 = 2 := by decide +kernel
theorem mR_250 : xR 250 = some .int := by decide +kernel
theorem mC_250 : (xcl[8]?).map (fun r => r.1) = some (xY 250).cls := by decide +kernel
theorem mL_249 : xL 249 = 4 := by decide +kernel
theorem mR_249 : xR 249 = none := by decide +kernel
theorem mC_249 : (xcl[8]?).map (fun r => r.1) = some (xY 249).cls := by decide +kernel
theorem mL_251 : xL 251 = 4 := by decide +kernel
theorem mR_251 : xR 251 = none := by decide +kernel
theorem mC_251 : (xcl[8]?).map (fun r => r.1) = some (xY 251).cls := by decide +kernel
theorem mL_254 : xL 254 = 2 := by decide +kernel
theorem mR_254 : xR 254 = none := by decide +kernel
theorem mC_254 : (xcl[8]?).map (fun r => r.1) = some (xY 254).cls := by decide +kernel
theorem mL_253 : xL 253 = 2 := by decide +kernel
theorem mR_253 : xR 253 = none := by decide +kernel
theorem mC_253 : (xcl[8]?).map (fun r => r.1) = some (xY 253).cls := by decide +kernel
theorem mL_252 : xL 252 = 2 := by decide +kernel
theorem mR_252 : xR 252 = none := by decide +kernel
theorem mC_252 : (xcl[8]?).map (fun r => r.1) = some (xY 252).cls := by decide +kernel
theorem mL_255 : xL 255 = 2 := by decide +kernel
theorem mR_255 : xR 255 = none := by decide +kernel
theorem mC_255 : (xcl[8]?).map (fun r => r.1) = some (xY 255).cls := by decide +kernel
theorem mL_247 : xL 247 = 2 := by decide +kernel
theorem mR_247 : xR 247 = none := by decide +kernel
theorem mC_247 : (xcl[8]?).map (fun r => r.1) = some (xY 247).cls := by decide +kernel
theorem mL_256 : xL 256 = 1 := by decide +kernel
theorem mR_256 : xR 256 = some .boolean := by decide +kernel
theorem mC_256 : (xcl[8]?).map (fun r => r.1) = some (xY 256).cls := by decide +kernel
theorem mL_245 : xL 245 = 2 := by decide +kernel
theorem mR_245 : xR 245 = none := by decide +kernel
theorem mC_245 : (xcl[8]?).map (fun r => r.1) = some (xY 245).cls := by decide +kernel
theorem mL_244 : xL 244 = 1 := by decide +kernel
theorem mR_244 : xR 244 = some .int := by decide +kernel
theorem mC_244 : (xcl[8]?).map (fun r => r.1) = some (xY 244).cls := by decide +kernel
theorem mL_257 : xL 257 = 1 := by decide +kernel
theorem mR_257 : xR 257 = some .int := by decide +kernel
theorem mC_257 : (xcl[8]?).map (fun r => r.1) = some (xY 257).cls := by decide +kernel
theorem mL_259 : xL 259 = 3 := by decide +kernel
theorem mR_259 : xR 259 = none := by decide +kernel
theorem mC_259 : (xcl[8]?).map (fun r => r.1) = some (xY 259).cls := by decide +kernel
theorem mL_258 : xL 258 = 2 := by decide +kernel
theorem mR_258 : xR 258 = some .int := by decide +kernel
theorem mC_258 : (xcl[8]?).map (fun r => r.1) = some (xY 258).cls := by decide +kernel
theorem mL_260 : xL 260 = 5 := by decide +kernel
theorem mR_260 : xR 260 = some .int := by decide +kernel
theorem mC_260 : (xcl[8]?).map (fun r => r.1) = some (xY 260).cls := by decide +kernel
theorem mL_261 : xL 261 = 2 := by decide +kernel
theorem mR_261 : xR 261 = some .int := by decide +kernel
theorem mC_261 : (xcl[8]?).map (fun r => r.1) = some (xY 261).cls := by decide +kernel
theorem mL_263 : xL 263 = 1 := by decide +kernel
theorem mR_263 : xR 263 = some .boolean := by decide +kernel
theorem mL_262 : xL 262 = 4 := by decide +kernel
theorem mR_262 : xR 262 = some .int := by decide +kernel
theorem mC_262 : (xcl[8]?).map (fun r => r.1) = some (xY 262).cls := by decide +kernel
theorem mL_264 : xL 264 = 4 := by decide +kernel
theorem mR_264 : xR 264 = some .int := by decide +kernel
theorem mC_264 : (xcl[8]?).map (fun r => r.1) = some (xY 264).cls := by decide +kernel
theorem mL_265 : xL 265 = 4 := by decide +kernel
theorem mR_265 : xR 265 = some .int := by decide +kernel
theorem mC_265 : (xcl[8]?).map (fun r => r.1) = some (xY 265).cls := by decide +kernel
theorem mL_267 : xL 267 = 6 := by decide +kernel
theorem mR_267 : xR 267 = some .boolean := by decide +kernel
theorem mC_267 : (xcl[8]?).map (fun r => r.1) = some (xY 267).cls := by decide +kernel
theorem mL_266 : xL 266 = 6 := by decide +kernel
theorem mR_266 : xR 266 = some .int := by decide +kernel
theorem mC_266 : (xcl[8]?).map (fun r => r.1) = some (xY 266).cls := by decide +kernel
theorem mL_268 : xL 268 = 7 := by decide +kernel
theorem mR_268 : xR 268 = some .int := by decide +kernel
theorem mC_268 : (xcl[8]?).map (fun r => r.1) = some (xY 268).cls := by decide +kernel
theorem mL_270 : xL 270 = 3 := by decide +kernel
theorem mR_270 : xR 270 = some .int := by decide +kernel
theorem mC_270 : (xcl[8]?).map (fun r => r.1) = some (xY 270).cls := by decide +kernel
theorem mL_271 : xL 271 = 3 := by decide +kernel
theorem mR_271 : xR 271 = some .int := by decide +kernel
theorem mC_271 : (xcl[8]?).map (fun r => r.1) = some (xY 271).cls := by decide +kernel
theorem mL_269 : xL 269 = 2 := by decide +kernel
theorem mR_269 : xR 269 = some .int := by decide +kernel
theorem mC_269 : (xcl[8]?).map (fun r => r.1) = some (xY 269).cls := by decide +kernel
