/-! checks of methods -/
set_option maxRecDepth 1000000 in
theorem mk_46 : ab_MK cm_ms mr_46 := wz_MK wz_C1 wz_W1k rfl (lw_in_4 (p := 97) rfl) (ks := [0, 0, 11, 0, 0, 0, 12, 0, 0, 0, 8, 0, 0, 7, 0, 0, 2, 0, 0, 13, 9, 0, 0, 0, 0, 0, 1, 0, 0, 0, 0, 0, 4, 0, 0, 0, 0, 0, 0, 0, 0, 0, 0, 0, 0, 0, 0, 0, 0, 0, 10, 0, 0, 0]) (by decide +kernel)
set_option maxRecDepth 1000000 in
theorem mk_47 : ab_MK cm_ms mr_47 := wz_MK wz_C1 wz_W1k rfl (lw_in_4 (p := 74) rfl) (ks := [0, 0, 0, 0, 0, 0, 0, 0, 0, 0, 0, 1, 0, 0, 0, 0, 0, 0, 2, 0, 0, 0, 0, 14, 0, 0, 0, 0, 2, 0, 0, 0, 0, 0, 0, 0, 2, 0, 0, 3, 0, 0, 15, 0, 0, 0, 0, 0, 16, 0, 0, 17, 0, 0, 0, 0, 0]) (by decide +kernel)
set_option maxRecDepth 1000000 in
theorem mk_48 : ab_MK cm_ms mr_48 := wz_MK wz_C1 wz_W1k rfl (lw_in_4 (p := 113) rfl) (ks := [0, 2, 0, 0, 0, 3, 0, 0, 0, 0, 0, 0, 0, 6, 0, 0, 0, 0, 18, 0, 0, 0, 0, 0, 0, 0]) (by decide +kernel)
set_option maxRecDepth 1000000 in
theorem mk_49 : ab_MK cm_ms mr_49 := wz_MK wz_C1 wz_W1k rfl (lw_in_4 (p := 117) rfl) (ks := [0, 0, 11, 0, 0, 2, 0, 0, 0, 19, 0, 0, 0, 11, 0, 0, 0, 0, 0, 0, 0, 0, 0, 0, 0, 11, 0, 0, 0, 0, 0, 0, 0, 0, 1, 0, 0, 0, 0, 0, 0, 0, 0, 0, 0, 4, 0, 0, 0, 0, 0, 0, 0, 0, 18, 0, 0, 0, 0, 0, 0, 0]) (by decide +kernel)
set_option maxRecDepth 1000000 in
theorem mk_50 : ab_MK cm_ms mr_50 := wz_MK wz_C7 wz_W7k rfl (lw_in_4 (p := 198) rfl) (ks := [0, 0, 1, 0, 2, 0, 0, 0, 1, 0, 3, 0, 0, 0, 0, 0, 0, 0, 0, 4, 0]) (by decide +kernel)
set_option maxRecDepth 1000000 in
theorem mk_51 : ab_MK cm_ms mr_51 := wz_MK wz_C7 wz_W7k rfl (lw_in_4 (p := 202) rfl) (ks := [0, 0, 2, 0, 0, 0, 0, 0, 0, 0, 0, 5, 0, 0, 0, 0, 0, 2, 0, 0, 0, 0, 0, 0, 0, 0, 3, 0, 0, 0, 0, 0, 0, 0, 0, 0, 0, 0, 0, 0, 0, 0, 0, 3, 0, 0, 0, 0, 0, 6, 0, 4, 0, 0, 0]) (by decide +kernel)
set_option maxRecDepth 1000000 in
theorem mk_52 : ab_MK cm_ms mr_52 := wz_MK wz_C7 wz_W7k rfl (lw_in_4 (p := 206) rfl) (ks := [0, 0, 0, 3, 0, 0, 0, 0, 0, 6, 0, 0, 0, 0, 7, 0, 0, 0, 1, 0, 3, 0, 0, 8, 0, 0, 9, 0]) (by decide +kernel)
set_option maxRecDepth 1000000 in
theorem mk_53 : ab_MK cm_ms mr_53 := wz_MK wz_C6 wz_W6k rfl (lw_in_4 (p := 224) rfl) (ks := [0, 0, 1, 0, 0, 0, 0, 0, 2, 0, 0, 0, 0, 0, 3, 0, 0, 4, 0, 5, 0, 0, 0, 0, 5, 0, 0, 1, 0, 0, 0]) (by decide +kernel)
set_option maxRecDepth 1000000 in
theorem mk_54 : ab_MK cm_ms mr_54 := wz_MK wz_C6 wz_W6k rfl (lw_in_4 (p := 228) rfl) (ks := [0, 6, 0, 7, 0, 0, 0, 0, 2, 0, 0, 0, 0, 0, 0, 0, 0, 6, 0, 0, 8, 0, 0, 0, 0, 0, 0, 0, 0, 0, 6, 9, 0, 0, 0, 10, 0, 0, 0, 0, 0, 0, 0, 0, 0]) (by decide +kernel)
set_option maxRecDepth 1000000 in
theorem mk_55 : ab_MK cm_ms mr_55 := wz_MK wz_C6 wz_W6k rfl (lw_in_5 (p := 2) rfl) (ks := [0, 0, 0, 0, 0, 0, 5, 0, 0, 0, 4, 0, 0, 0, 0, 0, 0, 0, 0]) (by decide +kernel)
set_option maxRecDepth 1000000 in
theorem mk_56 : ab_MK cm_ms mr_56 := wz_MK wz_C6 wz_W6k rfl (lw_in_5 (p := 10) rfl) (ks := [0, 5, 0, 0, 0, 0, 4, 0, 0, 0, 0, 0, 0, 0, 5, 0, 0, 0, 4, 0, 0, 0, 0, 0, 0, 0, 0]) (by decide +kernel)
set_option maxRecDepth 1000000 in
theorem mk_57 : ab_MK cm_ms mr_57 := wz_MK wz_C6 wz_W6k rfl (lw_in_5 (p := 22) rfl) (ks := [0, 0, 0, 0, 0, 0, 5, 0, 0, 0, 4, 0, 0, 0, 0, 0, 0, 0, 0, 0, 0, 0, 0, 5, 0, 0, 11, 0]) (by decide +kernel)
set_option maxRecDepth 1000000 in
theorem mk_58 : ab_MK cm_ms mr_58 := wz_MK wz_C6 wz_W6k rfl (lw_in_5 (p := 18) rfl) (ks := [0, 0, 0, 5, 0, 0, 0, 0, 0, 0, 5, 0, 0, 0, 2, 0, 0, 0, 12, 0, 0, 0, 0, 0, 0, 0, 0, 0, 0, 0, 0]) (by decide +kernel)
set_option maxRecDepth 1000000 in
theorem mk_59 : ab_MK cm_ms mr_59 := wz_MK wz_C2 wz_W2k rfl (lw_in_5 (p := 60) rfl) (ks := [0, 0, 0, 1, 0, 0, 0, 0, 0, 0, 0, 0, 2, 0, 0, 0, 0, 0, 0, 0, 0, 3, 0, 4, 0, 0, 0, 0, 5, 0, 0, 0, 6, 0, 7, 0, 0, 6, 0, 0, 2, 0, 0, 7, 0, 0, 0, 0, 0, 0, 0, 0, 0, 2, 7, 8, 0]) (by decide +kernel)
set_option maxRecDepth 1000000 in
theorem mk_60 : ab_MK cm_ms mr_60 := wz_MK wz_C2 wz_W2k rfl (lw_in_5 (p := 78) rfl) (ks := [0, 0, 0, 0, 9, 0, 0, 0, 6, 0, 0, 0, 10, 8, 0]) (by decide +kernel)
set_option maxRecDepth 1000000 in
theorem mk_61 : ab_MK cm_ms mr_61 := wz_MK wz_C2 wz_W2k rfl (lw_in_5 (p := 66) rfl) (ks := [0, 0, 0, 0, 0, 0, 0, 0, 0, 0, 0, 0, 0, 0, 0, 0]) (by decide +kernel)
set_option maxRecDepth 1000000 in
theorem mk_62 : ab_MK cm_ms mr_62 := wz_MK wz_C2 wz_W2k rfl (lw_in_5 (p := 70) rfl) (ks := [0, 0, 0, 0, 0, 0, 0, 0, 0, 0, 0, 0, 0, 0, 0, 0, 0, 0, 0, 0, 0, 0, 0, 0, 0, 0, 0, 0, 0, 0, 0, 0, 0, 11, 0, 0, 0, 0, 0, 0, 0, 0, 0, 0, 12, 0]) (by decide +kernel)
set_option maxRecDepth 1000000 in
theorem mk_63 : ab_MK cm_ms mr_63 := wz_MK wz_C2 wz_W2k rfl (lw_in_5 (p := 93) rfl) (ks := [0, 0, 13, 0, 0, 0, 0, 2, 0, 0, 0, 0, 14, 0, 0, 0, 15, 0, 16, 0, 14, 0, 0, 0, 6, 0, 0, 17, 0, 0, 0, 0, 0, 0]) (by decide +kernel)
set_option maxRecDepth 1000000 in
theorem mk_64 : ab_MK cm_ms mr_64 := wz_MK wz_C5 wz_W5k rfl (lw_in_2 (p := 152) rfl) (ks := [0, 0, 1, 0, 0, 0, 0, 2, 3, 0, 0, 4, 0, 0, 5, 0, 6, 7, 0, 0, 8, 0, 0, 9, 0, 0, 10, 0, 11, 0, 12, 0, 0, 0, 0, 0, 0, 13, 0, 0, 14, 0, 0, 0, 11, 0, 12, 0, 0, 0, 14, 0, 0, 0, 15, 0, 6, 16, 0, 0, 0, 15, 0, 13, 0]) (by decide +kernel)
set_option maxRecDepth 1000000 in
theorem mk_65 : ab_MK cm_ms mr_65 := wz_MK wz_C5 wz_W5k rfl (lw_in_3 (p := 122) rfl) (ks := [0, 17, 0]) (by decide +kernel)
set_option maxRecDepth 1000000 in
theorem mk_66 : ab_MK cm_ms mr_66 := wz_MK wz_C5 wz_W5k rfl (lw_in_3 (p := 17) rfl) (ks := [0, 13, 0, 0, 0, 9, 0]) (by decide +kernel)
set_option maxRecDepth 1000000 in
theorem mk_67 : ab_MK cm_ms mr_67 := wz_MK wz_C5 wz_W5k rfl (lw_in_2 (p := 186) rfl) (ks := [0, 18, 0, 0, 0, 0, 0, 0, 15, 0, 0, 0, 0, 19, 0, 0, 0, 15, 0, 0, 0, 0, 19, 0, 0, 0, 15, 0, 0, 0, 20, 0, 21, 0, 0, 0, 15, 0, 11, 0, 13, 0, 0, 0, 0, 0, 0, 22, 0, 0, 23, 0, 0, 24, 0, 0, 25, 0, 0, 26, 0, 0, 27, 0, 0, 28, 0, 0, 29, 0, 0]) (by decide +kernel)
set_option maxRecDepth 1000000 in
theorem mk_68 : ab_MK cm_ms mr_68 := wz_MK wz_C5 wz_W5k rfl (lw_in_3 (p := 38) rfl) (ks := [0, 0, 0, 0, 0, 0, 0, 0, 0, 0, 0, 0, 0, 0, 0, 0]) (by decide +kernel)
set_option maxRecDepth 1000000 in
theorem mk_69 : ab_MK cm_ms mr_69 := wz_MK wz_C5 wz_W5k rfl (lw_in_3 (p := 21) rfl) (ks := [0, 0, 0, 6, 16, 0, 0, 6, 30, 0, 0, 6, 31, 0, 6, 16, 32, 0, 0, 6, 33, 0, 6, 30, 32, 0, 0, 6, 34, 0, 0, 6, 35, 0, 0, 0]) (by decide +kernel)
set_option maxRecDepth 1000000 in
theorem mk_70 : ab_MK cm_ms mr_70 := wz_MK wz_C5 wz_W5k rfl (lw_in_3 (p := 42) rfl) (ks := [0, 0, 36, 0, 6, 0, 0, 0, 37, 38, 0, 0, 36, 0, 6, 0, 0, 0, 37, 39, 0, 0, 36, 0, 6, 0, 0, 0, 37, 40, 0, 0, 8, 0]) (by decide +kernel)
set_option maxRecDepth 1000000 in
theorem mk_71 : ab_MK cm_ms mr_71 := wz_MK wz_C5 wz_W5k rfl (lw_in_3 (p := 57) rfl) (ks := [0, 0, 0, 6, 16, 41, 0, 42, 0, 0, 11, 0, 0, 36, 0, 0, 0, 37, 0, 0, 0, 36, 0, 0, 0, 37, 0, 0, 13, 0, 0, 6, 0, 0, 0, 43, 0]) (by decide +kernel)
set_option maxRecDepth 1000000 in
theorem mk_72 : ab_MK cm_ms mr_72 := wz_MK wz_C5 wz_W5k rfl (lw_in_3 (p := 82) rfl) (ks := [0, 0, 0, 6, 30, 41, 0, 0, 36, 0, 0, 0, 37, 0, 0, 0, 36, 0, 0, 0, 37, 0, 0, 0, 36, 0, 0, 0, 37, 0, 0, 13, 0, 0, 6, 0, 0, 0, 44, 0]) (by decide +kernel)
set_option maxRecDepth 1000000 in
theorem mk_73 : ab_MK cm_ms mr_73 := wz_MK wz_C5 wz_W5k rfl (lw_in_3 (p := 93) rfl) (ks := [0, 0, 45, 0, 0, 11, 0, 0, 45, 0, 0, 0, 0, 0, 0, 0, 0, 0, 6, 31, 0, 0, 0, 0, 0, 0, 0, 0, 0, 15, 0, 0, 6, 31, 0, 0, 0, 0, 0, 0, 0, 0, 0, 11, 0]) (by decide +kernel)
set_option maxRecDepth 1000000 in
theorem mk_74 : ab_MK cm_ms mr_74 := wz_MK wz_C5 wz_W5k rfl (lw_in_3 (p := 101) rfl) (ks := [0, 0, 45, 0, 0, 11, 0, 0, 45, 0, 0, 0, 0, 0, 0, 0, 0, 0, 6, 33, 0, 0, 0, 0, 0, 0, 0, 0, 0, 15, 0, 0, 0, 0, 0, 0, 15, 0, 0, 6, 33, 0, 0, 0, 0, 0, 0, 0, 0, 0, 11, 0]) (by decide +kernel)
set_option maxRecDepth 1000000 in
theorem mk_75 : ab_MK cm_ms mr_75 := wz_MK wz_C5 wz_W5k rfl (lw_in_3 (p := 105) rfl) (ks := [0, 0, 45, 0, 0, 11, 0, 0, 45, 0, 0, 0, 0, 0, 0, 0, 0, 0, 0, 0, 0, 6, 46, 0, 0, 0, 0, 0, 0, 0, 0, 0, 15, 0, 0, 6, 46, 0, 0, 0, 0, 0, 0, 0, 0, 0, 6, 46, 0, 0, 0, 0, 0, 0, 0, 0, 0, 11, 0]) (by decide +kernel)
set_option maxRecDepth 1000000 in
theorem mk_76 : ab_MK cm_ms mr_76 := wz_MK wz_C5 wz_W5k rfl (lw_in_3 (p := 109) rfl) (ks := [0, 0, 0, 6, 35, 41, 0, 0, 36, 0, 0, 0, 37, 0, 0, 13, 0, 0, 6, 0, 47, 0]) (by decide +kernel)
