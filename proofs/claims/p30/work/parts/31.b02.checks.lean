/-! checks of methods -/
set_option maxRecDepth 1000000 in
theorem mk_77 : ab_MK cm_ms mr_77 := wz_MK wz_C5 wz_W5k rfl (lw_in_3 (p := 118) rfl) (ks := [0, 42, 0, 0, 0, 0, 0, 0, 6, 48, 0, 0, 0, 0, 0, 0, 0, 15, 0, 0, 11, 0, 0, 0, 37, 0, 0, 13, 0, 0, 0, 0, 0, 6, 49, 0, 0, 0, 0, 6, 0, 48, 0, 0, 0, 0, 50, 0]) (by decide +kernel)
set_option maxRecDepth 1000000 in
theorem mk_78 : ab_MK cm_ms mr_78 := wz_MK wz_C5 wz_W5k rfl (lw_in_3 (p := 47) rfl) (ks := [0, 0, 51, 0, 0, 0, 15, 0, 11, 0]) (by decide +kernel)
set_option maxRecDepth 1000000 in
theorem mk_79 : ab_MK cm_ms mr_79 := wz_MK wz_C5 wz_W5k rfl (lw_in_3 (p := 51) rfl) (ks := [0, 14, 0, 0, 0, 0, 15, 0, 0, 52, 0, 0, 0, 52, 0, 0, 0, 0, 15, 0, 52, 0, 0, 11, 0, 0]) (by decide +kernel)
set_option maxRecDepth 1000000 in
theorem mk_80 : ab_MK cm_ms mr_80 := wz_MK wz_C5 wz_W5k rfl (lw_in_3 (p := 61) rfl) (ks := [0, 14, 0, 0, 0, 18, 0, 0, 0, 0, 15, 0, 0, 53, 0, 0, 0, 0, 15, 0, 13, 0, 0, 54, 0, 0, 0, 55, 0, 54, 0, 56, 0, 0, 57, 0, 54, 0, 0, 0, 58, 0, 54, 0, 0, 0, 0, 54, 0, 0, 10, 0, 11, 0]) (by decide +kernel)
set_option maxRecDepth 1000000 in
theorem mk_81 : ab_MK cm_ms mr_81 := wz_MK wz_C5 wz_W5k rfl (lw_in_3 (p := 97) rfl) (ks := [0, 53, 0, 0, 14, 0, 0, 0, 18, 0, 0, 0, 0, 15, 0, 0, 0, 0, 0, 57, 0, 0, 0, 0, 0, 0, 15, 0, 13, 0, 0, 0, 0, 0, 0, 0, 58, 0, 0, 0]) (by decide +kernel)
set_option maxRecDepth 1000000 in
theorem mk_82 : ab_MK cm_ms mr_82 := wz_MK wz_C5 wz_W5k rfl (lw_in_3 (p := 65) rfl) (ks := [0, 0, 0, 0, 54, 0, 0, 14, 0, 0, 0, 55, 0, 0, 0, 56, 0, 0, 0, 0, 0, 0, 0, 0]) (by decide +kernel)
set_option maxRecDepth 1000000 in
theorem mk_83 : ab_MK cm_ms mr_83 := wz_MK wz_C5 wz_W5k rfl (lw_in_3 (p := 69) rfl) (ks := [0, 0, 51, 0, 0, 0, 0, 0, 51, 0, 0, 0, 0, 0, 51, 0, 0, 0, 0, 0, 15, 0, 0]) (by decide +kernel)
set_option maxRecDepth 1000000 in
theorem mk_84 : ab_MK cm_ms mr_84 := wz_MK wz_C5 wz_W5k rfl (lw_in_2 (p := 190) rfl) (ks := [0, 0, 0, 0, 0, 0, 0, 59, 51, 0, 0, 0, 0, 0, 0, 0]) (by decide +kernel)
set_option maxRecDepth 1000000 in
theorem mk_85 : ab_MK cm_ms mr_85 := wz_MK wz_C5 wz_W5k rfl (lw_in_2 (p := 193) rfl) (ks := [0, 0, 0, 0, 0, 0, 0, 0, 0, 0, 0, 0, 0, 0, 0, 0, 0, 0]) (by decide +kernel)
set_option maxRecDepth 1000000 in
theorem mk_86 : ab_MK cm_ms mr_86 := wz_MK wz_C5 wz_W5k rfl (lw_in_2 (p := 205) rfl) (ks := [0, 0, 0, 0, 0, 0, 60, 0, 0, 0, 0, 61, 62, 0, 0, 0, 0, 14, 0, 0, 0, 56, 0, 0, 0, 0, 0, 0, 0]) (by decide +kernel)
set_option maxRecDepth 1000000 in
theorem mk_87 : ab_MK cm_ms mr_87 := wz_MK wz_C5 wz_W5k rfl (lw_in_2 (p := 173) rfl) (ks := [0, 63, 0, 0, 0, 0, 64, 0, 0, 0, 0]) (by decide +kernel)
set_option maxRecDepth 1000000 in
theorem mk_88 : ab_MK cm_ms mr_88 := wz_MK wz_C5 wz_W5k rfl (lw_in_2 (p := 163) rfl) (ks := [0, 13, 0, 0, 0, 65, 0, 66, 0, 0, 67, 0, 65, 0, 0, 0, 0, 0, 65, 0, 0, 4, 0, 0, 0, 65, 68, 0, 0, 69, 0, 0, 70, 0, 65, 0, 66, 0, 0, 0, 71, 0, 0, 67, 0, 65, 0, 72, 0, 0, 73, 0, 0, 67, 0, 65, 0, 74, 0, 0, 75, 0, 0, 0, 67, 0, 65, 0, 0, 0, 0, 0, 0, 71, 0, 0, 65, 0, 0, 4, 0]) (by decide +kernel)
set_option maxRecDepth 1000000 in
theorem mk_89 : ab_MK cm_ms mr_89 := wz_MK wz_C5 wz_W5k rfl (lw_in_2 (p := 170) rfl) (ks := [0, 65, 0, 66, 0, 0, 67, 0, 65, 0, 72, 0, 0, 0, 56, 0, 67, 0, 65, 0, 62, 70, 0, 0, 65, 0, 0, 4, 0, 0, 0, 65, 0, 17, 0, 0, 0, 0, 0, 0, 71, 0]) (by decide +kernel)
set_option maxRecDepth 1000000 in
theorem mk_90 : ab_MK cm_ms mr_90 := wz_MK wz_C5 wz_W5k rfl (lw_in_2 (p := 182) rfl) (ks := [0, 65, 0, 66, 0, 0, 67, 0, 65, 0, 74, 0, 0, 0, 52, 0, 0, 0, 67, 0, 65, 0, 0, 0, 0, 69, 0, 0, 65, 0, 0, 4, 0, 0, 0, 65, 0, 17, 0, 0, 0, 0, 0, 0, 71, 0]) (by decide +kernel)
set_option maxRecDepth 1000000 in
theorem mk_91 : ab_MK cm_ms mr_91 := wz_MK wz_C5 wz_W5k rfl (lw_in_2 (p := 166) rfl) (ks := [0, 0, 0, 0, 0, 0, 0, 0, 0, 0]) (by decide +kernel)
set_option maxRecDepth 1000000 in
theorem mk_92 : ab_MK cm_ms mr_92 := wz_MK wz_C5 wz_W5k rfl (lw_in_2 (p := 178) rfl) (ks := [0, 0, 0, 0, 0, 0, 0, 0, 0, 0]) (by decide +kernel)
set_option maxRecDepth 1000000 in
theorem mk_93 : ab_MK cm_ms mr_93 := wz_MK wz_C0 wz_W0k rfl (lw_in_2 (p := 136) rfl) (ks := [0, 1, 0, 0, 0, 0, 0, 0, 0, 0, 2, 0, 0, 2, 0, 0, 2, 0, 0, 2, 0, 0, 2, 0, 1, 0]) (by decide +kernel)
set_option maxRecDepth 1000000 in
theorem mk_94 : ab_MK cm_ms mr_94 := wz_MK wz_C0 wz_W0k rfl (lw_in_2 (p := 140) rfl) (ks := [0, 0, 0, 0, 0, 1, 0, 0, 0, 3, 0, 1, 0, 0, 0, 0, 0, 0, 0, 1, 0, 0, 4, 0, 0, 0]) (by decide +kernel)
set_option maxRecDepth 1000000 in
theorem mk_95 : ab_MK cm_ms mr_95 := wz_MK wz_C0 wz_W0k rfl (lw_in_2 (p := 144) rfl) (ks := [0, 0, 0, 0, 1, 0, 0, 0, 5, 0, 0, 0, 4, 0, 0, 6, 0, 3, 0, 0, 7, 8, 9, 0, 10, 0, 0, 0, 6, 11, 12, 0, 0, 5, 0, 0, 7, 0, 0, 0, 13, 14, 0, 0, 15, 0, 16, 0, 13, 17, 0, 18, 19, 0, 0, 13, 20, 21, 0]) (by decide +kernel)
set_option maxRecDepth 1000000 in
theorem mk_96 : ab_MK cm_ms mr_96 := wz_MK wz_C0 wz_W0k rfl (lw_in_3 (p := 141) rfl) (ks := [0, 10, 0]) (by decide +kernel)
set_option maxRecDepth 1000000 in
theorem mk_97 : ab_MK cm_ms mr_97 := wz_MK wz_C0 wz_W0k rfl (lw_in_3 (p := 145) rfl) (ks := [0, 22, 0, 0, 0, 23, 0, 0, 0]) (by decide +kernel)
set_option maxRecDepth 1000000 in
theorem mk_98 : ab_MK cm_ms mr_98 := wz_MK wz_C0 wz_W0k rfl (lw_in_3 (p := 149) rfl) (ks := [0, 0, 24, 0, 0, 0, 0, 0, 0, 0, 0, 5, 0, 0, 0, 0, 0, 13, 25, 0, 0, 21, 0, 0, 0, 16, 26, 0, 0, 21, 0, 0, 0, 13, 27, 0, 0, 21, 0, 0, 0, 16, 0, 13, 0, 28, 0, 0, 0, 0, 21, 0, 0, 0, 13, 29, 0, 0, 21, 0, 0, 0, 13, 30, 0, 0, 21, 0, 0, 0, 16, 0, 13, 0, 31, 21, 0]) (by decide +kernel)
set_option maxRecDepth 1000000 in
theorem mk_99 : ab_MK cm_ms mr_99 := wz_MK wz_C0 wz_W0k rfl (lw_in_3 (p := 169) rfl) (ks := [0, 0, 32, 0, 0, 0, 0, 0, 0, 0, 0, 5, 0, 0, 0, 0, 0, 13, 33, 0, 0, 21, 0, 0, 0, 13, 34, 0, 0, 21, 0, 0, 0, 13, 35, 0, 0, 21, 0, 0, 0, 13, 36, 0, 0, 21, 0, 0, 0, 16, 0, 37, 0, 0, 0, 0, 21, 0, 0, 0, 16, 0, 13, 0, 38, 0, 0, 0, 0, 21, 0, 0, 0, 16, 0, 13, 0, 39, 21, 0, 0, 0, 16, 0, 13, 0, 40, 21, 0]) (by decide +kernel)
set_option maxRecDepth 1000000 in
theorem mk_100 : ab_MK cm_ms mr_100 := wz_MK wz_C0 wz_W0k rfl (lw_in_3 (p := 199) rfl) (ks := [0, 41, 0, 0, 0, 0, 0, 0, 0, 0, 5, 0, 0, 0, 16, 42, 0, 0, 21, 0]) (by decide +kernel)
set_option maxRecDepth 1000000 in
theorem mk_101 : ab_MK cm_ms mr_101 := wz_MK wz_C0 wz_W0k rfl (lw_in_3 (p := 207) rfl) (ks := [0, 41, 0, 0, 0, 5, 0, 0, 0, 16, 0, 13, 43, 21, 0]) (by decide +kernel)
set_option maxRecDepth 1000000 in
theorem mk_102 : ab_MK cm_ms mr_102 := wz_MK wz_C0 wz_W0k rfl (lw_in_3 (p := 216) rfl) (ks := [0, 41, 0, 0, 0, 5, 0, 0, 0, 0, 0, 0, 0, 13, 20, 0, 0, 16, 26, 0, 0, 0, 16, 26, 0, 0, 0, 0, 0, 0, 0, 0, 0, 21, 0]) (by decide +kernel)
set_option maxRecDepth 1000000 in
theorem mk_103 : ab_MK cm_ms mr_103 := wz_MK wz_C0 wz_W0k rfl (lw_in_3 (p := 220) rfl) (ks := [0, 41, 0, 0, 0, 5, 0, 0, 0, 0, 0, 0, 0, 13, 44, 0, 0, 16, 0, 13, 0, 38, 0, 0, 16, 0, 13, 0, 45, 0, 0, 0, 0, 0, 0, 0, 0, 0, 0, 0, 21, 0]) (by decide +kernel)
set_option maxRecDepth 1000000 in
theorem mk_104 : ab_MK cm_ms mr_104 := wz_MK wz_C0 wz_W0k rfl (lw_in_3 (p := 229) rfl) (ks := [0, 41, 0, 0, 0, 5, 0, 0, 0, 13, 0, 16, 0, 13, 46, 47, 21, 0]) (by decide +kernel)
set_option maxRecDepth 1000000 in
theorem mk_105 : ab_MK cm_ms mr_105 := wz_MK wz_C0 wz_W0k rfl (lw_in_3 (p := 239) rfl) (ks := [0, 0, 32, 0, 0, 0, 5, 0, 0, 0, 13, 0, 48, 21, 0]) (by decide +kernel)
set_option maxRecDepth 1000000 in
theorem mk_106 : ab_MK cm_ms mr_106 := wz_MK wz_C0 wz_W0k rfl (lw_in_4 (p := 7) rfl) (ks := [0, 0, 32, 0, 0, 0, 5, 0, 0, 0, 13, 0, 49, 21, 0]) (by decide +kernel)
set_option maxRecDepth 1000000 in
theorem mk_107 : ab_MK cm_ms mr_107 := wz_MK wz_C0 wz_W0k rfl (lw_in_4 (p := 15) rfl) (ks := [0, 0, 24, 0, 0, 0, 5, 0, 0, 0, 0, 0, 0, 0, 0, 5, 0, 0, 0, 50, 0, 0, 51, 26, 0, 0, 21, 0]) (by decide +kernel)
set_option maxRecDepth 1000000 in
theorem mk_108 : ab_MK cm_ms mr_108 := wz_MK wz_C0 wz_W0k rfl (lw_in_4 (p := 32) rfl) (ks := [0, 0, 32, 0, 0, 0, 5, 0, 0, 0, 0, 0, 0, 0, 0, 5, 0, 0, 0, 50, 0, 0, 51, 0, 13, 0, 39, 21, 0]) (by decide +kernel)
set_option maxRecDepth 1000000 in
theorem mk_109 : ab_MK cm_ms mr_109 := wz_MK wz_C0 wz_W0k rfl (lw_in_4 (p := 36) rfl) (ks := [0, 0, 32, 0, 0, 0, 5, 0, 0, 0, 0, 52, 21, 0]) (by decide +kernel)
set_option maxRecDepth 1000000 in
theorem mk_110 : ab_MK cm_ms mr_110 := wz_MK wz_C0 wz_W0k rfl (lw_in_4 (p := 44) rfl) (ks := [0, 41, 0, 0, 0, 5, 0, 0, 51, 0, 16, 53, 0, 0, 0, 0, 0, 0, 51, 0, 13, 43, 0, 0, 0, 21, 0, 0, 51, 0, 13, 54, 0, 0, 0, 0, 21, 0]) (by decide +kernel)
set_option maxRecDepth 1000000 in
theorem mk_111 : ab_MK cm_ms mr_111 := wz_MK wz_C0 wz_W0k rfl (lw_in_4 (p := 48) rfl) (ks := [0, 41, 0, 0, 0, 5, 0, 0, 0, 0, 0, 0, 0, 0, 0, 13, 44, 0, 0, 16, 0, 13, 0, 38, 0, 0, 0, 52, 0, 0, 0, 0, 0, 0, 0, 0, 0, 0, 0, 0, 0, 0, 0, 0, 0, 21, 0]) (by decide +kernel)
set_option maxRecDepth 1000000 in
theorem mk_112 : ab_MK cm_ms mr_112 := wz_MK wz_C0 wz_W0k rfl (lw_in_4 (p := 19) rfl) (ks := [0, 51, 0, 16, 53, 0, 0, 0, 0, 0, 0, 51, 0, 13, 54, 0, 0, 0]) (by decide +kernel)
set_option maxRecDepth 1000000 in
theorem mk_113 : ab_MK cm_ms mr_113 := wz_MK wz_C0 wz_W0k rfl (lw_in_4 (p := 40) rfl) (ks := [0, 51, 0, 16, 53, 0, 0, 0, 0, 0, 0, 51, 0, 13, 0, 45, 0, 0, 0, 0, 51, 0, 13, 54, 0, 0, 0, 0]) (by decide +kernel)
