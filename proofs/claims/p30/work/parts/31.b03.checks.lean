/-! checks of methods -/
set_option maxRecDepth 1000000 in
theorem mk_114 : ab_MK cm_ms mr_114 := wz_MK wz_C0 wz_W0k rfl (lw_in_4 (p := 52) rfl) (ks := [0, 0, 55, 0, 0, 0, 0, 13, 0, 0, 56, 0, 0, 0, 5, 0, 0, 57, 0, 13, 0, 16, 0, 0, 58, 0, 0, 0, 0, 0, 0, 5, 0, 0, 0, 21, 0]) (by decide +kernel)
set_option maxRecDepth 1000000 in
theorem mk_115 : ab_MK cm_ms mr_115 := wz_MK wz_C0 wz_W0k rfl (lw_in_4 (p := 88) rfl) (ks := [0, 0, 55, 0, 0, 0, 0, 57, 0, 13, 0, 16, 0, 59, 0, 0, 57, 60, 21, 0]) (by decide +kernel)
set_option maxRecDepth 1000000 in
theorem mk_116 : ab_MK cm_ms mr_116 := wz_MK wz_C0 wz_W0k rfl (lw_in_4 (p := 101) rfl) (ks := [0, 0, 55, 0, 0, 0, 0, 57, 0, 13, 0, 16, 0, 59, 0, 0, 57, 61, 21, 0]) (by decide +kernel)
set_option maxRecDepth 1000000 in
theorem mk_117 : ab_MK cm_ms mr_117 := wz_MK wz_C0 wz_W0k rfl (lw_in_4 (p := 105) rfl) (ks := [0, 0, 55, 0, 0, 0, 0, 57, 0, 13, 0, 16, 0, 59, 0, 0, 57, 62, 21, 0]) (by decide +kernel)
set_option maxRecDepth 1000000 in
theorem mk_118 : ab_MK cm_ms mr_118 := wz_MK wz_C0 wz_W0k rfl (lw_in_4 (p := 109) rfl) (ks := [0, 0, 32, 0, 0, 0, 5, 0, 0, 0, 57, 0, 13, 0, 16, 0, 63, 21, 0]) (by decide +kernel)
set_option maxRecDepth 1000000 in
theorem mk_119 : ab_MK cm_ms mr_119 := wz_MK wz_C0 wz_W0k rfl (lw_in_4 (p := 56) rfl) (ks := [0, 0, 0, 0, 0, 0, 0, 0, 0, 0, 64, 0]) (by decide +kernel)
set_option maxRecDepth 1000000 in
theorem mk_120 : ab_MK cm_ms mr_120 := wz_MK wz_C0 wz_W0k rfl (lw_in_4 (p := 122) rfl) (ks := [0, 0, 24, 0, 0, 0, 5, 0, 0, 0, 65, 0, 0, 0, 5, 0, 0, 0, 16, 0, 13, 0, 0, 66, 21, 0]) (by decide +kernel)
set_option maxRecDepth 1000000 in
theorem mk_121 : ab_MK cm_ms mr_121 := wz_MK wz_C0 wz_W0k rfl (lw_in_4 (p := 135) rfl) (ks := [0, 0, 0, 65, 64, 0, 0, 0, 0, 0, 0, 0, 0, 0, 0, 0, 13, 20, 0, 0, 16, 0, 13, 0, 0, 66, 0, 0, 0, 0, 0, 0, 0, 0, 0, 0, 0, 0, 21, 0]) (by decide +kernel)
set_option maxRecDepth 1000000 in
theorem mk_122 : ab_MK cm_ms mr_122 := wz_MK wz_C0 wz_W0k rfl (lw_in_4 (p := 139) rfl) (ks := [0, 0, 0, 65, 64, 0, 0, 0, 0, 0, 0, 0, 0, 0, 13, 20, 0, 0, 16, 0, 13, 0, 28, 0, 0, 16, 0, 13, 0, 0, 66, 0, 0, 0, 0, 0, 0, 0, 0, 0, 0, 0, 21, 0]) (by decide +kernel)
set_option maxRecDepth 1000000 in
theorem mk_123 : ab_MK cm_ms mr_123 := wz_MK wz_C0 wz_W0k rfl (lw_in_4 (p := 143) rfl) (ks := [0, 0, 0, 65, 64, 0, 0, 0, 0, 16, 0, 13, 46, 0, 0, 0, 0, 0, 0, 0, 0, 0, 0, 13, 20, 0, 0, 0, 0, 0, 0, 0, 0, 0, 13, 0, 47, 0, 0, 0, 0, 0, 0, 0, 0, 0, 67, 0, 0, 0, 67, 0, 0, 0, 0, 0, 0, 0, 21, 0]) (by decide +kernel)
set_option maxRecDepth 1000000 in
theorem mk_124 : ab_MK cm_ms mr_124 := wz_MK wz_C0 wz_W0k rfl (lw_in_4 (p := 148) rfl) (ks := [0, 41, 0, 0, 0, 5, 0, 0, 0, 13, 68, 21, 0]) (by decide +kernel)
set_option maxRecDepth 1000000 in
theorem mk_125 : ab_MK cm_ms mr_125 := wz_MK wz_C0 wz_W0k rfl (lw_in_4 (p := 160) rfl) (ks := [0, 41, 0, 0, 0, 5, 0, 0, 0, 13, 69, 0, 13, 0, 13, 68, 70, 0, 21, 0]) (by decide +kernel)
set_option maxRecDepth 1000000 in
theorem mk_126 : ab_MK cm_ms mr_126 := wz_MK wz_C0 wz_W0k rfl (lw_in_4 (p := 166) rfl) (ks := [0, 41, 0, 0, 0, 5, 0, 0, 0, 13, 71, 21, 0]) (by decide +kernel)
set_option maxRecDepth 1000000 in
theorem mk_127 : ab_MK cm_ms mr_127 := wz_MK wz_C0 wz_W0k rfl (lw_in_4 (p := 126) rfl) (ks := [0, 0, 0, 0, 0, 0, 0, 0, 0]) (by decide +kernel)
set_option maxRecDepth 1000000 in
theorem mk_128 : ab_MK cm_ms mr_128 := wz_MK wz_C0 wz_W0k rfl (lw_in_4 (p := 178) rfl) (ks := [0, 0, 72, 0, 0, 0, 72, 0, 0, 0, 5, 0, 0, 0, 13, 0, 0, 73, 21, 0]) (by decide +kernel)
set_option maxRecDepth 1000000 in
theorem mk_129 : ab_MK cm_ms mr_129 := wz_MK wz_C0 wz_W0k rfl (lw_in_4 (p := 194) rfl) (ks := [0, 41, 0, 0, 0, 5, 0, 0, 74, 0, 13, 75, 0, 0, 74, 76, 21, 0]) (by decide +kernel)
set_option maxRecDepth 1000000 in
theorem mk_130 : ab_MK cm_ms mr_130 := wz_MK wz_C0 wz_W0k rfl (lw_in_4 (p := 212) rfl) (ks := [0, 0, 72, 0, 0, 0, 5, 0, 0, 74, 0, 13, 75, 0, 0, 74, 77, 0, 0, 21, 0]) (by decide +kernel)
set_option maxRecDepth 1000000 in
theorem mk_131 : ab_MK cm_ms mr_131 := wz_MK wz_C0 wz_W0k rfl (lw_in_4 (p := 216) rfl) (ks := [0, 78, 0, 0, 0, 0, 0, 79, 80, 21, 0]) (by decide +kernel)
set_option maxRecDepth 1000000 in
theorem mk_132 : ab_MK cm_ms mr_132 := wz_MK wz_C0 wz_W0k rfl (lw_in_4 (p := 234) rfl) (ks := [0, 78, 0, 0, 0, 0, 0, 79, 80, 0, 0, 0, 5, 0, 0, 0, 79, 81, 0, 0, 21, 0]) (by decide +kernel)
set_option maxRecDepth 1000000 in
theorem mk_133 : ab_MK cm_ms mr_133 := wz_MK wz_C0 wz_W0k rfl (lw_in_4 (p := 238) rfl) (ks := [0, 78, 0, 0, 0, 0, 0, 79, 82, 21, 0]) (by decide +kernel)
set_option maxRecDepth 1000000 in
theorem mk_134 : ab_MK cm_ms mr_134 := wz_MK wz_C0 wz_W0k rfl (lw_in_5 (p := 6) rfl) (ks := [0, 78, 0, 0, 0, 0, 0, 79, 83, 21, 0]) (by decide +kernel)
set_option maxRecDepth 1000000 in
theorem mk_135 : ab_MK cm_ms mr_135 := wz_MK wz_C0 wz_W0k rfl (lw_in_5 (p := 14) rfl) (ks := [0, 78, 0, 0, 0, 0, 0, 79, 0, 13, 84, 21, 0]) (by decide +kernel)
set_option maxRecDepth 1000000 in
theorem mk_136 : ab_MK cm_ms mr_136 := wz_MK wz_C0 wz_W0k rfl (lw_in_5 (p := 29) rfl) (ks := [0, 78, 0, 0, 0, 0, 79, 0, 13, 84, 0, 0, 0, 0, 0, 0, 0, 0, 79, 0, 85, 21, 0]) (by decide +kernel)
set_option maxRecDepth 1000000 in
theorem mk_137 : ab_MK cm_ms mr_137 := wz_MK wz_C0 wz_W0k rfl (lw_in_4 (p := 220) rfl) (ks := [0, 41, 0, 0, 0, 5, 0, 0, 0, 0, 79, 0, 13, 86, 0, 0]) (by decide +kernel)
set_option maxRecDepth 1000000 in
theorem mk_138 : ab_MK cm_ms mr_138 := wz_MK wz_C0 wz_W0k rfl (lw_in_5 (p := 34) rfl) (ks := [0, 0, 87, 0, 0, 0, 0, 0, 0, 0, 0, 0, 88, 0, 0, 0, 0, 88, 21, 0]) (by decide +kernel)
set_option maxRecDepth 1000000 in
theorem mk_139 : ab_MK cm_ms mr_139 := wz_MK wz_C0 wz_W0k rfl (lw_in_5 (p := 45) rfl) (ks := [0, 0, 87, 0, 0, 0, 0, 0, 0, 0, 0, 0, 0, 0, 0, 89, 0, 0, 0, 0, 0, 0, 21, 0]) (by decide +kernel)
set_option maxRecDepth 1000000 in
theorem mk_140 : ab_MK cm_ms mr_140 := wz_MK wz_C0 wz_W0k rfl (lw_in_5 (p := 52) rfl) (ks := [0, 0, 87, 0, 0, 0, 0, 0, 0, 0, 0, 0, 0, 89, 0, 0, 0, 0, 0, 0, 0, 0, 0, 0, 0, 21, 0, 0, 0, 0, 0, 21, 0]) (by decide +kernel)
set_option maxRecDepth 1000000 in
theorem mk_141 : ab_MK cm_ms mr_141 := wz_MK wz_C0 wz_W0k rfl (lw_in_5 (p := 38) rfl) (ks := [0, 0, 0, 0, 0, 0, 0, 0, 0, 64, 0]) (by decide +kernel)
set_option maxRecDepth 1000000 in
theorem mk_142 : ab_MK cm_ms mr_142 := wz_MK wz_C0 wz_W0k rfl (lw_in_5 (p := 41) rfl) (ks := [0, 0, 0, 0, 0, 0, 0, 0, 0, 0, 0, 0, 0, 0, 0]) (by decide +kernel)
set_option maxRecDepth 1000000 in
theorem mk_143 : ab_MK cm_ms mr_143 := wz_MK wz_C0 wz_W0k rfl (lw_in_5 (p := 48) rfl) (ks := [0, 0, 0, 0, 0, 0, 0, 0, 0, 0, 0, 0, 0, 0, 0, 0, 0, 0, 0, 88, 0, 0, 0, 0, 0, 0, 0, 88, 0, 0, 0, 0, 88, 0, 0, 0, 0, 0, 0, 0, 88, 0, 0, 0, 0, 0]) (by decide +kernel)
set_option maxRecDepth 1000000 in
theorem mk_144 : ab_MK cm_ms mr_144 := wz_MK wz_C0 wz_W0k rfl (lw_in_5 (p := 56) rfl) (ks := [0, 0, 32, 0, 0, 0, 5, 0, 0, 0, 0, 50, 0, 90, 0, 13, 0, 51, 0, 91, 0, 0, 21, 0, 0, 0, 0, 90, 92, 0, 0, 90, 93, 0]) (by decide +kernel)
set_option maxRecDepth 1000000 in
theorem mk_145 : ab_MK cm_ms mr_145 := wz_MK wz_C0 wz_W0k rfl (lw_in_5 (p := 74) rfl) (ks := [0, 0, 32, 0, 0, 0, 5, 0, 0, 0, 0, 50, 0, 90, 0, 13, 0, 51, 0, 94, 0, 0, 21, 0, 0, 0, 0, 90, 92, 0, 0, 90, 93, 0]) (by decide +kernel)
set_option maxRecDepth 1000000 in
theorem mk_146 : ab_MK cm_ms mr_146 := wz_MK wz_C0 wz_W0k rfl (lw_in_5 (p := 84) rfl) (ks := [0, 0, 24, 0, 0, 0, 5, 0, 0, 0, 0, 95, 0, 0, 0, 5, 0, 0, 51, 0, 16, 53, 0, 90, 0, 96, 0, 0, 0, 0, 0, 0, 90, 0, 13, 0, 51, 97, 0, 0, 0, 0, 51, 26, 0, 0, 21, 0]) (by decide +kernel)
set_option maxRecDepth 1000000 in
theorem mk_147 : ab_MK cm_ms mr_147 := wz_MK wz_C0 wz_W0k rfl (lw_in_5 (p := 99) rfl) (ks := [0, 0, 32, 0, 0, 0, 5, 0, 0, 0, 0, 95, 0, 0, 0, 5, 0, 0, 51, 0, 16, 53, 0, 90, 0, 96, 0, 0, 0, 0, 0, 0, 0, 0, 90, 0, 13, 0, 51, 97, 0, 51, 0, 13, 0, 45, 0, 0, 0, 0, 0, 0, 21, 0]) (by decide +kernel)
set_option maxRecDepth 1000000 in
theorem mk_148 : ab_MK cm_ms mr_148 := wz_MK wz_C0 wz_W0k rfl (lw_in_5 (p := 88) rfl) (ks := [0, 0, 0, 98, 0, 0, 0, 0, 0, 0, 0, 0, 0, 0]) (by decide +kernel)
set_option maxRecDepth 1000000 in
theorem mk_149 : ab_MK cm_ms mr_149 := wz_MK wz_C0 wz_W0k rfl (lw_in_5 (p := 103) rfl) (ks := [0, 0, 32, 0, 0, 0, 5, 0, 0, 16, 0, 13, 0, 38, 0, 0, 0, 5, 0, 0, 18, 0, 16, 99, 0, 0, 16, 0, 13, 0, 100, 0, 0, 0, 0, 21, 0]) (by decide +kernel)
set_option maxRecDepth 1000000 in
theorem mk_150 : ab_MK cm_ms mr_150 := wz_MK wz_C0 wz_W0k rfl (lw_in_5 (p := 114) rfl) (ks := [0, 41, 0, 0, 0, 5, 0, 0, 16, 101, 0, 0, 0, 0, 5, 0, 0, 18, 0, 16, 99, 0, 16, 0, 13, 54, 0, 0, 16, 0, 13, 43, 21, 0]) (by decide +kernel)
set_option maxRecDepth 1000000 in
theorem mk_151 : ab_MK cm_ms mr_151 := wz_MK wz_C0 wz_W0k rfl (lw_in_5 (p := 118) rfl) (ks := [0, 0, 24, 0, 0, 0, 5, 0, 0, 16, 26, 0, 0, 0, 0, 0, 5, 0, 0, 18, 0, 16, 99, 0, 16, 26, 0, 0, 0, 0, 16, 0, 13, 0, 0, 102, 0, 0, 21, 0]) (by decide +kernel)
set_option maxRecDepth 1000000 in
theorem mk_152 : ab_MK cm_ms mr_152 := wz_MK wz_C0 wz_W0k rfl (lw_in_5 (p := 123) rfl) (ks := [0, 18, 0, 16, 103, 0, 0, 0, 5, 0, 0, 0, 0, 0, 21, 0, 0, 0]) (by decide +kernel)
set_option maxRecDepth 1000000 in
theorem mk_153 : ab_MK cm_ms mr_153 := wz_MK wz_C0 wz_W0k rfl (lw_in_5 (p := 131) rfl) (ks := [0, 41, 0, 0, 0, 5, 0, 0, 18, 0, 16, 104, 0, 0, 0, 0, 0, 0, 5, 0, 0, 0, 21, 0]) (by decide +kernel)
set_option maxRecDepth 1000000 in
theorem mk_154 : ab_MK cm_ms mr_154 := wz_MK wz_C0 wz_W0k rfl (lw_in_5 (p := 139) rfl) (ks := [0, 18, 0, 0, 16, 105, 0, 0, 0, 5, 0, 0, 0, 0, 0, 21, 0, 0, 0]) (by decide +kernel)
set_option maxRecDepth 1000000 in
theorem mk_155 : ab_MK cm_ms mr_155 := wz_MK wz_C0 wz_W0k rfl (lw_in_5 (p := 147) rfl) (ks := [0, 0, 0, 13, 106, 0, 0, 13, 107, 0, 0, 13, 108, 0, 0, 13, 20, 0, 0, 13, 44, 0, 0, 13, 29, 0, 13, 20, 109, 0, 0, 13, 36, 0, 13, 44, 109, 0, 0, 13, 69, 0, 0, 13, 110, 0, 0, 13, 111, 67, 0, 0, 16, 101, 0, 0, 18, 112, 0, 0, 18, 113, 0, 0, 1, 0, 0, 0]) (by decide +kernel)
set_option maxRecDepth 1000000 in
theorem mk_156 : ab_MK cm_ms mr_156 := wz_MK wz_C0 wz_W0k rfl (lw_in_5 (p := 152) rfl) (ks := [0, 22, 0]) (by decide +kernel)
set_option maxRecDepth 1000000 in
theorem mk_157 : ab_MK cm_ms mr_157 := wz_MK wz_C0 wz_W0k rfl (lw_in_2 (p := 148) rfl) (ks := [0, 0, 114, 0, 0]) (by decide +kernel)
set_option maxRecDepth 1000000 in
theorem mk_158 : ab_MK cm_ms mr_158 := wz_MK wz_C0 wz_W0k rfl (lw_in_4 (p := 60) rfl) (ks := [0, 41, 0, 0, 0, 5, 0, 0, 0, 0, 0, 0, 5, 0, 0, 0, 0, 41, 0, 0, 0, 0, 0]) (by decide +kernel)
