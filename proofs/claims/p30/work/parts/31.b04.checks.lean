/-! checks of methods -/
set_option maxRecDepth 1000000 in
theorem mk_159 : ab_MK cm_ms mr_159 := wz_MK wz_C0 wz_W0k rfl (lw_in_3 (p := 137) rfl) (ks := [0, 0, 114, 0, 0]) (by decide +kernel)
set_option maxRecDepth 1000000 in
theorem mk_160 : ab_MK cm_ms mr_160 := wz_MK wz_C0 wz_W0k rfl (lw_in_3 (p := 203) rfl) (ks := [0, 13, 20, 0, 0, 0, 0, 0]) (by decide +kernel)
set_option maxRecDepth 1000000 in
theorem mk_161 : ab_MK cm_ms mr_161 := wz_MK wz_C0 wz_W0k rfl (lw_in_3 (p := 153) rfl) (ks := [0, 0, 0, 0, 13, 20, 0, 0, 0, 0, 0]) (by decide +kernel)
set_option maxRecDepth 1000000 in
theorem mk_162 : ab_MK cm_ms mr_162 := wz_MK wz_C0 wz_W0k rfl (lw_in_3 (p := 173) rfl) (ks := [0, 0, 0, 0, 13, 44, 0, 0, 0, 0, 0]) (by decide +kernel)
set_option maxRecDepth 1000000 in
theorem mk_163 : ab_MK cm_ms mr_163 := wz_MK wz_C0 wz_W0k rfl (lw_in_4 (p := 182) rfl) (ks := [0, 0, 0, 0, 13, 110, 0, 0, 0, 0, 0]) (by decide +kernel)
set_option maxRecDepth 1000000 in
theorem mk_164 : ab_MK cm_ms mr_164 := wz_MK wz_C9 wz_W9k rfl (lw_in_6 (p := 105) rfl) (ks := [0, 0, 1, 0, 0, 2, 0]) (by decide +kernel)
set_option maxRecDepth 1000000 in
theorem mk_165 : ab_MK cm_ms mr_165 := wz_MK wz_C9 wz_W9k rfl (lw_in_6 (p := 112) rfl) (ks := [0, 0, 2, 0, 0]) (by decide +kernel)
set_option maxRecDepth 1000000 in
theorem mk_166 : ab_MK cm_ms mr_166 := wz_MK wz_C9 wz_W9k rfl (lw_in_8 (p := 140) rfl) (ks := [0, 0, 2, 0, 0]) (by decide +kernel)
set_option maxRecDepth 1000000 in
theorem mk_167 : ab_MK cm_ms mr_167 := wz_MK wz_C9 wz_W9k rfl (lw_in_6 (p := 108) rfl) (ks := [0, 0, 0, 0, 0, 0, 0, 0, 0, 0]) (by decide +kernel)
set_option maxRecDepth 1000000 in
theorem mk_168 : ab_MK cm_ms mr_168 := wz_MK wz_C9 wz_W9k rfl (lw_in_6 (p := 230) rfl) (ks := [0, 0, 0, 0, 0, 0, 0, 0, 0, 0, 0]) (by decide +kernel)
set_option maxRecDepth 1000000 in
theorem mk_169 : ab_MK cm_ms mr_169 := wz_MK wz_C9 wz_W9k rfl (lw_in_7 (p := 216) rfl) (ks := [0, 0, 0, 0, 0, 0, 0, 0, 0, 0, 0, 0, 0, 0, 0, 0, 0, 0, 0]) (by decide +kernel)
set_option maxRecDepth 1000000 in
theorem mk_170 : ab_MK cm_ms mr_170 := wz_MK wz_C9 wz_W9k rfl (lw_in_7 (p := 10) rfl) (ks := [0, 0, 0, 0, 0, 0, 0, 0, 0, 0, 0, 0, 0, 0, 0, 0, 0, 0]) (by decide +kernel)
set_option maxRecDepth 1000000 in
theorem mk_171 : ab_MK cm_ms mr_171 := wz_MK wz_C9 wz_W9k rfl (lw_in_8 (p := 98) rfl) (ks := [0, 0, 0, 0, 0, 0, 0, 0, 0, 0, 0, 0, 0, 0, 0, 0, 0, 0, 0, 0, 0, 0, 0, 0, 0]) (by decide +kernel)
set_option maxRecDepth 1000000 in
theorem mk_172 : ab_MK cm_ms mr_172 := wz_MK wz_C9 wz_W9k rfl (lw_in_6 (p := 97) rfl) (ks := [0, 0, 1, 0, 3, 0, 0, 0, 0, 0, 0, 0, 0, 0, 0, 0, 0, 0, 0, 0, 0, 0, 0, 0, 0, 0, 0, 0, 0, 0, 0, 0, 0, 0, 0, 0, 0, 0, 0, 4, 0, 3, 0, 0, 0, 0, 0, 0, 0, 0, 0, 0, 0, 0, 0, 0, 3, 0, 0, 5, 0, 0, 0, 3, 0]) (by decide +kernel)
set_option maxRecDepth 1000000 in
theorem mk_173 : ab_MK cm_ms mr_173 := wz_MK wz_C9 wz_W9k rfl (lw_in_6 (p := 120) rfl) (ks := [0, 0, 6, 0, 0, 4, 0, 0, 0, 0, 0]) (by decide +kernel)
set_option maxRecDepth 1000000 in
theorem mk_174 : ab_MK cm_ms mr_174 := wz_MK wz_C9 wz_W9k rfl (lw_in_6 (p := 123) rfl) (ks := [0, 0, 0, 0, 0, 0, 0, 0, 0, 0]) (by decide +kernel)
set_option maxRecDepth 1000000 in
theorem mk_175 : ab_MK cm_ms mr_175 := wz_MK wz_C9 wz_W9k rfl (lw_in_6 (p := 126) rfl) (ks := [0, 0, 0, 0, 0, 0, 0, 0, 0, 0]) (by decide +kernel)
set_option maxRecDepth 1000000 in
theorem mk_176 : ab_MK cm_ms mr_176 := wz_MK wz_C9 wz_W9k rfl (lw_in_6 (p := 116) rfl) (ks := [0, 7, 0, 0, 0, 8, 0, 0, 0, 0, 0, 0, 9, 0, 0, 8, 0, 0, 0, 10, 0, 0, 11, 0, 0, 0, 0, 0, 12, 0, 0, 13, 0, 0, 14, 0, 0, 0, 8, 14, 0, 0, 15, 0, 0, 0, 16, 0, 15, 0, 0, 8, 0, 0, 0, 15, 0, 0, 10, 0, 0, 0, 0, 13, 0, 0, 15, 0, 0, 0, 0, 0, 12, 0, 0, 17, 0, 0, 0, 0, 0, 8, 17, 0, 0, 0, 0, 0, 0, 0, 18, 0, 0, 0, 8, 0, 0, 0, 11, 0, 0, 0, 0, 0, 13, 0, 0, 0, 0, 0, 0, 0, 12, 0, 0, 0, 0, 0, 13, 0, 0, 0, 0, 0, 0, 0, 12, 0]) (by decide +kernel)
set_option maxRecDepth 1000000 in
theorem mk_177 : ab_MK cm_ms mr_177 := wz_MK wz_C9 wz_W9k rfl (lw_in_6 (p := 145) rfl) (ks := [0, 19, 0, 0, 0, 0, 20, 0, 0, 21, 0, 0, 22, 0]) (by decide +kernel)
set_option maxRecDepth 1000000 in
theorem mk_178 : ab_MK cm_ms mr_178 := wz_MK wz_C9 wz_W9k rfl (lw_in_6 (p := 135) rfl) (ks := [0, 19, 0, 0, 23, 0, 0, 0, 15, 0, 24, 0, 0, 0, 0, 0, 0, 0, 0, 0, 15, 0, 0, 0, 0, 16, 0, 0, 0, 0, 25, 0, 0, 0, 0, 0, 0, 0, 0, 0]) (by decide +kernel)
set_option maxRecDepth 1000000 in
theorem mk_179 : ab_MK cm_ms mr_179 := wz_MK wz_C9 wz_W9k rfl (lw_in_6 (p := 158) rfl) (ks := [0, 0, 26, 0, 0, 0, 0, 27, 0, 0]) (by decide +kernel)
set_option maxRecDepth 1000000 in
theorem mk_180 : ab_MK cm_ms mr_180 := wz_MK wz_C9 wz_W9k rfl (lw_in_6 (p := 154) rfl) (ks := [0, 19, 0, 0, 0, 28, 0, 0, 0, 0, 29, 30, 0]) (by decide +kernel)
set_option maxRecDepth 1000000 in
theorem mk_181 : ab_MK cm_ms mr_181 := wz_MK wz_C9 wz_W9k rfl (lw_in_6 (p := 185) rfl) (ks := [0, 23, 0, 0, 0, 0, 26, 0, 0, 0, 26, 0, 0, 0, 26, 0, 0, 0, 26, 0, 0, 0, 26, 0, 0, 0, 26, 0, 0, 0, 26, 0, 0, 0, 26, 0, 0, 0, 0, 29, 30, 0]) (by decide +kernel)
set_option maxRecDepth 1000000 in
theorem mk_182 : ab_MK cm_ms mr_182 := wz_MK wz_C9 wz_W9k rfl (lw_in_6 (p := 195) rfl) (ks := [0, 0, 0, 0, 0, 0, 31, 0, 0, 0, 0, 0, 0, 31, 0, 0, 0, 0, 0, 15, 0, 0, 0, 0, 0, 0, 0, 0, 0, 15, 0, 0, 0, 0, 31, 0, 0, 0, 0, 0, 0, 0, 0, 0, 16, 0, 0, 0, 0, 0, 0, 0, 0, 0, 0, 0, 0, 0, 0, 0, 0, 0]) (by decide +kernel)
set_option maxRecDepth 1000000 in
theorem mk_183 : ab_MK cm_ms mr_183 := wz_MK wz_C9 wz_W9k rfl (lw_in_6 (p := 181) rfl) (ks := [0, 19, 0, 0, 0, 32, 0, 19, 0, 0, 33, 0, 0, 0, 0, 29, 30, 0, 19, 0, 0, 0, 0, 0, 0, 15, 0, 0, 31, 0, 0, 0, 0, 0, 0, 0, 0, 16, 0, 0, 0, 0, 0, 0, 31, 0, 0, 0, 0, 15, 0, 0, 27, 0]) (by decide +kernel)
set_option maxRecDepth 1000000 in
theorem mk_184 : ab_MK cm_ms mr_184 := wz_MK wz_C9 wz_W9k rfl (lw_in_6 (p := 223) rfl) (ks := [0, 19, 0, 0, 0, 0, 32, 0, 19, 0, 0, 0, 0, 33, 0, 0, 0, 0, 34, 0, 0, 0, 0, 29, 30, 0, 19, 0, 0, 0, 0, 0, 0, 0]) (by decide +kernel)
set_option maxRecDepth 1000000 in
theorem mk_185 : ab_MK cm_ms mr_185 := wz_MK wz_C9 wz_W9k rfl (lw_in_6 (p := 219) rfl) (ks := [0, 0, 0, 35, 0]) (by decide +kernel)
set_option maxRecDepth 1000000 in
theorem mk_186 : ab_MK cm_ms mr_186 := wz_MK wz_C9 wz_W9k rfl (lw_in_6 (p := 227) rfl) (ks := [0, 0, 0, 35, 0]) (by decide +kernel)
set_option maxRecDepth 1000000 in
theorem mk_187 : ab_MK cm_ms mr_187 := wz_MK wz_C9 wz_W9k rfl (lw_in_6 (p := 173) rfl) (ks := [0, 19, 0, 0, 27, 0]) (by decide +kernel)
set_option maxRecDepth 1000000 in
theorem mk_188 : ab_MK cm_ms mr_188 := wz_MK wz_C9 wz_W9k rfl (lw_in_6 (p := 162) rfl) (ks := [0, 19, 0, 0, 0, 0, 23, 0, 0, 0, 0, 0, 29, 30, 0, 0, 18, 0, 0, 34, 0, 0, 0, 0, 29, 30, 0, 19, 0, 0, 0, 0, 18, 0, 0, 27, 0, 0]) (by decide +kernel)
set_option maxRecDepth 1000000 in
theorem mk_189 : ab_MK cm_ms mr_189 := wz_MK wz_C9 wz_W9k rfl (lw_in_6 (p := 150) rfl) (ks := [0, 0, 36, 0, 0, 0, 37, 0]) (by decide +kernel)
set_option maxRecDepth 1000000 in
theorem mk_190 : ab_MK cm_ms mr_190 := wz_MK wz_C9 wz_W9k rfl (lw_in_6 (p := 199) rfl) (ks := [0, 0, 26, 0, 0, 0, 0, 0, 26, 0, 0, 0, 0, 0, 26, 0, 0, 0, 0, 0, 0, 0, 0, 0, 0, 29, 30, 0, 19, 0, 0, 0, 0, 0]) (by decide +kernel)
set_option maxRecDepth 1000000 in
theorem mk_191 : ab_MK cm_ms mr_191 := wz_MK wz_C9 wz_W9k rfl (lw_in_6 (p := 101) rfl) (ks := [0, 38, 0, 0, 0, 3, 34, 0, 0, 0, 39, 0, 0, 0, 5, 0, 0, 21, 0, 0, 20, 0, 0, 0, 0, 0, 0, 31, 0, 0, 0, 0, 0, 0, 0, 40, 0, 0, 13, 0, 27, 0, 41, 0, 19, 0, 0, 23, 0, 0, 0, 27, 0, 41, 0, 0, 19, 0, 0, 23, 0, 0, 0, 0, 29, 30, 0, 19, 0, 0, 31, 0, 0, 0, 0, 31, 0, 0, 0, 0, 0, 0, 29, 30, 0, 19, 0, 0, 0, 39, 0, 0, 31, 0, 0, 42, 0, 0, 43, 0, 0, 44, 45, 0, 0, 46, 0, 0, 47, 0, 0, 48, 0, 42, 0, 0, 0]) (by decide +kernel)
set_option maxRecDepth 1000000 in
theorem mk_192 : ab_MK cm_ms mr_192 := wz_MK wz_C9 wz_W9k rfl (lw_in_7 (p := 14) rfl) (ks := [0, 0, 0, 0, 0, 0, 0, 0, 0, 0, 0, 0, 0, 0, 0, 42, 0, 0, 0, 0, 0, 0, 42, 0, 0, 0, 0, 0, 0, 0, 0, 0, 0, 0, 0]) (by decide +kernel)
set_option maxRecDepth 1000000 in
theorem mk_193 : ab_MK cm_ms mr_193 := wz_MK wz_C9 wz_W9k rfl (lw_in_6 (p := 169) rfl) (ks := [0, 0, 26, 0, 0, 0, 0, 0, 0, 0, 0, 29, 30, 0, 31, 0, 0, 0, 0, 0, 0, 29, 30, 0, 49, 0, 0]) (by decide +kernel)
set_option maxRecDepth 1000000 in
theorem mk_194 : ab_MK cm_ms mr_194 := wz_MK wz_C9 wz_W9k rfl (lw_in_6 (p := 130) rfl) (ks := [0, 0, 26, 0, 0, 50, 0, 0, 0, 0, 31, 0, 0, 0, 0, 0, 0, 0, 51, 0, 0, 52, 0, 0, 0, 0, 31, 0, 0, 0, 0, 0, 0, 0, 51, 0, 0, 53, 0, 0, 0, 0, 31, 0, 0, 0, 0, 0, 0, 0, 51, 0, 0, 54, 0, 0, 0, 0, 31, 0, 0, 0, 0, 0, 0, 0, 51, 0, 0, 55, 0, 0, 0, 0, 31, 0, 0, 0, 0, 0, 0, 0, 51, 0, 0, 56, 0, 0, 0, 0, 31, 0, 0, 0, 0, 0, 0, 0, 51, 0, 0, 57, 0, 0, 0, 0, 51, 0, 0, 58, 0, 0, 0, 0, 29, 30, 0]) (by decide +kernel)
set_option maxRecDepth 1000000 in
theorem mk_195 : ab_MK cm_ms mr_195 := wz_MK wz_C9 wz_W9k rfl (lw_in_6 (p := 141) rfl) (ks := [0, 31, 0, 0, 0, 0, 0, 0, 29, 30, 0, 19, 0, 0, 0, 27, 0, 31, 0, 0, 0, 0, 0, 59, 0, 0, 31, 0, 0, 0, 0, 0, 59, 0, 0, 31, 0, 0, 0, 0, 0, 59, 0, 0, 19, 0, 0, 31, 0, 0, 0, 0]) (by decide +kernel)
set_option maxRecDepth 1000000 in
theorem mk_196 : ab_MK cm_ms mr_196 := wz_MK wz_C9 wz_W9k rfl (lw_in_6 (p := 177) rfl) (ks := [0, 19, 0, 0, 0, 0, 0, 31, 0, 0, 0, 0, 0, 0, 0, 31, 0, 0, 60, 0, 31, 0, 0, 61, 0, 0, 49, 0, 31, 0, 0, 0, 0, 0, 0, 0, 59, 0, 0, 31, 0, 0, 0, 0, 0, 0, 0, 59, 0, 0, 19, 0, 0, 31, 0, 0, 0, 0, 0, 0, 0]) (by decide +kernel)
