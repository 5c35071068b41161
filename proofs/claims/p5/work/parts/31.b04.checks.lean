/-! checks of methods -/
set_option maxRecDepth 1000000 in
theorem mk_159 : ab_MK cm_ms mr_159 := wz_MK wz_C0 wz_W0k rfl (lw_in_3 (p := 137) rfl) (ks := [0, 0, 114, 0, 0]) (by decide +kernel)
set_option maxRecDepth 1000000 in
theorem mk_160 : ab_MK cm_ms mr_160 := wz_MK wz_C0 wz_W0k rfl (lw_in_3 (p := 203) rfl) (ks := [0, 13, 20, 0, 0, 0, 0, 0]) (by decide +kernel)
set_option maxRecDepth 1000000 in
theorem mk_161 : ab_MK cm_ms mr_161 := wz_MK wz_C0 wz_W0k rfl (lw_in_3 (p := 153) rfl) (ks := [0, 0, 0, 0, 13, 20, 0, 0, 0, 0, 0]) (by decide +kernel)
set_option maxRecDepth 1000000 in
theorem mk_162 : ab_MK cm_ms mr_162 := wz_MK wz_C0 wz_W0k rfl (lw_in_3 (p := 173) rfl) (ks := [0, 0, 0, 0, 13, 44, 0, 0, 0, 0, 0]) (by decide +kernel)
set_option maxRecDepth 1000000 in
theorem mk_163 : ab_MK cm_ms mr_163 := wz_MK wz_C0 wz_W0k rfl (lw_in_4 (p := 182) rfl) (ks := [0, 0, 0, 0, 13, 110, 0, 0, 0, 0, 0]) (by decide +kernel)
set_option maxRecDepth 1000000 in
theorem mk_164 : ab_MK cm_ms mr_164 := wz_MK wz_C9 wz_W9k rfl (lw_in_6 (p := 105) rfl) (ks := [0, 0, 1, 0, 0, 2, 0]) (by decide +kernel)
set_option maxRecDepth 1000000 in
theorem mk_165 : ab_MK cm_ms mr_165 := wz_MK wz_C9 wz_W9k rfl (lw_in_6 (p := 112) rfl) (ks := [0, 0, 2, 0, 0]) (by decide +kernel)
set_option maxRecDepth 1000000 in
theorem mk_166 : ab_MK cm_ms mr_166 := wz_MK wz_C9 wz_W9k rfl (lw_in_8 (p := 140) rfl) (ks := [0, 0, 2, 0, 0]) (by decide +kernel)
set_option maxRecDepth 1000000 in
theorem mk_167 : ab_MK cm_ms mr_167 := wz_MK wz_C9 wz_W9k rfl (lw_in_6 (p := 108) rfl) (ks := [0, 0, 0, 0, 0, 0, 0, 0, 0, 0]) (by decide +kernel)
set_option maxRecDepth 1000000 in
theorem mk_168 : ab_MK cm_ms mr_168 := wz_MK wz_C9 wz_W9k rfl (lw_in_6 (p := 230) rfl) (ks := [0, 0, 0, 0, 0, 0, 0, 0, 0, 0, 0]) (by decide +kernel)
set_option maxRecDepth 1000000 in
theorem mk_169 : ab_MK cm_ms mr_169 := wz_MK wz_C9 wz_W9k rfl (lw_in_7 (p := 216) rfl) (ks := [0, 0, 0, 0, 0, 0, 0, 0, 0, 0, 0, 0, 0, 0, 0, 0, 0, 0, 0]) (by decide +kernel)
set_option maxRecDepth 1000000 in
theorem mk_170 : ab_MK cm_ms mr_170 := wz_MK wz_C9 wz_W9k rfl (lw_in_7 (p := 10) rfl) (ks := [0, 0, 0, 0, 0, 0, 0, 0, 0, 0, 0, 0, 0, 0, 0, 0, 0, 0]) (by decide +kernel)
set_option maxRecDepth 1000000 in
theorem mk_171 : ab_MK cm_ms mr_171 := wz_MK wz_C9 wz_W9k rfl (lw_in_8 (p := 98) rfl) (ks := [0, 0, 0, 0, 0, 0, 0, 0, 0, 0, 0, 0, 0, 0, 0, 0, 0, 0, 0, 0, 0, 0, 0, 0, 0]) (by decide +kernel)
set_option maxRecDepth 1000000 in
theorem mk_172 : ab_MK cm_ms mr_172 := wz_MK wz_C9 wz_W9k rfl (lw_in_6 (p := 97) rfl) (ks := [0, 0, 1, 0, 3, 0, 0, 0, 0, 0, 0, 0, 0, 0, 0, 0, 0, 0, 0, 0, 0, 0, 0, 0, 0, 0, 0, 0, 0, 0, 0, 0, 0, 0, 0, 0, 0, 0, 0, 4, 0, 3, 0, 0, 0, 0, 0, 0, 0, 0, 0, 0, 0, 0, 0, 0, 3, 0, 0, 5, 0, 0, 0, 3, 0]) (by decide +kernel)
set_option maxRecDepth 1000000 in
theorem mk_173 : ab_MK cm_ms mr_173 := wz_MK wz_C9 wz_W9k rfl (lw_in_6 (p := 120) rfl) (ks := [0, 0, 6, 0, 0, 4, 0, 0, 0, 0, 0]) (by decide +kernel)
set_option maxRecDepth 1000000 in
theorem mk_174 : ab_MK cm_ms mr_174 := wz_MK wz_C9 wz_W9k rfl (lw_in_6 (p := 123) rfl) (ks := [0, 0, 0, 0, 0, 0, 0, 0, 0, 0]) (by decide +kernel)
set_option maxRecDepth 1000000 in
theorem mk_175 : ab_MK cm_ms mr_175 := wz_MK wz_C9 wz_W9k rfl (lw_in_6 (p := 126) rfl) (ks := [0, 0, 0, 0, 0, 0, 0, 0, 0, 0]) (by decide +kernel)
set_option maxRecDepth 1000000 in
theorem mk_176 : ab_MK cm_ms mr_176 := wz_MK wz_C9 wz_W9k rfl (lw_in_6 (p := 116) rfl) (ks := [0, 7, 0, 0, 0, 8, 0, 0, 0, 0, 0, 0, 9, 0, 0, 8, 0, 0, 0, 10, 0, 0, 11, 0, 0, 0, 0, 0, 12, 0, 0, 13, 0, 0, 14, 0, 0, 0, 8, 14, 0, 0, 15, 0, 0, 0, 16, 0, 15, 0, 0, 8, 0, 0, 0, 15, 0, 0, 10, 0, 0, 0, 0, 13, 0, 0, 15, 0, 0, 0, 0, 0, 12, 0, 0, 17, 0, 0, 0, 0, 0, 8, 17, 0, 0, 0, 0, 0, 0, 0, 18, 0, 0, 0, 8, 0, 0, 0, 11, 0, 0, 0, 0, 0, 13, 0, 0, 0, 0, 0, 0, 0, 12, 0, 0, 0, 0, 0, 13, 0, 0, 0, 0, 0, 0, 0, 12, 0]) (by decide +kernel)
set_option maxRecDepth 1000000 in
theorem mk_177 : ab_MK cm_ms mr_177 := wz_MK wz_C9 wz_W9k rfl (lw_in_6 (p := 145) rfl) (ks := [0, 19, 0, 0, 0, 0, 20, 0, 0, 21, 0, 0, 22, 0]) (by decide +kernel)
set_option maxRecDepth 1000000 in
theorem mk_178 : ab_MK cm_ms mr_178 := wz_MK wz_C9 wz_W9k rfl (lw_in_6 (p := 135) rfl) (ks := [0, 19, 0, 0, 23, 0, 0, 0, 15, 0, 24, 0, 0, 0, 0, 0, 0, 0, 0, 0, 15, 0, 0, 0, 0, 16, 0, 0, 0, 0, 25, 0, 0, 0, 0, 0, 0, 0, 0, 0]) (by decide +kernel)
set_option maxRecDepth 1000000 in
theorem mk_179 : ab_MK cm_ms mr_179 := wz_MK wz_C9 wz_W9k rfl (lw_in_6 (p := 158) rfl) (ks := [0, 0, 26, 0, 0, 0, 0, 27, 0, 0]) (by decide +kernel)
set_option maxRecDepth 1000000 in
theorem mk_180 : ab_MK cm_ms mr_180 := wz_MK wz_C9 wz_W9k rfl (lw_in_6 (p := 154) rfl) (ks := [0, 19, 0, 0, 0, 28, 0, 0, 0, 0, 29, 30, 0]) (by decide +kernel)
set_option maxRecDepth 1000000 in
theorem mk_181 : ab_MK cm_ms mr_181 := wz_MK wz_C9 wz_W9k rfl (lw_in_6 (p := 185) rfl) (ks := [0, 23, 0, 0, 0, 0, 26, 0, 0, 0, 26, 0, 0, 0, 26, 0, 0, 0, 26, 0, 0, 0, 26, 0, 0, 0, 26, 0, 0, 0, 26, 0, 0, 0, 26, 0, 0, 0, 0, 29, 30, 0]) (by decide +kernel)
set_option maxRecDepth 1000000 in
theorem mk_182 : ab_MK cm_ms mr_182 := wz_MK wz_C9 wz_W9k rfl (lw_in_6 (p := 195) rfl) (ks := [0, 0, 0, 0, 0, 0, 31, 0, 0, 0, 0, 0, 0, 31, 0, 0, 0, 0, 0, 15, 0, 0, 0, 0, 0, 0, 0, 0, 0, 15, 0, 0, 0, 0, 31, 0, 0, 0, 0, 0, 0, 0, 0, 0, 16, 0, 0, 0, 0, 0, 0, 0, 0, 0, 0, 0, 0, 0, 0, 0, 0, 0]) (by decide +kernel)
set_option maxRecDepth 1000000 in
theorem mk_183 : ab_MK cm_ms mr_183 := wz_MK wz_C9 wz_W9k rfl (lw_in_6 (p := 181) rfl) (ks := [0, 19, 0, 0, 0, 32, 0, 19, 0, 0, 33, 0, 0, 0, 0, 29, 30, 0, 19, 0, 0, 0, 0, 0, 0, 15, 0, 0, 31, 0, 0, 0, 0, 0, 0, 0, 0, 16, 0, 0, 0, 0, 0, 0, 31, 0, 0, 0, 0, 15, 0, 0, 27, 0]) (by decide +kernel)
set_option maxRecDepth 1000000 in
theorem mk_184 : ab_MK cm_ms mr_184 := wz_MK wz_C9 wz_W9k rfl (lw_in_6 (p := 223) rfl) (ks := [0, 19, 0, 0, 0, 0, 32, 0, 19, 0, 0, 0, 0, 33, 0, 0, 0, 0, 34, 0, 0, 0, 0, 29, 30, 0, 19, 0, 0, 0, 0, 0, 0, 0]) (by decide +kernel)
set_option maxRecDepth 1000000 in
theorem mk_185 : ab_MK cm_ms mr_185 := wz_MK wz_C9 wz_W9k rfl (lw_in_6 (p := 219) rfl) (ks := [0, 0, 0, 35, 0]) (by decide +kernel)
set_option maxRecDepth 1000000 in
theorem mk_186 : ab_MK cm_ms mr_186 := wz_MK wz_C9 wz_W9k rfl (lw_in_6 (p := 227) rfl) (ks := [0, 0, 0, 35, 0]) (by decide +kernel)
set_option maxRecDepth 1000000 in
theorem mk_187 : ab_MK cm_ms mr_187 := wz_MK wz_C9 wz_W9k rfl (lw_in_6 (p := 173) rfl) (ks := [0, 19, 0, 0, 27, 0]) (by decide +kernel)
set_option maxRecDepth 1000000 in
theorem mk_188 : ab_MK cm_ms mr_188 := wz_MK wz_C9 wz_W9k rfl (lw_in_6 (p := 162) rfl) (ks := [0, 19, 0, 0, 0, 0, 23, 0, 0, 0, 0, 0, 29, 30, 0, 0, 18, 0, 0, 34, 0, 0, 0, 0, 29, 30, 0, 19, 0, 0, 0, 0, 18, 0, 0, 27, 0, 0]) (by decide +kernel)
set_option maxRecDepth 1000000 in
theorem mk_189 : ab_MK cm_ms mr_189 := wz_MK wz_C9 wz_W9k rfl (lw_in_6 (p := 150) rfl) (ks := [0, 0, 36, 0, 0, 0, 37, 0]) (by decide +kernel)
set_option maxRecDepth 1000000 in
theorem mk_190 : ab_MK cm_ms mr_190 := wz_MK wz_C9 wz_W9k rfl (lw_in_6 (p := 199) rfl) (ks := [0, 0, 26, 0, 0, 0, 0, 0, 26, 0, 0, 0, 0, 0, 26, 0, 0, 0, 0, 0, 0, 0, 0, 0, 0, 29, 30, 0, 19, 0, 0, 0, 0, 0]) (by decide +kernel)
set_option maxRecDepth 1000000 in
theorem mk_191 : ab_MK cm_ms mr_191 := wz_MK wz_C9 wz_W9k rfl (lw_in_6 (p := 101) rfl) (ks := [0, 38, 0, 0, 0, 3, 34, 0, 0, 0, 39, 0, 0, 0, 5, 0, 0, 21, 0, 0, 20, 0, 0, 0, 0, 0, 0, 31, 0, 0, 0, 0, 0, 0, 0, 40, 0, 0, 13, 0, 27, 0, 41, 0, 19, 0, 0, 23, 0, 0, 0, 27, 0, 41, 0, 0, 19, 0, 0, 23, 0, 0, 0, 0, 29, 30, 0, 19, 0, 0, 31, 0, 0, 0, 0, 31, 0, 0, 0, 0, 0, 0, 29, 30, 0, 19, 0, 0, 0, 39, 0, 0, 31, 0, 0, 42, 0, 0, 43, 0, 0, 44, 45, 0, 0, 46, 0, 0, 47, 0, 0, 48, 0, 42, 0, 0, 0]) (by decide +kernel)
set_option maxRecDepth 1000000 in
theorem mk_192 : ab_MK cm_ms mr_192 := wz_MK wz_C9 wz_W9k rfl (lw_in_7 (p := 14) rfl) (ks := [0, 0, 0, 0, 0, 0, 0, 0, 0, 0, 0, 0, 0, 0, 0, 42, 0, 0, 0, 0, 0, 0, 42, 0, 0, 0, 0, 0, 0, 0, 0, 0, 0, 0, 0]) (by decide +kernel)
set_option maxRecDepth 1000000 in
theorem mk_193 : ab_MK cm_ms mr_193 := wz_MK wz_C9 wz_W9k rfl (lw_in_6 (p := 169) rfl) (ks := [0, 0, 26, 0, 0, 0, 0, 0, 0, 0, 0, 29, 30, 0, 31, 0, 0, 0, 0, 0, 0, 29, 30, 0, 49, 0, 0]) (by decide +kernel)
set_option maxRecDepth 1000000 in
theorem mk_194 : ab_MK cm_ms mr_194 := wz_MK wz_C9 wz_W9k rfl (lw_in_6 (p := 130) rfl) (ks := [0, 0, 26, 0, 0, 50, 0, 0, 0, 0, 31, 0, 0, 0, 0, 0, 0, 0, 51, 0, 0, 52, 0, 0, 0, 0, 31, 0, 0, 0, 0, 0, 0, 0, 51, 0, 0, 53, 0, 0, 0, 0, 31, 0, 0, 0, 0, 0, 0, 0, 51, 0, 0, 54, 0, 0, 0, 0, 31, 0, 0, 0, 0, 0, 0, 0, 51, 0, 0, 55, 0, 0, 0, 0, 31, 0, 0, 0, 0, 0, 0, 0, 51, 0, 0, 56, 0, 0, 0, 0, 31, 0, 0, 0, 0, 0, 0, 0, 51, 0, 0, 57, 0, 0, 0, 0, 51, 0, 0, 58, 0, 0, 0, 0, 29, 30, 0]) (by decide +kernel)
set_option maxRecDepth 1000000 in
theorem mk_195 : ab_MK cm_ms mr_195 := wz_MK wz_C9 wz_W9k rfl (lw_in_6 (p := 141) rfl) (ks := [0, 31, 0, 0, 0, 0, 0, 0, 29, 30, 0, 19, 0, 0, 0, 27, 0, 31, 0, 0, 0, 0, 0, 59, 0, 0, 31, 0, 0, 0, 0, 0, 59, 0, 0, 31, 0, 0, 0, 0, 0, 59, 0, 0, 19, 0, 0, 31, 0, 0, 0, 0]) (by decide +kernel)
set_option maxRecDepth 1000000 in
theorem mk_196 : ab_MK cm_ms mr_196 := wz_MK wz_C9 wz_W9k rfl (lw_in_6 (p := 177) rfl) (ks := [0, 19, 0, 0, 0, 0, 0, 31, 0, 0, 0, 0, 0, 0, 0, 31, 0, 0, 60, 0, 31, 0, 0, 61, 0, 0, 49, 0, 31, 0, 0, 0, 0, 0, 0, 0, 59, 0, 0, 31, 0, 0, 0, 0, 0, 0, 0, 59, 0, 0, 19, 0, 0, 31, 0, 0, 0, 0, 0, 0, 0]) (by decide +kernel)
/-! checks of methods -/
set_option maxRecDepth 1000000 in
theorem mk_197 : ab_MK cm_ms mr_197 := wz_MK wz_C9 wz_W9k rfl (lw_in_6 (p := 208) rfl) (ks := [0, 19, 0, 0, 0, 0, 0, 31, 0, 0, 0, 0, 0, 0, 0, 0, 31, 0, 0, 0, 60, 0, 31, 0, 0, 0, 0, 0, 59, 0, 0, 31, 0, 0, 0, 0, 0, 0, 0, 59, 0, 0, 31, 0, 0, 0, 0, 0, 0, 0, 59, 0, 0, 19, 0, 0, 31, 0, 0, 0, 0, 0, 0, 0]) (by decide +kernel)
set_option maxRecDepth 1000000 in
theorem mk_198 : ab_MK cm_ms mr_198 := wz_MK wz_C9 wz_W9k rfl (lw_in_6 (p := 215) rfl) (ks := [0, 62, 0, 0, 49, 0, 63, 0, 0, 19, 0, 0, 31, 0, 0, 0, 0, 0, 64, 0, 0, 0, 0, 29, 30, 0, 49, 0, 19, 0, 0, 0, 31, 0, 0, 0, 0, 0, 0, 0, 0, 0, 0, 0, 31, 0, 0, 0, 0, 0, 0, 0]) (by decide +kernel)
set_option maxRecDepth 1000000 in
theorem mk_199 : ab_MK cm_ms mr_199 := wz_MK wz_C9 wz_W9k rfl (lw_in_6 (p := 234) rfl) (ks := [0, 63, 0, 0, 49, 0, 63, 0, 0, 19, 0, 0, 31, 0, 0, 0, 0, 0, 64, 0, 0, 0, 0, 29, 30, 0, 19, 0, 0, 0, 0, 0, 0, 0, 29, 30, 0, 49, 0, 19, 0, 0, 0, 31, 0, 0, 0, 0, 0, 0, 0, 0, 0, 0, 0, 31, 0, 0, 0, 0, 0, 0, 0]) (by decide +kernel)
set_option maxRecDepth 1000000 in
theorem mk_200 : ab_MK cm_ms mr_200 := wz_MK wz_C9 wz_W9k rfl (lw_in_6 (p := 238) rfl) (ks := [0, 62, 0, 0, 49, 0, 62, 0, 0, 19, 0, 0, 0, 0, 0, 31, 0, 0, 0, 0, 0, 64, 0, 0, 0, 0, 29, 30, 0, 49, 0, 19, 0, 0, 0, 31, 0, 0, 0, 0, 0, 0, 0, 0, 0, 0, 0, 31, 0, 0, 0, 0, 0, 0, 0, 0, 0, 0, 0, 31, 0, 0, 0, 0, 0, 0, 0]) (by decide +kernel)
set_option maxRecDepth 1000000 in
theorem mk_201 : ab_MK cm_ms mr_201 := wz_MK wz_C9 wz_W9k rfl (lw_in_7 (p := 2) rfl) (ks := [0, 19, 0, 0, 0, 0, 0, 31, 0, 0, 0, 60, 0, 31, 0, 0, 31, 0, 0, 0, 0, 0, 0, 0, 59, 0, 0, 19, 0, 0, 31, 0, 0, 0, 0, 0, 0, 0]) (by decide +kernel)
set_option maxRecDepth 1000000 in
theorem mk_202 : ab_MK cm_ms mr_202 := wz_MK wz_C9 wz_W9k rfl (lw_in_7 (p := 7) rfl) (ks := [0, 61, 0, 0, 19, 0, 0, 31, 0, 0, 0, 0, 0, 0, 0, 0, 29, 30, 0, 49, 0, 0, 0, 37, 0, 0, 19, 0, 0, 0, 31, 0, 0, 0, 0, 0, 0, 0, 0, 31, 0, 0, 0, 0, 0, 0, 0]) (by decide +kernel)
set_option maxRecDepth 1000000 in
theorem mk_203 : ab_MK cm_ms mr_203 := wz_MK wz_C9 wz_W9k rfl (lw_in_7 (p := 18) rfl) (ks := [0, 0, 1, 0, 65, 0]) (by decide +kernel)
set_option maxRecDepth 1000000 in
theorem mk_204 : ab_MK cm_ms mr_204 := wz_MK wz_C9 wz_W9k rfl (lw_in_7 (p := 22) rfl) (ks := [0, 0, 1, 0, 66, 0, 0, 0, 67, 0, 0, 0]) (by decide +kernel)
set_option maxRecDepth 1000000 in
theorem mk_205 : ab_MK cm_ms mr_205 := wz_MK wz_C9 wz_W9k rfl (lw_in_7 (p := 30) rfl) (ks := [0, 68, 0, 0, 0, 0, 42, 0, 0, 0, 0, 34, 0, 0, 0, 0, 0]) (by decide +kernel)
set_option maxRecDepth 1000000 in
theorem mk_206 : ab_MK cm_ms mr_206 := wz_MK wz_C9 wz_W9k rfl (lw_in_7 (p := 50) rfl) (ks := [0, 68, 0, 0, 0, 0, 42, 0, 0, 0, 0, 34, 0, 0, 0, 0, 0]) (by decide +kernel)
set_option maxRecDepth 1000000 in
theorem mk_207 : ab_MK cm_ms mr_207 := wz_MK wz_C9 wz_W9k rfl (lw_in_8 (p := 4) rfl) (ks := [0, 68, 0, 0, 0, 0, 42, 0, 0, 0, 0, 34, 0, 0, 0, 0, 0]) (by decide +kernel)
set_option maxRecDepth 1000000 in
theorem mk_208 : ab_MK cm_ms mr_208 := wz_MK wz_C9 wz_W9k rfl (lw_in_7 (p := 102) rfl) (ks := [0, 0, 42, 0, 0, 0, 0, 0, 0]) (by decide +kernel)
set_option maxRecDepth 1000000 in
theorem mk_209 : ab_MK cm_ms mr_209 := wz_MK wz_C9 wz_W9k rfl (lw_in_7 (p := 34) rfl) (ks := [0, 0, 0, 0, 42, 0, 0, 0, 0, 0, 0, 0]) (by decide +kernel)
set_option maxRecDepth 1000000 in
theorem mk_210 : ab_MK cm_ms mr_210 := wz_MK wz_C9 wz_W9k rfl (lw_in_7 (p := 78) rfl) (ks := [0, 0, 0, 0, 0, 0, 42, 0, 0, 0, 0, 0, 0, 0, 69, 0, 0, 0, 0, 0, 0, 0, 0, 0, 0, 0, 0]) (by decide +kernel)
set_option maxRecDepth 1000000 in
theorem mk_211 : ab_MK cm_ms mr_211 := wz_MK wz_C9 wz_W9k rfl (lw_in_7 (p := 42) rfl) (ks := [0, 0, 0, 69, 0, 0, 42, 0, 0, 0, 0, 0, 64, 0, 0, 0, 0, 0, 42, 0, 0, 0, 0, 0, 0, 0, 0, 0, 0, 0]) (by decide +kernel)
set_option maxRecDepth 1000000 in
theorem mk_212 : ab_MK cm_ms mr_212 := wz_MK wz_C9 wz_W9k rfl (lw_in_7 (p := 62) rfl) (ks := [0, 0, 0, 0, 0, 0, 42, 0, 0, 0, 0, 0, 0, 0, 0, 70, 0, 0, 0, 0, 0, 0, 0, 0, 0, 0, 0, 0]) (by decide +kernel)
set_option maxRecDepth 1000000 in
theorem mk_213 : ab_MK cm_ms mr_213 := wz_MK wz_C9 wz_W9k rfl (lw_in_7 (p := 66) rfl) (ks := [0, 0, 0, 0, 0, 0, 42, 0, 0, 0, 0, 0, 0, 64, 0, 0, 42, 0, 0, 0, 0, 0, 0, 0, 0, 0, 0, 0, 0, 0, 0, 0, 0]) (by decide +kernel)
set_option maxRecDepth 1000000 in
theorem mk_214 : ab_MK cm_ms mr_214 := wz_MK wz_C9 wz_W9k rfl (lw_in_7 (p := 58) rfl) (ks := [0, 0, 0, 0, 71, 72, 0]) (by decide +kernel)
set_option maxRecDepth 1000000 in
theorem mk_215 : ab_MK cm_ms mr_215 := wz_MK wz_C9 wz_W9k rfl (lw_in_7 (p := 90) rfl) (ks := [0, 0, 0, 73, 0, 42, 0, 0, 0, 0, 0, 0, 0, 0, 0, 0, 0, 0, 0]) (by decide +kernel)
set_option maxRecDepth 1000000 in
theorem mk_216 : ab_MK cm_ms mr_216 := wz_MK wz_C9 wz_W9k rfl (lw_in_7 (p := 54) rfl) (ks := [0, 0, 0, 0, 64, 0, 0, 42, 0, 0, 0, 0, 0, 0, 0, 0, 0, 0, 0, 0, 0, 0, 0]) (by decide +kernel)
set_option maxRecDepth 1000000 in
theorem mk_217 : ab_MK cm_ms mr_217 := wz_MK wz_C9 wz_W9k rfl (lw_in_7 (p := 170) rfl) (ks := [0, 0, 0, 71, 0, 0, 0, 0, 0, 42, 0, 0, 0, 0, 0, 64, 0, 0, 0, 0, 0, 0, 0, 42, 0, 0, 0, 0, 0, 0, 0, 0, 0, 0, 0, 42, 0, 0, 0, 0, 0, 0, 0, 0, 0, 0, 42, 0, 0, 0, 0, 0, 0, 0, 0, 0, 0, 0]) (by decide +kernel)
set_option maxRecDepth 1000000 in
theorem mk_218 : ab_MK cm_ms mr_218 := wz_MK wz_C9 wz_W9k rfl (lw_in_7 (p := 166) rfl) (ks := [0, 0, 0, 74, 0, 0, 0, 0, 75, 0, 0, 0, 0, 0, 0, 0, 0, 0, 0, 0, 0, 0]) (by decide +kernel)
set_option maxRecDepth 1000000 in
theorem mk_219 : ab_MK cm_ms mr_219 := wz_MK wz_C9 wz_W9k rfl (lw_in_7 (p := 130) rfl) (ks := [0, 0, 0, 0, 42, 0, 0, 0, 0, 0, 0, 0, 0, 0, 42, 0, 0, 0, 0, 0, 0, 0, 0, 0, 0, 0, 42, 0, 0, 0, 0, 0, 0, 0, 0, 0, 0, 0, 0, 0, 0]) (by decide +kernel)
set_option maxRecDepth 1000000 in
theorem mk_220 : ab_MK cm_ms mr_220 := wz_MK wz_C9 wz_W9k rfl (lw_in_7 (p := 126) rfl) (ks := [0, 44, 0, 0, 76, 0, 0, 43, 0, 0, 0, 0, 0, 0, 0, 76, 77, 0, 0, 0]) (by decide +kernel)
set_option maxRecDepth 1000000 in
theorem mk_221 : ab_MK cm_ms mr_221 := wz_MK wz_C9 wz_W9k rfl (lw_in_7 (p := 26) rfl) (ks := [0, 38, 0, 0, 78, 0, 0, 0, 0, 34, 0, 0, 0, 39, 0, 0, 0, 0, 42, 0, 0, 0, 0, 0, 0, 0, 0, 44, 0, 0, 0, 0, 42, 0, 0, 0, 0, 0, 0, 0, 0, 0, 0, 0, 44, 0, 69, 0, 0, 0, 0, 0, 0, 42, 0, 0, 0, 0, 0, 0, 42, 0, 0, 0, 0, 0, 0, 0, 79, 0]) (by decide +kernel)
set_option maxRecDepth 1000000 in
theorem mk_222 : ab_MK cm_ms mr_222 := wz_MK wz_C9 wz_W9k rfl (lw_in_7 (p := 38) rfl) (ks := [0, 0, 0, 0, 0, 0, 42, 0, 0, 0, 0, 0, 0, 44, 0, 0, 70, 0, 0, 0, 0, 0, 0, 0, 0, 0, 0, 0, 0]) (by decide +kernel)
set_option maxRecDepth 1000000 in
theorem mk_223 : ab_MK cm_ms mr_223 := wz_MK wz_C9 wz_W9k rfl (lw_in_7 (p := 46) rfl) (ks := [0, 38, 0, 0, 80, 0, 0, 0, 0, 34, 0, 0, 0, 39, 0, 0, 0, 0, 42, 0, 0, 0, 0, 0, 0, 0, 0, 0, 0, 42, 0, 0, 0, 0, 0, 0, 44, 0, 0, 0, 0, 0, 0, 0, 0, 0, 44, 0, 81, 0, 0, 0, 0, 0, 0, 0, 44, 0, 73, 0, 0, 0, 44, 0, 71, 0]) (by decide +kernel)
set_option maxRecDepth 1000000 in
theorem mk_224 : ab_MK cm_ms mr_224 := wz_MK wz_C9 wz_W9k rfl (lw_in_7 (p := 70) rfl) (ks := [0, 38, 0, 68, 0, 0, 0, 0, 34, 0, 0, 44, 0, 0, 0, 0, 0, 0, 0, 39, 0]) (by decide +kernel)
set_option maxRecDepth 1000000 in
theorem mk_225 : ab_MK cm_ms mr_225 := wz_MK wz_C9 wz_W9k rfl (lw_in_7 (p := 74) rfl) (ks := [0, 38, 0, 68, 0, 0, 0, 44, 82, 0, 0, 0, 39, 0]) (by decide +kernel)
set_option maxRecDepth 1000000 in
theorem mk_226 : ab_MK cm_ms mr_226 := wz_MK wz_C9 wz_W9k rfl (lw_in_7 (p := 82) rfl) (ks := [0, 38, 0, 68, 0, 0, 0, 39, 0, 0, 0, 0, 0, 0, 0, 42, 0, 0, 0, 0, 44, 0, 0, 0, 44, 0, 0, 0, 0, 0, 0, 0, 0, 0]) (by decide +kernel)
set_option maxRecDepth 1000000 in
theorem mk_227 : ab_MK cm_ms mr_227 := wz_MK wz_C9 wz_W9k rfl (lw_in_7 (p := 86) rfl) (ks := [0, 38, 0, 68, 0, 0, 0, 39, 0, 0, 0, 0, 0, 0, 0, 42, 0, 0, 0, 0, 0, 0, 44, 0, 81, 0, 0, 0, 44, 0, 74, 0, 0, 0, 0, 0, 0, 0, 0, 0, 0, 0, 0]) (by decide +kernel)
set_option maxRecDepth 1000000 in
theorem mk_228 : ab_MK cm_ms mr_228 := wz_MK wz_C9 wz_W9k rfl (lw_in_7 (p := 98) rfl) (ks := [0, 83, 0, 0, 44, 82, 0, 0, 0, 0]) (by decide +kernel)
set_option maxRecDepth 1000000 in
theorem mk_229 : ab_MK cm_ms mr_229 := wz_MK wz_C9 wz_W9k rfl (lw_in_7 (p := 94) rfl) (ks := [0, 38, 0, 68, 0, 0, 0, 84, 72, 0, 0, 0, 39, 0]) (by decide +kernel)
set_option maxRecDepth 1000000 in
theorem mk_230 : ab_MK cm_ms mr_230 := wz_MK wz_C9 wz_W9k rfl (lw_in_7 (p := 106) rfl) (ks := [0, 38, 0, 0, 80, 0, 0, 0, 39, 0, 0, 0, 0, 0, 0, 0, 0, 0, 42, 0, 0, 0, 0, 0, 42, 0, 0, 0, 0, 0, 0, 0, 0, 0, 0, 0, 0, 0, 0, 0, 0, 0, 0, 0, 0, 0, 0]) (by decide +kernel)
set_option maxRecDepth 1000000 in
theorem mk_231 : ab_MK cm_ms mr_231 := wz_MK wz_C9 wz_W9k rfl (lw_in_7 (p := 114) rfl) (ks := [0, 0, 0, 0, 0, 0, 0, 0, 42, 0, 0, 0, 0, 0, 64, 0, 0, 0, 85, 0, 0, 0, 0, 85, 0, 0, 0, 0, 0, 0, 0, 0, 0]) (by decide +kernel)
set_option maxRecDepth 1000000 in
theorem mk_232 : ab_MK cm_ms mr_232 := wz_MK wz_C9 wz_W9k rfl (lw_in_7 (p := 110) rfl) (ks := [0, 38, 0, 0, 80, 0, 0, 0, 85, 0, 0, 0, 39, 0]) (by decide +kernel)
/-! checks of methods -/
set_option maxRecDepth 1000000 in
theorem mk_233 : ab_MK cm_ms mr_233 := wz_MK wz_C9 wz_W9k rfl (lw_in_7 (p := 122) rfl) (ks := [0, 0, 0, 0, 0, 0, 0, 0, 0, 0]) (by decide +kernel)
set_option maxRecDepth 1000000 in
theorem mk_234 : ab_MK cm_ms mr_234 := wz_MK wz_C9 wz_W9k rfl (lw_in_7 (p := 118) rfl) (ks := [0, 38, 0, 0, 0, 78, 0, 0, 0, 34, 86, 0, 0, 0, 0, 0, 39, 0, 0, 0, 87, 0, 76, 0, 0, 0]) (by decide +kernel)
set_option maxRecDepth 1000000 in
theorem mk_235 : ab_MK cm_ms mr_235 := wz_MK wz_C9 wz_W9k rfl (lw_in_7 (p := 134) rfl) (ks := [0, 38, 0, 0, 0, 80, 0, 0, 0, 34, 86, 0, 0, 0, 0, 0, 39, 0, 0, 0, 87, 0, 0, 76, 0, 73, 0]) (by decide +kernel)
set_option maxRecDepth 1000000 in
theorem mk_236 : ab_MK cm_ms mr_236 := wz_MK wz_C9 wz_W9k rfl (lw_in_7 (p := 142) rfl) (ks := [0, 0, 87, 0, 0, 0, 0, 0, 0, 0, 76, 0, 74, 0, 0, 0, 0, 0, 76, 77, 0, 0, 0, 0]) (by decide +kernel)
set_option maxRecDepth 1000000 in
theorem mk_237 : ab_MK cm_ms mr_237 := wz_MK wz_C9 wz_W9k rfl (lw_in_7 (p := 138) rfl) (ks := [0, 38, 0, 0, 80, 0, 0, 0, 88, 0, 0, 0, 39, 0]) (by decide +kernel)
set_option maxRecDepth 1000000 in
theorem mk_238 : ab_MK cm_ms mr_238 := wz_MK wz_C9 wz_W9k rfl (lw_in_7 (p := 146) rfl) (ks := [0, 38, 0, 68, 0, 0, 0, 39, 0, 0, 0, 87, 0, 0, 0, 0, 0, 0, 0, 76, 82, 0, 0, 0, 0, 0, 76, 77, 0, 0, 0, 0]) (by decide +kernel)
set_option maxRecDepth 1000000 in
theorem mk_239 : ab_MK cm_ms mr_239 := wz_MK wz_C9 wz_W9k rfl (lw_in_7 (p := 150) rfl) (ks := [0, 38, 0, 68, 0, 0, 0, 39, 0, 0, 0, 0, 0, 0, 0, 42, 0, 0, 0, 0, 0, 44, 0, 81, 0, 0, 0, 88, 0, 0, 0, 0, 0, 0, 0, 0, 0, 0, 88, 0, 0, 0, 0, 0, 0, 0]) (by decide +kernel)
set_option maxRecDepth 1000000 in
theorem mk_240 : ab_MK cm_ms mr_240 := wz_MK wz_C9 wz_W9k rfl (lw_in_7 (p := 162) rfl) (ks := [0, 0, 87, 0, 0, 0, 0, 0, 0, 0, 0, 0, 0, 0, 0, 0, 0, 0, 0, 0, 0, 0, 0, 0, 0, 76, 77, 0, 0, 0, 0, 0, 0, 0, 0, 0, 0, 0, 0, 0, 0, 0, 0, 0, 76, 0, 81, 0, 0, 0, 0, 0, 0, 76, 0, 89, 0, 0, 42, 0, 0, 0, 0, 0, 0, 0, 0, 0, 0, 0, 0, 0, 0, 0, 0]) (by decide +kernel)
set_option maxRecDepth 1000000 in
theorem mk_241 : ab_MK cm_ms mr_241 := wz_MK wz_C9 wz_W9k rfl (lw_in_7 (p := 158) rfl) (ks := [0, 0, 0, 0, 0, 0, 0, 0, 0, 0, 0, 0, 0, 0, 0, 0, 0, 0, 0, 42, 0, 0, 0, 0, 0, 0, 0, 0, 0, 0, 0, 0, 0, 0, 0, 0, 0, 0, 0, 0, 0]) (by decide +kernel)
set_option maxRecDepth 1000000 in
theorem mk_242 : ab_MK cm_ms mr_242 := wz_MK wz_C9 wz_W9k rfl (lw_in_7 (p := 154) rfl) (ks := [0, 38, 0, 0, 68, 0, 68, 0, 0, 0, 0, 34, 0, 0, 0, 0, 90, 0, 0, 0, 0, 86, 0, 0, 0, 0, 0, 39, 0, 0, 0, 0, 91, 0, 0, 0, 0, 0, 39, 0, 0, 0]) (by decide +kernel)
set_option maxRecDepth 1000000 in
theorem mk_243 : ab_MK cm_ms mr_243 := wz_MK wz_C9 wz_W9k rfl (lw_in_7 (p := 181) rfl) (ks := [0, 0, 0, 0, 0, 0, 0, 0, 0, 0, 0, 0, 0, 0, 0]) (by decide +kernel)
set_option maxRecDepth 1000000 in
theorem mk_244 : ab_MK cm_ms mr_244 := wz_MK wz_C9 wz_W9k rfl (lw_in_7 (p := 178) rfl) (ks := [0, 0, 0, 0, 0, 0, 0, 0, 92, 0, 0, 0, 0, 90, 0, 0, 0, 0, 91, 0, 0, 0, 0, 0, 0, 0, 0, 0, 0, 0, 0, 0, 0, 0]) (by decide +kernel)
set_option maxRecDepth 1000000 in
theorem mk_245 : ab_MK cm_ms mr_245 := wz_MK wz_C9 wz_W9k rfl (lw_in_7 (p := 174) rfl) (ks := [0, 38, 0, 0, 68, 0, 0, 0, 34, 86, 0, 0, 0, 0, 0, 39, 0, 0, 0, 93, 0]) (by decide +kernel)
set_option maxRecDepth 1000000 in
theorem mk_246 : ab_MK cm_ms mr_246 := wz_MK wz_C9 wz_W9k rfl (lw_in_7 (p := 185) rfl) (ks := [0, 38, 0, 0, 68, 0, 0, 0, 34, 86, 0, 0, 0, 0, 0, 39, 0, 0, 0, 0, 93, 0, 91, 0]) (by decide +kernel)
set_option maxRecDepth 1000000 in
theorem mk_247 : ab_MK cm_ms mr_247 := wz_MK wz_C9 wz_W9k rfl (lw_in_7 (p := 189) rfl) (ks := [0, 38, 0, 0, 68, 0, 0, 0, 34, 86, 0, 0, 0, 0, 0, 39, 0, 0, 0, 0, 93, 0, 91, 0, 0, 76, 0, 0, 0]) (by decide +kernel)
set_option maxRecDepth 1000000 in
theorem mk_248 : ab_MK cm_ms mr_248 := wz_MK wz_C9 wz_W9k rfl (lw_in_7 (p := 193) rfl) (ks := [0, 38, 0, 0, 80, 0, 0, 0, 39, 0, 0, 44, 0, 0, 0, 64, 0, 0, 0, 0, 0, 0, 0, 0, 0, 0, 0, 0, 92, 0, 0, 0, 0, 90, 0, 0, 0, 0, 91, 0, 0, 76, 0, 0, 0, 64, 0, 0, 0, 0, 0, 0, 0, 0, 0]) (by decide +kernel)
set_option maxRecDepth 1000000 in
theorem mk_249 : ab_MK cm_ms mr_249 := wz_MK wz_C9 wz_W9k rfl (lw_in_7 (p := 201) rfl) (ks := [0, 0, 44, 0, 69, 0, 0, 0, 0, 84, 0, 0, 0, 0, 0, 0, 0, 0, 0, 0, 0, 0, 0, 83, 0, 0, 0, 0, 0, 0, 0, 0, 0, 0, 72, 0, 0, 0, 0, 0, 0, 0, 0, 72, 0, 0, 0, 0, 0, 0, 0, 0, 0, 0, 0]) (by decide +kernel)
set_option maxRecDepth 1000000 in
theorem mk_250 : ab_MK cm_ms mr_250 := wz_MK wz_C9 wz_W9k rfl (lw_in_7 (p := 197) rfl) (ks := [0, 38, 0, 0, 0, 78, 0, 0, 0, 34, 86, 0, 0, 0, 0, 0, 39, 0, 0, 0, 0, 94, 0]) (by decide +kernel)
set_option maxRecDepth 1000000 in
theorem mk_251 : ab_MK cm_ms mr_251 := wz_MK wz_C9 wz_W9k rfl (lw_in_7 (p := 205) rfl) (ks := [0, 38, 0, 0, 68, 0, 0, 0, 34, 86, 0, 0, 0, 0, 0, 39, 0, 0, 0, 0, 0, 0, 0, 0, 0, 42, 0, 0, 0, 0, 0, 0, 94, 0, 0, 0, 0, 0, 0, 0, 0, 94, 0, 0, 0, 0, 0]) (by decide +kernel)
set_option maxRecDepth 1000000 in
theorem mk_252 : ab_MK cm_ms mr_252 := wz_MK wz_C9 wz_W9k rfl (lw_in_7 (p := 209) rfl) (ks := [0, 38, 0, 0, 68, 0, 0, 0, 34, 86, 0, 0, 0, 0, 0, 39, 0, 0, 0, 0, 0, 0, 0, 42, 0, 0, 0, 0, 0, 0, 44, 0, 69, 0, 0, 0, 0, 94, 0, 0, 0, 0, 0, 0, 0, 0, 0, 0, 0, 0]) (by decide +kernel)
set_option maxRecDepth 1000000 in
theorem mk_253 : ab_MK cm_ms mr_253 := wz_MK wz_C9 wz_W9k rfl (lw_in_7 (p := 213) rfl) (ks := [0, 38, 0, 0, 68, 0, 0, 0, 34, 86, 0, 0, 0, 0, 0, 39, 0, 0, 0, 0, 0, 0, 0, 83, 0, 0, 0, 84, 0, 0, 0, 0, 0, 0, 72, 0, 0, 0, 0, 0, 95, 0, 95, 0, 0, 0, 0, 0, 0, 0]) (by decide +kernel)
set_option maxRecDepth 1000000 in
theorem mk_254 : ab_MK cm_ms mr_254 := wz_MK wz_C9 wz_W9k rfl (lw_in_7 (p := 228) rfl) (ks := [0, 0, 0, 0, 0, 0, 42, 0, 0, 0, 0, 0, 0, 64, 0, 0, 42, 0, 0, 0, 0, 0, 0, 95, 0, 0, 0, 0, 0, 0, 0, 0]) (by decide +kernel)
set_option maxRecDepth 1000000 in
theorem mk_255 : ab_MK cm_ms mr_255 := wz_MK wz_C9 wz_W9k rfl (lw_in_7 (p := 224) rfl) (ks := [0, 0, 0, 0, 0, 0, 83, 0, 0, 0, 0, 0, 0, 96, 0, 0, 0, 0, 0, 96, 0, 0, 0, 0, 0, 0, 0]) (by decide +kernel)
set_option maxRecDepth 1000000 in
theorem mk_256 : ab_MK cm_ms mr_256 := wz_MK wz_C9 wz_W9k rfl (lw_in_7 (p := 220) rfl) (ks := [0, 38, 0, 68, 0, 0, 97, 0, 0, 0, 39, 0]) (by decide +kernel)
set_option maxRecDepth 1000000 in
theorem mk_257 : ab_MK cm_ms mr_257 := wz_MK wz_C9 wz_W9k rfl (lw_in_7 (p := 232) rfl) (ks := [0, 38, 0, 68, 0, 0, 0, 39, 0, 0, 97, 0, 0, 42, 0, 0, 0, 0, 0, 0, 0, 96, 0, 0]) (by decide +kernel)
set_option maxRecDepth 1000000 in
theorem mk_258 : ab_MK cm_ms mr_258 := wz_MK wz_C9 wz_W9k rfl (lw_in_7 (p := 236) rfl) (ks := [0, 38, 0, 68, 0, 0, 0, 39, 0, 0, 83, 0, 0, 0, 0, 0, 83, 0, 0, 95, 0, 95, 0, 0, 0, 83, 0, 0, 0, 0, 0, 83, 0, 0, 0, 0, 96, 0, 0, 0, 0, 0, 0, 0]) (by decide +kernel)
set_option maxRecDepth 1000000 in
theorem mk_259 : ab_MK cm_ms mr_259 := wz_MK wz_C9 wz_W9k rfl (lw_in_8 (p := 8) rfl) (ks := [0, 42, 0, 0, 0, 0, 0, 42, 0, 0, 0, 0, 0, 0, 0, 0, 0, 0, 0, 0, 0, 0, 0, 0, 0, 0, 0, 0]) (by decide +kernel)
set_option maxRecDepth 1000000 in
theorem mk_260 : ab_MK cm_ms mr_260 := wz_MK wz_C9 wz_W9k rfl (lw_in_8 (p := 0) rfl) (ks := [0, 38, 0, 0, 98, 0, 0, 0, 98, 0, 0, 0, 0, 99, 0, 0, 0, 39, 0]) (by decide +kernel)
set_option maxRecDepth 1000000 in
theorem mk_261 : ab_MK cm_ms mr_261 := wz_MK wz_C9 wz_W9k rfl (lw_in_8 (p := 21) rfl) (ks := [0, 0, 42, 0, 0, 0, 0, 0, 0, 100, 0, 0, 0, 0, 0, 100, 0, 0, 99, 0, 0, 0, 0, 101, 0, 0, 0, 0, 102, 0, 100, 0, 0, 103, 0, 0, 43, 0, 0, 0, 0, 0, 42, 0, 0, 0, 0, 0, 64, 0, 0, 0, 100, 0, 0, 0, 0, 0, 0, 0, 0, 0, 0, 0, 0, 0, 0, 0, 100, 0, 0, 0, 0, 0, 99, 0, 104, 0, 0, 0]) (by decide +kernel)
set_option maxRecDepth 1000000 in
theorem mk_262 : ab_MK cm_ms mr_262 := wz_MK wz_C9 wz_W9k rfl (lw_in_8 (p := 16) rfl) (ks := [0, 105, 102, 0, 100, 0, 0, 0, 0, 0, 0, 0, 104, 0]) (by decide +kernel)
set_option maxRecDepth 1000000 in
theorem mk_263 : ab_MK cm_ms mr_263 := wz_MK wz_C9 wz_W9k rfl (lw_in_8 (p := 12) rfl) (ks := [0, 38, 0, 68, 0, 0, 0, 39, 0, 0, 42, 0, 0, 0, 0, 0, 0, 0, 106, 0, 101, 0]) (by decide +kernel)
set_option maxRecDepth 1000000 in
theorem mk_264 : ab_MK cm_ms mr_264 := wz_MK wz_C9 wz_W9k rfl (lw_in_8 (p := 25) rfl) (ks := [0, 38, 0, 0, 98, 0, 0, 0, 39, 0, 0, 106, 0, 103, 0, 0, 0]) (by decide +kernel)
set_option maxRecDepth 1000000 in
theorem mk_265 : ab_MK cm_ms mr_265 := wz_MK wz_C9 wz_W9k rfl (lw_in_8 (p := 37) rfl) (ks := [0, 0, 76, 45, 0, 0, 0, 0, 42, 0, 0, 0, 0, 0, 64, 0, 0, 0, 76, 0, 75, 0, 0, 0, 0, 0, 0, 0, 0, 0, 0, 0, 0, 42, 0, 0, 0, 0, 0, 0, 76, 0, 0, 0, 0, 0, 42, 0, 0, 0, 0, 0, 0, 0, 0, 0, 0, 0, 0, 0, 0, 0]) (by decide +kernel)
/-! checks of methods -/
set_option maxRecDepth 1000000 in
theorem mk_266 : ab_MK cm_ms mr_266 := wz_MK wz_C9 wz_W9k rfl (lw_in_8 (p := 33) rfl) (ks := [0, 0, 0, 0, 107, 0, 0, 108, 0, 0, 0, 42, 0, 0, 0, 0, 0, 109, 0, 0, 0, 0, 0, 0, 110, 0, 0, 0, 0, 0, 0, 0, 0, 0, 0, 42, 0, 0, 0, 0, 0, 0, 111, 0, 0, 0, 112, 0, 0, 0, 0, 0, 0, 112, 0, 0, 107, 0, 0, 113, 0, 0, 108, 0, 0, 114, 0, 0, 109, 0, 0, 0, 0, 42, 0, 0, 0, 0, 110, 0, 0, 0, 0, 0, 0, 0, 0, 0, 0, 0, 0, 0, 0, 0, 112, 0, 0, 0, 109, 0, 0]) (by decide +kernel)
set_option maxRecDepth 1000000 in
theorem mk_267 : ab_MK cm_ms mr_267 := wz_MK wz_C9 wz_W9k rfl (lw_in_8 (p := 29) rfl) (ks := [0, 38, 0, 68, 0, 0, 0, 39, 0, 0, 0, 115, 0, 0, 112, 0]) (by decide +kernel)
set_option maxRecDepth 1000000 in
theorem mk_268 : ab_MK cm_ms mr_268 := wz_MK wz_C9 wz_W9k rfl (lw_in_8 (p := 41) rfl) (ks := [0, 38, 0, 68, 0, 0, 0, 0, 0, 39, 0, 0, 0, 115, 0, 0, 0, 0, 0, 39, 0, 0, 0]) (by decide +kernel)
set_option maxRecDepth 1000000 in
theorem mk_269 : ab_MK cm_ms mr_269 := wz_MK wz_C9 wz_W9k rfl (lw_in_8 (p := 45) rfl) (ks := [0, 38, 0, 68, 0, 0, 0, 39, 0, 0, 0, 115, 0, 0, 113, 0]) (by decide +kernel)
set_option maxRecDepth 1000000 in
theorem mk_270 : ab_MK cm_ms mr_270 := wz_MK wz_C9 wz_W9k rfl (lw_in_8 (p := 49) rfl) (ks := [0, 38, 0, 68, 0, 0, 0, 39, 0, 0, 0, 115, 0, 0, 114, 0]) (by decide +kernel)
set_option maxRecDepth 1000000 in
theorem mk_271 : ab_MK cm_ms mr_271 := wz_MK wz_C9 wz_W9k rfl (lw_in_8 (p := 61) rfl) (ks := [0, 110, 0, 0, 0, 112, 0, 110, 0, 0, 0, 0, 0, 110, 0, 0, 0, 0, 112, 0, 110, 0, 0, 0, 0]) (by decide +kernel)
set_option maxRecDepth 1000000 in
theorem mk_272 : ab_MK cm_ms mr_272 := wz_MK wz_C9 wz_W9k rfl (lw_in_8 (p := 57) rfl) (ks := [0, 0, 115, 0, 0, 0, 0, 0, 0, 0, 42, 0, 0, 0, 0, 112, 0, 0, 0, 0, 0, 116, 0, 0, 116, 0, 0, 0, 0, 0, 0, 0]) (by decide +kernel)
set_option maxRecDepth 1000000 in
theorem mk_273 : ab_MK cm_ms mr_273 := wz_MK wz_C9 wz_W9k rfl (lw_in_8 (p := 53) rfl) (ks := [0, 38, 0, 68, 0, 0, 117, 0, 0, 0, 39, 0]) (by decide +kernel)
set_option maxRecDepth 1000000 in
theorem mk_274 : ab_MK cm_ms mr_274 := wz_MK wz_C9 wz_W9k rfl (lw_in_8 (p := 65) rfl) (ks := [0, 38, 0, 68, 0, 0, 0, 39, 0, 0, 117, 0, 0, 0, 0, 0, 0, 0, 116, 0]) (by decide +kernel)
set_option maxRecDepth 1000000 in
theorem mk_275 : ab_MK cm_ms mr_275 := wz_MK wz_C9 wz_W9k rfl (lw_in_8 (p := 72) rfl) (ks := [0, 0, 0, 0, 0, 0, 0, 0, 0, 0, 0, 0, 0, 0, 0]) (by decide +kernel)
set_option maxRecDepth 1000000 in
theorem mk_276 : ab_MK cm_ms mr_276 := wz_MK wz_C9 wz_W9k rfl (lw_in_8 (p := 69) rfl) (ks := [0, 38, 0, 0, 68, 0, 0, 0, 34, 86, 0, 0, 0, 0, 0, 0, 0, 0, 118, 0, 0, 0, 0, 118, 0, 0, 0, 2, 0, 0]) (by decide +kernel)
set_option maxRecDepth 1000000 in
theorem mk_277 : ab_MK cm_ms mr_277 := wz_MK wz_C9 wz_W9k rfl (lw_in_8 (p := 83) rfl) (ks := [0, 0, 0, 0, 0, 0, 0, 118, 0, 0, 0, 118, 0, 0, 0, 0, 0, 0, 0, 0, 118, 0, 0, 0, 118, 0, 0, 0, 0, 0]) (by decide +kernel)
set_option maxRecDepth 1000000 in
theorem mk_278 : ab_MK cm_ms mr_278 := wz_MK wz_C9 wz_W9k rfl (lw_in_8 (p := 80) rfl) (ks := [0, 0, 0, 0, 119, 0, 0, 0, 0, 0, 0, 0, 0, 0, 0, 0, 0, 0, 0, 0, 0, 0, 0, 0, 0, 120, 0, 0, 0, 0, 0, 0, 0, 0, 0, 0, 0, 0, 0, 0, 119, 0, 0, 0, 0, 0]) (by decide +kernel)
set_option maxRecDepth 1000000 in
theorem mk_279 : ab_MK cm_ms mr_279 := wz_MK wz_C9 wz_W9k rfl (lw_in_8 (p := 76) rfl) (ks := [0, 38, 0, 0, 68, 0, 0, 0, 34, 86, 0, 0, 0, 0, 0, 39, 0, 0, 0, 121, 0]) (by decide +kernel)
set_option maxRecDepth 1000000 in
theorem mk_280 : ab_MK cm_ms mr_280 := wz_MK wz_C9 wz_W9k rfl (lw_in_8 (p := 87) rfl) (ks := [0, 38, 0, 0, 68, 0, 0, 0, 34, 86, 0, 0, 0, 0, 0, 39, 0, 0, 0, 121, 0, 0, 122, 0]) (by decide +kernel)
set_option maxRecDepth 1000000 in
theorem mk_281 : ab_MK cm_ms mr_281 := wz_MK wz_C9 wz_W9k rfl (lw_in_8 (p := 95) rfl) (ks := [0, 0, 123, 0, 0, 124, 0, 0, 125, 0, 0, 0, 0, 83, 0, 0, 0, 87, 0, 0, 0, 0, 0, 0, 42, 0, 0, 0, 0, 0, 0, 64, 0, 0, 42, 0, 0, 0, 0, 0, 0, 42, 0, 0, 0, 0, 0, 0, 0, 0, 64, 0, 0, 76, 0, 0, 0, 0, 0, 0, 0, 126, 0, 0, 123, 0, 0, 127, 0, 0, 76, 0, 74, 0, 0, 0, 0, 0, 124, 0, 0, 128, 0, 0, 0, 76, 0, 73, 0, 0, 0, 125, 0, 0, 0]) (by decide +kernel)
set_option maxRecDepth 1000000 in
theorem mk_282 : ab_MK cm_ms mr_282 := wz_MK wz_C9 wz_W9k rfl (lw_in_8 (p := 91) rfl) (ks := [0, 38, 0, 0, 80, 0, 0, 0, 39, 0, 0, 0, 0, 129, 0, 127, 0, 126, 0, 130, 0]) (by decide +kernel)
set_option maxRecDepth 1000000 in
theorem mk_283 : ab_MK cm_ms mr_283 := wz_MK wz_C9 wz_W9k rfl (lw_in_8 (p := 102) rfl) (ks := [0, 38, 0, 0, 80, 0, 0, 0, 39, 0, 0, 0, 0, 129, 0, 128, 0, 126, 0, 130, 0]) (by decide +kernel)
set_option maxRecDepth 1000000 in
theorem mk_284 : ab_MK cm_ms mr_284 := wz_MK wz_C9 wz_W9k rfl (lw_in_8 (p := 110) rfl) (ks := [0, 0, 0, 0, 0, 0, 131, 34, 0, 0, 0, 0, 34, 0, 0, 0, 0, 0, 87, 0, 0, 132, 0, 0, 0, 0, 0, 0, 0, 0, 0, 76, 77, 0, 0, 0, 0, 42, 0, 0, 0, 0, 0, 0, 0, 0, 133, 0, 0, 0, 0, 0, 0, 42, 0, 0, 0, 0, 76, 0, 0, 0, 0, 0, 0, 134, 0, 0, 0, 0, 0, 76, 0, 74, 0, 0, 0, 132, 0, 0, 0, 0]) (by decide +kernel)
set_option maxRecDepth 1000000 in
theorem mk_285 : ab_MK cm_ms mr_285 := wz_MK wz_C9 wz_W9k rfl (lw_in_8 (p := 106) rfl) (ks := [0, 38, 0, 0, 0, 78, 0, 0, 0, 135, 0, 0, 0, 0, 0, 39, 0, 0, 76, 0, 0, 0]) (by decide +kernel)
set_option maxRecDepth 1000000 in
theorem mk_286 : ab_MK cm_ms mr_286 := wz_MK wz_C9 wz_W9k rfl (lw_in_8 (p := 116) rfl) (ks := [0, 38, 0, 0, 0, 80, 0, 0, 0, 135, 0, 0, 0, 0, 0, 39, 0, 0, 134, 0]) (by decide +kernel)
set_option maxRecDepth 1000000 in
theorem mk_287 : ab_MK cm_ms mr_287 := wz_MK wz_C9 wz_W9k rfl (lw_in_8 (p := 124) rfl) (ks := [0, 136, 0, 0, 0, 0, 0, 0, 0, 0, 137, 0, 0, 137, 0, 0, 0, 0, 0, 0, 0, 0, 0, 136, 0, 0, 47, 0, 44, 0, 0, 137, 0, 0, 136, 0, 0, 43, 0, 0, 136, 0, 0, 47, 0]) (by decide +kernel)
set_option maxRecDepth 1000000 in
theorem mk_288 : ab_MK cm_ms mr_288 := wz_MK wz_C9 wz_W9k rfl (lw_in_8 (p := 120) rfl) (ks := [0, 38, 0, 0, 80, 0, 0, 0, 39, 0, 0, 0, 44, 0, 81, 0, 0, 0, 39, 0, 0, 138, 0, 0, 44, 0, 89, 0, 0, 0, 0, 0]) (by decide +kernel)
set_option maxRecDepth 1000000 in
theorem mk_289 : ab_MK cm_ms mr_289 := wz_MK wz_C9 wz_W9k rfl (lw_in_8 (p := 128) rfl) (ks := [0, 38, 0, 68, 0, 0, 0, 39, 0, 0, 44, 0, 0, 0, 0, 0, 0, 39, 0, 0, 138, 0, 0, 44, 77, 0, 0, 44, 82, 0]) (by decide +kernel)
set_option maxRecDepth 1000000 in
theorem mk_290 : ab_MK cm_ms mr_290 := wz_MK wz_C9 wz_W9k rfl (lw_in_8 (p := 132) rfl) (ks := [0, 38, 0, 0, 78, 0, 0, 0, 39, 0, 0, 44, 0, 0, 0, 0, 0, 39, 0, 0, 138, 0, 44, 0, 0, 0, 0, 44, 0, 0, 0, 0, 44, 0, 0, 42, 0, 0, 0, 0, 0, 0, 0, 0, 0, 0, 0, 0, 0, 0]) (by decide +kernel)
set_option maxRecDepth 1000000 in
theorem mk_291 : ab_MK cm_ms mr_291 := wz_MK wz_C9 wz_W9k rfl (lw_in_8 (p := 136) rfl) (ks := [0, 38, 0, 136, 0, 0, 0, 139, 0, 0, 0, 136, 0, 0, 47, 0, 137, 0, 0, 136, 0, 0, 44, 0, 0, 43, 0, 0]) (by decide +kernel)
set_option maxRecDepth 1000000 in
theorem mk_292 : ab_MK cm_ms mr_292 := wz_MK wz_C9 wz_W9k rfl (lw_in_8 (p := 144) rfl) (ks := [0, 38, 0, 68, 0, 0, 0, 39, 0, 0, 140, 0, 0, 0, 0, 39, 0, 0, 44, 0, 0, 141, 0, 0, 140, 0, 0, 43, 0, 0, 140, 0, 0, 48, 0, 140, 0, 0, 0]) (by decide +kernel)
set_option maxRecDepth 1000000 in
theorem mk_293 : ab_MK cm_ms mr_293 := wz_MK wz_C9 wz_W9k rfl (lw_in_8 (p := 148) rfl) (ks := [0, 38, 0, 0, 0, 140, 0, 0, 34, 0, 0, 0, 139, 0, 0, 141, 0, 0, 0, 0, 44, 0, 0, 43, 0, 0, 47, 0, 0]) (by decide +kernel)
set_option maxRecDepth 1000000 in
theorem mk_294 : ab_MK cm_ms mr_294 := wz_MK wz_C9 wz_W9k rfl (lw_in_8 (p := 152) rfl) (ks := [0, 0, 0, 0, 0, 68, 0, 0, 0, 42, 0, 0, 0, 0, 44, 0, 0, 0, 64, 0, 0, 0, 0, 0, 0, 0, 1, 0, 0, 0, 0, 0, 0, 0, 1, 0, 0]) (by decide +kernel)
set_option maxRecDepth 1000000 in
theorem mk_295 : ab_MK cm_ms mr_295 := wz_MK wz_C9 wz_W9k rfl (lw_in_8 (p := 156) rfl) (ks := [0, 0, 1, 0, 0, 0, 0, 3, 0, 0, 68, 0, 0, 0, 0, 34, 0, 0, 0, 0, 0, 0, 0, 0, 34, 0, 0, 42, 0, 0, 0, 0, 0, 0, 0, 44, 0, 0, 0, 0, 0, 0, 0, 136, 0, 0, 0, 0, 0, 140, 0, 0, 0]) (by decide +kernel)
set_option maxRecDepth 1000000 in
theorem mk_296 : ab_MK cm_ms mr_296 := wz_MK wz_C9 wz_W9k rfl (lw_in_8 (p := 160) rfl) (ks := [0, 0, 1, 0, 66, 0]) (by decide +kernel)
/-! all of them -/
theorem mb_0 : ∀ q ∈ ms_0, ab_MK cm_ms q := List.forall_mem_cons.mpr ⟨mk_0, List.forall_mem_cons.mpr ⟨mk_1, List.forall_mem_cons.mpr ⟨mk_2, List.forall_mem_cons.mpr ⟨mk_3, List.forall_mem_cons.mpr ⟨mk_4, List.forall_mem_cons.mpr ⟨mk_5, List.forall_mem_cons.mpr ⟨mk_6, List.forall_mem_cons.mpr ⟨mk_7, List.forall_mem_cons.mpr ⟨mk_8, List.forall_mem_cons.mpr ⟨mk_9, List.forall_mem_cons.mpr ⟨mk_10, List.forall_mem_cons.mpr ⟨mk_11, List.forall_mem_cons.mpr ⟨mk_12, List.forall_mem_cons.mpr ⟨mk_13, List.forall_mem_cons.mpr ⟨mk_14, List.forall_mem_cons.mpr ⟨mk_15, List.forall_mem_cons.mpr ⟨mk_16, List.forall_mem_cons.mpr ⟨mk_17, List.forall_mem_cons.mpr ⟨mk_18, List.forall_mem_cons.mpr ⟨mk_19, fun _ h => absurd h List.not_mem_nil⟩⟩⟩⟩⟩⟩⟩⟩⟩⟩⟩⟩⟩⟩⟩⟩⟩⟩⟩⟩
theorem mb_1 : ∀ q ∈ ms_1, ab_MK cm_ms q := List.forall_mem_cons.mpr ⟨mk_20, List.forall_mem_cons.mpr ⟨mk_21, List.forall_mem_cons.mpr ⟨mk_22, List.forall_mem_cons.mpr ⟨mk_23, List.forall_mem_cons.mpr ⟨mk_24, List.forall_mem_cons.mpr ⟨mk_25, List.forall_mem_cons.mpr ⟨mk_26, List.forall_mem_cons.mpr ⟨mk_27, List.forall_mem_cons.mpr ⟨mk_28, List.forall_mem_cons.mpr ⟨mk_29, List.forall_mem_cons.mpr ⟨mk_30, List.forall_mem_cons.mpr ⟨mk_31, List.forall_mem_cons.mpr ⟨mk_32, List.forall_mem_cons.mpr ⟨mk_33, List.forall_mem_cons.mpr ⟨mk_34, List.forall_mem_cons.mpr ⟨mk_35, List.forall_mem_cons.mpr ⟨mk_36, List.forall_mem_cons.mpr ⟨mk_37, List.forall_mem_cons.mpr ⟨mk_38, List.forall_mem_cons.mpr ⟨mk_39, fun _ h => absurd h List.not_mem_nil⟩⟩⟩⟩⟩⟩⟩⟩⟩⟩⟩⟩⟩⟩⟩⟩⟩⟩⟩⟩
theorem mb_2 : ∀ q ∈ ms_2, ab_MK cm_ms q := List.forall_mem_cons.mpr ⟨mk_40, List.forall_mem_cons.mpr ⟨mk_41, List.forall_mem_cons.mpr ⟨mk_42, List.forall_mem_cons.mpr ⟨mk_43, List.forall_mem_cons.mpr ⟨mk_44, List.forall_mem_cons.mpr ⟨mk_45, List.forall_mem_cons.mpr ⟨mk_46, List.forall_mem_cons.mpr ⟨mk_47, List.forall_mem_cons.mpr ⟨mk_48, List.forall_mem_cons.mpr ⟨mk_49, List.forall_mem_cons.mpr ⟨mk_50, List.forall_mem_cons.mpr ⟨mk_51, List.forall_mem_cons.mpr ⟨mk_52, List.forall_mem_cons.mpr ⟨mk_53, List.forall_mem_cons.mpr ⟨mk_54, List.forall_mem_cons.mpr ⟨mk_55, List.forall_mem_cons.mpr ⟨mk_56, List.forall_mem_cons.mpr ⟨mk_57, List.forall_mem_cons.mpr ⟨mk_58, List.forall_mem_cons.mpr ⟨mk_59, fun _ h => absurd h List.not_mem_nil⟩⟩⟩⟩⟩⟩⟩⟩⟩⟩⟩⟩⟩⟩⟩⟩⟩⟩⟩⟩
theorem mb_3 : ∀ q ∈ ms_3, ab_MK cm_ms q := List.forall_mem_cons.mpr ⟨mk_60, List.forall_mem_cons.mpr ⟨mk_61, List.forall_mem_cons.mpr ⟨mk_62, List.forall_mem_cons.mpr ⟨mk_63, List.forall_mem_cons.mpr ⟨mk_64, List.forall_mem_cons.mpr ⟨mk_65, List.forall_mem_cons.mpr ⟨mk_66, List.forall_mem_cons.mpr ⟨mk_67, List.forall_mem_cons.mpr ⟨mk_68, List.forall_mem_cons.mpr ⟨mk_69, List.forall_mem_cons.mpr ⟨mk_70, List.forall_mem_cons.mpr ⟨mk_71, List.forall_mem_cons.mpr ⟨mk_72, List.forall_mem_cons.mpr ⟨mk_73, List.forall_mem_cons.mpr ⟨mk_74, List.forall_mem_cons.mpr ⟨mk_75, List.forall_mem_cons.mpr ⟨mk_76, List.forall_mem_cons.mpr ⟨mk_77, List.forall_mem_cons.mpr ⟨mk_78, List.forall_mem_cons.mpr ⟨mk_79, fun _ h => absurd h List.not_mem_nil⟩⟩⟩⟩⟩⟩⟩⟩⟩⟩⟩⟩⟩⟩⟩⟩⟩⟩⟩⟩
theorem mb_4 : ∀ q ∈ ms_4, ab_MK cm_ms q := List.forall_mem_cons.mpr ⟨mk_80, List.forall_mem_cons.mpr ⟨mk_81, List.forall_mem_cons.mpr ⟨mk_82, List.forall_mem_cons.mpr ⟨mk_83, List.forall_mem_cons.mpr ⟨mk_84, List.forall_mem_cons.mpr ⟨mk_85, List.forall_mem_cons.mpr ⟨mk_86, List.forall_mem_cons.mpr ⟨mk_87, List.forall_mem_cons.mpr ⟨mk_88, List.forall_mem_cons.mpr ⟨mk_89, List.forall_mem_cons.mpr ⟨mk_90, List.forall_mem_cons.mpr ⟨mk_91, List.forall_mem_cons.mpr ⟨mk_92, List.forall_mem_cons.mpr ⟨mk_93, List.forall_mem_cons.mpr ⟨mk_94, List.forall_mem_cons.mpr ⟨mk_95, List.forall_mem_cons.mpr ⟨mk_96, List.forall_mem_cons.mpr ⟨mk_97, List.forall_mem_cons.mpr ⟨mk_98, List.forall_mem_cons.mpr ⟨mk_99, fun _ h => absurd h List.not_mem_nil⟩⟩⟩⟩⟩⟩⟩⟩⟩⟩⟩⟩⟩⟩⟩⟩⟩⟩⟩⟩
theorem mb_5 : ∀ q ∈ ms_5, ab_MK cm_ms q := List.forall_mem_cons.mpr ⟨mk_100, List.forall_mem_cons.mpr ⟨mk_101, List.forall_mem_cons.mpr ⟨mk_102, List.forall_mem_cons.mpr ⟨mk_103, List.forall_mem_cons.mpr ⟨mk_104, List.forall_mem_cons.mpr ⟨mk_105, List.forall_mem_cons.mpr ⟨mk_106, List.forall_mem_cons.mpr ⟨mk_107, List.forall_mem_cons.mpr ⟨mk_108, List.forall_mem_cons.mpr ⟨mk_109, List.forall_mem_cons.mpr ⟨mk_110, List.forall_mem_cons.mpr ⟨mk_111, List.forall_mem_cons.mpr ⟨mk_112, List.forall_mem_cons.mpr ⟨mk_113, List.forall_mem_cons.mpr ⟨mk_114, List.forall_mem_cons.mpr ⟨mk_115, List.forall_mem_cons.mpr ⟨mk_116, List.forall_mem_cons.mpr ⟨mk_117, List.forall_mem_cons.mpr ⟨mk_118, List.forall_mem_cons.mpr ⟨mk_119, fun _ h => absurd h List.not_mem_nil⟩⟩⟩⟩⟩⟩⟩⟩⟩⟩⟩⟩⟩⟩⟩⟩⟩⟩⟩⟩
theorem mb_6 : ∀ q ∈ ms_6, ab_MK cm_ms q := List.forall_mem_cons.mpr ⟨mk_120, List.forall_mem_cons.mpr ⟨mk_121, List.forall_mem_cons.mpr ⟨mk_122, List.forall_mem_cons.mpr ⟨mk_123, List.forall_mem_cons.mpr ⟨mk_124, List.forall_mem_cons.mpr ⟨mk_125, List.forall_mem_cons.mpr ⟨mk_126, List.forall_mem_cons.mpr ⟨mk_127, List.forall_mem_cons.mpr ⟨mk_128, List.forall_mem_cons.mpr ⟨mk_129, List.forall_mem_cons.mpr ⟨mk_130, List.forall_mem_cons.mpr ⟨mk_131, List.forall_mem_cons.mpr ⟨mk_132, List.forall_mem_cons.mpr ⟨mk_133, List.forall_mem_cons.mpr ⟨mk_134, List.forall_mem_cons.mpr ⟨mk_135, List.forall_mem_cons.mpr ⟨mk_136, List.forall_mem_cons.mpr ⟨mk_137, List.forall_mem_cons.mpr ⟨mk_138, List.forall_mem_cons.mpr ⟨mk_139, fun _ h => absurd h List.not_mem_nil⟩⟩⟩⟩⟩⟩⟩⟩⟩⟩⟩⟩⟩⟩⟩⟩⟩⟩⟩⟩
theorem mb_7 : ∀ q ∈ ms_7, ab_MK cm_ms q := List.forall_mem_cons.mpr ⟨mk_140, List.forall_mem_cons.mpr ⟨mk_141, List.forall_mem_cons.mpr ⟨mk_142, List.forall_mem_cons.mpr ⟨mk_143, List.forall_mem_cons.mpr ⟨mk_144, List.forall_mem_cons.mpr ⟨mk_145, List.forall_mem_cons.mpr ⟨mk_146, List.forall_mem_cons.mpr ⟨mk_147, List.forall_mem_cons.mpr ⟨mk_148, List.forall_mem_cons.mpr ⟨mk_149, List.forall_mem_cons.mpr ⟨mk_150, List.forall_mem_cons.mpr ⟨mk_151, List.forall_mem_cons.mpr ⟨mk_152, List.forall_mem_cons.mpr ⟨mk_153, List.forall_mem_cons.mpr ⟨mk_154, List.forall_mem_cons.mpr ⟨mk_155, List.forall_mem_cons.mpr ⟨mk_156, List.forall_mem_cons.mpr ⟨mk_157, List.forall_mem_cons.mpr ⟨mk_158, List.forall_mem_cons.mpr ⟨mk_159, fun _ h => absurd h List.not_mem_nil⟩⟩⟩⟩⟩⟩⟩⟩⟩⟩⟩⟩⟩⟩⟩⟩⟩⟩⟩⟩
theorem mb_8 : ∀ q ∈ ms_8, ab_MK cm_ms q := List.forall_mem_cons.mpr ⟨mk_160, List.forall_mem_cons.mpr ⟨mk_161, List.forall_mem_cons.mpr ⟨mk_162, List.forall_mem_cons.mpr ⟨mk_163, List.forall_mem_cons.mpr ⟨mk_164, List.forall_mem_cons.mpr ⟨mk_165, List.forall_mem_cons.mpr ⟨mk_166, List.forall_mem_cons.mpr ⟨mk_167, List.forall_mem_cons.mpr ⟨mk_168, List.forall_mem_cons.mpr ⟨mk_169, List.forall_mem_cons.mpr ⟨mk_170, List.forall_mem_cons.mpr ⟨mk_171, List.forall_mem_cons.mpr ⟨mk_172, List.forall_mem_cons.mpr ⟨mk_173, List.forall_mem_cons.mpr ⟨mk_174, List.forall_mem_cons.mpr ⟨mk_175, List.forall_mem_cons.mpr ⟨mk_176, List.forall_mem_cons.mpr ⟨mk_177, List.forall_mem_cons.mpr ⟨mk_178, List.forall_mem_cons.mpr ⟨mk_179, fun _ h => absurd h List.not_mem_nil⟩⟩⟩⟩⟩⟩⟩⟩⟩⟩⟩⟩⟩⟩⟩⟩⟩⟩⟩⟩
theorem mb_9 : ∀ q ∈ ms_9, ab_MK cm_ms q := List.forall_mem_cons.mpr ⟨mk_180, List.forall_mem_cons.mpr ⟨mk_181, List.forall_mem_cons.mpr ⟨mk_182, List.forall_mem_cons.mpr ⟨mk_183, List.forall_mem_cons.mpr ⟨mk_184, List.forall_mem_cons.mpr ⟨mk_185, List.forall_mem_cons.mpr ⟨mk_186, List.forall_mem_cons.mpr ⟨mk_187, List.forall_mem_cons.mpr ⟨mk_188, List.forall_mem_cons.mpr ⟨mk_189, List.forall_mem_cons.mpr ⟨mk_190, List.forall_mem_cons.mpr ⟨mk_191, List.forall_mem_cons.mpr ⟨mk_192, List.forall_mem_cons.mpr ⟨mk_193, List.forall_mem_cons.mpr ⟨mk_194, List.forall_mem_cons.mpr ⟨mk_195, List.forall_mem_cons.mpr ⟨mk_196, List.forall_mem_cons.mpr ⟨mk_197, List.forall_mem_cons.mpr ⟨mk_198, List.forall_mem_cons.mpr ⟨mk_199, fun _ h => absurd h List.not_mem_nil⟩⟩⟩⟩⟩⟩⟩⟩⟩⟩⟩⟩⟩⟩⟩⟩⟩⟩⟩⟩
theorem mb_10 : ∀ q ∈ ms_10, ab_MK cm_ms q := List.forall_mem_cons.mpr ⟨mk_200, List.forall_mem_cons.mpr ⟨mk_201, List.forall_mem_cons.mpr ⟨mk_202, List.forall_mem_cons.mpr ⟨mk_203, List.forall_mem_cons.mpr ⟨mk_204, List.forall_mem_cons.mpr ⟨mk_205, List.forall_mem_cons.mpr ⟨mk_206, List.forall_mem_cons.mpr ⟨mk_207, List.forall_mem_cons.mpr ⟨mk_208, List.forall_mem_cons.mpr ⟨mk_209, List.forall_mem_cons.mpr ⟨mk_210, List.forall_mem_cons.mpr ⟨mk_211, List.forall_mem_cons.mpr ⟨mk_212, List.forall_mem_cons.mpr ⟨mk_213, List.forall_mem_cons.mpr ⟨mk_214, List.forall_mem_cons.mpr ⟨mk_215, List.forall_mem_cons.mpr ⟨mk_216, List.forall_mem_cons.mpr ⟨mk_217, List.forall_mem_cons.mpr ⟨mk_218, List.forall_mem_cons.mpr ⟨mk_219, fun _ h => absurd h List.not_mem_nil⟩⟩⟩⟩⟩⟩⟩⟩⟩⟩⟩⟩⟩⟩⟩⟩⟩⟩⟩⟩
theorem mb_11 : ∀ q ∈ ms_11, ab_MK cm_ms q := List.forall_mem_cons.mpr ⟨mk_220, List.forall_mem_cons.mpr ⟨mk_221, List.forall_mem_cons.mpr ⟨mk_222, List.forall_mem_cons.mpr ⟨mk_223, List.forall_mem_cons.mpr ⟨mk_224, List.forall_mem_cons.mpr ⟨mk_225, List.forall_mem_cons.mpr ⟨mk_226, List.forall_mem_cons.mpr ⟨mk_227, List.forall_mem_cons.mpr ⟨mk_228, List.forall_mem_cons.mpr ⟨mk_229, List.forall_mem_cons.mpr ⟨mk_230, List.forall_mem_cons.mpr ⟨mk_231, List.forall_mem_cons.mpr ⟨mk_232, List.forall_mem_cons.mpr ⟨mk_233, List.forall_mem_cons.mpr ⟨mk_234, List.forall_mem_cons.mpr ⟨mk_235, List.forall_mem_cons.mpr ⟨mk_236, List.forall_mem_cons.mpr ⟨mk_237, List.forall_mem_cons.mpr ⟨mk_238, List.forall_mem_cons.mpr ⟨mk_239, fun _ h => absurd h List.not_mem_nil⟩⟩⟩⟩⟩⟩⟩⟩⟩⟩⟩⟩⟩⟩⟩⟩⟩⟩⟩⟩
theorem mb_12 : ∀ q ∈ ms_12, ab_MK cm_ms q := List.forall_mem_cons.mpr ⟨mk_240, List.forall_mem_cons.mpr ⟨mk_241, List.forall_mem_cons.mpr ⟨mk_242, List.forall_mem_cons.mpr ⟨mk_243, List.forall_mem_cons.mpr ⟨mk_244, List.forall_mem_cons.mpr ⟨mk_245, List.forall_mem_cons.mpr ⟨mk_246, List.forall_mem_cons.mpr ⟨mk_247, List.forall_mem_cons.mpr ⟨mk_248, List.forall_mem_cons.mpr ⟨mk_249, List.forall_mem_cons.mpr ⟨mk_250, List.forall_mem_cons.mpr ⟨mk_251, List.forall_mem_cons.mpr ⟨mk_252, List.forall_mem_cons.mpr ⟨mk_253, List.forall_mem_cons.mpr ⟨mk_254, List.forall_mem_cons.mpr ⟨mk_255, List.forall_mem_cons.mpr ⟨mk_256, List.forall_mem_cons.mpr ⟨mk_257, List.forall_mem_cons.mpr ⟨mk_258, List.forall_mem_cons.mpr ⟨mk_259, fun _ h => absurd h List.not_mem_nil⟩⟩⟩⟩⟩⟩⟩⟩⟩⟩⟩⟩⟩⟩⟩⟩⟩⟩⟩⟩
theorem mb_13 : ∀ q ∈ ms_13, ab_MK cm_ms q := List.forall_mem_cons.mpr ⟨mk_260, List.forall_mem_cons.mpr ⟨mk_261, List.forall_mem_cons.mpr ⟨mk_262, List.forall_mem_cons.mpr ⟨mk_263, List.forall_mem_cons.mpr ⟨mk_264, List.forall_mem_cons.mpr ⟨mk_265, List.forall_mem_cons.mpr ⟨mk_266, List.forall_mem_cons.mpr ⟨mk_267, List.forall_mem_cons.mpr ⟨mk_268, List.forall_mem_cons.mpr ⟨mk_269, List.forall_mem_cons.mpr ⟨mk_270, List.forall_mem_cons.mpr ⟨mk_271, List.forall_mem_cons.mpr ⟨mk_272, List.forall_mem_cons.mpr ⟨mk_273, List.forall_mem_cons.mpr ⟨mk_274, List.forall_mem_cons.mpr ⟨mk_275, List.forall_mem_cons.mpr ⟨mk_276, List.forall_mem_cons.mpr ⟨mk_277, List.forall_mem_cons.mpr ⟨mk_278, List.forall_mem_cons.mpr ⟨mk_279, fun _ h => absurd h List.not_mem_nil⟩⟩⟩⟩⟩⟩⟩⟩⟩⟩⟩⟩⟩⟩⟩⟩⟩⟩⟩⟩
theorem mb_14 : ∀ q ∈ ms_14, ab_MK cm_ms q := List.forall_mem_cons.mpr ⟨mk_280, List.forall_mem_cons.mpr ⟨mk_281, List.forall_mem_cons.mpr ⟨mk_282, List.forall_mem_cons.mpr ⟨mk_283, List.forall_mem_cons.mpr ⟨mk_284, List.forall_mem_cons.mpr ⟨mk_285, List.forall_mem_cons.mpr ⟨mk_286, List.forall_mem_cons.mpr ⟨mk_287, List.forall_mem_cons.mpr ⟨mk_288, List.forall_mem_cons.mpr ⟨mk_289, List.forall_mem_cons.mpr ⟨mk_290, List.forall_mem_cons.mpr ⟨mk_291, List.forall_mem_cons.mpr ⟨mk_292, List.forall_mem_cons.mpr ⟨mk_293, List.forall_mem_cons.mpr ⟨mk_294, List.forall_mem_cons.mpr ⟨mk_295, List.forall_mem_cons.mpr ⟨mk_296, fun _ h => absurd h List.not_mem_nil⟩⟩⟩⟩⟩⟩⟩⟩⟩⟩⟩⟩⟩⟩⟩⟩⟩
theorem cm_ms_all : ∀ q ∈ cm_ms, ab_MK cm_ms q := List.forall_mem_append.mpr ⟨mb_0, List.forall_mem_append.mpr ⟨mb_1, List.forall_mem_append.mpr ⟨mb_2, List.forall_mem_append.mpr ⟨mb_3, List.forall_mem_append.mpr ⟨mb_4, List.forall_mem_append.mpr ⟨mb_5, List.forall_mem_append.mpr ⟨mb_6, List.forall_mem_append.mpr ⟨mb_7, List.forall_mem_append.mpr ⟨mb_8, List.forall_mem_append.mpr ⟨mb_9, List.forall_mem_append.mpr ⟨mb_10, List.forall_mem_append.mpr ⟨mb_11, List.forall_mem_append.mpr ⟨mb_12, List.forall_mem_append.mpr ⟨mb_13, mb_14⟩⟩⟩⟩⟩⟩⟩⟩⟩⟩⟩⟩⟩⟩
theorem cm_ms_ok : ∀ (k : Nat) (mi : ev_MI), cm_ms[k]? = some mi → cm_MOK cm_ms mi := fun k mi h => (cm_ms_all mi (List.mem_of_getElem? h)).1
theorem cm_ms_rc : ∀ (k : Nat) (mi : ev_MI), cm_ms[k]? = some mi → ∀ q ∈ mi.2.2.2.2.2.2, ab_RC cm_ms q := fun k mi h => (cm_ms_all mi (List.mem_of_getElem? h)).2
/-! AB: an interpreter over bounds. A value: (0, n) the int n, (1, cs) a reference to one of the cells cs, (2) null, (3, k) the k-th variable, (6) a long, (7, cs) null or one of cs -/
abbrev ab_A : Type := Nat × Int × List Nat
/-- a variable: its bounds, and the operation on two values that it is (0: none) -/
abbrev ab_Ke : Type := Int × Int × Nat × ab_A × ab_A
abbrev ab_K : Type := List ab_Ke
/-- what is known of places of the memory -/
abbrev ab_Ca : Type := List (Nat × Nat × ab_A)
abbrev ab_S : Type := Nat × List (Nat × ab_A) × List ab_A × ab_K × ab_Ca
def ab_c (n : Int) : ab_A := (0, n, [])
def ab_x (k : Nat) : ab_A := (3, (k : Int), [])
def ab_i (ρ : List Int32) (a : ab_A) : Option Int32 := match a.1 with
  | 0 => some (Int32.ofInt a.2.1)
  | 3 => ρ[a.2.1.toNat]?
  | _ => none
def ab_v (ρ : List Int32) (a : ab_A) (v : Value) : Prop := match a.1 with
  | 0 => v = .int (Int32.ofInt a.2.1)
  | 1 => ∃ c, c ∈ a.2.2 ∧ v = .ref c
  | 2 => v = .null
  | 3 => ∃ x, ρ[a.2.1.toNat]? = some x ∧ v = .int x
  | 6 => ∃ x, v = .long x
  | 7 => v = .null ∨ ∃ c, c ∈ a.2.2 ∧ v = .ref c
  | _ => False
def ab_isI (a : ab_A) : Bool := Nat.beq a.1 0 || Nat.beq a.1 3
theorem ab_vi {ρ : List Int32} {a : ab_A} {v : Value} (h : ab_isI a = true) (hv : ab_v ρ a v) : ∃ x, ab_i ρ a = some x ∧ v = .int x := by
  obtain ⟨t, n, cs⟩ := a
  simp only [ab_isI, Bool.or_eq_true, Nat.beq_eq] at h
  rcases h with rfl | rfl
  · exact ⟨_, rfl, hv⟩
  · exact hv
theorem ab_iv {ρ : List Int32} {a : ab_A} {x : Int32} (h : ab_i ρ a = some x) : ab_v ρ a (.int x) := by
  obtain ⟨t, n, cs⟩ := a
  unfold ab_i at h
  split at h
  · rename_i e
    dsimp only at e
    subst e
    cases h
    rfl
  · rename_i e
    dsimp only at e
    subst e
    exact ⟨x, h, rfl⟩
  · cases h
theorem ab_ivI {ρ : List Int32} {a : ab_A} {x : Int32} (h : ab_i ρ a = some x) : ab_isI a = true := by
  obtain ⟨t, n, cs⟩ := a
  unfold ab_i at h
  split at h
  · rename_i e
    dsimp only at e
    subst e
    rfl
  · rename_i e
    dsimp only at e
    subst e
    rfl
  · cases h
theorem ab_vint {ρ : List Int32} {a : ab_A} {x : Int32} (h : ab_v ρ a (.int x)) : ab_i ρ a = some x := by
  obtain ⟨t, n, cs⟩ := a
  unfold ab_v at h
  split at h
  · rename_i e
    dsimp only at e
    subst e
    cases h
    rfl
  · obtain ⟨c, -, h⟩ := h
    cases h
  · cases h
  · rename_i e
    dsimp only at e
    subst e
    obtain ⟨y, h1, h2⟩ := h
    cases h2
    exact h1
  · obtain ⟨c, h⟩ := h
    cases h
  · rcases h with h | ⟨c, -, h⟩ <;> cases h
  · exact h.elim
/-- the category of a value by its tag -/
theorem ab_cat {ρ : List Int32} {a : ab_A} {v : Value} (hv : ab_v ρ a v) : (a.1 = 6 ∧ v.category = 2) ∨ (a.1 ≠ 6 ∧ v.category = 1) := by
  obtain ⟨t, n, cs⟩ := a
  unfold ab_v at hv
  split at hv
  · rename_i e; dsimp only at e; subst e; subst hv; exact Or.inr ⟨(by dsimp only; omega), rfl⟩
  · rename_i e; dsimp only at e; subst e; obtain ⟨c, -, rfl⟩ := hv; exact Or.inr ⟨(by dsimp only; omega), rfl⟩
  · rename_i e; dsimp only at e; subst e; subst hv; exact Or.inr ⟨(by dsimp only; omega), rfl⟩
  · rename_i e; dsimp only at e; subst e; obtain ⟨c, -, rfl⟩ := hv; exact Or.inr ⟨(by dsimp only; omega), rfl⟩
  · rename_i e; dsimp only at e; subst e; obtain ⟨c, rfl⟩ := hv; exact Or.inl ⟨rfl, rfl⟩
  · rename_i e
    dsimp only at e
    subst e
    rcases hv with rfl | ⟨c, -, rfl⟩
    · exact Or.inr ⟨(by dsimp only; omega), rfl⟩
    · exact Or.inr ⟨(by dsimp only; omega), rfl⟩
  · exact hv.elim
/-- variables are added behind -/
theorem ab_i_ap {ρ ext : List Int32} {a : ab_A} {x : Int32} (h : ab_i ρ a = some x) : ab_i (ρ ++ ext) a = some x := by
  unfold ab_i at h ⊢
  split at h
  · exact h
  · exact ev_ap h
  · cases h
theorem ab_v_ap {ρ ext : List Int32} {a : ab_A} {v : Value} (h : ab_v ρ a v) : ab_v (ρ ++ ext) a v := by
  unfold ab_v at h ⊢
  split at h
  · exact h
  · exact h
  · exact h
  · obtain ⟨x, h1, h2⟩ := h
    exact ⟨x, ev_ap h1, h2⟩
  · exact h
  · exact h
  · exact h
def ab_e (ρ : List Int32) (r : ab_Ke) (x : Int32) : Prop := ev_inb (r.1, r.2.1) x ∧ (r.2.2.1 = 0 ∨ ∃ y z, ab_i ρ r.2.2.2.1 = some y ∧ ab_i ρ r.2.2.2.2 = some z ∧ x = ev_f r.2.2.1 y z)
def ab_k (ρ : List Int32) (K : ab_K) : Prop := K.length = ρ.length ∧ ∀ (j : Nat) (r : ab_Ke) (x : Int32), K[j]? = some r → ρ[j]? = some x → ab_e ρ r x
theorem ab_e_ap {ρ ext : List Int32} {r : ab_Ke} {x : Int32} (h : ab_e ρ r x) : ab_e (ρ ++ ext) r x := by
  refine ⟨h.1, ?_⟩
  rcases h.2 with h | ⟨y, z, h1, h2, h3⟩
  · exact Or.inl h
  · exact Or.inr ⟨y, z, ab_i_ap h1, ab_i_ap h2, h3⟩
/-- the bounds of an int -/
def ab_bd (K : ab_K) (a : ab_A) : Int × Int := match a.1 with
  | 0 => ((Int32.ofInt a.2.1).toInt, (Int32.ofInt a.2.1).toInt)
  | 3 => (match K[a.2.1.toNat]? with
    | some r => (r.1, r.2.1)
    | none => ev_ful)
  | _ => ev_ful
theorem ab_bd_in {ρ : List Int32} {K : ab_K} {a : ab_A} {x : Int32} (hk : ab_k ρ K) (h : ab_i ρ a = some x) : ev_inb (ab_bd K a) x := by
  unfold ab_i at h
  unfold ab_bd
  split at h
  · cases h
    exact ⟨Int.le_refl _, Int.le_refl _⟩
  · split
    · rename_i r hr
      exact (hk.2 _ r x hr h).1
    · exact ev_ful_in x
  · cases h
/-- a new variable, or a number where both are numbers -/
def ab_new (K : ab_K) (op : Nat) (a b : ab_A) : ab_A × ab_K :=
  if a.1 == 0 && b.1 == 0 then (ab_c (ev_f op (Int32.ofInt a.2.1) (Int32.ofInt b.2.1)).toInt, K)
  else (ab_x K.length, K ++ [((ev_bd op (ab_bd K a) (ab_bd K b)).1, (ev_bd op (ab_bd K a) (ab_bd K b)).2, op, a, b)])
def ab_any (K : ab_K) (b : Int × Int) : ab_A × ab_K := (ab_x K.length, K ++ [(b.1, b.2, 0, ab_c 0, ab_c 0)])
theorem ab_push {ρ : List Int32} {K : ab_K} {r : ab_Ke} {x : Int32} (hk : ab_k ρ K) (hr : ab_e ρ r x) : ab_k (ρ ++ [x]) (K ++ [r]) := by
  refine ⟨by simp [hk.1], fun j q y h1 h2 => ?_⟩
  by_cases hj : j < K.length
  · rw [List.getElem?_append_left hj] at h1
    rw [List.getElem?_append_left (by rw [← hk.1]; exact hj)] at h2
    exact ab_e_ap (hk.2 j q y h1 h2)
  · rw [List.getElem?_append_right (by omega)] at h1
    rw [List.getElem?_append_right (by rw [← hk.1]; omega)] at h2
    have h3 : j - K.length < 1 := (List.getElem?_eq_some_iff.mp h1).1
    have h4 : j - K.length = 0 := by omega
    have h5 : j - ρ.length = 0 := by rw [← hk.1]; omega
    rw [h4] at h1
    rw [h5] at h2
    cases h1
    cases h2
    exact ab_e_ap hr
theorem ab_x_at {ρ : List Int32} {K : ab_K} (hk : ab_k ρ K) (x : Int32) : ab_i (ρ ++ [x]) (ab_x K.length) = some x := by
  show (ρ ++ [x])[((K.length : Int)).toNat]? = some x
  rw [Int.toNat_natCast, hk.1]
  simp
theorem ab_c_at (ρ : List Int32) (x : Int32) : ab_i ρ (ab_c x.toInt) = some x := by
  show some (Int32.ofInt x.toInt) = some x
  rw [Int32.ofInt_toInt]
theorem ab_new_ok {ρ : List Int32} {K K' : ab_K} {op : Nat} {a b c : ab_A} {x y : Int32} (hk : ab_k ρ K) (ha : ab_i ρ a = some x) (hb : ab_i ρ b = some y) (h : ab_new K op a b = (c, K')) : ∃ ext, ab_k (ρ ++ ext) K' ∧ ab_i (ρ ++ ext) c = some (ev_f op x y) := by
  unfold ab_new at h
  split at h
  · rename_i hz
    cases h
    simp only [Bool.and_eq_true, beq_iff_eq] at hz
    obtain ⟨ta, na, ca⟩ := a
    obtain ⟨tb, nb, cb⟩ := b
    obtain ⟨rfl, rfl⟩ := hz
    cases ha
    cases hb
    exact ⟨[], by simpa using hk, by rw [List.append_nil]; exact ab_c_at _ _⟩
  · cases h
    exact ⟨[ev_f op x y], ab_push hk ⟨ev_bd_in (ab_bd_in hk ha) (ab_bd_in hk hb), Or.inr ⟨x, y, ha, hb, rfl⟩⟩, ab_x_at hk _⟩
theorem ab_any_ok {ρ : List Int32} {K K' : ab_K} {b : Int × Int} {c : ab_A} {x : Int32} (hk : ab_k ρ K) (hx : ev_inb b x) (h : ab_any K b = (c, K')) : ∃ ext, ab_k (ρ ++ ext) K' ∧ ab_i (ρ ++ ext) c = some x := by
  cases h
  exact ⟨[x], ab_push hk ⟨hx, Or.inl rfl⟩, ab_x_at hk _⟩
/-! bounds are narrowed -/
def ab_set1 (K : ab_K) (a : ab_A) (b : Int × Int) : ab_K := if a.1 == 3 then (match K[a.2.1.toNat]? with
    | some r => K.set a.2.1.toNat (b.1, b.2, r.2.2)
    | none => K) else K
theorem ab_set1_ok {ρ : List Int32} {K : ab_K} {a : ab_A} {b : Int × Int} {x : Int32} (hk : ab_k ρ K) (ha : ab_i ρ a = some x) (hb : ev_inb b x) : ab_k ρ (ab_set1 K a b) := by
  unfold ab_set1
  split
  · rename_i h3
    split
    · rename_i r hr
      have hl := (List.getElem?_eq_some_iff.mp hr).1
      refine ⟨by rw [List.length_set]; exact hk.1, fun j q y h1 h2 => ?_⟩
      by_cases hj : j = a.2.1.toNat
      · subst hj
        rw [List.getElem?_set_self hl] at h1
        cases h1
        have h4 : a.1 = 3 := beq_iff_eq.mp h3
        unfold ab_i at ha
        rw [h4] at ha
        have ha : ρ[a.2.1.toNat]? = some x := ha
        rw [ha] at h2
        cases h2
        exact ⟨hb, (hk.2 _ r x hr ha).2⟩
      · rw [List.getElem?_set_ne (Ne.symm hj)] at h1
        exact hk.2 j q y h1 h2
    · exact hk
  · exact hk
/-- the bounds of x when x r y holds -/
def ab_nar (r : Nat) (x y : Int × Int) : Int × Int := match r with
  | 0 => (max x.1 y.1, min x.2 y.2)
  | 1 => if y.1 = y.2 then (if x.1 = y.1 then (x.1 + 1, x.2) else if x.2 = y.1 then (x.1, x.2 - 1) else x) else x
  | 2 => (x.1, min x.2 (y.2 - 1))
  | 3 => (max x.1 y.1, x.2)
  | 4 => (max x.1 (y.1 + 1), x.2)
  | _ => (x.1, min x.2 y.2)
theorem ab_nar_in {r : Nat} {b d : Int × Int} {x y : Int32} (hx : ev_inb b x) (hy : ev_inb d y) (h : ev_cmp r x y = true) : ev_inb (ab_nar r b d) x := by
  obtain ⟨x1, x2⟩ := hx
  obtain ⟨y1, y2⟩ := hy
  unfold ab_nar
  unfold ev_cmp at h
  split
  · have h : x = y := of_decide_eq_true h
    subst h
    exact ⟨by dsimp only; omega, by dsimp only; omega⟩
  · have h : ¬ x = y := by simpa using h
    have h : x.toInt ≠ y.toInt := fun q => h (Int32.toInt_inj.mp q)
    split
    · split
      · exact ⟨by dsimp only; omega, by dsimp only; omega⟩
      · split
        · exact ⟨by dsimp only; omega, by dsimp only; omega⟩
        · exact ⟨x1, x2⟩
    · exact ⟨x1, x2⟩
  · have h := Int32.lt_iff_toInt_lt.mp (of_decide_eq_true h)
    exact ⟨by dsimp only; omega, by dsimp only; omega⟩
  · have h := Int32.le_iff_toInt_le.mp (of_decide_eq_true h)
    exact ⟨by dsimp only; omega, by dsimp only; omega⟩
  · have h := Int32.lt_iff_toInt_lt.mp (of_decide_eq_true h)
    exact ⟨by dsimp only; omega, by dsimp only; omega⟩
  · rename_i n0 n1 n2 n3 n4
    have h : x ≤ y := by
      rcases r with _ | _ | _ | _ | _ | r
      · exact absurd rfl n0
      · exact absurd rfl n1
      · exact absurd rfl n2
      · exact absurd rfl n3
      · exact absurd rfl n4
      · exact of_decide_eq_true h
    have h := Int32.le_iff_toInt_le.mp h
    exact ⟨by dsimp only; omega, by dsimp only; omega⟩
def ab_swp (r : Nat) : Nat := match r with
  | 0 => 0
  | 1 => 1
  | 2 => 4
  | 3 => 5
  | 4 => 2
  | _ => 3
theorem ab_swp_ok {r : Nat} {x y : Int32} (h : ev_cmp r x y = true) : ev_cmp (ab_swp r) y x = true := by
  rcases r with _ | _ | _ | _ | _ | r
  · simp only [ev_cmp, ab_swp, decide_eq_true_eq] at h ⊢
    exact h.symm
  · simp only [ev_cmp, ab_swp, Bool.not_eq_true', decide_eq_false_iff_not] at h ⊢
    exact fun q => h q.symm
  · simpa [ev_cmp, ab_swp] using h
  · simpa [ev_cmp, ab_swp] using h
  · simpa [ev_cmp, ab_swp] using h
  · simpa [ev_cmp, ab_swp] using h
def ab_ngt (r : Nat) : Nat := match r with
  | 0 => 1
  | 1 => 0
  | 2 => 3
  | 3 => 2
  | 4 => 5
  | _ => 4
theorem ab_ngt_ok {r : Nat} {x y : Int32} (h : ev_cmp r x y = false) : ev_cmp (ab_ngt r) x y = true := by
  rcases r with _ | _ | _ | _ | _ | r
  · simpa [ev_cmp, ab_ngt] using h
  · simpa [ev_cmp, ab_ngt] using h
  · simpa [ev_cmp, ab_ngt] using h
  · simpa [ev_cmp, ab_ngt] using h
  · simpa [ev_cmp, ab_ngt] using h
  · simpa [ev_cmp, ab_ngt] using h
/-- back through a sum: x + c within bounds, so x -/
def ab_back (K : ab_K) (a : ab_A) : ab_K := if a.1 == 3 then (match K[a.2.1.toNat]? with
    | some r => (match r.2.2.2.2.1 with
      | 0 =>
        let u := r.2.2.2.1
        let c := (Int32.ofInt r.2.2.2.2.2.1).toInt
        let b := ab_bd K u
        if r.2.2.1 = 1 ∧ -2147483648 ≤ b.1 + c ∧ b.2 + c ≤ 2147483647 then ab_set1 K u (max b.1 (r.1 - c), min b.2 (r.2.1 - c))
        else if r.2.2.1 = 2 ∧ -2147483648 ≤ b.1 - c ∧ b.2 - c ≤ 2147483647 then ab_set1 K u (max b.1 (r.1 + c), min b.2 (r.2.1 + c))
        else K
      | _ => K)
    | none => K) else K
theorem ab_back_ok {ρ : List Int32} {K : ab_K} {a : ab_A} {x : Int32} (hk : ab_k ρ K) (ha : ab_i ρ a = some x) : ab_k ρ (ab_back K a) := by
  unfold ab_back
  split
  · rename_i h3
    split
    · rename_i r hr
      split
      · rename_i h0
        have h4 : a.1 = 3 := beq_iff_eq.mp h3
        unfold ab_i at ha
        rw [h4] at ha
        have ha : ρ[a.2.1.toNat]? = some x := ha
        obtain ⟨⟨b1, b2⟩, hd⟩ := hk.2 _ r x hr ha
        dsimp only at b1 b2 ⊢
        have hc : ab_i ρ r.2.2.2.2 = some (Int32.ofInt r.2.2.2.2.2.1) := by
          unfold ab_i
          rw [h0]
          rfl
        split
        · rename_i hc1
          rcases hd with hd | ⟨y, z, hy, hz, e⟩
          · omega
          · rw [hc] at hz
            cases hz
            obtain ⟨y1, y2⟩ := ab_bd_in hk hy
            rw [hc1.1] at e
            have e : x = y + Int32.ofInt r.2.2.2.2.2.1 := e
            have e2 : x.toInt = y.toInt + (Int32.ofInt r.2.2.2.2.2.1).toInt := by
              rw [e, Int32.toInt_add]
              exact ev_bm (by omega) (by omega)
            exact ab_set1_ok hk hy ⟨by dsimp only; omega, by dsimp only; omega⟩
        · split
          · rename_i hc1
            rcases hd with hd | ⟨y, z, hy, hz, e⟩
            · omega
            · rw [hc] at hz
              cases hz
              obtain ⟨y1, y2⟩ := ab_bd_in hk hy
              rw [hc1.1] at e
              have e : x = y - Int32.ofInt r.2.2.2.2.2.1 := e
              have e2 : x.toInt = y.toInt - (Int32.ofInt r.2.2.2.2.2.1).toInt := by
                rw [e, Int32.toInt_sub]
                exact ev_bm (by omega) (by omega)
              exact ab_set1_ok hk hy ⟨by dsimp only; omega, by dsimp only; omega⟩
          · exact hk
      · exact hk
    · exact hk
  · exact hk
/-- a relation: r is y - x within bounds, so x is at most y's highest less r's lowest -/
def ab_rel1 (K : ab_K) (r : ab_Ke) : ab_K := if -2147483648 ≤ (ab_bd K r.2.2.2.1).1 - (ab_bd K r.2.2.2.2).2 ∧ (ab_bd K r.2.2.2.1).2 - (ab_bd K r.2.2.2.2).1 ≤ 2147483647 then ab_set1 K r.2.2.2.2 ((ab_bd K r.2.2.2.2).1, min (ab_bd K r.2.2.2.2).2 ((ab_bd K r.2.2.2.1).2 - r.1)) else K
def ab_rel : List ab_Ke → ab_K → ab_K
  | [], K => K
  | r :: l, K => ab_rel l (if r.2.2.1 = 22 then ab_rel1 K r else K)
theorem ab_rel1_ok {ρ : List Int32} {K : ab_K} {r : ab_Ke} {w : Int32} (hk : ab_k ρ K) (h22 : r.2.2.1 = 22) (hr : ab_e ρ r w) : ab_k ρ (ab_rel1 K r) := by
  unfold ab_rel1
  split
  · rename_i hc
    rcases hr.2 with hz | ⟨y, x, hy, hx, e⟩
    · omega
    · obtain ⟨y1, y2⟩ := ab_bd_in hk hy
      obtain ⟨x1, x2⟩ := ab_bd_in hk hx
      obtain ⟨w1, w2⟩ := hr.1
      rw [h22] at e
      have e : w = y - x := e
      have e2 : w.toInt = y.toInt - x.toInt := by
        rw [e, Int32.toInt_sub]
        exact ev_bm (by omega) (by omega)
      dsimp only at w1 w2
      exact ab_set1_ok hk hx ⟨by dsimp only; omega, by dsimp only; omega⟩
  · exact hk
theorem ab_rel_ok {ρ : List Int32} : ∀ (l : List ab_Ke) {K : ab_K}, (∀ r ∈ l, ∃ w, ab_e ρ r w) → ab_k ρ K → ab_k ρ (ab_rel l K)
  | [], K, _, hk => hk
  | r :: l, K, hl, hk => by
    unfold ab_rel
    refine ab_rel_ok l (fun q hq => hl q (List.mem_cons_of_mem _ hq)) ?_
    split
    · rename_i h22
      obtain ⟨w, hw⟩ := hl r List.mem_cons_self
      exact ab_rel1_ok hk h22 hw
    · exact hk
theorem ab_k_all {ρ : List Int32} {K : ab_K} (hk : ab_k ρ K) : ∀ r ∈ K, ∃ w, ab_e ρ r w := by
  intro r hr
  obtain ⟨j, hj⟩ := List.getElem?_of_mem hr
  have hl : j < ρ.length := by rw [← hk.1]; exact (List.getElem?_eq_some_iff.mp hj).1
  exact ⟨ρ[j], hk.2 j r _ hj (List.getElem?_eq_getElem hl)⟩
/-- what is known when a r b holds: none if it can't -/
def ab_br (r : Nat) (a b : ab_A) (K : ab_K) : Option ab_K :=
  let x := ab_bd K a
  let y := ab_bd K b
  let x' := ab_nar r x y
  let y' := ab_nar (ab_swp r) y x
  if x'.1 ≤ x'.2 ∧ y'.1 ≤ y'.2 then some (ab_rel K (ab_back (ab_back (ab_set1 (ab_set1 K a x') b y') a) b)) else none
theorem ab_br_ok {ρ : List Int32} {K : ab_K} {r : Nat} {a b : ab_A} {x y : Int32} (hk : ab_k ρ K) (ha : ab_i ρ a = some x) (hb : ab_i ρ b = some y) (h : ev_cmp r x y = true) : ∃ K', ab_br r a b K = some K' ∧ ab_k ρ K' := by
  have hx := ab_bd_in hk ha
  have hy := ab_bd_in hk hb
  have h1 := ab_nar_in hx hy h
  have h2 := ab_nar_in hy hx (ab_swp_ok h)
  unfold ab_br
  dsimp only
  rw [if_pos ⟨Int.le_trans h1.1 h1.2, Int.le_trans h2.1 h2.2⟩]
  exact ⟨_, rfl, ab_rel_ok K (ab_k_all hk) (ab_back_ok (ab_back_ok (ab_set1_ok (ab_set1_ok hk ha h1) hb h2) ha) hb)⟩
/-! AB: the memory. Of every place: bounds of an int, cells of a reference; cells that only proofs by hand write -/
/-- bounds; references; places that only proofs by hand write; bounds of a place (c, i) where (c', i') is v -/
abbrev ab_H : Type := List (Nat × List (Nat × Int × Int)) × List (Nat × List (Nat × Bool × List Nat)) × List (Nat × Nat) × List (Nat × Nat × Nat × Nat × Int × Int × Int)
def ab_hl (h : ab_H) (c : Nat) : List (Nat × Int × Int) := match ev_at h.1 c with
  | some l => l
  | none => []
def ab_hi (h : ab_H) (c i : Nat) : Int × Int := match ev_at (ab_hl h c) i with
  | some b => b
  | none => ev_ful
def ab_hr (h : ab_H) (c i : Nat) : Option (Bool × List Nat) := match ev_at h.2.1 c with
  | some l => ev_at l i
  | none => none
def ab_rok (q : Option (Bool × List Nat)) (r : Option Nat) : Prop := match q, r with
  | none, _ => True
  | some q, none => q.1 = true
  | some q, some c => c ∈ q.2
def ab_ok (h : ab_H) (N : cm_M → Prop) (M : cm_M) : Prop := (∀ c i, ev_inb (ab_hi h c i) (M.1 c i)) ∧ (∀ c i, ab_rok (ab_hr h c i) (M.2.2 c i)) ∧ N M
/-- what holds of protected cells stays if they aren't written -/
def ab_NP (h : ab_H) (N : cm_M → Prop) : Prop := (∀ M M' : cm_M, (∀ q ∈ h.2.2.1, M'.1 q.1 q.2 = M.1 q.1 q.2 ∧ M'.2.1 q.1 q.2 = M.2.1 q.1 q.2 ∧ M'.2.2 q.1 q.2 = M.2.2 q.1 q.2) → N M → N M') ∧ ∀ M : cm_M, N M → ∀ e ∈ h.2.2.2, M.1 e.2.2.1 e.2.2.2.1 = Int32.ofInt e.2.2.2.2.1 → ev_inb e.2.2.2.2.2 (M.1 e.1 e.2.1)
/-- what may be written: cells with places ([]: all) -/
abbrev ab_Md : Type := List (Nat × List Nat)
def ab_inM (md : ab_Md) (c i : Nat) : Bool := match ev_at md c with
  | some l => l.isEmpty || l.contains i
  | none => false
def ab_allM (md : ab_Md) (c : Nat) : Bool := match ev_at md c with
  | some l => l.isEmpty
  | none => false
theorem ab_allM_in {md : ab_Md} {c : Nat} (h : ab_allM md c = true) (i : Nat) : ab_inM md c i = true := by
  unfold ab_allM at h
  unfold ab_inM
  split at h
  · simp [h]
  · cases h
def ab_fr (md : ab_Md) (M0 M : cm_M) : Prop := ∀ c i, ab_inM md c i = false → M.1 c i = M0.1 c i ∧ M.2.1 c i = M0.2.1 c i ∧ M.2.2 c i = M0.2.2 c i
theorem ab_fr_rf (md : ab_Md) (M : cm_M) : ab_fr md M M := fun c i _ => ⟨rfl, rfl, rfl⟩
def ab_ce (ρ : List Int32) (M : cm_M) (q : Nat × Nat × ab_A) : Prop := if ab_isI q.2.2 = true then ab_i ρ q.2.2 = some (M.1 q.1 q.2.1) else ab_v ρ q.2.2 (cm_rq (M.2.2 q.1 q.2.1))
def ab_ca (ρ : List Int32) (M : cm_M) (Ca : ab_Ca) : Prop := ∀ q ∈ Ca, ab_ce ρ M q
theorem ab_ce_ap {ρ ext : List Int32} {M : cm_M} {q : Nat × Nat × ab_A} (h : ab_ce ρ M q) : ab_ce (ρ ++ ext) M q := by
  unfold ab_ce at h ⊢
  split
  · rename_i hi
    rw [if_pos hi] at h
    exact ab_i_ap h
  · rename_i hi
    rw [if_neg hi] at h
    exact ab_v_ap h
theorem ab_ca_ap {ρ ext : List Int32} {M : cm_M} {Ca : ab_Ca} (h : ab_ca ρ M Ca) : ab_ca (ρ ++ ext) M Ca := fun q hq => ab_ce_ap (h q hq)
/-- an entry at a place that wasn't written -/
theorem ab_ce_ne {ρ : List Int32} {M M' : cm_M} {q : Nat × Nat × ab_A} (h1 : M'.1 q.1 q.2.1 = M.1 q.1 q.2.1) (h2 : M'.2.2 q.1 q.2.1 = M.2.2 q.1 q.2.1) (h : ab_ce ρ M q) : ab_ce ρ M' q := by
  unfold ab_ce at h ⊢
  rw [h1, h2]
  exact h
def ab_m (h : ab_H) (N : cm_M → Prop) (M0 : cm_M) (md : ab_Md) (ρ : List Int32) (Ca : ab_Ca) (M : cm_M) : Prop := ab_ok h N M ∧ ab_fr md M0 M ∧ ab_ca ρ M Ca
/-- which places of an array: one of these, or any -/
abbrev ab_Ix : Type := Option (List Nat)
def ab_ixin (ix : ab_Ix) (i : Nat) : Prop := match ix with
  | some l => i ∈ l
  | none => True
def ab_ixc (ix : ab_Ix) (i : Nat) : Bool := match ix with
  | some l => l.contains i
  | none => true
theorem ab_ixc_ok {ix : ab_Ix} {i : Nat} (h : ab_ixin ix i) : ab_ixc ix i = true := by
  unfold ab_ixin at h
  unfold ab_ixc
  cases ix with
  | none => rfl
  | some l => exact List.contains_iff_mem.mpr h
def ab_mdok (md : ab_Md) (c : Nat) (ix : ab_Ix) : Bool := match ix with
  | some l => l.all (fun i => ab_inM md c i)
  | none => ab_allM md c
theorem ab_mdok_in {md : ab_Md} {c : Nat} {ix : ab_Ix} {i : Nat} (h : ab_mdok md c ix = true) (hi : ab_ixin ix i) : ab_inM md c i = true := by
  unfold ab_mdok at h
  unfold ab_ixin at hi
  cases ix with
  | none => exact ab_allM_in h i
  | some l => exact List.all_eq_true.mp h i hi
def ab_drop (Ca : ab_Ca) (cs : List Nat) (ix : ab_Ix) : ab_Ca := Ca.filter (fun q => !(cs.contains q.1 && ab_ixc ix q.2.1))
theorem ab_drop_in {Ca : ab_Ca} {cs : List Nat} {ix : ab_Ix} {q : Nat × Nat × ab_A} (h : q ∈ ab_drop Ca cs ix) {c i : Nat} (hc : c ∈ cs) (hi : ab_ixin ix i) : q ∈ Ca ∧ ¬ (q.1 = c ∧ q.2.1 = i) := by
  obtain ⟨h1, h2⟩ := List.mem_filter.mp h
  refine ⟨h1, fun e => ?_⟩
  obtain ⟨e1, e2⟩ := e
  rw [e1, e2, List.contains_iff_mem.mpr hc, ab_ixc_ok hi] at h2
  simp at h2
/-- a cache behind a store of a -/
def ab_keep (Ca : ab_Ca) (cs : List Nat) (ix : ab_Ix) (a : ab_A) : ab_Ca := match cs, ix with
  | [c], some [i] => (c, i, a) :: ab_drop Ca cs ix
  | _, _ => ab_drop Ca cs ix
theorem ab_keep_in {Ca : ab_Ca} {cs : List Nat} {ix : ab_Ix} {a : ab_A} {q : Nat × Nat × ab_A} (h : q ∈ ab_keep Ca cs ix a) {c i : Nat} (hc : c ∈ cs) (hi : ab_ixin ix i) : (q = (c, i, a)) ∨ (q ∈ Ca ∧ ¬ (q.1 = c ∧ q.2.1 = i)) := by
  unfold ab_keep at h
  split at h
  · rename_i c' i'
    have e1 : c = c' := List.mem_singleton.mp hc
    have e2 : i = i' := List.mem_singleton.mp hi
    subst e1
    subst e2
    rcases List.mem_cons.mp h with h | h
    · exact Or.inl h
    · exact Or.inr (ab_drop_in h hc hi)
  · exact Or.inr (ab_drop_in h hc hi)
/-- none of these places is protected -/
def ab_pr (h : ab_H) (c : Nat) (ix : ab_Ix) : Bool := h.2.2.1.all (fun q => cond (Nat.beq q.1 c) (!(ab_ixc ix q.2)) true)
theorem ab_pr_ok {h : ab_H} {c : Nat} {ix : ab_Ix} {i : Nat} (hp : ab_pr h c ix = true) (hi : ab_ixin ix i) {q : Nat × Nat} (hq : q ∈ h.2.2.1) : ¬ (q.1 = c ∧ q.2 = i) := by
  intro e
  have h1 := List.all_eq_true.mp hp q hq
  rw [e.1, e.2, ab_ixc_ok hi, Nat.beq_refl] at h1
  exact absurd h1 (by decide)
/-- may an int be stored there -/
def ab_stI (h : ab_H) (md : ab_Md) (b : Int × Int) (cs : List Nat) (ix : ab_Ix) : Bool :=
  cs.all (fun c => ab_pr h c ix && (ab_mdok md c ix && (ab_hl h c).all (fun e => !(ab_ixc ix e.1) || (decide (e.2.1 ≤ b.1) && decide (b.2 ≤ e.2.2)))))
theorem ab_hi_in {h : ab_H} {b : Int × Int} {c : Nat} {ix : ab_Ix} {i : Nat} {x : Int32} (ha : (ab_hl h c).all (fun e => !(ab_ixc ix e.1) || (decide (e.2.1 ≤ b.1) && decide (b.2 ≤ e.2.2))) = true) (hi : ab_ixin ix i) (hx : ev_inb b x) : ev_inb (ab_hi h c i) x := by
  unfold ab_hi
  split
  · rename_i e he
    have := List.all_eq_true.mp ha _ (ev_at_mem he)
    simp only [ab_ixc_ok hi, Bool.not_true, Bool.false_or, Bool.and_eq_true, decide_eq_true_eq] at this
    exact ⟨Int.le_trans this.1 hx.1, Int.le_trans hx.2 this.2⟩
  · exact ev_ful_in x
section ABM
variable {h : ab_H} {N : cm_M → Prop} {M0 : cm_M} {md : ab_Md} {ρ : List Int32} {Ca : ab_Ca} {M : cm_M}
theorem ab_m_ap {ext : List Int32} (hm : ab_m h N M0 md ρ Ca M) : ab_m h N M0 md (ρ ++ ext) Ca M := ⟨hm.1, hm.2.1, ab_ca_ap hm.2.2⟩
theorem ab_stI_ok (hN : ab_NP h N) (hm : ab_m h N M0 md ρ Ca M) {b : Int × Int} {cs : List Nat} {ix : ab_Ix} {a : ab_A} {x : Int32} {c i : Nat} (hs : ab_stI h md b cs ix = true) (hc : c ∈ cs) (hi : ab_ixin ix i) (ha : ab_i ρ a = some x) (hb : ev_inb b x) : ab_m h N M0 md ρ (ab_keep Ca cs ix a) (cm_wi M c i x) := by
  have h1 := List.all_eq_true.mp hs c hc
  simp only [Bool.and_eq_true] at h1
  obtain ⟨p1, p2, p3⟩ := h1
  obtain ⟨⟨o1, o2, o3⟩, fr, ca⟩ := hm
  refine ⟨⟨fun c' i' => ?_, o2, hN.1 M _ (fun q hq => ⟨?_, rfl, rfl⟩) o3⟩, fun c' i' hm' => ?_, fun q hq => ?_⟩
  · show ev_inb _ (if c' = c ∧ i' = i then x else M.1 c' i')
    split
    · rename_i e
      rw [e.1, e.2]
      exact ab_hi_in p3 hi hb
    · exact o1 c' i'
  · show (if q.1 = c ∧ q.2 = i then x else M.1 q.1 q.2) = M.1 q.1 q.2
    rw [if_neg (ab_pr_ok p1 hi hq)]
  · have hne : ¬ (c' = c ∧ i' = i) := by
      intro e
      rw [e.1, e.2, ab_mdok_in p2 hi] at hm'
      cases hm'
    obtain ⟨f1, f2, f3⟩ := fr c' i' hm'
    exact ⟨by show (if c' = c ∧ i' = i then x else M.1 c' i') = _; rw [if_neg hne]; exact f1, f2, f3⟩
  · rcases ab_keep_in hq hc hi with rfl | ⟨q1, q2⟩
    · unfold ab_ce
      rw [if_pos (ab_ivI ha)]
      show _ = some (if c = c ∧ i = i then x else M.1 c i)
      rw [if_pos ⟨rfl, rfl⟩]
      exact ha
    · exact ab_ce_ne (M := M) (by show (if q.1 = c ∧ q.2.1 = i then x else M.1 q.1 q.2.1) = _; rw [if_neg q2]) rfl (ca q q1)
/-- a long -/
def ab_stL (h : ab_H) (md : ab_Md) (cs : List Nat) (ix : ab_Ix) : Bool := cs.all (fun c => ab_pr h c ix && ab_mdok md c ix)
theorem ab_stL_ok (hN : ab_NP h N) (hm : ab_m h N M0 md ρ Ca M) {cs : List Nat} {ix : ab_Ix} {x : Int64} {c i : Nat} (hs : ab_stL h md cs ix = true) (hc : c ∈ cs) (hi : ab_ixin ix i) : ab_m h N M0 md ρ Ca (cm_wl M c i x) := by
  have h1 := List.all_eq_true.mp hs c hc
  simp only [Bool.and_eq_true] at h1
  obtain ⟨p1, p2⟩ := h1
  obtain ⟨⟨o1, o2, o3⟩, fr, ca⟩ := hm
  refine ⟨⟨o1, o2, hN.1 M _ (fun q hq => ⟨rfl, ?_, rfl⟩) o3⟩, fun c' i' hm' => ?_, fun q hq => ab_ce_ne rfl rfl (ca q hq)⟩
  · show (if q.1 = c ∧ q.2 = i then x else M.2.1 q.1 q.2) = M.2.1 q.1 q.2
    rw [if_neg (ab_pr_ok p1 hi hq)]
  · have hne : ¬ (c' = c ∧ i' = i) := by
      intro e
      rw [e.1, e.2, ab_mdok_in p2 hi] at hm'
      cases hm'
    obtain ⟨f1, f2, f3⟩ := fr c' i' hm'
    exact ⟨f1, by show (if c' = c ∧ i' = i then x else M.2.1 c' i') = _; rw [if_neg hne]; exact f2, f3⟩
/-- a reference -/
def ab_rfit (q : Option (Bool × List Nat)) (a : ab_A) : Bool := match q with
  | none => true
  | some q => (match a.1 with
    | 1 => a.2.2.all (fun c => q.2.contains c)
    | 2 => q.1
    | 7 => q.1 && a.2.2.all (fun c => q.2.contains c)
    | _ => false)
def ab_isR (a : ab_A) : Bool := a.1 == 1 || (a.1 == 2 || a.1 == 7)
theorem ab_rfit_ok {q : Option (Bool × List Nat)} {a : ab_A} {r : Option Nat} (h1 : ab_rfit q a = true) (hv : ab_v ρ a (cm_rq r)) : ab_rok q r := by
  unfold ab_rfit at h1
  cases q with
  | none => exact trivial
  | some q =>
    dsimp only at h1
    unfold ab_v at hv
    split at h1
    · rename_i e
      rw [e] at hv
      obtain ⟨c, hc, e2⟩ := hv
      cases r with
      | none => cases e2
      | some r =>
        cases e2
        exact List.contains_iff_mem.mp (List.all_eq_true.mp h1 _ hc)
    · rename_i e
      rw [e] at hv
      cases r with
      | none => exact h1
      | some r => cases hv
    · rename_i e
      rw [e] at hv
      simp only [Bool.and_eq_true] at h1
      cases r with
      | none => exact h1.1
      | some r =>
        rcases hv with hv | ⟨c, hc, e2⟩
        · cases hv
        · cases e2
          exact List.contains_iff_mem.mp (List.all_eq_true.mp h1.2 _ hc)
    · cases h1
def ab_stR (h : ab_H) (md : ab_Md) (a : ab_A) (cs : List Nat) (i : Nat) : Bool := cs.all (fun c => ab_pr h c (some [i]) && (ab_inM md c i && ab_rfit (ab_hr h c i) a))
theorem ab_stR_ok (hN : ab_NP h N) (hm : ab_m h N M0 md ρ Ca M) {cs : List Nat} {a : ab_A} {r : Option Nat} {c i : Nat} (hs : ab_stR h md a cs i = true) (hc : c ∈ cs) (hR : ab_isI a = false) (ha : ab_v ρ a (cm_rq r)) : ab_m h N M0 md ρ (ab_keep Ca cs (some [i]) a) (cm_wr M c i r) := by
  have h1 := List.all_eq_true.mp hs c hc
  simp only [Bool.and_eq_true] at h1
  obtain ⟨p1, p2, p3⟩ := h1
  obtain ⟨⟨o1, o2, o3⟩, fr, ca⟩ := hm
  refine ⟨⟨o1, fun c' i' => ?_, hN.1 M _ (fun q hq => ⟨rfl, rfl, ?_⟩) o3⟩, fun c' i' hm' => ?_, fun q hq => ?_⟩
  · show ab_rok _ (if c' = c ∧ i' = i then r else M.2.2 c' i')
    split
    · rename_i e
      rw [e.1, e.2]
      exact ab_rfit_ok p3 ha
    · exact o2 c' i'
  · show (if q.1 = c ∧ q.2 = i then r else M.2.2 q.1 q.2) = M.2.2 q.1 q.2
    rw [if_neg (ab_pr_ok p1 (show ab_ixin (some [i]) i from List.mem_singleton.mpr rfl) hq)]
  · have hne : ¬ (c' = c ∧ i' = i) := by
      intro e
      rw [e.1, e.2, p2] at hm'
      cases hm'
    obtain ⟨f1, f2, f3⟩ := fr c' i' hm'
    exact ⟨f1, f2, by show (if c' = c ∧ i' = i then r else M.2.2 c' i') = _; rw [if_neg hne]; exact f3⟩
  · rcases ab_keep_in hq hc (show ab_ixin (some [i]) i from List.mem_singleton.mpr rfl) with rfl | ⟨q1, q2⟩
    · unfold ab_ce
      rw [if_neg (by dsimp only; rw [hR]; decide)]
      show ab_v ρ a (cm_rq (if c = c ∧ i = i then r else M.2.2 c i))
      rw [if_pos ⟨rfl, rfl⟩]
      exact ha
    · exact ab_ce_ne (M := M) rfl (by show (if q.1 = c ∧ q.2.1 = i then r else M.2.2 q.1 q.2.1) = _; rw [if_neg q2]) (ca q q1)
/-- a row of ints copied: into arrays of which nothing is kept -/
def ab_stC (h : ab_H) (md : ab_Md) (ds : List Nat) : Bool := ds.all (fun d => ab_pr h d none && (ab_allM md d && (ab_hl h d).isEmpty))
theorem ab_stC_ok (hN : ab_NP h N) (hm : ab_m h N M0 md ρ Ca M) {ds : List Nat} {c sp d dp n : Nat} (hs : ab_stC h md ds = true) (hd : d ∈ ds) : ab_m h N M0 md ρ (ab_drop Ca ds none) (cm_cp M c sp d dp n) := by
  have h1 := List.all_eq_true.mp hs d hd
  simp only [Bool.and_eq_true, List.isEmpty_iff] at h1
  obtain ⟨p1, p2, p3⟩ := h1
  obtain ⟨⟨o1, o2, o3⟩, fr, ca⟩ := hm
  refine ⟨⟨fun c' i' => ?_, o2, hN.1 M _ (fun q hq => ⟨?_, rfl, rfl⟩) o3⟩, fun c' i' hm' => ?_, fun q hq => ?_⟩
  · by_cases e : c' = d
    · subst e
      have : ab_hi h c' i' = ev_ful := by unfold ab_hi; rw [p3]; rfl
      rw [this]
      exact ev_ful_in _
    · show ev_inb _ (if c' = d ∧ dp ≤ i' ∧ i' < dp + n then M.1 c (sp + (i' - dp)) else M.1 c' i')
      rw [if_neg (fun z => e z.1)]
      exact o1 c' i'
  · show (if q.1 = d ∧ dp ≤ q.2 ∧ q.2 < dp + n then M.1 c (sp + (q.2 - dp)) else M.1 q.1 q.2) = M.1 q.1 q.2
    rw [if_neg (fun z => ab_pr_ok (i := q.2) p1 trivial hq ⟨z.1, rfl⟩)]
  · have hne : ¬ c' = d := by
      intro e
      rw [e, ab_allM_in p2] at hm'
      cases hm'
    obtain ⟨f1, f2, f3⟩ := fr c' i' hm'
    exact ⟨by show (if c' = d ∧ dp ≤ i' ∧ i' < dp + n then M.1 c (sp + (i' - dp)) else M.1 c' i') = _; rw [if_neg (fun z => hne z.1)]; exact f1, f2, f3⟩
  · obtain ⟨h1, h2⟩ := List.mem_filter.mp hq
    have hne : ¬ q.1 = d := by
      intro e
      rw [e, List.contains_iff_mem.mpr hd] at h2
      simp [ab_ixc] at h2
    exact ab_ce_ne (M := M) (by show (if q.1 = d ∧ dp ≤ q.2.1 ∧ q.2.1 < dp + n then M.1 c (sp + (q.2.1 - dp)) else M.1 q.1 q.2.1) = _; rw [if_neg (fun z => hne z.1)]) rfl (ca q h1)
end ABM
/-! reading -/
def ab_cf (Ca : ab_Ca) (c i : Nat) : Option ab_A := match Ca with
  | [] => none
  | q :: r => cond (Nat.beq q.1 c) (cond (Nat.beq q.2.1 i) (some q.2.2) (ab_cf r c i)) (ab_cf r c i)
theorem ab_cf_mem : ∀ {Ca : ab_Ca} {c i : Nat} {a : ab_A}, ab_cf Ca c i = some a → (c, i, a) ∈ Ca
  | [], c, i, a, h => by cases h
  | q :: r, c, i, a, h => by
    have h : cond (Nat.beq q.1 c) (cond (Nat.beq q.2.1 i) (some q.2.2) (ab_cf r c i)) (ab_cf r c i) = some a := h
    cases h1 : Nat.beq q.1 c with
    | true =>
      rw [h1] at h
      cases h2 : Nat.beq q.2.1 i with
      | true =>
        rw [h2] at h
        have h : some q.2.2 = some a := h
        cases h
        rw [← Nat.eq_of_beq_eq_true h1, ← Nat.eq_of_beq_eq_true h2]
        exact List.mem_cons_self
      | false =>
        rw [h2] at h
        exact List.mem_cons_of_mem _ (ab_cf_mem (show ab_cf r c i = some a from h))
    | false =>
      rw [h1] at h
      exact List.mem_cons_of_mem _ (ab_cf_mem (show ab_cf r c i = some a from h))
def ab_hull (h : ab_H) (cs l : List Nat) : Int × Int := cs.foldl (fun b c => l.foldl (fun b i => (min b.1 (ab_hi h c i).1, max b.2 (ab_hi h c i).2)) b) (2147483647, -2147483648)
theorem ab_fold_mono {α : Type} (f : α → Int × Int) : ∀ (l : List α) (b : Int × Int), (l.foldl (fun b i => (min b.1 (f i).1, max b.2 (f i).2)) b).1 ≤ b.1 ∧ b.2 ≤ (l.foldl (fun b i => (min b.1 (f i).1, max b.2 (f i).2)) b).2
  | [], b => ⟨Int.le_refl _, Int.le_refl _⟩
  | a :: l, b => by
    have := ab_fold_mono f l (min b.1 (f a).1, max b.2 (f a).2)
    rw [List.foldl_cons]
    exact ⟨by have := this.1; dsimp only at this; omega, by have := this.2; dsimp only at this; omega⟩
theorem ab_fold_in {α : Type} (f : α → Int × Int) : ∀ (l : List α) (b : Int × Int) {a : α}, a ∈ l → (l.foldl (fun b i => (min b.1 (f i).1, max b.2 (f i).2)) b).1 ≤ (f a).1 ∧ (f a).2 ≤ (l.foldl (fun b i => (min b.1 (f i).1, max b.2 (f i).2)) b).2
  | [], b, a, h => by cases h
  | x :: l, b, a, h => by
    rw [List.foldl_cons]
    rcases List.mem_cons.mp h with rfl | h
    · have := ab_fold_mono f l (min b.1 (f a).1, max b.2 (f a).2)
      exact ⟨by have := this.1; dsimp only at this; omega, by have := this.2; dsimp only at this; omega⟩
    · exact ab_fold_in f l _ h
theorem ab_hull_mono {h : ab_H} {l : List Nat} : ∀ (cs : List Nat) (b : Int × Int), (cs.foldl (fun b c => l.foldl (fun b i => (min b.1 (ab_hi h c i).1, max b.2 (ab_hi h c i).2)) b) b).1 ≤ b.1 ∧ b.2 ≤ (cs.foldl (fun b c => l.foldl (fun b i => (min b.1 (ab_hi h c i).1, max b.2 (ab_hi h c i).2)) b) b).2
  | [], b => ⟨Int.le_refl _, Int.le_refl _⟩
  | c :: cs, b => by
    rw [List.foldl_cons]
    have h1 := ab_fold_mono (fun i => ab_hi h c i) l b
    have h2 := ab_hull_mono (h := h) (l := l) cs (l.foldl (fun b i => (min b.1 (ab_hi h c i).1, max b.2 (ab_hi h c i).2)) b)
    exact ⟨Int.le_trans h2.1 h1.1, Int.le_trans h1.2 h2.2⟩
theorem ab_hull_in {h : ab_H} {l : List Nat} {i : Nat} (hi : i ∈ l) : ∀ (cs : List Nat) (b : Int × Int) {c : Nat}, c ∈ cs → (cs.foldl (fun b c => l.foldl (fun b i => (min b.1 (ab_hi h c i).1, max b.2 (ab_hi h c i).2)) b) b).1 ≤ (ab_hi h c i).1 ∧ (ab_hi h c i).2 ≤ (cs.foldl (fun b c => l.foldl (fun b i => (min b.1 (ab_hi h c i).1, max b.2 (ab_hi h c i).2)) b) b).2
  | [], b, c, hc => by cases hc
  | x :: cs, b, c, hc => by
    rw [List.foldl_cons]
    rcases List.mem_cons.mp hc with rfl | hc
    · have h1 := ab_fold_in (fun i => ab_hi h c i) l b hi
      have h2 := ab_hull_mono (h := h) (l := l) cs (l.foldl (fun b i => (min b.1 (ab_hi h c i).1, max b.2 (ab_hi h c i).2)) b)
      exact ⟨Int.le_trans h2.1 h1.1, Int.le_trans h1.2 h2.2⟩
    · exact ab_hull_in hi cs _ hc
/-- the bounds of a place, by what is known of another one -/
def ab_cd (K : ab_K) (Ca : ab_Ca) (e : Nat × Nat × Nat × Nat × Int × Int × Int) : Bool := match ab_cf Ca e.2.2.1 e.2.2.2.1 with
  | some a => ab_isI a && (decide ((ab_bd K a).1 = e.2.2.2.2.1) && decide ((ab_bd K a).2 = e.2.2.2.2.1))
  | none => false
def ab_hc (h : ab_H) (K : ab_K) (Ca : ab_Ca) (c i : Nat) : List (Nat × Nat × Nat × Nat × Int × Int × Int) → Int × Int
  | [] => ab_hi h c i
  | e :: r => cond (Nat.beq e.1 c) (if e.2.1 = i ∧ ab_cd K Ca e = true then e.2.2.2.2.2 else ab_hc h K Ca c i r) (ab_hc h K Ca c i r)
theorem ab_hc_in {h : ab_H} {N : cm_M → Prop} {M0 : cm_M} {md : ab_Md} {ρ : List Int32} {Ca : ab_Ca} {M : cm_M} {K : ab_K} {c i : Nat} (hN : ab_NP h N) (hk : ab_k ρ K) (hm : ab_m h N M0 md ρ Ca M) : ∀ (l : List (Nat × Nat × Nat × Nat × Int × Int × Int)), (∀ e ∈ l, e ∈ h.2.2.2) → ev_inb (ab_hc h K Ca c i l) (M.1 c i)
  | [], _ => hm.1.1 c i
  | e :: r, hl => by
    show ev_inb (cond (Nat.beq e.1 c) (if e.2.1 = i ∧ ab_cd K Ca e = true then e.2.2.2.2.2 else ab_hc h K Ca c i r) (ab_hc h K Ca c i r)) (M.1 c i)
    cases hb : Nat.beq e.1 c with
    | false => exact ab_hc_in hN hk hm r (fun x hx => hl x (List.mem_cons_of_mem _ hx))
    | true =>
      have q1 := Nat.eq_of_beq_eq_true hb
      show ev_inb (if e.2.1 = i ∧ ab_cd K Ca e = true then e.2.2.2.2.2 else ab_hc h K Ca c i r) (M.1 c i)
      split
      · rename_i hq
        obtain ⟨q2, q3⟩ := hq
        unfold ab_cd at q3
        split at q3
        · rename_i a ha
          simp only [Bool.and_eq_true, decide_eq_true_eq] at q3
          have h1 := hm.2.2 _ (ab_cf_mem ha)
          unfold ab_ce at h1
          rw [if_pos q3.1] at h1
          obtain ⟨b1, b2⟩ := ab_bd_in hk h1
          dsimp only at b1 b2
          have h2 : M.1 e.2.2.1 e.2.2.2.1 = Int32.ofInt e.2.2.2.2.1 := by
            rw [← Int32.ofInt_toInt (M.1 e.2.2.1 e.2.2.2.1)]
            congr 1
            omega
          have h3 := hN.2 M hm.1.2.2 e (hl e List.mem_cons_self) h2
          rw [q1, q2] at h3
          exact h3
        · cases q3
      · exact ab_hc_in hN hk hm r (fun x hx => hl x (List.mem_cons_of_mem _ hx))
/-- an int is read -/
def ab_ldI (h : ab_H) (K : ab_K) (Ca : ab_Ca) (cs : List Nat) (ix : ab_Ix) : ab_A × ab_K × ab_Ca := match cs, ix with
  | [c], some [i] => (match ab_cf Ca c i with
    | some a => if ab_isI a = true then (a, K, Ca) else ((ab_any K (ab_hi h c i)).1, (ab_any K (ab_hi h c i)).2, Ca)
    | none => ((ab_any K (ab_hc h K Ca c i h.2.2.2)).1, (ab_any K (ab_hc h K Ca c i h.2.2.2)).2, (c, i, (ab_any K (ab_hc h K Ca c i h.2.2.2)).1) :: Ca))
  | cs, some l => ((ab_any K (ab_hull h cs l)).1, (ab_any K (ab_hull h cs l)).2, Ca)
  | _, none => ((ab_any K ev_ful).1, (ab_any K ev_ful).2, Ca)
theorem ab_ldI_ok {h : ab_H} {N : cm_M → Prop} {M0 : cm_M} {md : ab_Md} {ρ : List Int32} {Ca Ca' : ab_Ca} {M : cm_M} {K K' : ab_K} {cs : List Nat} {ix : ab_Ix} {a : ab_A} {c i : Nat} (hN : ab_NP h N) (hk : ab_k ρ K) (hm : ab_m h N M0 md ρ Ca M) (hl : ab_ldI h K Ca cs ix = (a, K', Ca')) (hc : c ∈ cs) (hi : ab_ixin ix i) : ∃ ext, ab_k (ρ ++ ext) K' ∧ ab_i (ρ ++ ext) a = some (M.1 c i) ∧ ab_m h N M0 md (ρ ++ ext) Ca' M := by
  unfold ab_ldI at hl
  split at hl
  · rename_i c' i'
    have e1 : c = c' := List.mem_singleton.mp hc
    have e2 : i = i' := List.mem_singleton.mp hi
    subst e1
    subst e2
    split at hl
    · rename_i q hq
      split at hl
      · rename_i hI
        cases hl
        have := hm.2.2 _ (ab_cf_mem hq)
        unfold ab_ce at this
        rw [if_pos hI] at this
        exact ⟨[], by simpa using hk, by simpa using this, by simpa using hm⟩
      · cases hl
        obtain ⟨ext, k1, k2⟩ := ab_any_ok hk (hm.1.1 c i) (rfl : ab_any K (ab_hi h c i) = (_, _))
        exact ⟨ext, k1, k2, ab_m_ap hm⟩
    · cases hl
      obtain ⟨ext, k1, k2⟩ := ab_any_ok hk (ab_hc_in hN hk hm h.2.2.2 (fun _ z => z)) (rfl : ab_any K (ab_hc h K Ca c i h.2.2.2) = (_, _))
      refine ⟨ext, k1, k2, hm.1, hm.2.1, fun q hq => ?_⟩
      rcases List.mem_cons.mp hq with rfl | hq
      · unfold ab_ce
        rw [if_pos (show ab_isI (ab_any K (ab_hc h K Ca c i h.2.2.2)).1 = true from ab_ivI k2)]
        exact k2
      · exact ab_ce_ap (hm.2.2 q hq)
  · rename_i l hne
    cases hl
    have hb : ev_inb (ab_hull h cs l) (M.1 c i) := by
      have h1 := ab_hull_in (h := h) (l := l) hi cs (2147483647, -2147483648) hc
      have h2 := hm.1.1 c i
      exact ⟨Int.le_trans h1.1 h2.1, Int.le_trans h2.2 h1.2⟩
    obtain ⟨ext, k1, k2⟩ := ab_any_ok hk hb (rfl : ab_any K (ab_hull h cs l) = (_, _))
    exact ⟨ext, k1, k2, ab_m_ap hm⟩
  · cases hl
    obtain ⟨ext, k1, k2⟩ := ab_any_ok hk (ev_ful_in (M.1 c i)) (rfl : ab_any K ev_ful = (_, _))
    exact ⟨ext, k1, k2, ab_m_ap hm⟩
/-- a reference is read: which cells -/
def ab_un (h : ab_H) : List (Nat × Nat) → Option (Bool × List Nat)
  | [] => some (false, [])
  | q :: r => match ab_hr h q.1 q.2, ab_un h r with
    | some (n, cs), some (n', cs') => some (n || n', cs ++ cs')
    | _, _ => none
theorem ab_un_ok {h : ab_H} : ∀ {l : List (Nat × Nat)} {n : Bool} {cs : List Nat}, ab_un h l = some (n, cs) → ∀ q ∈ l, ∀ r, ab_rok (ab_hr h q.1 q.2) r → ab_rok (some (n, cs)) r
  | [], n, cs, e => fun q hq => nomatch hq
  | p :: l, n, cs, e => by
    unfold ab_un at e
    split at e
    · rename_i n1 c1 n2 c2 e1 e2
      cases e
      intro q hq r hr
      rcases List.mem_cons.mp hq with rfl | hq
      · rw [e1] at hr
        cases r with
        | none => have hr : n1 = true := hr; show (n1 || n2) = true; rw [hr]; rfl
        | some x => exact List.mem_append_left _ hr
      · have := ab_un_ok e2 q hq r hr
        cases r with
        | none => have hr : n2 = true := this; show (n1 || n2) = true; rw [hr]; simp
        | some x => exact List.mem_append_right _ this
    · cases e
def ab_ldR (h : ab_H) (Ca : ab_Ca) (cs l : List Nat) : Option ab_A := match cs, l with
  | [c], [i] => (match ab_cf Ca c i with
    | some a => if ab_isI a = false then some a else none
    | none => (match ab_hr h c i with
      | some (false, ts) => some (1, 0, ts)
      | some (true, ts) => some (7, 0, ts)
      | none => none))
  | cs, l => (match ab_un h (cs.flatMap (fun c => l.map (fun i => (c, i)))) with
    | some (false, ts) => some (1, 0, ts)
    | some (true, ts) => some (7, 0, ts)
    | none => none)
theorem ab_rokv {ρ : List Int32} {n : Bool} {ts : List Nat} {r : Option Nat} (h : ab_rok (some (n, ts)) r) : ab_v ρ (if n = true then (7, 0, ts) else (1, 0, ts)) (cm_rq r) := by
  cases n with
  | true =>
    rw [if_pos rfl]
    cases r with
    | none => exact Or.inl rfl
    | some x => exact Or.inr ⟨x, h, rfl⟩
  | false =>
    rw [if_neg (by decide)]
    cases r with
    | none => cases h
    | some x => exact ⟨x, h, rfl⟩
theorem ab_ldR_ok {h : ab_H} {N : cm_M → Prop} {M0 : cm_M} {md : ab_Md} {ρ : List Int32} {Ca : ab_Ca} {M : cm_M} {cs l : List Nat} {a : ab_A} {c i : Nat} (hm : ab_m h N M0 md ρ Ca M) (hl : ab_ldR h Ca cs l = some a) (hc : c ∈ cs) (hi : i ∈ l) : ab_v ρ a (cm_rq (M.2.2 c i)) := by
  unfold ab_ldR at hl
  have fin : ∀ {n : Bool} {ts : List Nat}, ab_rok (some (n, ts)) (M.2.2 c i) → (match (some (n, ts) : Option (Bool × List Nat)) with
      | some (false, ts) => some ((1, 0, ts) : ab_A)
      | some (true, ts) => some (7, 0, ts)
      | none => none) = some a → ab_v ρ a (cm_rq (M.2.2 c i)) := by
    intro n ts h1 h2
    have := ab_rokv (ρ := ρ) h1
    cases n with
    | true => cases h2; exact this
    | false => cases h2; exact this
  split at hl
  · rename_i c' i'
    have e1 : c = c' := List.mem_singleton.mp hc
    have e2 : i = i' := List.mem_singleton.mp hi
    subst e1
    subst e2
    split at hl
    · rename_i q hq
      split at hl
      · rename_i hI
        cases hl
        have := hm.2.2 _ (ab_cf_mem hq)
        unfold ab_ce at this
        rw [if_neg (by dsimp only; rw [hI]; decide)] at this
        exact this
      · cases hl
    · have h1 := hm.1.2.1 c i
      cases hz : ab_hr h c i with
      | none => rw [hz] at hl; cases hl
      | some q =>
        rw [hz] at hl h1
        exact fin h1 hl
  · have h1 := hm.1.2.1 c i
    cases hz : ab_un h (cs.flatMap (fun c => l.map (fun i => (c, i)))) with
    | none => rw [hz] at hl; cases hl
    | some q =>
      rw [hz] at hl
      exact fin (ab_un_ok hz (c, i) (List.mem_flatMap.mpr ⟨c, hc, List.mem_map.mpr ⟨i, hi, rfl⟩⟩) _ h1) hl
