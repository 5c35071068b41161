/-! checks of methods -/
set_option maxRecDepth 1000000 in
theorem mk_197 : ab_MK cm_ms mr_197 := wz_MK wz_C9 wz_W9k rfl (lw_in_6 (p := 208) rfl) (ks := [0, 19, 0, 0, 0, 0, 0, 31, 0, 0, 0, 0, 0, 0, 0, 0, 31, 0, 0, 0, 60, 0, 31, 0, 0, 0, 0, 0, 59, 0, 0, 31, 0, 0, 0, 0, 0, 0, 0, 59, 0, 0, 31, 0, 0, 0, 0, 0, 0, 0, 59, 0, 0, 19, 0, 0, 31, 0, 0, 0, 0, 0, 0, 0]) (by decide +kernel)
set_option maxRecDepth 1000000 in
theorem mk_198 : ab_MK cm_ms mr_198 := wz_MK wz_C9 wz_W9k rfl (lw_in_6 (p := 215) rfl) (ks := [0, 62, 0, 0, 49, 0, 63, 0, 0, 19, 0, 0, 31, 0, 0, 0, 0, 0, 64, 0, 0, 0, 0, 29, 30, 0, 49, 0, 19, 0, 0, 0, 31, 0, 0, 0, 0, 0, 0, 0, 0, 0, 0, 0, 31, 0, 0, 0, 0, 0, 0, 0]) (by decide +kernel)
set_option maxRecDepth 1000000 in
theorem mk_199 : ab_MK cm_ms mr_199 := wz_MK wz_C9 wz_W9k rfl (lw_in_6 (p := 234) rfl) (ks := [0, 63, 0, 0, 49, 0, 63, 0, 0, 19, 0, 0, 31, 0, 0, 0, 0, 0, 64, 0, 0, 0, 0, 29, 30, 0, 19, 0, 0, 0, 0, 0, 0, 0, 29, 30, 0, 49, 0, 19, 0, 0, 0, 31, 0, 0, 0, 0, 0, 0, 0, 0, 0, 0, 0, 31, 0, 0, 0, 0, 0, 0, 0]) (by decide +kernel)
set_option maxRecDepth 1000000 in
theorem mk_200 : ab_MK cm_ms mr_200 := wz_MK wz_C9 wz_W9k rfl (lw_in_6 (p := 238) rfl) (ks := [0, 62, 0, 0, 49, 0, 62, 0, 0, 19, 0, 0, 0, 0, 0, 31, 0, 0, 0, 0, 0, 64, 0, 0, 0, 0, 29, 30, 0, 49, 0, 19, 0, 0, 0, 31, 0, 0, 0, 0, 0, 0, 0, 0, 0, 0, 0, 31, 0, 0, 0, 0, 0, 0, 0, 0, 0, 0, 0, 31, 0, 0, 0, 0, 0, 0, 0]) (by decide +kernel)
set_option maxRecDepth 1000000 in
theorem mk_201 : ab_MK cm_ms mr_201 := wz_MK wz_C9 wz_W9k rfl (lw_in_7 (p := 2) rfl) (ks := [0, 19, 0, 0, 0, 0, 0, 31, 0, 0, 0, 60, 0, 31, 0, 0, 31, 0, 0, 0, 0, 0, 0, 0, 59, 0, 0, 19, 0, 0, 31, 0, 0, 0, 0, 0, 0, 0]) (by decide +kernel)
set_option maxRecDepth 1000000 in
theorem mk_202 : ab_MK cm_ms mr_202 := wz_MK wz_C9 wz_W9k rfl (lw_in_7 (p := 7) rfl) (ks := [0, 61, 0, 0, 19, 0, 0, 31, 0, 0, 0, 0, 0, 0, 0, 0, 29, 30, 0, 49, 0, 0, 0, 37, 0, 0, 19, 0, 0, 0, 31, 0, 0, 0, 0, 0, 0, 0, 0, 31, 0, 0, 0, 0, 0, 0, 0]) (by decide +kernel)
set_option maxRecDepth 1000000 in
theorem mk_203 : ab_MK cm_ms mr_203 := wz_MK wz_C9 wz_W9k rfl (lw_in_7 (p := 18) rfl) (ks := [0, 0, 1, 0, 65, 0]) (by decide +kernel)
set_option maxRecDepth 1000000 in
theorem mk_204 : ab_MK cm_ms mr_204 := wz_MK wz_C9 wz_W9k rfl (lw_in_7 (p := 22) rfl) (ks := [0, 0, 1, 0, 66, 0, 0, 0, 67, 0, 0, 0]) (by decide +kernel)
set_option maxRecDepth 1000000 in
theorem mk_205 : ab_MK cm_ms mr_205 := wz_MK wz_C9 wz_W9k rfl (lw_in_7 (p := 30) rfl) (ks := [0, 68, 0, 0, 0, 0, 42, 0, 0, 0, 0, 34, 0, 0, 0, 0, 0]) (by decide +kernel)
set_option maxRecDepth 1000000 in
theorem mk_206 : ab_MK cm_ms mr_206 := wz_MK wz_C9 wz_W9k rfl (lw_in_7 (p := 50) rfl) (ks := [0, 68, 0, 0, 0, 0, 42, 0, 0, 0, 0, 34, 0, 0, 0, 0, 0]) (by decide +kernel)
set_option maxRecDepth 1000000 in
theorem mk_207 : ab_MK cm_ms mr_207 := wz_MK wz_C9 wz_W9k rfl (lw_in_8 (p := 4) rfl) (ks := [0, 68, 0, 0, 0, 0, 42, 0, 0, 0, 0, 34, 0, 0, 0, 0, 0]) (by decide +kernel)
set_option maxRecDepth 1000000 in
theorem mk_208 : ab_MK cm_ms mr_208 := wz_MK wz_C9 wz_W9k rfl (lw_in_7 (p := 102) rfl) (ks := [0, 0, 42, 0, 0, 0, 0, 0, 0]) (by decide +kernel)
set_option maxRecDepth 1000000 in
theorem mk_209 : ab_MK cm_ms mr_209 := wz_MK wz_C9 wz_W9k rfl (lw_in_7 (p := 34) rfl) (ks := [0, 0, 0, 0, 42, 0, 0, 0, 0, 0, 0, 0]) (by decide +kernel)
set_option maxRecDepth 1000000 in
theorem mk_210 : ab_MK cm_ms mr_210 := wz_MK wz_C9 wz_W9k rfl (lw_in_7 (p := 78) rfl) (ks := [0, 0, 0, 0, 0, 0, 42, 0, 0, 0, 0, 0, 0, 0, 69, 0, 0, 0, 0, 0, 0, 0, 0, 0, 0, 0, 0]) (by decide +kernel)
set_option maxRecDepth 1000000 in
theorem mk_211 : ab_MK cm_ms mr_211 := wz_MK wz_C9 wz_W9k rfl (lw_in_7 (p := 42) rfl) (ks := [0, 0, 0, 69, 0, 0, 42, 0, 0, 0, 0, 0, 64, 0, 0, 0, 0, 0, 42, 0, 0, 0, 0, 0, 0, 0, 0, 0, 0, 0]) (by decide +kernel)
set_option maxRecDepth 1000000 in
theorem mk_212 : ab_MK cm_ms mr_212 := wz_MK wz_C9 wz_W9k rfl (lw_in_7 (p := 62) rfl) (ks := [0, 0, 0, 0, 0, 0, 42, 0, 0, 0, 0, 0, 0, 0, 0, 70, 0, 0, 0, 0, 0, 0, 0, 0, 0, 0, 0, 0]) (by decide +kernel)
set_option maxRecDepth 1000000 in
theorem mk_213 : ab_MK cm_ms mr_213 := wz_MK wz_C9 wz_W9k rfl (lw_in_7 (p := 66) rfl) (ks := [0, 0, 0, 0, 0, 0, 42, 0, 0, 0, 0, 0, 0, 64, 0, 0, 42, 0, 0, 0, 0, 0, 0, 0, 0, 0, 0, 0, 0, 0, 0, 0, 0]) (by decide +kernel)
set_option maxRecDepth 1000000 in
theorem mk_214 : ab_MK cm_ms mr_214 := wz_MK wz_C9 wz_W9k rfl (lw_in_7 (p := 58) rfl) (ks := [0, 0, 0, 0, 71, 72, 0]) (by decide +kernel)
set_option maxRecDepth 1000000 in
theorem mk_215 : ab_MK cm_ms mr_215 := wz_MK wz_C9 wz_W9k rfl (lw_in_7 (p := 90) rfl) (ks := [0, 0, 0, 73, 0, 42, 0, 0, 0, 0, 0, 0, 0, 0, 0, 0, 0, 0, 0]) (by decide +kernel)
set_option maxRecDepth 1000000 in
theorem mk_216 : ab_MK cm_ms mr_216 := wz_MK wz_C9 wz_W9k rfl (lw_in_7 (p := 54) rfl) (ks := [0, 0, 0, 0, 64, 0, 0, 42, 0, 0, 0, 0, 0, 0, 0, 0, 0, 0, 0, 0, 0, 0, 0]) (by decide +kernel)
set_option maxRecDepth 1000000 in
theorem mk_217 : ab_MK cm_ms mr_217 := wz_MK wz_C9 wz_W9k rfl (lw_in_7 (p := 170) rfl) (ks := [0, 0, 0, 71, 0, 0, 0, 0, 0, 42, 0, 0, 0, 0, 0, 64, 0, 0, 0, 0, 0, 0, 0, 42, 0, 0, 0, 0, 0, 0, 0, 0, 0, 0, 0, 42, 0, 0, 0, 0, 0, 0, 0, 0, 0, 0, 42, 0, 0, 0, 0, 0, 0, 0, 0, 0, 0, 0]) (by decide +kernel)
set_option maxRecDepth 1000000 in
theorem mk_218 : ab_MK cm_ms mr_218 := wz_MK wz_C9 wz_W9k rfl (lw_in_7 (p := 166) rfl) (ks := [0, 0, 0, 74, 0, 0, 0, 0, 75, 0, 0, 0, 0, 0, 0, 0, 0, 0, 0, 0, 0, 0]) (by decide +kernel)
set_option maxRecDepth 1000000 in
theorem mk_219 : ab_MK cm_ms mr_219 := wz_MK wz_C9 wz_W9k rfl (lw_in_7 (p := 130) rfl) (ks := [0, 0, 0, 0, 42, 0, 0, 0, 0, 0, 0, 0, 0, 0, 42, 0, 0, 0, 0, 0, 0, 0, 0, 0, 0, 0, 42, 0, 0, 0, 0, 0, 0, 0, 0, 0, 0, 0, 0, 0, 0]) (by decide +kernel)
set_option maxRecDepth 1000000 in
theorem mk_220 : ab_MK cm_ms mr_220 := wz_MK wz_C9 wz_W9k rfl (lw_in_7 (p := 126) rfl) (ks := [0, 44, 0, 0, 76, 0, 0, 43, 0, 0, 0, 0, 0, 0, 0, 76, 77, 0, 0, 0]) (by decide +kernel)
set_option maxRecDepth 1000000 in
theorem mk_221 : ab_MK cm_ms mr_221 := wz_MK wz_C9 wz_W9k rfl (lw_in_7 (p := 26) rfl) (ks := [0, 38, 0, 0, 78, 0, 0, 0, 0, 34, 0, 0, 0, 39, 0, 0, 0, 0, 42, 0, 0, 0, 0, 0, 0, 0, 0, 44, 0, 0, 0, 0, 42, 0, 0, 0, 0, 0, 0, 0, 0, 0, 0, 0, 44, 0, 69, 0, 0, 0, 0, 0, 0, 42, 0, 0, 0, 0, 0, 0, 42, 0, 0, 0, 0, 0, 0, 0, 79, 0]) (by decide +kernel)
set_option maxRecDepth 1000000 in
theorem mk_222 : ab_MK cm_ms mr_222 := wz_MK wz_C9 wz_W9k rfl (lw_in_7 (p := 38) rfl) (ks := [0, 0, 0, 0, 0, 0, 42, 0, 0, 0, 0, 0, 0, 44, 0, 0, 70, 0, 0, 0, 0, 0, 0, 0, 0, 0, 0, 0, 0]) (by decide +kernel)
set_option maxRecDepth 1000000 in
theorem mk_223 : ab_MK cm_ms mr_223 := wz_MK wz_C9 wz_W9k rfl (lw_in_7 (p := 46) rfl) (ks := [0, 38, 0, 0, 80, 0, 0, 0, 0, 34, 0, 0, 0, 39, 0, 0, 0, 0, 42, 0, 0, 0, 0, 0, 0, 0, 0, 0, 0, 42, 0, 0, 0, 0, 0, 0, 44, 0, 0, 0, 0, 0, 0, 0, 0, 0, 44, 0, 81, 0, 0, 0, 0, 0, 0, 0, 44, 0, 73, 0, 0, 0, 44, 0, 71, 0]) (by decide +kernel)
set_option maxRecDepth 1000000 in
theorem mk_224 : ab_MK cm_ms mr_224 := wz_MK wz_C9 wz_W9k rfl (lw_in_7 (p := 70) rfl) (ks := [0, 38, 0, 68, 0, 0, 0, 0, 34, 0, 0, 44, 0, 0, 0, 0, 0, 0, 0, 39, 0]) (by decide +kernel)
set_option maxRecDepth 1000000 in
theorem mk_225 : ab_MK cm_ms mr_225 := wz_MK wz_C9 wz_W9k rfl (lw_in_7 (p := 74) rfl) (ks := [0, 38, 0, 68, 0, 0, 0, 44, 82, 0, 0, 0, 39, 0]) (by decide +kernel)
set_option maxRecDepth 1000000 in
theorem mk_226 : ab_MK cm_ms mr_226 := wz_MK wz_C9 wz_W9k rfl (lw_in_7 (p := 82) rfl) (ks := [0, 38, 0, 68, 0, 0, 0, 39, 0, 0, 0, 0, 0, 0, 0, 42, 0, 0, 0, 0, 44, 0, 0, 0, 44, 0, 0, 0, 0, 0, 0, 0, 0, 0]) (by decide +kernel)
set_option maxRecDepth 1000000 in
theorem mk_227 : ab_MK cm_ms mr_227 := wz_MK wz_C9 wz_W9k rfl (lw_in_7 (p := 86) rfl) (ks := [0, 38, 0, 68, 0, 0, 0, 39, 0, 0, 0, 0, 0, 0, 0, 42, 0, 0, 0, 0, 0, 0, 44, 0, 81, 0, 0, 0, 44, 0, 74, 0, 0, 0, 0, 0, 0, 0, 0, 0, 0, 0, 0]) (by decide +kernel)
set_option maxRecDepth 1000000 in
theorem mk_228 : ab_MK cm_ms mr_228 := wz_MK wz_C9 wz_W9k rfl (lw_in_7 (p := 98) rfl) (ks := [0, 83, 0, 0, 44, 82, 0, 0, 0, 0]) (by decide +kernel)
set_option maxRecDepth 1000000 in
theorem mk_229 : ab_MK cm_ms mr_229 := wz_MK wz_C9 wz_W9k rfl (lw_in_7 (p := 94) rfl) (ks := [0, 38, 0, 68, 0, 0, 0, 84, 72, 0, 0, 0, 39, 0]) (by decide +kernel)
set_option maxRecDepth 1000000 in
theorem mk_230 : ab_MK cm_ms mr_230 := wz_MK wz_C9 wz_W9k rfl (lw_in_7 (p := 106) rfl) (ks := [0, 38, 0, 0, 80, 0, 0, 0, 39, 0, 0, 0, 0, 0, 0, 0, 0, 0, 42, 0, 0, 0, 0, 0, 42, 0, 0, 0, 0, 0, 0, 0, 0, 0, 0, 0, 0, 0, 0, 0, 0, 0, 0, 0, 0, 0, 0]) (by decide +kernel)
set_option maxRecDepth 1000000 in
theorem mk_231 : ab_MK cm_ms mr_231 := wz_MK wz_C9 wz_W9k rfl (lw_in_7 (p := 114) rfl) (ks := [0, 0, 0, 0, 0, 0, 0, 0, 42, 0, 0, 0, 0, 0, 64, 0, 0, 0, 85, 0, 0, 0, 0, 85, 0, 0, 0, 0, 0, 0, 0, 0, 0]) (by decide +kernel)
set_option maxRecDepth 1000000 in
theorem mk_232 : ab_MK cm_ms mr_232 := wz_MK wz_C9 wz_W9k rfl (lw_in_7 (p := 110) rfl) (ks := [0, 38, 0, 0, 80, 0, 0, 0, 85, 0, 0, 0, 39, 0]) (by decide +kernel)
