/-! checks of methods -/
set_option maxRecDepth 1000000 in
theorem mk_233 : ab_MK cm_ms mr_233 := wz_MK wz_C9 wz_W9k rfl (lw_in_7 (p := 122) rfl) (ks := [0, 0, 0, 0, 0, 0, 0, 0, 0, 0]) (by decide +kernel)
set_option maxRecDepth 1000000 in
theorem mk_234 : ab_MK cm_ms mr_234 := wz_MK wz_C9 wz_W9k rfl (lw_in_7 (p := 118) rfl) (ks := [0, 38, 0, 0, 0, 78, 0, 0, 0, 34, 86, 0, 0, 0, 0, 0, 39, 0, 0, 0, 87, 0, 76, 0, 0, 0]) (by decide +kernel)
set_option maxRecDepth 1000000 in
theorem mk_235 : ab_MK cm_ms mr_235 := wz_MK wz_C9 wz_W9k rfl (lw_in_7 (p := 134) rfl) (ks := [0, 38, 0, 0, 0, 80, 0, 0, 0, 34, 86, 0, 0, 0, 0, 0, 39, 0, 0, 0, 87, 0, 0, 76, 0, 73, 0]) (by decide +kernel)
set_option maxRecDepth 1000000 in
theorem mk_236 : ab_MK cm_ms mr_236 := wz_MK wz_C9 wz_W9k rfl (lw_in_7 (p := 142) rfl) (ks := [0, 0, 87, 0, 0, 0, 0, 0, 0, 0, 76, 0, 74, 0, 0, 0, 0, 0, 76, 77, 0, 0, 0, 0]) (by decide +kernel)
set_option maxRecDepth 1000000 in
theorem mk_237 : ab_MK cm_ms mr_237 := wz_MK wz_C9 wz_W9k rfl (lw_in_7 (p := 138) rfl) (ks := [0, 38, 0, 0, 80, 0, 0, 0, 88, 0, 0, 0, 39, 0]) (by decide +kernel)
set_option maxRecDepth 1000000 in
theorem mk_238 : ab_MK cm_ms mr_238 := wz_MK wz_C9 wz_W9k rfl (lw_in_7 (p := 146) rfl) (ks := [0, 38, 0, 68, 0, 0, 0, 39, 0, 0, 0, 87, 0, 0, 0, 0, 0, 0, 0, 76, 82, 0, 0, 0, 0, 0, 76, 77, 0, 0, 0, 0]) (by decide +kernel)
set_option maxRecDepth 1000000 in
theorem mk_239 : ab_MK cm_ms mr_239 := wz_MK wz_C9 wz_W9k rfl (lw_in_7 (p := 150) rfl) (ks := [0, 38, 0, 68, 0, 0, 0, 39, 0, 0, 0, 0, 0, 0, 0, 42, 0, 0, 0, 0, 0, 44, 0, 81, 0, 0, 0, 88, 0, 0, 0, 0, 0, 0, 0, 0, 0, 0, 88, 0, 0, 0, 0, 0, 0, 0]) (by decide +kernel)
set_option maxRecDepth 1000000 in
theorem mk_240 : ab_MK cm_ms mr_240 := wz_MK wz_C9 wz_W9k rfl (lw_in_7 (p := 162) rfl) (ks := [0, 0, 87, 0, 0, 0, 0, 0, 0, 0, 0, 0, 0, 0, 0, 0, 0, 0, 0, 0, 0, 0, 0, 0, 0, 76, 77, 0, 0, 0, 0, 0, 0, 0, 0, 0, 0, 0, 0, 0, 0, 0, 0, 0, 76, 0, 81, 0, 0, 0, 0, 0, 0, 76, 0, 89, 0, 0, 42, 0, 0, 0, 0, 0, 0, 0, 0, 0, 0, 0, 0, 0, 0, 0, 0]) (by decide +kernel)
set_option maxRecDepth 1000000 in
theorem mk_241 : ab_MK cm_ms mr_241 := wz_MK wz_C9 wz_W9k rfl (lw_in_7 (p := 158) rfl) (ks := [0, 0, 0, 0, 0, 0, 0, 0, 0, 0, 0, 0, 0, 0, 0, 0, 0, 0, 0, 42, 0, 0, 0, 0, 0, 0, 0, 0, 0, 0, 0, 0, 0, 0, 0, 0, 0, 0, 0, 0, 0]) (by decide +kernel)
set_option maxRecDepth 1000000 in
theorem mk_242 : ab_MK cm_ms mr_242 := wz_MK wz_C9 wz_W9k rfl (lw_in_7 (p := 154) rfl) (ks := [0, 38, 0, 0, 68, 0, 68, 0, 0, 0, 0, 34, 0, 0, 0, 0, 90, 0, 0, 0, 0, 86, 0, 0, 0, 0, 0, 39, 0, 0, 0, 0, 91, 0, 0, 0, 0, 0, 39, 0, 0, 0]) (by decide +kernel)
set_option maxRecDepth 1000000 in
theorem mk_243 : ab_MK cm_ms mr_243 := wz_MK wz_C9 wz_W9k rfl (lw_in_7 (p := 181) rfl) (ks := [0, 0, 0, 0, 0, 0, 0, 0, 0, 0, 0, 0, 0, 0, 0]) (by decide +kernel)
set_option maxRecDepth 1000000 in
theorem mk_244 : ab_MK cm_ms mr_244 := wz_MK wz_C9 wz_W9k rfl (lw_in_7 (p := 178) rfl) (ks := [0, 0, 0, 0, 0, 0, 0, 0, 92, 0, 0, 0, 0, 90, 0, 0, 0, 0, 91, 0, 0, 0, 0, 0, 0, 0, 0, 0, 0, 0, 0, 0, 0, 0]) (by decide +kernel)
set_option maxRecDepth 1000000 in
theorem mk_245 : ab_MK cm_ms mr_245 := wz_MK wz_C9 wz_W9k rfl (lw_in_7 (p := 174) rfl) (ks := [0, 38, 0, 0, 68, 0, 0, 0, 34, 86, 0, 0, 0, 0, 0, 39, 0, 0, 0, 93, 0]) (by decide +kernel)
set_option maxRecDepth 1000000 in
theorem mk_246 : ab_MK cm_ms mr_246 := wz_MK wz_C9 wz_W9k rfl (lw_in_7 (p := 185) rfl) (ks := [0, 38, 0, 0, 68, 0, 0, 0, 34, 86, 0, 0, 0, 0, 0, 39, 0, 0, 0, 0, 93, 0, 91, 0]) (by decide +kernel)
set_option maxRecDepth 1000000 in
theorem mk_247 : ab_MK cm_ms mr_247 := wz_MK wz_C9 wz_W9k rfl (lw_in_7 (p := 189) rfl) (ks := [0, 38, 0, 0, 68, 0, 0, 0, 34, 86, 0, 0, 0, 0, 0, 39, 0, 0, 0, 0, 93, 0, 91, 0, 0, 76, 0, 0, 0]) (by decide +kernel)
set_option maxRecDepth 1000000 in
theorem mk_248 : ab_MK cm_ms mr_248 := wz_MK wz_C9 wz_W9k rfl (lw_in_7 (p := 193) rfl) (ks := [0, 38, 0, 0, 80, 0, 0, 0, 39, 0, 0, 44, 0, 0, 0, 64, 0, 0, 0, 0, 0, 0, 0, 0, 0, 0, 0, 0, 92, 0, 0, 0, 0, 90, 0, 0, 0, 0, 91, 0, 0, 76, 0, 0, 0, 64, 0, 0, 0, 0, 0, 0, 0, 0, 0]) (by decide +kernel)
set_option maxRecDepth 1000000 in
theorem mk_249 : ab_MK cm_ms mr_249 := wz_MK wz_C9 wz_W9k rfl (lw_in_7 (p := 201) rfl) (ks := [0, 0, 44, 0, 69, 0, 0, 0, 0, 84, 0, 0, 0, 0, 0, 0, 0, 0, 0, 0, 0, 0, 0, 83, 0, 0, 0, 0, 0, 0, 0, 0, 0, 0, 72, 0, 0, 0, 0, 0, 0, 0, 0, 72, 0, 0, 0, 0, 0, 0, 0, 0, 0, 0, 0]) (by decide +kernel)
set_option maxRecDepth 1000000 in
theorem mk_250 : ab_MK cm_ms mr_250 := wz_MK wz_C9 wz_W9k rfl (lw_in_7 (p := 197) rfl) (ks := [0, 38, 0, 0, 0, 78, 0, 0, 0, 34, 86, 0, 0, 0, 0, 0, 39, 0, 0, 0, 0, 94, 0]) (by decide +kernel)
set_option maxRecDepth 1000000 in
theorem mk_251 : ab_MK cm_ms mr_251 := wz_MK wz_C9 wz_W9k rfl (lw_in_7 (p := 205) rfl) (ks := [0, 38, 0, 0, 68, 0, 0, 0, 34, 86, 0, 0, 0, 0, 0, 39, 0, 0, 0, 0, 0, 0, 0, 0, 0, 42, 0, 0, 0, 0, 0, 0, 94, 0, 0, 0, 0, 0, 0, 0, 0, 94, 0, 0, 0, 0, 0]) (by decide +kernel)
set_option maxRecDepth 1000000 in
theorem mk_252 : ab_MK cm_ms mr_252 := wz_MK wz_C9 wz_W9k rfl (lw_in_7 (p := 209) rfl) (ks := [0, 38, 0, 0, 68, 0, 0, 0, 34, 86, 0, 0, 0, 0, 0, 39, 0, 0, 0, 0, 0, 0, 0, 42, 0, 0, 0, 0, 0, 0, 44, 0, 69, 0, 0, 0, 0, 94, 0, 0, 0, 0, 0, 0, 0, 0, 0, 0, 0, 0]) (by decide +kernel)
set_option maxRecDepth 1000000 in
theorem mk_253 : ab_MK cm_ms mr_253 := wz_MK wz_C9 wz_W9k rfl (lw_in_7 (p := 213) rfl) (ks := [0, 38, 0, 0, 68, 0, 0, 0, 34, 86, 0, 0, 0, 0, 0, 39, 0, 0, 0, 0, 0, 0, 0, 83, 0, 0, 0, 84, 0, 0, 0, 0, 0, 0, 72, 0, 0, 0, 0, 0, 95, 0, 95, 0, 0, 0, 0, 0, 0, 0]) (by decide +kernel)
set_option maxRecDepth 1000000 in
theorem mk_254 : ab_MK cm_ms mr_254 := wz_MK wz_C9 wz_W9k rfl (lw_in_7 (p := 228) rfl) (ks := [0, 0, 0, 0, 0, 0, 42, 0, 0, 0, 0, 0, 0, 64, 0, 0, 42, 0, 0, 0, 0, 0, 0, 95, 0, 0, 0, 0, 0, 0, 0, 0]) (by decide +kernel)
set_option maxRecDepth 1000000 in
theorem mk_255 : ab_MK cm_ms mr_255 := wz_MK wz_C9 wz_W9k rfl (lw_in_7 (p := 224) rfl) (ks := [0, 0, 0, 0, 0, 0, 83, 0, 0, 0, 0, 0, 0, 96, 0, 0, 0, 0, 0, 96, 0, 0, 0, 0, 0, 0, 0]) (by decide +kernel)
set_option maxRecDepth 1000000 in
theorem mk_256 : ab_MK cm_ms mr_256 := wz_MK wz_C9 wz_W9k rfl (lw_in_7 (p := 220) rfl) (ks := [0, 38, 0, 68, 0, 0, 97, 0, 0, 0, 39, 0]) (by decide +kernel)
set_option maxRecDepth 1000000 in
theorem mk_257 : ab_MK cm_ms mr_257 := wz_MK wz_C9 wz_W9k rfl (lw_in_7 (p := 232) rfl) (ks := [0, 38, 0, 68, 0, 0, 0, 39, 0, 0, 97, 0, 0, 42, 0, 0, 0, 0, 0, 0, 0, 96, 0, 0]) (by decide +kernel)
set_option maxRecDepth 1000000 in
theorem mk_258 : ab_MK cm_ms mr_258 := wz_MK wz_C9 wz_W9k rfl (lw_in_7 (p := 236) rfl) (ks := [0, 38, 0, 68, 0, 0, 0, 39, 0, 0, 83, 0, 0, 0, 0, 0, 83, 0, 0, 95, 0, 95, 0, 0, 0, 83, 0, 0, 0, 0, 0, 83, 0, 0, 0, 0, 96, 0, 0, 0, 0, 0, 0, 0]) (by decide +kernel)
set_option maxRecDepth 1000000 in
theorem mk_259 : ab_MK cm_ms mr_259 := wz_MK wz_C9 wz_W9k rfl (lw_in_8 (p := 8) rfl) (ks := [0, 42, 0, 0, 0, 0, 0, 42, 0, 0, 0, 0, 0, 0, 0, 0, 0, 0, 0, 0, 0, 0, 0, 0, 0, 0, 0, 0]) (by decide +kernel)
set_option maxRecDepth 1000000 in
theorem mk_260 : ab_MK cm_ms mr_260 := wz_MK wz_C9 wz_W9k rfl (lw_in_8 (p := 0) rfl) (ks := [0, 38, 0, 0, 98, 0, 0, 0, 98, 0, 0, 0, 0, 99, 0, 0, 0, 39, 0]) (by decide +kernel)
set_option maxRecDepth 1000000 in
theorem mk_261 : ab_MK cm_ms mr_261 := wz_MK wz_C9 wz_W9k rfl (lw_in_8 (p := 21) rfl) (ks := [0, 0, 42, 0, 0, 0, 0, 0, 0, 100, 0, 0, 0, 0, 0, 100, 0, 0, 99, 0, 0, 0, 0, 101, 0, 0, 0, 0, 102, 0, 100, 0, 0, 103, 0, 0, 43, 0, 0, 0, 0, 0, 42, 0, 0, 0, 0, 0, 64, 0, 0, 0, 100, 0, 0, 0, 0, 0, 0, 0, 0, 0, 0, 0, 0, 0, 0, 0, 100, 0, 0, 0, 0, 0, 99, 0, 104, 0, 0, 0]) (by decide +kernel)
set_option maxRecDepth 1000000 in
theorem mk_262 : ab_MK cm_ms mr_262 := wz_MK wz_C9 wz_W9k rfl (lw_in_8 (p := 16) rfl) (ks := [0, 105, 102, 0, 100, 0, 0, 0, 0, 0, 0, 0, 104, 0]) (by decide +kernel)
set_option maxRecDepth 1000000 in
theorem mk_263 : ab_MK cm_ms mr_263 := wz_MK wz_C9 wz_W9k rfl (lw_in_8 (p := 12) rfl) (ks := [0, 38, 0, 68, 0, 0, 0, 39, 0, 0, 42, 0, 0, 0, 0, 0, 0, 0, 106, 0, 101, 0]) (by decide +kernel)
set_option maxRecDepth 1000000 in
theorem mk_264 : ab_MK cm_ms mr_264 := wz_MK wz_C9 wz_W9k rfl (lw_in_8 (p := 25) rfl) (ks := [0, 38, 0, 0, 98, 0, 0, 0, 39, 0, 0, 106, 0, 103, 0, 0, 0]) (by decide +kernel)
set_option maxRecDepth 1000000 in
theorem mk_265 : ab_MK cm_ms mr_265 := wz_MK wz_C9 wz_W9k rfl (lw_in_8 (p := 37) rfl) (ks := [0, 0, 76, 45, 0, 0, 0, 0, 42, 0, 0, 0, 0, 0, 64, 0, 0, 0, 76, 0, 75, 0, 0, 0, 0, 0, 0, 0, 0, 0, 0, 0, 0, 42, 0, 0, 0, 0, 0, 0, 76, 0, 0, 0, 0, 0, 42, 0, 0, 0, 0, 0, 0, 0, 0, 0, 0, 0, 0, 0, 0, 0]) (by decide +kernel)
