/-! checks of methods -/
set_option maxRecDepth 1000000 in
theorem mk_266 : ab_MK cm_ms mr_266 := wz_MK wz_C9 wz_W9k rfl (lw_in_8 (p := 33) rfl) (ks := [0, 0, 0, 0, 107, 0, 0, 108, 0, 0, 0, 42, 0, 0, 0, 0, 0, 109, 0, 0, 0, 0, 0, 0, 110, 0, 0, 0, 0, 0, 0, 0, 0, 0, 0, 42, 0, 0, 0, 0, 0, 0, 111, 0, 0, 0, 112, 0, 0, 0, 0, 0, 0, 112, 0, 0, 107, 0, 0, 113, 0, 0, 108, 0, 0, 114, 0, 0, 109, 0, 0, 0, 0, 42, 0, 0, 0, 0, 110, 0, 0, 0, 0, 0, 0, 0, 0, 0, 0, 0, 0, 0, 0, 0, 112, 0, 0, 0, 109, 0, 0]) (by decide +kernel)
set_option maxRecDepth 1000000 in
theorem mk_267 : ab_MK cm_ms mr_267 := wz_MK wz_C9 wz_W9k rfl (lw_in_8 (p := 29) rfl) (ks := [0, 38, 0, 68, 0, 0, 0, 39, 0, 0, 0, 115, 0, 0, 112, 0]) (by decide +kernel)
set_option maxRecDepth 1000000 in
theorem mk_268 : ab_MK cm_ms mr_268 := wz_MK wz_C9 wz_W9k rfl (lw_in_8 (p := 41) rfl) (ks := [0, 38, 0, 68, 0, 0, 0, 0, 0, 39, 0, 0, 0, 115, 0, 0, 0, 0, 0, 39, 0, 0, 0]) (by decide +kernel)
set_option maxRecDepth 1000000 in
theorem mk_269 : ab_MK cm_ms mr_269 := wz_MK wz_C9 wz_W9k rfl (lw_in_8 (p := 45) rfl) (ks := [0, 38, 0, 68, 0, 0, 0, 39, 0, 0, 0, 115, 0, 0, 113, 0]) (by decide +kernel)
set_option maxRecDepth 1000000 in
theorem mk_270 : ab_MK cm_ms mr_270 := wz_MK wz_C9 wz_W9k rfl (lw_in_8 (p := 49) rfl) (ks := [0, 38, 0, 68, 0, 0, 0, 39, 0, 0, 0, 115, 0, 0, 114, 0]) (by decide +kernel)
set_option maxRecDepth 1000000 in
theorem mk_271 : ab_MK cm_ms mr_271 := wz_MK wz_C9 wz_W9k rfl (lw_in_8 (p := 61) rfl) (ks := [0, 110, 0, 0, 0, 112, 0, 110, 0, 0, 0, 0, 0, 110, 0, 0, 0, 0, 112, 0, 110, 0, 0, 0, 0]) (by decide +kernel)
set_option maxRecDepth 1000000 in
theorem mk_272 : ab_MK cm_ms mr_272 := wz_MK wz_C9 wz_W9k rfl (lw_in_8 (p := 57) rfl) (ks := [0, 0, 115, 0, 0, 0, 0, 0, 0, 0, 42, 0, 0, 0, 0, 112, 0, 0, 0, 0, 0, 116, 0, 0, 116, 0, 0, 0, 0, 0, 0, 0]) (by decide +kernel)
set_option maxRecDepth 1000000 in
theorem mk_273 : ab_MK cm_ms mr_273 := wz_MK wz_C9 wz_W9k rfl (lw_in_8 (p := 53) rfl) (ks := [0, 38, 0, 68, 0, 0, 117, 0, 0, 0, 39, 0]) (by decide +kernel)
set_option maxRecDepth 1000000 in
theorem mk_274 : ab_MK cm_ms mr_274 := wz_MK wz_C9 wz_W9k rfl (lw_in_8 (p := 65) rfl) (ks := [0, 38, 0, 68, 0, 0, 0, 39, 0, 0, 117, 0, 0, 0, 0, 0, 0, 0, 116, 0]) (by decide +kernel)
set_option maxRecDepth 1000000 in
theorem mk_275 : ab_MK cm_ms mr_275 := wz_MK wz_C9 wz_W9k rfl (lw_in_8 (p := 72) rfl) (ks := [0, 0, 0, 0, 0, 0, 0, 0, 0, 0, 0, 0, 0, 0, 0]) (by decide +kernel)
set_option maxRecDepth 1000000 in
theorem mk_276 : ab_MK cm_ms mr_276 := wz_MK wz_C9 wz_W9k rfl (lw_in_8 (p := 69) rfl) (ks := [0, 38, 0, 0, 68, 0, 0, 0, 34, 86, 0, 0, 0, 0, 0, 0, 0, 0, 118, 0, 0, 0, 0, 118, 0, 0, 0, 2, 0, 0]) (by decide +kernel)
set_option maxRecDepth 1000000 in
theorem mk_277 : ab_MK cm_ms mr_277 := wz_MK wz_C9 wz_W9k rfl (lw_in_8 (p := 83) rfl) (ks := [0, 0, 0, 0, 0, 0, 0, 118, 0, 0, 0, 118, 0, 0, 0, 0, 0, 0, 0, 0, 118, 0, 0, 0, 118, 0, 0, 0, 0, 0]) (by decide +kernel)
set_option maxRecDepth 1000000 in
theorem mk_278 : ab_MK cm_ms mr_278 := wz_MK wz_C9 wz_W9k rfl (lw_in_8 (p := 80) rfl) (ks := [0, 0, 0, 0, 119, 0, 0, 0, 0, 0, 0, 0, 0, 0, 0, 0, 0, 0, 0, 0, 0, 0, 0, 0, 0, 120, 0, 0, 0, 0, 0, 0, 0, 0, 0, 0, 0, 0, 0, 0, 119, 0, 0, 0, 0, 0]) (by decide +kernel)
set_option maxRecDepth 1000000 in
theorem mk_279 : ab_MK cm_ms mr_279 := wz_MK wz_C9 wz_W9k rfl (lw_in_8 (p := 76) rfl) (ks := [0, 38, 0, 0, 68, 0, 0, 0, 34, 86, 0, 0, 0, 0, 0, 39, 0, 0, 0, 121, 0]) (by decide +kernel)
set_option maxRecDepth 1000000 in
theorem mk_280 : ab_MK cm_ms mr_280 := wz_MK wz_C9 wz_W9k rfl (lw_in_8 (p := 87) rfl) (ks := [0, 38, 0, 0, 68, 0, 0, 0, 34, 86, 0, 0, 0, 0, 0, 39, 0, 0, 0, 121, 0, 0, 122, 0]) (by decide +kernel)
set_option maxRecDepth 1000000 in
theorem mk_281 : ab_MK cm_ms mr_281 := wz_MK wz_C9 wz_W9k rfl (lw_in_8 (p := 95) rfl) (ks := [0, 0, 123, 0, 0, 124, 0, 0, 125, 0, 0, 0, 0, 83, 0, 0, 0, 87, 0, 0, 0, 0, 0, 0, 42, 0, 0, 0, 0, 0, 0, 64, 0, 0, 42, 0, 0, 0, 0, 0, 0, 42, 0, 0, 0, 0, 0, 0, 0, 0, 64, 0, 0, 76, 0, 0, 0, 0, 0, 0, 0, 126, 0, 0, 123, 0, 0, 127, 0, 0, 76, 0, 74, 0, 0, 0, 0, 0, 124, 0, 0, 128, 0, 0, 0, 76, 0, 73, 0, 0, 0, 125, 0, 0, 0]) (by decide +kernel)
set_option maxRecDepth 1000000 in
theorem mk_282 : ab_MK cm_ms mr_282 := wz_MK wz_C9 wz_W9k rfl (lw_in_8 (p := 91) rfl) (ks := [0, 38, 0, 0, 80, 0, 0, 0, 39, 0, 0, 0, 0, 129, 0, 127, 0, 126, 0, 130, 0]) (by decide +kernel)
set_option maxRecDepth 1000000 in
theorem mk_283 : ab_MK cm_ms mr_283 := wz_MK wz_C9 wz_W9k rfl (lw_in_8 (p := 102) rfl) (ks := [0, 38, 0, 0, 80, 0, 0, 0, 39, 0, 0, 0, 0, 129, 0, 128, 0, 126, 0, 130, 0]) (by decide +kernel)
set_option maxRecDepth 1000000 in
theorem mk_284 : ab_MK cm_ms mr_284 := wz_MK wz_C9 wz_W9k rfl (lw_in_8 (p := 110) rfl) (ks := [0, 0, 0, 0, 0, 0, 131, 34, 0, 0, 0, 0, 34, 0, 0, 0, 0, 0, 87, 0, 0, 132, 0, 0, 0, 0, 0, 0, 0, 0, 0, 76, 77, 0, 0, 0, 0, 42, 0, 0, 0, 0, 0, 0, 0, 0, 133, 0, 0, 0, 0, 0, 0, 42, 0, 0, 0, 0, 76, 0, 0, 0, 0, 0, 0, 134, 0, 0, 0, 0, 0, 76, 0, 74, 0, 0, 0, 132, 0, 0, 0, 0]) (by decide +kernel)
set_option maxRecDepth 1000000 in
theorem mk_285 : ab_MK cm_ms mr_285 := wz_MK wz_C9 wz_W9k rfl (lw_in_8 (p := 106) rfl) (ks := [0, 38, 0, 0, 0, 78, 0, 0, 0, 135, 0, 0, 0, 0, 0, 39, 0, 0, 76, 0, 0, 0]) (by decide +kernel)
set_option maxRecDepth 1000000 in
theorem mk_286 : ab_MK cm_ms mr_286 := wz_MK wz_C9 wz_W9k rfl (lw_in_8 (p := 116) rfl) (ks := [0, 38, 0, 0, 0, 80, 0, 0, 0, 135, 0, 0, 0, 0, 0, 39, 0, 0, 134, 0]) (by decide +kernel)
set_option maxRecDepth 1000000 in
theorem mk_287 : ab_MK cm_ms mr_287 := wz_MK wz_C9 wz_W9k rfl (lw_in_8 (p := 124) rfl) (ks := [0, 136, 0, 0, 0, 0, 0, 0, 0, 0, 137, 0, 0, 137, 0, 0, 0, 0, 0, 0, 0, 0, 0, 136, 0, 0, 47, 0, 44, 0, 0, 137, 0, 0, 136, 0, 0, 43, 0, 0, 136, 0, 0, 47, 0]) (by decide +kernel)
set_option maxRecDepth 1000000 in
theorem mk_288 : ab_MK cm_ms mr_288 := wz_MK wz_C9 wz_W9k rfl (lw_in_8 (p := 120) rfl) (ks := [0, 38, 0, 0, 80, 0, 0, 0, 39, 0, 0, 0, 44, 0, 81, 0, 0, 0, 39, 0, 0, 138, 0, 0, 44, 0, 89, 0, 0, 0, 0, 0]) (by decide +kernel)
set_option maxRecDepth 1000000 in
theorem mk_289 : ab_MK cm_ms mr_289 := wz_MK wz_C9 wz_W9k rfl (lw_in_8 (p := 128) rfl) (ks := [0, 38, 0, 68, 0, 0, 0, 39, 0, 0, 44, 0, 0, 0, 0, 0, 0, 39, 0, 0, 138, 0, 0, 44, 77, 0, 0, 44, 82, 0]) (by decide +kernel)
set_option maxRecDepth 1000000 in
theorem mk_290 : ab_MK cm_ms mr_290 := wz_MK wz_C9 wz_W9k rfl (lw_in_8 (p := 132) rfl) (ks := [0, 38, 0, 0, 78, 0, 0, 0, 39, 0, 0, 44, 0, 0, 0, 0, 0, 39, 0, 0, 138, 0, 44, 0, 0, 0, 0, 44, 0, 0, 0, 0, 44, 0, 0, 42, 0, 0, 0, 0, 0, 0, 0, 0, 0, 0, 0, 0, 0, 0]) (by decide +kernel)
set_option maxRecDepth 1000000 in
theorem mk_291 : ab_MK cm_ms mr_291 := wz_MK wz_C9 wz_W9k rfl (lw_in_8 (p := 136) rfl) (ks := [0, 38, 0, 136, 0, 0, 0, 139, 0, 0, 0, 136, 0, 0, 47, 0, 137, 0, 0, 136, 0, 0, 44, 0, 0, 43, 0, 0]) (by decide +kernel)
set_option maxRecDepth 1000000 in
theorem mk_292 : ab_MK cm_ms mr_292 := wz_MK wz_C9 wz_W9k rfl (lw_in_8 (p := 144) rfl) (ks := [0, 38, 0, 68, 0, 0, 0, 39, 0, 0, 140, 0, 0, 0, 0, 39, 0, 0, 44, 0, 0, 141, 0, 0, 140, 0, 0, 43, 0, 0, 140, 0, 0, 48, 0, 140, 0, 0, 0]) (by decide +kernel)
set_option maxRecDepth 1000000 in
theorem mk_293 : ab_MK cm_ms mr_293 := wz_MK wz_C9 wz_W9k rfl (lw_in_8 (p := 148) rfl) (ks := [0, 38, 0, 0, 0, 140, 0, 0, 34, 0, 0, 0, 139, 0, 0, 141, 0, 0, 0, 0, 44, 0, 0, 43, 0, 0, 47, 0, 0]) (by decide +kernel)
set_option maxRecDepth 1000000 in
theorem mk_294 : ab_MK cm_ms mr_294 := wz_MK wz_C9 wz_W9k rfl (lw_in_8 (p := 152) rfl) (ks := [0, 0, 0, 0, 0, 68, 0, 0, 0, 42, 0, 0, 0, 0, 44, 0, 0, 0, 64, 0, 0, 0, 0, 0, 0, 0, 1, 0, 0, 0, 0, 0, 0, 0, 1, 0, 0]) (by decide +kernel)
set_option maxRecDepth 1000000 in
theorem mk_295 : ab_MK cm_ms mr_295 := wz_MK wz_C9 wz_W9k rfl (lw_in_8 (p := 156) rfl) (ks := [0, 0, 1, 0, 0, 0, 0, 3, 0, 0, 68, 0, 0, 0, 0, 34, 0, 0, 0, 0, 0, 0, 0, 0, 34, 0, 0, 42, 0, 0, 0, 0, 0, 0, 0, 44, 0, 0, 0, 0, 0, 0, 0, 136, 0, 0, 0, 0, 0, 140, 0, 0, 0]) (by decide +kernel)
set_option maxRecDepth 1000000 in
theorem mk_296 : ab_MK cm_ms mr_296 := wz_MK wz_C9 wz_W9k rfl (lw_in_8 (p := 160) rfl) (ks := [0, 0, 1, 0, 66, 0]) (by decide +kernel)
