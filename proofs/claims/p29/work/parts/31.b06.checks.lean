/-! checks of methods -/
set_option maxRecDepth 1000000 in
theorem mk_233 : ab_MK cm_ms mr_233 := wz_MK wz_C9 wz_W9k rfl (j := 1677) (ks := [0, 0, 0, 0, 0, 0, 0, 0, 0, 0]) (by decide +kernel)
set_option maxRecDepth 1000000 in
theorem mk_234 : ab_MK cm_ms mr_234 := wz_MK wz_C9 wz_W9k rfl (j := 1673) (ks := [0, 38, 0, 0, 0, 78, 0, 0, 0, 34, 86, 0, 0, 0, 0, 0, 39, 0, 0, 0, 87, 0, 76, 0, 0, 0]) (by decide +kernel)
set_option maxRecDepth 1000000 in
theorem mk_235 : ab_MK cm_ms mr_235 := wz_MK wz_C9 wz_W9k rfl (j := 1689) (ks := [0, 38, 0, 0, 0, 80, 0, 0, 0, 34, 86, 0, 0, 0, 0, 0, 39, 0, 0, 0, 87, 0, 0, 76, 0, 73, 0]) (by decide +kernel)
set_option maxRecDepth 1000000 in
theorem mk_236 : ab_MK cm_ms mr_236 := wz_MK wz_C9 wz_W9k rfl (j := 1697) (ks := [0, 0, 87, 0, 0, 0, 0, 0, 0, 0, 76, 0, 74, 0, 0, 0, 0, 0, 76, 77, 0, 0, 0, 0]) (by decide +kernel)
set_option maxRecDepth 1000000 in
theorem mk_237 : ab_MK cm_ms mr_237 := wz_MK wz_C9 wz_W9k rfl (j := 1693) (ks := [0, 38, 0, 0, 80, 0, 0, 0, 88, 0, 0, 0, 39, 0]) (by decide +kernel)
set_option maxRecDepth 1000000 in
theorem mk_238 : ab_MK cm_ms mr_238 := wz_MK wz_C9 wz_W9k rfl (j := 1701) (ks := [0, 38, 0, 68, 0, 0, 0, 39, 0, 0, 0, 87, 0, 0, 0, 0, 0, 0, 0, 76, 82, 0, 0, 0, 0, 0, 76, 77, 0, 0, 0, 0]) (by decide +kernel)
set_option maxRecDepth 1000000 in
theorem mk_239 : ab_MK cm_ms mr_239 := wz_MK wz_C9 wz_W9k rfl (j := 1705) (ks := [0, 38, 0, 68, 0, 0, 0, 39, 0, 0, 0, 0, 0, 0, 0, 42, 0, 0, 0, 0, 0, 44, 0, 81, 0, 0, 0, 88, 0, 0, 0, 0, 0, 0, 0, 0, 0, 0, 88, 0, 0, 0, 0, 0, 0, 0]) (by decide +kernel)
set_option maxRecDepth 1000000 in
theorem mk_240 : ab_MK cm_ms mr_240 := wz_MK wz_C9 wz_W9k rfl (j := 1717) (ks := [0, 0, 87, 0, 0, 0, 0, 0, 0, 0, 0, 0, 0, 0, 0, 0, 0, 0, 0, 0, 0, 0, 0, 0, 0, 76, 77, 0, 0, 0, 0, 0, 0, 0, 0, 0, 0, 0, 0, 0, 0, 0, 0, 0, 76, 0, 81, 0, 0, 0, 0, 0, 0, 76, 0, 89, 0, 0, 42, 0, 0, 0, 0, 0, 0, 0, 0, 0, 0, 0, 0, 0, 0, 0, 0]) (by decide +kernel)
set_option maxRecDepth 1000000 in
theorem mk_241 : ab_MK cm_ms mr_241 := wz_MK wz_C9 wz_W9k rfl (j := 1713) (ks := [0, 0, 0, 0, 0, 0, 0, 0, 0, 0, 0, 0, 0, 0, 0, 0, 0, 0, 0, 42, 0, 0, 0, 0, 0, 0, 0, 0, 0, 0, 0, 0, 0, 0, 0, 0, 0, 0, 0, 0, 0]) (by decide +kernel)
set_option maxRecDepth 1000000 in
theorem mk_242 : ab_MK cm_ms mr_242 := wz_MK wz_C9 wz_W9k rfl (j := 1709) (ks := [0, 38, 0, 0, 68, 0, 68, 0, 0, 0, 0, 34, 0, 0, 0, 0, 90, 0, 0, 0, 0, 86, 0, 0, 0, 0, 0, 39, 0, 0, 0, 0, 91, 0, 0, 0, 0, 0, 39, 0, 0, 0]) (by decide +kernel)
set_option maxRecDepth 1000000 in
theorem mk_243 : ab_MK cm_ms mr_243 := wz_MK wz_C9 wz_W9k rfl (j := 1736) (ks := [0, 0, 0, 0, 0, 0, 0, 0, 0, 0, 0, 0, 0, 0, 0]) (by decide +kernel)
set_option maxRecDepth 1000000 in
theorem mk_244 : ab_MK cm_ms mr_244 := wz_MK wz_C9 wz_W9k rfl (j := 1733) (ks := [0, 0, 0, 0, 0, 0, 0, 0, 92, 0, 0, 0, 0, 90, 0, 0, 0, 0, 91, 0, 0, 0, 0, 0, 0, 0, 0, 0, 0, 0, 0, 0, 0, 0]) (by decide +kernel)
set_option maxRecDepth 1000000 in
theorem mk_245 : ab_MK cm_ms mr_245 := wz_MK wz_C9 wz_W9k rfl (j := 1729) (ks := [0, 38, 0, 0, 68, 0, 0, 0, 34, 86, 0, 0, 0, 0, 0, 39, 0, 0, 0, 93, 0]) (by decide +kernel)
set_option maxRecDepth 1000000 in
theorem mk_246 : ab_MK cm_ms mr_246 := wz_MK wz_C9 wz_W9k rfl (j := 1740) (ks := [0, 38, 0, 0, 68, 0, 0, 0, 34, 86, 0, 0, 0, 0, 0, 39, 0, 0, 0, 0, 93, 0, 91, 0]) (by decide +kernel)
set_option maxRecDepth 1000000 in
theorem mk_247 : ab_MK cm_ms mr_247 := wz_MK wz_C9 wz_W9k rfl (j := 1744) (ks := [0, 38, 0, 0, 68, 0, 0, 0, 34, 86, 0, 0, 0, 0, 0, 39, 0, 0, 0, 0, 93, 0, 91, 0, 0, 76, 0, 0, 0]) (by decide +kernel)
set_option maxRecDepth 1000000 in
theorem mk_248 : ab_MK cm_ms mr_248 := wz_MK wz_C9 wz_W9k rfl (j := 1748) (ks := [0, 38, 0, 0, 80, 0, 0, 0, 39, 0, 0, 44, 0, 0, 0, 64, 0, 0, 0, 0, 0, 0, 0, 0, 0, 0, 0, 0, 92, 0, 0, 0, 0, 90, 0, 0, 0, 0, 91, 0, 0, 76, 0, 0, 0, 64, 0, 0, 0, 0, 0, 0, 0, 0, 0]) (by decide +kernel)
set_option maxRecDepth 1000000 in
theorem mk_249 : ab_MK cm_ms mr_249 := wz_MK wz_C9 wz_W9k rfl (j := 1756) (ks := [0, 0, 44, 0, 69, 0, 0, 0, 0, 84, 0, 0, 0, 0, 0, 0, 0, 0, 0, 0, 0, 0, 0, 83, 0, 0, 0, 0, 0, 0, 0, 0, 0, 0, 72, 0, 0, 0, 0, 0, 0, 0, 0, 72, 0, 0, 0, 0, 0, 0, 0, 0, 0, 0, 0]) (by decide +kernel)
set_option maxRecDepth 1000000 in
theorem mk_250 : ab_MK cm_ms mr_250 := wz_MK wz_C9 wz_W9k rfl (j := 1752) (ks := [0, 38, 0, 0, 0, 78, 0, 0, 0, 34, 86, 0, 0, 0, 0, 0, 39, 0, 0, 0, 0, 94, 0]) (by decide +kernel)
set_option maxRecDepth 1000000 in
theorem mk_251 : ab_MK cm_ms mr_251 := wz_MK wz_C9 wz_W9k rfl (j := 1760) (ks := [0, 38, 0, 0, 68, 0, 0, 0, 34, 86, 0, 0, 0, 0, 0, 39, 0, 0, 0, 0, 0, 0, 0, 0, 0, 42, 0, 0, 0, 0, 0, 0, 94, 0, 0, 0, 0, 0, 0, 0, 0, 94, 0, 0, 0, 0, 0]) (by decide +kernel)
set_option maxRecDepth 1000000 in
theorem mk_252 : ab_MK cm_ms mr_252 := wz_MK wz_C9 wz_W9k rfl (j := 1764) (ks := [0, 38, 0, 0, 68, 0, 0, 0, 34, 86, 0, 0, 0, 0, 0, 39, 0, 0, 0, 0, 0, 0, 0, 42, 0, 0, 0, 0, 0, 0, 44, 0, 69, 0, 0, 0, 0, 94, 0, 0, 0, 0, 0, 0, 0, 0, 0, 0, 0, 0]) (by decide +kernel)
set_option maxRecDepth 1000000 in
theorem mk_253 : ab_MK cm_ms mr_253 := wz_MK wz_C9 wz_W9k rfl (j := 1768) (ks := [0, 38, 0, 0, 68, 0, 0, 0, 34, 86, 0, 0, 0, 0, 0, 39, 0, 0, 0, 0, 0, 0, 0, 83, 0, 0, 0, 84, 0, 0, 0, 0, 0, 0, 72, 0, 0, 0, 0, 0, 95, 0, 95, 0, 0, 0, 0, 0, 0, 0]) (by decide +kernel)
set_option maxRecDepth 1000000 in
theorem mk_254 : ab_MK cm_ms mr_254 := wz_MK wz_C9 wz_W9k rfl (j := 1783) (ks := [0, 0, 0, 0, 0, 0, 42, 0, 0, 0, 0, 0, 0, 64, 0, 0, 42, 0, 0, 0, 0, 0, 0, 95, 0, 0, 0, 0, 0, 0, 0, 0]) (by decide +kernel)
set_option maxRecDepth 1000000 in
theorem mk_255 : ab_MK cm_ms mr_255 := wz_MK wz_C9 wz_W9k rfl (j := 1779) (ks := [0, 0, 0, 0, 0, 0, 83, 0, 0, 0, 0, 0, 0, 96, 0, 0, 0, 0, 0, 96, 0, 0, 0, 0, 0, 0, 0]) (by decide +kernel)
set_option maxRecDepth 1000000 in
theorem mk_256 : ab_MK cm_ms mr_256 := wz_MK wz_C9 wz_W9k rfl (j := 1775) (ks := [0, 38, 0, 68, 0, 0, 97, 0, 0, 0, 39, 0]) (by decide +kernel)
set_option maxRecDepth 1000000 in
theorem mk_257 : ab_MK cm_ms mr_257 := wz_MK wz_C9 wz_W9k rfl (j := 1787) (ks := [0, 38, 0, 68, 0, 0, 0, 39, 0, 0, 97, 0, 0, 42, 0, 0, 0, 0, 0, 0, 0, 96, 0, 0]) (by decide +kernel)
set_option maxRecDepth 1000000 in
theorem mk_258 : ab_MK cm_ms mr_258 := wz_MK wz_C9 wz_W9k rfl (j := 1791) (ks := [0, 38, 0, 68, 0, 0, 0, 39, 0, 0, 83, 0, 0, 0, 0, 0, 83, 0, 0, 95, 0, 95, 0, 0, 0, 83, 0, 0, 0, 0, 0, 83, 0, 0, 0, 0, 96, 0, 0, 0, 0, 0, 0, 0]) (by decide +kernel)
set_option maxRecDepth 1000000 in
theorem mk_259 : ab_MK cm_ms mr_259 := wz_MK wz_C9 wz_W9k rfl (j := 1803) (ks := [0, 42, 0, 0, 0, 0, 0, 42, 0, 0, 0, 0, 0, 0, 0, 0, 0, 0, 0, 0, 0, 0, 0, 0, 0, 0, 0, 0]) (by decide +kernel)
set_option maxRecDepth 1000000 in
theorem mk_260 : ab_MK cm_ms mr_260 := wz_MK wz_C9 wz_W9k rfl (j := 1795) (ks := [0, 38, 0, 0, 98, 0, 0, 0, 98, 0, 0, 0, 0, 99, 0, 0, 0, 39, 0]) (by decide +kernel)
set_option maxRecDepth 1000000 in
theorem mk_261 : ab_MK cm_ms mr_261 := wz_MK wz_C9 wz_W9k rfl (j := 1816) (ks := [0, 0, 42, 0, 0, 0, 0, 0, 0, 100, 0, 0, 0, 0, 0, 100, 0, 0, 99, 0, 0, 0, 0, 101, 0, 0, 0, 0, 102, 0, 100, 0, 0, 103, 0, 0, 43, 0, 0, 0, 0, 0, 42, 0, 0, 0, 0, 0, 64, 0, 0, 0, 100, 0, 0, 0, 0, 0, 0, 0, 0, 0, 0, 0, 0, 0, 0, 0, 100, 0, 0, 0, 0, 0, 99, 0, 104, 0, 0, 0]) (by decide +kernel)
set_option maxRecDepth 1000000 in
theorem mk_262 : ab_MK cm_ms mr_262 := wz_MK wz_C9 wz_W9k rfl (j := 1811) (ks := [0, 105, 102, 0, 100, 0, 0, 0, 0, 0, 0, 0, 104, 0]) (by decide +kernel)
set_option maxRecDepth 1000000 in
theorem mk_263 : ab_MK cm_ms mr_263 := wz_MK wz_C9 wz_W9k rfl (j := 1807) (ks := [0, 38, 0, 68, 0, 0, 0, 39, 0, 0, 42, 0, 0, 0, 0, 0, 0, 0, 106, 0, 101, 0]) (by decide +kernel)
set_option maxRecDepth 1000000 in
theorem mk_264 : ab_MK cm_ms mr_264 := wz_MK wz_C9 wz_W9k rfl (j := 1820) (ks := [0, 38, 0, 0, 98, 0, 0, 0, 39, 0, 0, 106, 0, 103, 0, 0, 0]) (by decide +kernel)
set_option maxRecDepth 1000000 in
theorem mk_265 : ab_MK cm_ms mr_265 := wz_MK wz_C9 wz_W9k rfl (j := 1832) (ks := [0, 0, 76, 45, 0, 0, 0, 0, 42, 0, 0, 0, 0, 0, 64, 0, 0, 0, 76, 0, 75, 0, 0, 0, 0, 0, 0, 0, 0, 0, 0, 0, 0, 42, 0, 0, 0, 0, 0, 0, 76, 0, 0, 0, 0, 0, 42, 0, 0, 0, 0, 0, 0, 0, 0, 0, 0, 0, 0, 0, 0, 0]) (by decide +kernel)
