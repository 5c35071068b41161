/-! checks of methods -/
set_option maxRecDepth 1000000 in
theorem mk_160 : ev_MOK ev_ms mr_160 := ev_chkM_ok (j := 629) (ps := [([], 0), ([232], 0), ([], 0), ([215], 0), ([630, 618, 118], 0), ([], 0), ([], 0), ([], 0)]) (by decide +kernel)
set_option maxRecDepth 1000000 in
theorem mk_161 : ev_MOK ev_ms mr_161 := ev_chkM_ok (j := 1017) (ps := [([], 0), ([], 0), ([], 0), ([], 0), ([445], 0), ([259], 0), ([], 0), ([], 0), ([], 0), ([], 0)]) (by decide +kernel)
set_option maxRecDepth 1000000 in
theorem mk_162 : ev_MOK ev_ms mr_162 := ev_chkM_ok (j := 1803) (ps := [([], 0), ([1317], 0), ([], 0), ([], 0), ([], 0)]) (by decide +kernel)
set_option maxRecDepth 1000000 in
theorem mk_163 : ev_MOK ev_ms mr_163 := ev_chkM_ok (j := 1055) (ps := [([], 0), ([795, 797, 28, 116], 0), ([], 0), ([], 0), ([], 0), ([500, 502, 1, 116], 0), ([], 0), ([], 0), ([], 0)]) (by decide +kernel)
set_option maxRecDepth 1000000 in
theorem mk_164 : ev_MOK ev_ms mr_164 := ev_chkM_ok (j := 1113) (ps := [([], 0), ([], 0), ([], 0), ([], 0), ([], 0), ([], 0), ([], 0), ([], 0), ([], 0), ([892, 894, 32, 116], 0), ([], 0)]) (by decide +kernel)
set_option maxRecDepth 1000000 in
theorem mk_165 : ev_MOK ev_ms mr_165 := ev_chkM_ok (j := 1909) (ps := [([], 0), ([], 0), ([], 0), ([], 0)]) (by decide +kernel)
set_option maxRecDepth 1000000 in
theorem mk_166 : ev_MOK ev_ms mr_166 := ev_chkM_ok (j := 1202) (ps := [([], 0), ([343], 0), ([], 0), ([], 0), ([], 0)]) (by decide +kernel)
set_option maxRecDepth 1000000 in
theorem mk_167 : ev_MOK ev_ms mr_167 := ev_chkM_ok (j := 1939) (ps := [([], 0), ([], 0), ([1314], 0), ([], 0), ([], 0)]) (by decide +kernel)
set_option maxRecDepth 1000000 in
theorem mk_168 : ev_MOK ev_ms mr_168 := ev_chkM_ok (j := 1218) (ps := [([], 0), ([], 0), ([], 0), ([], 0), ([345], 0), ([], 0), ([], 0), ([], 0)]) (by decide +kernel)
set_option maxRecDepth 1000000 in
theorem mk_169 : ev_MOK ev_ms mr_169 := ev_chkM_ok (j := 619) (ps := [([], 0), ([], 0), ([], 0), ([], 0), ([], 0), ([], 0), ([], 0), ([], 0), ([], 0)]) (by decide +kernel)
