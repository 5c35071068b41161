/-! checks of methods -/
set_option maxRecDepth 1000000 in
theorem mk_124 : ev_MOK ev_ms mr_124 := ev_chkM_ok (j := 514) (ps := [([], 0), ([], 0), ([203], 0), ([], 0), ([], 0), ([207], 0), ([], 0), ([], 0), ([211], 0), ([], 0), ([], 0), ([215], 0), ([], 0), ([], 0), ([236], 0), ([], 0), ([], 0), ([257], 0), ([], 0), ([], 0), ([264], 0), ([], 0), ([], 0), ([], 0), ([], 0), ([], 0), ([], 0), ([261], 0), ([], 0), ([], 0), ([], 0), ([], 0), ([], 0), ([], 0)]) (by decide +kernel)
set_option maxRecDepth 1000000 in
theorem mk_125 : ev_MOK ev_ms mr_125 := ev_chkM_ok (j := 518) (ps := [([], 0), ([160], 0), ([], 0), ([], 0), ([], 0), ([153], 0), ([], 0), ([152], 0), ([], 0), ([], 0), ([151], 0), ([], 0), ([153], 0), ([], 0), ([], 0), ([], 0), ([], 0), ([], 0), ([153], 0), ([155], 0), ([], 0), ([], 0), ([156], 0), ([], 0), ([], 0), ([157], 0), ([], 0), ([153], 0), ([], 0), ([152], 0), ([], 0), ([], 0), ([], 0), ([154], 0), ([], 0), ([], 0), ([151], 0), ([], 0), ([153], 0), ([], 0), ([519, 520, 117], 0), ([], 0), ([], 0), ([151], 0), ([], 0), ([153], 0), ([], 0), ([531, 532, 117], 0), ([], 0), ([], 0), ([], 0), ([151], 0), ([], 0), ([153], 0), ([], 0), ([], 0), ([], 0), ([], 0), ([154], 0), ([], 0), ([], 0), ([153], 0), ([], 0), ([], 0), ([153], 0), ([], 0)]) (by decide +kernel)
set_option maxRecDepth 1000000 in
theorem mk_126 : ev_MOK ev_ms mr_126 := ev_chkM_ok (j := 541) (ps := [([], 0), ([542, 544, 6, 117], 0), ([], 0), ([], 0), ([], 0), ([], 0), ([], 0), ([], 0), ([609, 611, 8, 117], 0), ([], 0), ([], 0), ([515, 517, 2, 117], 0), ([], 0), ([160], 0), ([], 0), ([], 0), ([], 0), ([], 0)]) (by decide +kernel)
set_option maxRecDepth 1000000 in
theorem mk_127 : ev_MOK ev_ms mr_127 := ev_chkM_ok (j := 612) (ps := [([], 0), ([160], 0), ([], 0), ([], 0), ([], 0), ([160], 0), ([], 0)]) (by decide +kernel)
set_option maxRecDepth 1000000 in
theorem mk_128 : ev_MOK ev_ms mr_128 := ev_chkM_ok (j := 521) (ps := [([], 0), ([], 0), ([], 0), ([], 0), ([], 0)]) (by decide +kernel)
set_option maxRecDepth 1000000 in
theorem mk_129 : ev_MOK ev_ms mr_129 := ev_chkM_ok (j := 533) (ps := [([], 0), ([], 0), ([], 0), ([], 0), ([], 0)]) (by decide +kernel)
set_option maxRecDepth 1000000 in
theorem mk_130 : ev_MOK ev_ms mr_130 := ev_chkM_ok (j := 545) (ps := [([], 0), ([], 0), ([], 0), ([], 0), ([], 0), ([], 0), ([], 0), ([546, 547, 117], 0), ([557, 559, 7, 117], 0), ([], 0), ([], 0), ([], 0), ([], 0), ([], 0)]) (by decide +kernel)
set_option maxRecDepth 1000000 in
theorem mk_131 : ev_MOK ev_ms mr_131 := ev_chkM_ok (j := 548) (ps := [([], 0), ([], 0), ([], 0), ([], 0), ([], 0), ([], 0), ([], 0), ([], 0), ([], 0), ([], 0), ([], 0), ([], 0), ([], 0), ([], 0), ([], 0), ([], 0), ([], 0), ([], 0)]) (by decide +kernel)
set_option maxRecDepth 1000000 in
theorem mk_132 : ev_MOK ev_ms mr_132 := ev_chkM_ok (j := 560) (ps := [([], 0), ([], 0), ([], 0), ([], 0), ([], 0), ([], 0), ([561, 562, 563, 127], 0), ([], 0), ([], 0), ([], 0), ([], 0), ([571, 572, 573, 127], 0), ([526, 527, 117], 0), ([], 0), ([], 0), ([], 0), ([], 0), ([154], 0), ([], 0), ([], 0), ([], 0), ([], 0)]) (by decide +kernel)
set_option maxRecDepth 1000000 in
theorem mk_133 : ev_MOK ev_ms mr_133 := ev_chkM_ok (j := 564) (ps := [([], 0), ([1974], 0), ([], 0), ([], 0), ([565, 566, 567, 127], 0), ([], 0), ([], 0)]) (by decide +kernel)
set_option maxRecDepth 1000000 in
theorem mk_134 : ev_MOK ev_ms mr_134 := ev_chkM_ok (j := 574) (ps := [([], 0), ([575, 576, 577, 127], 0), ([], 0), ([], 0), ([1974], 0), ([], 0), ([579, 580, 128], 0), ([], 0)]) (by decide +kernel)
set_option maxRecDepth 1000000 in
theorem mk_135 : ev_MOK ev_ms mr_135 := ev_chkM_ok (j := 528) (ps := [([], 0), ([529], 0), ([], 0), ([], 0), ([], 0), ([], 0), ([530], 0), ([], 0), ([], 0), ([], 0), ([], 0)]) (by decide +kernel)
set_option maxRecDepth 1000000 in
theorem mk_136 : ev_MOK ev_ms mr_136 := ev_chkM_ok (j := 568) (ps := [([569], 0), ([], 0), ([], 0), ([1975], 0), ([], 0), ([], 0)]) (by decide +kernel)
set_option maxRecDepth 1000000 in
theorem mk_137 : ev_MOK ev_ms mr_137 := ev_chkM_ok (j := 578) (ps := [([569], 0), ([], 0), ([], 0), ([1975], 0), ([], 0), ([], 0), ([], 0), ([], 0)]) (by decide +kernel)
set_option maxRecDepth 1000000 in
theorem mk_138 : ev_MOK ev_ms mr_138 := ev_chkM_ok (j := 581) (ps := [([], 0), ([], 0), ([], 0), ([582, 583, 127], 0), ([], 0), ([], 0), ([], 0), ([], 0), ([], 0), ([], 0), ([], 0)]) (by decide +kernel)
set_option maxRecDepth 1000000 in
theorem mk_139 : ev_MOK ev_ms mr_139 := ev_chkM_ok (j := 584) (ps := [([], 0), ([], 0), ([585], 0), ([587, 588, 129], 0), ([], 0), ([], 0)]) (by decide +kernel)
set_option maxRecDepth 1000000 in
theorem mk_140 : ev_MOK ev_ms mr_140 := ev_chkM_ok (j := 589) (ps := [([], 0), ([], 0), ([], 0), ([], 0), ([], 0), ([], 0), ([], 0)]) (by decide +kernel)
set_option maxRecDepth 1000000 in
theorem mk_141 : ev_MOK ev_ms mr_141 := ev_chkM_ok (j := 1424) (ps := [([], 0), ([], 0), ([1303], 0), ([], 0), ([], 0), ([1314], 0), ([], 0)]) (by decide +kernel)
