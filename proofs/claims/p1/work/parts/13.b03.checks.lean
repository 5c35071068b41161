/-! checks of methods -/
set_option maxRecDepth 1000000 in
theorem mk_60 : ev_MOK ev_ms mr_60 := ev_chkM_ok (j := 1001) (ps := [([], 0), ([795, 797, 28, 116], 0), ([], 0), ([], 0), ([], 0), ([500, 502, 1, 116], 0), ([], 0), ([], 0)]) (by decide +kernel)
set_option maxRecDepth 1000000 in
theorem mk_61 : ev_MOK ev_ms mr_61 := ev_chkM_ok (j := 1795) (ps := [([], 0), ([1421, 1423, 47, 125], 0), ([], 0), ([1317], 0), ([], 0), ([], 0), ([], 0), ([1428, 1430, 48, 125], 0), ([], 0)]) (by decide +kernel)
set_option maxRecDepth 1000000 in
theorem mk_62 : ev_MOK ev_ms mr_62 := ev_chkM_ok (j := 1013) (ps := [([], 0), ([], 0), ([1014, 1016, 38, 116], 0), ([], 0), ([], 0), ([], 0), ([500, 502, 1, 116], 0), ([], 0)]) (by decide +kernel)
set_option maxRecDepth 1000000 in
theorem mk_63 : ev_MOK ev_ms mr_63 := ev_chkM_ok (j := 1799) (ps := [([], 0), ([1421, 1423, 47, 125], 0), ([], 0), ([], 0), ([1800, 1802, 102, 125], 0), ([], 0), ([], 0), ([], 0), ([1428, 1430, 48, 125], 0), ([], 0)]) (by decide +kernel)
set_option maxRecDepth 1000000 in
theorem mk_64 : ev_MOK ev_ms mr_64 := ev_chkM_ok (j := 1029) (ps := [([], 0), ([795, 797, 28, 116], 0), ([], 0), ([], 0), ([], 0), ([500, 502, 1, 116], 0), ([], 0)]) (by decide +kernel)
set_option maxRecDepth 1000000 in
theorem mk_65 : ev_MOK ev_ms mr_65 := ev_chkM_ok (j := 1811) (ps := [([], 0), ([1421, 1423, 47, 125], 0), ([], 0), ([1317], 0), ([], 0), ([], 0), ([], 0), ([1428, 1430, 48, 125], 0), ([], 0)]) (by decide +kernel)
set_option maxRecDepth 1000000 in
theorem mk_66 : ev_MOK ev_ms mr_66 := ev_chkM_ok (j := 1047) (ps := [([], 0), ([], 0), ([1014, 1016, 38, 116], 0), ([], 0), ([], 0), ([], 0), ([500, 502, 1, 116], 0), ([], 0)]) (by decide +kernel)
set_option maxRecDepth 1000000 in
theorem mk_67 : ev_MOK ev_ms mr_67 := ev_chkM_ok (j := 1824) (ps := [([], 0), ([1421, 1423, 47, 125], 0), ([], 0), ([], 0), ([1800, 1802, 102, 125], 0), ([], 0), ([], 0), ([], 0), ([1428, 1430, 48, 125], 0), ([], 0)]) (by decide +kernel)
set_option maxRecDepth 1000000 in
theorem mk_68 : ev_MOK ev_ms mr_68 := ev_chkM_ok (j := 1051) (ps := [([], 0), ([1052, 1054, 41, 116], 0), ([], 0), ([], 0), ([], 0), ([], 0)]) (by decide +kernel)
set_option maxRecDepth 1000000 in
theorem mk_69 : ev_MOK ev_ms mr_69 := ev_chkM_ok (j := 1828) (ps := [([], 0), ([1421, 1423, 47, 125], 0), ([], 0), ([1317], 0), ([], 0), ([], 0), ([], 0), ([1428, 1430, 48, 125], 0), ([], 0)]) (by decide +kernel)
set_option maxRecDepth 1000000 in
theorem mk_70 : ev_MOK ev_ms mr_70 := ev_chkM_ok (j := 1069) (ps := [([], 0), ([1052, 1054, 41, 116], 0), ([], 0), ([], 0), ([], 0), ([500, 502, 1, 116], 0), ([], 0)]) (by decide +kernel)
set_option maxRecDepth 1000000 in
theorem mk_71 : ev_MOK ev_ms mr_71 := ev_chkM_ok (j := 1840) (ps := [([], 0), ([1421, 1423, 47, 125], 0), ([], 0), ([1317], 0), ([], 0), ([], 0), ([], 0), ([1428, 1430, 48, 125], 0), ([], 0)]) (by decide +kernel)
set_option maxRecDepth 1000000 in
theorem mk_72 : ev_MOK ev_ms mr_72 := ev_chkM_ok (j := 1073) (ps := [([], 0), ([1052, 1054, 41, 116], 0), ([], 0), ([], 0), ([], 0), ([], 0)]) (by decide +kernel)
set_option maxRecDepth 1000000 in
theorem mk_73 : ev_MOK ev_ms mr_73 := ev_chkM_ok (j := 1844) (ps := [([], 0), ([1421, 1423, 47, 125], 0), ([], 0), ([1317], 0), ([], 0), ([], 0), ([], 0), ([1428, 1430, 48, 125], 0), ([], 0)]) (by decide +kernel)
set_option maxRecDepth 1000000 in
theorem mk_74 : ev_MOK ev_ms mr_74 := ev_chkM_ok (j := 1081) (ps := [([], 0), ([1052, 1054, 41, 116], 0), ([], 0), ([], 0), ([], 0), ([], 0)]) (by decide +kernel)
set_option maxRecDepth 1000000 in
theorem mk_75 : ev_MOK ev_ms mr_75 := ev_chkM_ok (j := 1848) (ps := [([], 0), ([1421, 1423, 47, 125], 0), ([], 0), ([1317], 0), ([], 0), ([], 0), ([], 0), ([1428, 1430, 48, 125], 0), ([], 0)]) (by decide +kernel)
set_option maxRecDepth 1000000 in
theorem mk_76 : ev_MOK ev_ms mr_76 := ev_chkM_ok (j := 1089) (ps := [([], 0), ([1052, 1054, 41, 116], 0), ([], 0), ([], 0), ([], 0), ([], 0)]) (by decide +kernel)
set_option maxRecDepth 1000000 in
theorem mk_77 : ev_MOK ev_ms mr_77 := ev_chkM_ok (j := 1852) (ps := [([], 0), ([1421, 1423, 47, 125], 0), ([], 0), ([1317], 0), ([], 0), ([], 0), ([], 0), ([1428, 1430, 48, 125], 0), ([], 0)]) (by decide +kernel)
set_option maxRecDepth 1000000 in
theorem mk_78 : ev_MOK ev_ms mr_78 := ev_chkM_ok (j := 1104) (ps := [([], 0), ([1052, 1054, 41, 116], 0), ([], 0), ([], 0), ([], 0)]) (by decide +kernel)
set_option maxRecDepth 1000000 in
theorem mk_79 : ev_MOK ev_ms mr_79 := ev_chkM_ok (j := 1864) (ps := [([], 0), ([1421, 1423, 47, 125], 0), ([], 0), ([1317], 0), ([], 0), ([], 0), ([], 0), ([1428, 1430, 48, 125], 0), ([], 0)]) (by decide +kernel)
set_option maxRecDepth 1000000 in
theorem mk_80 : ev_MOK ev_ms mr_80 := ev_chkM_ok (j := 1109) (ps := [([], 0), ([], 0), ([1110, 1112, 43, 116], 0), ([], 0), ([], 0), ([], 0)]) (by decide +kernel)
set_option maxRecDepth 1000000 in
theorem mk_81 : ev_MOK ev_ms mr_81 := ev_chkM_ok (j := 1868) (ps := [([], 0), ([1421, 1423, 47, 125], 0), ([], 0), ([], 0), ([1317], 0), ([], 0), ([], 0), ([], 0), ([1425, 1426, 125], 0), ([1678, 1680, 90, 125], 0), ([], 0), ([], 0), ([], 0), ([], 0), ([], 0), ([1314], 0), ([], 0), ([], 0)]) (by decide +kernel)
set_option maxRecDepth 1000000 in
theorem mk_82 : ev_MOK ev_ms mr_82 := ev_chkM_ok (j := 1120) (ps := [([], 0), ([], 0), ([1110, 1112, 43, 116], 0), ([], 0), ([], 0), ([], 0)]) (by decide +kernel)
set_option maxRecDepth 1000000 in
theorem mk_83 : ev_MOK ev_ms mr_83 := ev_chkM_ok (j := 1875) (ps := [([], 0), ([1421, 1423, 47, 125], 0), ([], 0), ([], 0), ([1317], 0), ([], 0), ([], 0), ([], 0), ([1425, 1426, 125], 0), ([1678, 1680, 90, 125], 0), ([], 0), ([], 0), ([], 0), ([], 0), ([], 0), ([1428, 1430, 48, 125], 0), ([], 0), ([], 0)]) (by decide +kernel)
set_option maxRecDepth 1000000 in
theorem mk_84 : ev_MOK ev_ms mr_84 := ev_chkM_ok (j := 1127) (ps := [([], 0), ([], 0), ([1110, 1112, 43, 116], 0), ([], 0), ([], 0), ([], 0)]) (by decide +kernel)
set_option maxRecDepth 1000000 in
theorem mk_85 : ev_MOK ev_ms mr_85 := ev_chkM_ok (j := 1886) (ps := [([], 0), ([1421, 1423, 47, 125], 0), ([], 0), ([], 0), ([1317], 0), ([], 0), ([], 0), ([], 0), ([1425, 1426, 125], 0), ([1678, 1680, 90, 125], 0), ([], 0), ([], 0), ([], 0), ([], 0), ([], 0), ([1428, 1430, 48, 125], 0), ([], 0)]) (by decide +kernel)
set_option maxRecDepth 1000000 in
theorem mk_86 : ev_MOK ev_ms mr_86 := ev_chkM_ok (j := 1131) (ps := [([], 0), ([], 0), ([765, 767, 27, 116], 0), ([], 0), ([], 0), ([], 0), ([500, 502, 1, 116], 0), ([], 0), ([], 0)]) (by decide +kernel)
set_option maxRecDepth 1000000 in
theorem mk_87 : ev_MOK ev_ms mr_87 := ev_chkM_ok (j := 1890) (ps := [([], 0), ([1421, 1423, 47, 125], 0), ([], 0), ([], 0), ([1606, 1608, 80, 125], 0), ([], 0), ([], 0), ([], 0), ([1428, 1430, 48, 125], 0), ([], 0), ([], 0)]) (by decide +kernel)
set_option maxRecDepth 1000000 in
theorem mk_88 : ev_MOK ev_ms mr_88 := ev_chkM_ok (j := 1149) (ps := [([], 0), ([], 0), ([765, 767, 27, 116], 0), ([], 0), ([], 0), ([], 0), ([500, 502, 1, 116], 0), ([], 0), ([], 0)]) (by decide +kernel)
set_option maxRecDepth 1000000 in
theorem mk_89 : ev_MOK ev_ms mr_89 := ev_chkM_ok (j := 1901) (ps := [([], 0), ([1421, 1423, 47, 125], 0), ([], 0), ([], 0), ([1606, 1608, 80, 125], 0), ([], 0), ([], 0), ([], 0), ([1428, 1430, 48, 125], 0), ([], 0), ([], 0)]) (by decide +kernel)
