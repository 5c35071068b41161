/-! checks of methods -/
set_option maxRecDepth 1000000 in
theorem mk_36 : ev_MOK ev_ms mr_36 := ev_chkM_ok (j := 883) (ps := [([], 0), ([795, 797, 28, 116], 0), ([], 0), ([], 0), ([], 0), ([500, 502, 1, 116], 0), ([], 0)]) (by decide +kernel)
set_option maxRecDepth 1000000 in
theorem mk_37 : ev_MOK ev_ms mr_37 := ev_chkM_ok (j := 1709) (ps := [([], 0), ([1421, 1423, 47, 125], 0), ([], 0), ([1317], 0), ([], 0), ([], 0), ([], 0), ([1428, 1430, 48, 125], 0), ([], 0)]) (by decide +kernel)
set_option maxRecDepth 1000000 in
theorem mk_38 : ev_MOK ev_ms mr_38 := ev_chkM_ok (j := 887) (ps := [([], 0), ([], 0), ([888, 890, 31, 116], 0), ([], 0), ([], 0), ([], 0)]) (by decide +kernel)
set_option maxRecDepth 1000000 in
theorem mk_39 : ev_MOK ev_ms mr_39 := ev_chkM_ok (j := 1713) (ps := [([], 0), ([1421, 1423, 47, 125], 0), ([], 0), ([], 0), ([1317], 0), ([], 0), ([1317], 0), ([], 0), ([], 0), ([1678, 1680, 90, 125], 0), ([], 0), ([], 0), ([], 0), ([], 0), ([], 0), ([1428, 1430, 48, 125], 0), ([], 0)]) (by decide +kernel)
set_option maxRecDepth 1000000 in
theorem mk_40 : ev_MOK ev_ms mr_40 := ev_chkM_ok (j := 923) (ps := [([], 0), ([], 0), ([888, 890, 31, 116], 0), ([], 0), ([], 0), ([], 0)]) (by decide +kernel)
set_option maxRecDepth 1000000 in
theorem mk_41 : ev_MOK ev_ms mr_41 := ev_chkM_ok (j := 1733) (ps := [([], 0), ([1421, 1423, 47, 125], 0), ([], 0), ([], 0), ([1317], 0), ([], 0), ([], 0), ([], 0), ([1425, 1426, 125], 0), ([1678, 1680, 90, 125], 0), ([], 0), ([], 0), ([], 0), ([], 0), ([], 0), ([1428, 1430, 48, 125], 0), ([], 0), ([], 0)]) (by decide +kernel)
set_option maxRecDepth 1000000 in
theorem mk_42 : ev_MOK ev_ms mr_42 := ev_chkM_ok (j := 936) (ps := [([], 0), ([], 0), ([888, 890, 31, 116], 0), ([], 0), ([], 0), ([], 0)]) (by decide +kernel)
set_option maxRecDepth 1000000 in
theorem mk_43 : ev_MOK ev_ms mr_43 := ev_chkM_ok (j := 1744) (ps := [([], 0), ([1421, 1423, 47, 125], 0), ([], 0), ([], 0), ([1317], 0), ([], 0), ([], 0), ([], 0), ([1425, 1426, 125], 0), ([1678, 1680, 90, 125], 0), ([], 0), ([], 0), ([], 0), ([], 0), ([], 0), ([1428, 1430, 48, 125], 0), ([], 0), ([], 0)]) (by decide +kernel)
set_option maxRecDepth 1000000 in
theorem mk_44 : ev_MOK ev_ms mr_44 := ev_chkM_ok (j := 940) (ps := [([], 0), ([], 0), ([888, 890, 31, 116], 0), ([], 0), ([], 0), ([], 0)]) (by decide +kernel)
set_option maxRecDepth 1000000 in
theorem mk_45 : ev_MOK ev_ms mr_45 := ev_chkM_ok (j := 1748) (ps := [([], 0), ([1421, 1423, 47, 125], 0), ([], 0), ([], 0), ([1317], 0), ([], 0), ([], 0), ([], 0), ([1425, 1426, 125], 0), ([1678, 1680, 90, 125], 0), ([], 0), ([], 0), ([], 0), ([], 0), ([], 0), ([1428, 1430, 48, 125], 0), ([], 0)]) (by decide +kernel)
set_option maxRecDepth 1000000 in
theorem mk_46 : ev_MOK ev_ms mr_46 := ev_chkM_ok (j := 944) (ps := [([], 0), ([], 0), ([765, 767, 27, 116], 0), ([], 0), ([], 0), ([], 0), ([500, 502, 1, 116], 0), ([], 0), ([], 0)]) (by decide +kernel)
set_option maxRecDepth 1000000 in
theorem mk_47 : ev_MOK ev_ms mr_47 := ev_chkM_ok (j := 1752) (ps := [([], 0), ([1421, 1423, 47, 125], 0), ([], 0), ([], 0), ([1606, 1608, 80, 125], 0), ([], 0), ([], 0), ([], 0), ([1428, 1430, 48, 125], 0), ([], 0)]) (by decide +kernel)
set_option maxRecDepth 1000000 in
theorem mk_48 : ev_MOK ev_ms mr_48 := ev_chkM_ok (j := 957) (ps := [([], 0), ([], 0), ([745, 747, 25, 116], 0), ([], 0), ([], 0), ([], 0), ([500, 502, 1, 116], 0), ([], 0)]) (by decide +kernel)
set_option maxRecDepth 1000000 in
theorem mk_49 : ev_MOK ev_ms mr_49 := ev_chkM_ok (j := 1756) (ps := [([], 0), ([1421, 1423, 47, 125], 0), ([], 0), ([], 0), ([], 0), ([1586, 1588, 76, 125], 0), ([], 0), ([], 0), ([], 0), ([1425, 1426, 125], 0), ([1678, 1680, 90, 125], 0), ([], 0), ([], 0), ([], 0), ([], 0), ([], 0), ([1428, 1430, 48, 125], 0), ([], 0), ([], 0)]) (by decide +kernel)
set_option maxRecDepth 1000000 in
theorem mk_50 : ev_MOK ev_ms mr_50 := ev_chkM_ok (j := 970) (ps := [([], 0), ([], 0), ([], 0), ([958, 960, 36, 116], 0), ([892, 894, 32, 116], 0), ([], 0), ([], 0), ([], 0)]) (by decide +kernel)
set_option maxRecDepth 1000000 in
theorem mk_51 : ev_MOK ev_ms mr_51 := ev_chkM_ok (j := 1764) (ps := [([], 0), ([1421, 1423, 47, 125], 0), ([], 0), ([], 0), ([1317], 0), ([], 0), ([], 0), ([], 0), ([1425, 1426, 125], 0), ([1678, 1680, 90, 125], 0), ([], 0), ([], 0), ([], 0), ([], 0), ([], 0), ([1428, 1430, 48, 125], 0), ([], 0)]) (by decide +kernel)
set_option maxRecDepth 1000000 in
theorem mk_52 : ev_MOK ev_ms mr_52 := ev_chkM_ok (j := 974) (ps := [([], 0), ([], 0), ([], 0), ([958, 960, 36, 116], 0), ([892, 894, 32, 116], 0), ([], 0), ([], 0), ([], 0)]) (by decide +kernel)
set_option maxRecDepth 1000000 in
theorem mk_53 : ev_MOK ev_ms mr_53 := ev_chkM_ok (j := 1768) (ps := [([], 0), ([1421, 1423, 47, 125], 0), ([], 0), ([], 0), ([1317], 0), ([], 0), ([], 0), ([], 0), ([1425, 1426, 125], 0), ([1678, 1680, 90, 125], 0), ([], 0), ([], 0), ([], 0), ([], 0), ([], 0), ([1428, 1430, 48, 125], 0), ([], 0)]) (by decide +kernel)
set_option maxRecDepth 1000000 in
theorem mk_54 : ev_MOK ev_ms mr_54 := ev_chkM_ok (j := 978) (ps := [([], 0), ([], 0), ([], 0), ([958, 960, 36, 116], 0), ([892, 894, 32, 116], 0), ([], 0), ([], 0), ([], 0)]) (by decide +kernel)
set_option maxRecDepth 1000000 in
theorem mk_55 : ev_MOK ev_ms mr_55 := ev_chkM_ok (j := 1772) (ps := [([], 0), ([1421, 1423, 47, 125], 0), ([], 0), ([], 0), ([1317], 0), ([], 0), ([], 0), ([], 0), ([1425, 1426, 125], 0), ([1678, 1680, 90, 125], 0), ([], 0), ([], 0), ([], 0), ([], 0), ([], 0), ([1428, 1430, 48, 125], 0), ([], 0)]) (by decide +kernel)
set_option maxRecDepth 1000000 in
theorem mk_56 : ev_MOK ev_ms mr_56 := ev_chkM_ok (j := 983) (ps := [([], 0), ([795, 797, 28, 116], 0), ([], 0), ([], 0), ([], 0), ([500, 502, 1, 116], 0), ([], 0), ([], 0)]) (by decide +kernel)
set_option maxRecDepth 1000000 in
theorem mk_57 : ev_MOK ev_ms mr_57 := ev_chkM_ok (j := 1779) (ps := [([], 0), ([1421, 1423, 47, 125], 0), ([], 0), ([1317], 0), ([], 0), ([], 0), ([], 0), ([1428, 1430, 48, 125], 0), ([], 0)]) (by decide +kernel)
set_option maxRecDepth 1000000 in
theorem mk_58 : ev_MOK ev_ms mr_58 := ev_chkM_ok (j := 995) (ps := [([], 0), ([795, 797, 28, 116], 0), ([], 0), ([], 0), ([], 0), ([500, 502, 1, 116], 0), ([], 0)]) (by decide +kernel)
set_option maxRecDepth 1000000 in
theorem mk_59 : ev_MOK ev_ms mr_59 := ev_chkM_ok (j := 1791) (ps := [([], 0), ([1421, 1423, 47, 125], 0), ([], 0), ([1317], 0), ([], 0), ([], 0), ([], 0), ([1428, 1430, 48, 125], 0), ([], 0)]) (by decide +kernel)
