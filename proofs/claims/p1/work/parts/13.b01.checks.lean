/-! checks of methods -/
set_option maxRecDepth 1000000 in
theorem mk_6 : ev_MOK ev_ms mr_6 := ev_chkM_ok (j := 736) (ps := [([], 0), ([454], 0), ([], 0)]) (by decide +kernel)
set_option maxRecDepth 1000000 in
theorem mk_7 : ev_MOK ev_ms mr_7 := ev_chkM_ok (j := 1577) (ps := [([], 0), ([], 0), ([1303], 0), ([], 0), ([1312], 0), ([], 0)]) (by decide +kernel)
set_option maxRecDepth 1000000 in
theorem mk_8 : ev_MOK ev_ms mr_8 := ev_chkM_ok (j := 740) (ps := [([], 0), ([456], 0), ([], 0), ([], 0), ([], 0), ([], 0)]) (by decide +kernel)
set_option maxRecDepth 1000000 in
theorem mk_9 : ev_MOK ev_ms mr_9 := ev_chkM_ok (j := 1581) (ps := [([], 0), ([], 0), ([1303], 0), ([], 0), ([1314], 0), ([], 0), ([], 0), ([], 0), ([], 0)]) (by decide +kernel)
set_option maxRecDepth 1000000 in
theorem mk_10 : ev_MOK ev_ms mr_10 := ev_chkM_ok (j := 744) (ps := [([], 0), ([], 0), ([745, 747, 25, 116], 0), ([], 0), ([], 0), ([], 0), ([500, 502, 1, 116], 0), ([], 0)]) (by decide +kernel)
set_option maxRecDepth 1000000 in
theorem mk_11 : ev_MOK ev_ms mr_11 := ev_chkM_ok (j := 1585) (ps := [([], 0), ([1421, 1423, 47, 125], 0), ([], 0), ([], 0), ([1586, 1588, 76, 125], 0), ([], 0), ([], 0), ([], 0), ([1428, 1430, 48, 125], 0), ([], 0)]) (by decide +kernel)
set_option maxRecDepth 1000000 in
theorem mk_12 : ev_MOK ev_ms mr_12 := ev_chkM_ok (j := 764) (ps := [([], 0), ([], 0), ([765, 767, 27, 116], 0), ([], 0), ([], 0), ([], 0), ([500, 502, 1, 116], 0), ([], 0)]) (by decide +kernel)
set_option maxRecDepth 1000000 in
theorem mk_13 : ev_MOK ev_ms mr_13 := ev_chkM_ok (j := 1605) (ps := [([], 0), ([1421, 1423, 47, 125], 0), ([], 0), ([], 0), ([1606, 1608, 80, 125], 0), ([], 0), ([], 0), ([], 0), ([1428, 1430, 48, 125], 0), ([], 0)]) (by decide +kernel)
set_option maxRecDepth 1000000 in
theorem mk_14 : ev_MOK ev_ms mr_14 := ev_chkM_ok (j := 794) (ps := [([], 0), ([795, 797, 28, 116], 0), ([], 0), ([], 0), ([], 0), ([500, 502, 1, 116], 0), ([], 0)]) (by decide +kernel)
set_option maxRecDepth 1000000 in
theorem mk_15 : ev_MOK ev_ms mr_15 := ev_chkM_ok (j := 1629) (ps := [([], 0), ([1421, 1423, 47, 125], 0), ([], 0), ([1317], 0), ([], 0), ([], 0), ([], 0), ([1428, 1430, 48, 125], 0), ([], 0)]) (by decide +kernel)
set_option maxRecDepth 1000000 in
theorem mk_16 : ev_MOK ev_ms mr_16 := ev_chkM_ok (j := 802) (ps := [([], 0), ([795, 797, 28, 116], 0), ([], 0), ([], 0), ([], 0), ([500, 502, 1, 116], 0), ([], 0), ([], 0)]) (by decide +kernel)
set_option maxRecDepth 1000000 in
theorem mk_17 : ev_MOK ev_ms mr_17 := ev_chkM_ok (j := 1633) (ps := [([], 0), ([1421, 1423, 47, 125], 0), ([], 0), ([1317], 0), ([], 0), ([], 0), ([], 0), ([1428, 1430, 48, 125], 0), ([], 0)]) (by decide +kernel)
set_option maxRecDepth 1000000 in
theorem mk_18 : ev_MOK ev_ms mr_18 := ev_chkM_ok (j := 811) (ps := [([], 0), ([795, 797, 28, 116], 0), ([], 0), ([], 0), ([], 0), ([500, 502, 1, 116], 0), ([], 0)]) (by decide +kernel)
set_option maxRecDepth 1000000 in
theorem mk_19 : ev_MOK ev_ms mr_19 := ev_chkM_ok (j := 1641) (ps := [([], 0), ([1421, 1423, 47, 125], 0), ([], 0), ([1317], 0), ([], 0), ([], 0), ([], 0), ([1428, 1430, 48, 125], 0), ([], 0)]) (by decide +kernel)
set_option maxRecDepth 1000000 in
theorem mk_20 : ev_MOK ev_ms mr_20 := ev_chkM_ok (j := 815) (ps := [([], 0), ([795, 797, 28, 116], 0), ([], 0), ([], 0), ([], 0), ([500, 502, 1, 116], 0), ([], 0)]) (by decide +kernel)
set_option maxRecDepth 1000000 in
theorem mk_21 : ev_MOK ev_ms mr_21 := ev_chkM_ok (j := 1645) (ps := [([], 0), ([1421, 1423, 47, 125], 0), ([], 0), ([1317], 0), ([], 0), ([], 0), ([], 0), ([1428, 1430, 48, 125], 0), ([], 0)]) (by decide +kernel)
set_option maxRecDepth 1000000 in
theorem mk_22 : ev_MOK ev_ms mr_22 := ev_chkM_ok (j := 824) (ps := [([], 0), ([795, 797, 28, 116], 0), ([], 0), ([], 0), ([], 0), ([500, 502, 1, 116], 0), ([], 0), ([], 0)]) (by decide +kernel)
set_option maxRecDepth 1000000 in
theorem mk_23 : ev_MOK ev_ms mr_23 := ev_chkM_ok (j := 1653) (ps := [([], 0), ([1421, 1423, 47, 125], 0), ([], 0), ([1317], 0), ([], 0), ([], 0), ([], 0), ([1428, 1430, 48, 125], 0), ([], 0)]) (by decide +kernel)
set_option maxRecDepth 1000000 in
theorem mk_24 : ev_MOK ev_ms mr_24 := ev_chkM_ok (j := 834) (ps := [([], 0), ([], 0), ([765, 767, 27, 116], 0), ([], 0), ([], 0), ([], 0), ([500, 502, 1, 116], 0), ([], 0), ([], 0)]) (by decide +kernel)
set_option maxRecDepth 1000000 in
theorem mk_25 : ev_MOK ev_ms mr_25 := ev_chkM_ok (j := 1665) (ps := [([], 0), ([1421, 1423, 47, 125], 0), ([], 0), ([], 0), ([1606, 1608, 80, 125], 0), ([], 0), ([], 0), ([], 0), ([1428, 1430, 48, 125], 0), ([], 0)]) (by decide +kernel)
set_option maxRecDepth 1000000 in
theorem mk_26 : ev_MOK ev_ms mr_26 := ev_chkM_ok (j := 842) (ps := [([], 0), ([], 0), ([765, 767, 27, 116], 0), ([], 0), ([], 0), ([], 0), ([500, 502, 1, 116], 0), ([], 0), ([], 0)]) (by decide +kernel)
set_option maxRecDepth 1000000 in
theorem mk_27 : ev_MOK ev_ms mr_27 := ev_chkM_ok (j := 1669) (ps := [([], 0), ([1421, 1423, 47, 125], 0), ([], 0), ([], 0), ([1606, 1608, 80, 125], 0), ([], 0), ([], 0), ([], 0), ([1428, 1430, 48, 125], 0), ([], 0)]) (by decide +kernel)
set_option maxRecDepth 1000000 in
theorem mk_28 : ev_MOK ev_ms mr_28 := ev_chkM_ok (j := 850) (ps := [([], 0), ([], 0), ([745, 747, 25, 116], 0), ([], 0), ([], 0), ([], 0), ([500, 502, 1, 116], 0), ([], 0)]) (by decide +kernel)
set_option maxRecDepth 1000000 in
theorem mk_29 : ev_MOK ev_ms mr_29 := ev_chkM_ok (j := 1677) (ps := [([], 0), ([1421, 1423, 47, 125], 0), ([], 0), ([], 0), ([], 0), ([1586, 1588, 76, 125], 0), ([], 0), ([], 0), ([], 0), ([1425, 1426, 125], 0), ([1678, 1680, 90, 125], 0), ([], 0), ([], 0), ([], 0), ([], 0), ([], 0), ([1428, 1430, 48, 125], 0), ([], 0)]) (by decide +kernel)
set_option maxRecDepth 1000000 in
theorem mk_30 : ev_MOK ev_ms mr_30 := ev_chkM_ok (j := 867) (ps := [([], 0), ([], 0), ([765, 767, 27, 116], 0), ([], 0), ([], 0), ([], 0), ([500, 502, 1, 116], 0), ([], 0)]) (by decide +kernel)
set_option maxRecDepth 1000000 in
theorem mk_31 : ev_MOK ev_ms mr_31 := ev_chkM_ok (j := 1693) (ps := [([], 0), ([1421, 1423, 47, 125], 0), ([], 0), ([], 0), ([], 0), ([1606, 1608, 80, 125], 0), ([], 0), ([], 0), ([], 0), ([1425, 1426, 125], 0), ([1678, 1680, 90, 125], 0), ([], 0), ([], 0), ([], 0), ([], 0), ([], 0), ([1428, 1430, 48, 125], 0), ([], 0)]) (by decide +kernel)
set_option maxRecDepth 1000000 in
theorem mk_32 : ev_MOK ev_ms mr_32 := ev_chkM_ok (j := 871) (ps := [([], 0), ([], 0), ([765, 767, 27, 116], 0), ([], 0), ([], 0), ([], 0), ([500, 502, 1, 116], 0), ([], 0), ([], 0)]) (by decide +kernel)
set_option maxRecDepth 1000000 in
theorem mk_33 : ev_MOK ev_ms mr_33 := ev_chkM_ok (j := 1697) (ps := [([], 0), ([1421, 1423, 47, 125], 0), ([], 0), ([], 0), ([1606, 1608, 80, 125], 0), ([], 0), ([], 0), ([], 0), ([1428, 1430, 48, 125], 0), ([], 0)]) (by decide +kernel)
set_option maxRecDepth 1000000 in
theorem mk_34 : ev_MOK ev_ms mr_34 := ev_chkM_ok (j := 879) (ps := [([], 0), ([795, 797, 28, 116], 0), ([], 0), ([], 0), ([], 0), ([500, 502, 1, 116], 0), ([], 0)]) (by decide +kernel)
set_option maxRecDepth 1000000 in
theorem mk_35 : ev_MOK ev_ms mr_35 := ev_chkM_ok (j := 1705) (ps := [([], 0), ([1421, 1423, 47, 125], 0), ([], 0), ([1317], 0), ([], 0), ([], 0), ([], 0), ([1428, 1430, 48, 125], 0), ([], 0)]) (by decide +kernel)
