/-! checks of methods -/
set_option maxRecDepth 1000000 in
theorem mk_0 : ab_MK cm_ms mr_0 := ab_MK_of (j := 622) (ps := [[], [], [], [], [623], [], [], [], [], [624], [], [], [], [], [624], [], [], [], [], [], [], [], [], [625], [], [], [], [], [], [], [], [], [], [], [], [], [], [], [], [], [], []]) (by decide +kernel)
set_option maxRecDepth 1000000 in
theorem mk_1 : ab_MK cm_ms mr_1 := ab_MK_of (j := 564) (ps := [[], [1970], [], [], [565, 566, 567, 127], [], []]) (by decide +kernel)
set_option maxRecDepth 1000000 in
theorem mk_2 : ab_MK cm_ms mr_2 := ab_MK_of (j := 574) (ps := [[], [575, 576, 577, 127], [], [], [1970], [], [579, 580, 128], [], [], [1970], [], []]) (by decide +kernel)
set_option maxRecDepth 1000000 in
theorem mk_3 : ab_MK cm_ms mr_3 := ab_MK_of (j := 568) (ps := [[569], [], [], [1971], [], [], []]) (by decide +kernel)
set_option maxRecDepth 1000000 in
theorem mk_4 : ab_MK cm_ms mr_4 := ab_MK_of (j := 578) (ps := [[569], [], [], [1971], [], [], [], [], []]) (by decide +kernel)
set_option maxRecDepth 1000000 in
theorem mk_5 : ab_MK cm_ms mr_5 := ab_MK_of (j := 584) (ps := [[], [], [585], [587, 588, 129], [], []]) (by decide +kernel)
set_option maxRecDepth 1000000 in
theorem mk_6 : ab_MK cm_ms mr_6 := ab_MK_of (j := 581) (ps := [[], [], [], [582, 583, 127], [], [], [], [], [], [], []]) (by decide +kernel)
set_option maxRecDepth 1000000 in
theorem mk_7 : ab_MK cm_ms mr_7 := ab_MK_of (j := 589) (ps := [[], [], [], [], [], [], [], [], [], []]) (by decide +kernel)
set_option maxRecDepth 1000000 in
theorem mk_8 : ab_MK cm_ms mr_8 := ab_MK_of (j := 514) (ps := [[], [], [203], [], [], [207], [], [], [211], [], [], [215], [], [], [236], [], [], [257], [], [], [264], [], [], [], [], [], [], [261], [], [], [], [], [], []]) (by decide +kernel)
set_option maxRecDepth 1000000 in
theorem mk_9 : ab_MK cm_ms mr_9 := ab_MK_of (j := 673) (ps := [[], [215], [], [], [], [], [220], [], [215], [], [], [], [223], [], [215], [], [], [], [225], [], [215], [], [], [], [228], [], [215], [], [], [], [232], [], [215], [], [], [], [], [215], [], [], [215], []]) (by decide +kernel)
set_option maxRecDepth 1000000 in
theorem mk_10 : ab_MK cm_ms mr_10 := ab_MK_of (j := 684) (ps := [[], [236], [], [], [], [], [241], [], [236], [], [], [], [244], [], [236], [], [], [], [248], [], [236], [], [], [], [251], [], [236], [], [], [], [], [236], [], [], [236], []]) (by decide +kernel)
set_option maxRecDepth 1000000 in
theorem mk_11 : ab_MK cm_ms mr_11 := ab_MK_of (j := 709) (ps := [[], [257], [], [], [], [260], [], [257], [], [], [], [], [257], [], [], [257], []]) (by decide +kernel)
set_option maxRecDepth 1000000 in
theorem mk_12 : ab_MK cm_ms mr_12 := ab_MK_of (j := 619) (ps := [[], [], [], [], [], [], [], [], [], [], [], [], [], [], [], [620, 621, 131], [], [], [], [], [], []]) (by decide +kernel)
set_option maxRecDepth 1000000 in
theorem mk_13 : ab_MK cm_ms mr_13 := ab_MK_of (j := 789) (ps := [[], [], [], [], [], [], [215], [], [], [], [], [], [], [], [], [], [225], [], [], [], [], [], [], [], []]) (by decide +kernel)
set_option maxRecDepth 1000000 in
theorem mk_14 : ab_MK cm_ms mr_14 := ab_MK_of (j := 838) (ps := [[], [], [], [], [], [], [], [], [], [], [236], [], [], [251], [], [], [], [], [], [], [], [], [], [], [], [], [], [], [], [], [], [], [], [], []]) (by decide +kernel)
set_option maxRecDepth 1000000 in
theorem mk_15 : ab_MK cm_ms mr_15 := ab_MK_of (j := 846) (ps := [[], [], [], [], [], [], [], [], [], [255], [], [], [], [], [], [], [], [], [], [251], [], [], [], [], [], [], [], [], [255], [], [], [], [255], [], [], [], [], [255], [], [], [255], [], [], [], [], [], [], [], [], [], [], [], [], [], [], [], [255], [], [], [], [], []]) (by decide +kernel)
set_option maxRecDepth 1000000 in
theorem mk_16 : ab_MK cm_ms mr_16 := ab_MK_of (j := 629) (ps := [[], [232], [], [215], [630, 618, 118], [], [], []]) (by decide +kernel)
set_option maxRecDepth 1000000 in
theorem mk_17 : ab_MK cm_ms mr_17 := ab_MK_of (j := 991) (ps := [[], [], [], [], [], [], [215], [], [], [], [], [], [], [], [], [], [232], [], [], [], [], [], [], [620, 621, 131], [], [], [], [], [], []]) (by decide +kernel)
set_option maxRecDepth 1000000 in
theorem mk_18 : ab_MK cm_ms mr_18 := ab_MK_of (j := 987) (ps := [[], [], [], [], [], [], [], [], [], [215], [], [], [], [], [988, 989, 990, 118], [], [], [], [], [], [], [], [], [], [], [], []]) (by decide +kernel)
set_option maxRecDepth 1000000 in
theorem mk_19 : ab_MK cm_ms mr_19 := ab_MK_of (j := 1005) (ps := [[], [], [], [], [], [], [], [], [], [215], [], [], [], [620, 621, 131], [], [], [], [], [1006, 1008, 37, 118], [], [], [620, 621, 131], [], [], [], [], [], [], []]) (by decide +kernel)
set_option maxRecDepth 1000000 in
theorem mk_20 : ab_MK cm_ms mr_20 := ab_MK_of (j := 1009) (ps := [[], [], [], [], [215], [], [], [], [], [], [], [], [], [232], [], [], [], [], [], [], [], [], [], [], [], [], []]) (by decide +kernel)
set_option maxRecDepth 1000000 in
theorem mk_21 : ab_MK cm_ms mr_21 := ab_MK_of (j := 1021) (ps := [[], [], [], [], [257], [], [], [], [], [], [257], [], [], [], [], [260], [], [], [], [260], [], [], [], [1022, 1023, 126, 1024], [], [], [], [], [], [1025, 509, 126, 510], []]) (by decide +kernel)
set_option maxRecDepth 1000000 in
theorem mk_22 : ab_MK cm_ms mr_22 := ab_MK_of (j := 721) (ps := [[], [224], [], [], [312], [], [], [722, 724, 723, 132], [], [], [], [], [], [], [315], [], [], [], [], [], [], [], [318], [], [], [320], []]) (by decide +kernel)
set_option maxRecDepth 1000000 in
theorem mk_23 : ab_MK cm_ms mr_23 := ab_MK_of (j := 858) (ps := [[], [312], [], [], [312], [], [], [722, 724, 723, 132], [], [315], [], [], [315], [], [], [722, 724, 723, 132], [], [], [318], [318], [], [], [320], [320], []]) (by decide +kernel)
set_option maxRecDepth 1000000 in
theorem mk_24 : ab_MK cm_ms mr_24 := ab_MK_of (j := 862) (ps := [[], [], [], [], [218], [], [], [312], [], [], [], [312], [], [], [], [204], [], [863, 509, 126, 510], [], [], [], [], [], [320], [], [], [320], []]) (by decide +kernel)
set_option maxRecDepth 1000000 in
theorem mk_25 : ab_MK cm_ms mr_25 := ab_MK_of (j := 752) (ps := [[], [312], [], [], [], [208], [], [], [], [], []]) (by decide +kernel)
set_option maxRecDepth 1000000 in
theorem mk_26 : ab_MK cm_ms mr_26 := ab_MK_of (j := 806) (ps := [[], [], [], [], [], [], [218], [], [], [], [], [807, 750, 751, 119], [], [], [], [], [], [], [], [], [], [], []]) (by decide +kernel)
set_option maxRecDepth 1000000 in
theorem mk_27 : ab_MK cm_ms mr_27 := ab_MK_of (j := 828) (ps := [[], [], [218], [], [], [], [], [], [829, 804, 805, 119], [], [], [], []]) (by decide +kernel)
set_option maxRecDepth 1000000 in
theorem mk_28 : ab_MK cm_ms mr_28 := ab_MK_of (j := 760) (ps := [[], [312], [], [], [], [208], [], [], [312], [], [], [], [242], [], [], [], [], [231], [], [], [], [], [], [], [], [], [], [], []]) (by decide +kernel)
set_option maxRecDepth 1000000 in
theorem mk_29 : ab_MK cm_ms mr_29 := ab_MK_of (j := 756) (ps := [[], [], [], [], [], [], [239], [], [], [], [], [], [757, 759, 26, 119], [], [], [], [], [], [], [], [], [], [], []]) (by decide +kernel)
