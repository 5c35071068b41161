/-! checks of methods -/
set_option maxRecDepth 1000000 in
theorem mk_151 : ab_MK cm_ms mr_151 := ab_MK_of (j := 1193) (ps := [[], [], [745, 747, 25, 116], [], [], [], [500, 502, 1, 116], [], [], [447], [314], [], [], [], [], [], [500, 502, 1, 116], [], [], [449], [], [447], [1179, 1180, 1181, 120], [], [447], [314], [], [], [], [], [447], [], [445], [], [], [1194, 917, 918, 119], [], [], [729, 731, 24, 116], []]) (by decide +kernel)
set_option maxRecDepth 1000000 in
theorem mk_152 : ab_MK cm_ms mr_152 := ab_MK_of (j := 1198) (ps := [[], [449], [], [447], [1199, 1200, 1201, 120], [], [], [], [500, 502, 1, 116], [], [], [], [], [], [729, 731, 24, 116], [], [], []]) (by decide +kernel)
set_option maxRecDepth 1000000 in
theorem mk_153 : ab_MK cm_ms mr_153 := ab_MK_of (j := 1206) (ps := [[], [795, 797, 28, 116], [], [], [], [500, 502, 1, 116], [], [], [449], [], [447], [1207, 1208, 1209, 120], [], [], [], [], [], [], [500, 502, 1, 116], [], [], [], [729, 731, 24, 116], []]) (by decide +kernel)
set_option maxRecDepth 1000000 in
theorem mk_154 : ab_MK cm_ms mr_154 := ab_MK_of (j := 1214) (ps := [[], [449], [], [], [447], [1215, 1216, 1217, 120], [], [], [], [500, 502, 1, 116], [], [], [], [], [], [729, 731, 24, 116], [], [], []]) (by decide +kernel)
set_option maxRecDepth 1000000 in
theorem mk_155 : ab_MK cm_ms mr_155 := ab_MK_of (j := 1222) (ps := [[], [], [], [445], [206], [], [], [445], [210], [], [], [445], [214], [], [], [445], [219], [], [], [445], [240], [], [], [445], [230], [], [445], [219], [1223, 618, 118], [], [], [445], [253], [], [445], [240], [1223, 618, 118], [], [], [445], [996, 627, 628, 118], [], [], [445], [259], [], [], [445], [266], [979, 621, 131], [], [], [447], [321], [], [], [449], [344], [], [], [449], [346], [], [], [443], [], [], []]) (by decide +kernel)
set_option maxRecDepth 1000000 in
theorem mk_156 : ab_MK cm_ms mr_156 := ab_MK_of (j := 1227) (ps := [[], [456], []]) (by decide +kernel)
set_option maxRecDepth 1000000 in
theorem mk_157 : ab_MK cm_ms mr_157 := ab_MK_of (j := 503) (ps := [[], [], [456], [], []]) (by decide +kernel)
set_option maxRecDepth 1000000 in
theorem mk_158 : ab_MK cm_ms mr_158 := ab_MK_of (j := 895) (ps := [[], [795, 797, 28, 116], [], [], [], [500, 502, 1, 116], [], [], [], [], [], [], [500, 502, 1, 116], [], [], [], [], [795, 797, 28, 116], [], [], [], [], []]) (by decide +kernel)
set_option maxRecDepth 1000000 in
theorem mk_159 : ab_MK cm_ms mr_159 := ab_MK_of (j := 732) (ps := [[], [], [456], [], []]) (by decide +kernel)
set_option maxRecDepth 1000000 in
theorem mk_160 : ab_MK cm_ms mr_160 := ab_MK_of (j := 798) (ps := [[], [445], [219], [], [], [], [], []]) (by decide +kernel)
set_option maxRecDepth 1000000 in
theorem mk_161 : ab_MK cm_ms mr_161 := ab_MK_of (j := 748) (ps := [[], [], [], [], [445], [219], [], [], [], [], []]) (by decide +kernel)
set_option maxRecDepth 1000000 in
theorem mk_162 : ab_MK cm_ms mr_162 := ab_MK_of (j := 768) (ps := [[], [], [], [], [445], [240], [], [], [], [], []]) (by decide +kernel)
set_option maxRecDepth 1000000 in
theorem mk_163 : ab_MK cm_ms mr_163 := ab_MK_of (j := 1017) (ps := [[], [], [], [], [445], [259], [], [], [], [], []]) (by decide +kernel)
set_option maxRecDepth 1000000 in
theorem mk_164 : ab_MK cm_ms mr_164 := ab_MK_of (j := 1420) (ps := [[], [], [1303], [], [], [1314], []]) (by decide +kernel)
set_option maxRecDepth 1000000 in
theorem mk_165 : ab_MK cm_ms mr_165 := ab_MK_of (j := 1427) (ps := [[], [], [1314], [], []]) (by decide +kernel)
set_option maxRecDepth 1000000 in
theorem mk_166 : ab_MK cm_ms mr_166 := ab_MK_of (j := 1935) (ps := [[], [], [1314], [], []]) (by decide +kernel)
set_option maxRecDepth 1000000 in
theorem mk_167 : ab_MK cm_ms mr_167 := ab_MK_of (j := 1423) (ps := [[], [], [], [], [], [], [], [], [], []]) (by decide +kernel)
set_option maxRecDepth 1000000 in
theorem mk_168 : ab_MK cm_ms mr_168 := ab_MK_of (j := 1545) (ps := [[], [], [], [], [], [], [], [], [], [], []]) (by decide +kernel)
set_option maxRecDepth 1000000 in
theorem mk_169 : ab_MK cm_ms mr_169 := ab_MK_of (j := 1771) (ps := [[], [], [], [], [], [], [], [], [], [], [], [], [], [], [], [], [], [], []]) (by decide +kernel)
set_option maxRecDepth 1000000 in
theorem mk_170 : ab_MK cm_ms mr_170 := ab_MK_of (j := 1565) (ps := [[], [], [], [], [], [], [], [], [], [], [], [], [], [], [], [], [], []]) (by decide +kernel)
set_option maxRecDepth 1000000 in
theorem mk_171 : ab_MK cm_ms mr_171 := ab_MK_of (j := 1893) (ps := [[], [], [], [], [], [], [], [], [], [], [], [], [], [], [], [], [], [], [], [], [], [], [], [], []]) (by decide +kernel)
set_option maxRecDepth 1000000 in
theorem mk_172 : ab_MK cm_ms mr_172 := ab_MK_of (j := 1412) (ps := [[], [], [1303], [], [1305], [], [], [], [], [], [], [], [], [], [], [], [], [], [], [], [], [], [], [], [], [], [], [], [], [], [], [], [], [], [], [], [], [], [], [1304], [], [1305], [], [], [], [], [], [], [], [], [], [], [], [], [], [], [1305], [], [], [1305], [], [], [], [1305], []]) (by decide +kernel)
set_option maxRecDepth 1000000 in
theorem mk_173 : ab_MK cm_ms mr_173 := ab_MK_of (j := 1435) (ps := [[], [], [1306], [], [], [1304], [], [], [], [], []]) (by decide +kernel)
set_option maxRecDepth 1000000 in
theorem mk_174 : ab_MK cm_ms mr_174 := ab_MK_of (j := 1438) (ps := [[], [], [], [], [], [], [], [], [], []]) (by decide +kernel)
set_option maxRecDepth 1000000 in
theorem mk_175 : ab_MK cm_ms mr_175 := ab_MK_of (j := 1441) (ps := [[], [], [], [], [], [], [], [], [], []]) (by decide +kernel)
set_option maxRecDepth 1000000 in
theorem mk_176 : ab_MK cm_ms mr_176 := ab_MK_of (j := 1431) (ps := [[], [1308], [], [], [], [1432, 1434, 50, 125], [], [], [], [], [], [], [1307], [], [], [1432, 1434, 50, 125], [], [], [], [1311], [], [], [1310], [], [], [], [], [], [1309], [], [], [1308], [], [], [1436, 1437, 125], [], [], [], [1432, 1434, 50, 125], [1436, 1437, 125], [], [], [1311], [], [], [], [1315], [], [1311], [], [], [1432, 1434, 50, 125], [], [], [], [1311], [], [], [1311], [], [], [], [], [1308], [], [], [1311], [], [], [], [], [], [1309], [], [], [1439, 1440, 125], [], [], [], [], [], [1432, 1434, 50, 125], [1439, 1440, 125], [], [], [], [], [], [], [], [1310], [], [], [], [1432, 1434, 50, 125], [], [], [], [1310], [], [], [], [], [], [1308], [], [], [], [], [], [], [], [1309], [], [], [], [], [], [1308], [], [], [], [], [], [], [], [1309], []]) (by decide +kernel)
set_option maxRecDepth 1000000 in
theorem mk_177 : ab_MK cm_ms mr_177 := ab_MK_of (j := 1460) (ps := [[], [1316], [], [], [], [], [1316], [], [], [1312], [], [], [1313], []]) (by decide +kernel)
set_option maxRecDepth 1000000 in
theorem mk_178 : ab_MK cm_ms mr_178 := ab_MK_of (j := 1450) (ps := [[], [1316], [], [], [1309], [], [], [], [1311], [], [1451, 562, 563, 127], [], [], [], [], [], [], [], [], [], [1311], [], [], [], [], [1315], [], [], [], [], [1452, 572, 573, 127], [], [], [], [], [], [], [], [], []]) (by decide +kernel)
set_option maxRecDepth 1000000 in
theorem mk_179 : ab_MK cm_ms mr_179 := ab_MK_of (j := 1473) (ps := [[], [], [1447, 1449, 52, 125], [], [], [], [], [1428, 1430, 49, 125], [], []]) (by decide +kernel)
set_option maxRecDepth 1000000 in
theorem mk_180 : ab_MK cm_ms mr_180 := ab_MK_of (j := 1469) (ps := [[], [1316], [], [], [], [1470, 1472, 57, 125], [], [], [], [], [1307], [1457, 1459, 54, 125], []]) (by decide +kernel)
set_option maxRecDepth 1000000 in
theorem mk_181 : ab_MK cm_ms mr_181 := ab_MK_of (j := 1500) (ps := [[], [1309], [], [], [], [], [1447, 1449, 52, 125], [], [], [], [1447, 1449, 52, 125], [], [], [], [1447, 1449, 52, 125], [], [], [], [1447, 1449, 52, 125], [], [], [], [1447, 1449, 52, 125], [], [], [], [1447, 1449, 52, 125], [], [], [], [1447, 1449, 52, 125], [], [], [], [1447, 1449, 52, 125], [], [], [], [], [1307], [1457, 1459, 54, 125], []]) (by decide +kernel)
set_option maxRecDepth 1000000 in
theorem mk_182 : ab_MK cm_ms mr_182 := ab_MK_of (j := 1510) (ps := [[], [], [], [], [], [], [1319], [], [], [], [], [], [], [1319], [], [], [], [], [], [1311], [], [], [], [], [], [], [], [], [], [1311], [], [], [], [], [1319], [], [], [], [], [], [], [], [], [], [1315], [], [], [], [], [], [], [], [], [], [], [], [], [], [], [], [], []]) (by decide +kernel)
