/-! words -/
def wz_W1 : List ev_Row := wz_W1_0
theorem wz_W1k : ∀ r ∈ wz_W1, wz_wd cm_ms "BarberMinutes$Agenda" r := wz_W1_0k
def wz_W2_0 : List ev_Row := [(200, 30, 9, 2, [2]), (49, 7, 3, 15, []), (200, 13, 21, 1, [7]), (49, 7, 11, 25, []), (201, 0, 29, 1, []), (49, 7, 2, 34, []), (201, 61, 37, 2, []), (200, 62, 43, 2, [1]), (200, 31, 47, 2, [2]), (81, 100, 50, 0, []), (50, 1, 0, 52, []), (50, 1, 1, 56, []), (200, 24, 59, 1, [2]), (49, 1, 2, 63, []), (68, 65537, 66, 0, []), (50, 1, 2, 63, []), (49, 2, 0, 67, [])]
set_option maxRecDepth 1000000 in
theorem wz_W2_0k : ∀ r ∈ wz_W2_0, wz_wd cm_ms "BarberMinutes$Chance" r := wz_ws_ok (ps := [[1136, 783, 784, 119], [216], [1137, 787, 788, 118], [245], [1138, 621, 131], [212], [1139, 1140, 124], [1142, 1144, 44, 124], [1154, 779, 780, 119], [1155], [429], [431], [1169, 860, 861, 119], [433], [1170], [433], [313]]) (by decide +kernel)
def wz_W2 : List ev_Row := wz_W2_0
theorem wz_W2k : ∀ r ∈ wz_W2, wz_wd cm_ms "BarberMinutes$Chance" r := wz_W2_0k
def wz_W3_0 : List ev_Row := [(49, 7, 5, 18, []), (49, 2, 0, 9, []), (86, 23, 0, 0, []), (49, 2, 1, 15, []), (50, 2, 2, 29, []), (50, 2, 3, 33, []), (49, 2, 2, 29, []), (49, 2, 3, 33, []), (49, 7, 3, 36, []), (49, 7, 0, 39, []), (67, 42, 0, 0, []), (49, 7, 1, 48, []), (200, 25, 51, 2, [2]), (200, 26, 55, 1, [2]), (49, 7, 10, 59, []), (49, 7, 7, 62, []), (49, 7, 9, 65, []), (200, 28, 68, 3, [2]), (200, 30, 72, 2, [2]), (200, 13, 76, 1, [7]), (200, 31, 80, 2, [2]), (49, 7, 11, 83, []), (200, 33, 86, 1, [2]), (49, 7, 13, 90, []), (200, 36, 93, 3, [2])]
set_option maxRecDepth 1000000 in
theorem wz_W3_0k : ∀ r ∈ wz_W3_0, wz_wd cm_ms "BarberMinutes$Minutes" r := wz_ws_ok (ps := [[224], [312], [722, 724, 723, 132], [315], [318], [320], [318], [320], [218], [204], [863, 509, 126, 510], [208], [807, 750, 751, 119], [829, 804, 805, 119], [242], [231], [239], [757, 759, 26, 119], [782, 783, 784, 119], [786, 787, 788, 118], [820, 779, 780, 119], [247], [777, 770, 771, 119], [254], [916, 917, 918, 119]]) (by decide +kernel)
def wz_W3_1 : List ev_Row := [(49, 7, 4, 97, []), (200, 27, 100, 1, [2]), (49, 7, 6, 103, [])]
set_option maxRecDepth 1000000 in
theorem wz_W3_1k : ∀ r ∈ wz_W3_1, wz_wd cm_ms "BarberMinutes$Minutes" r := wz_ws_ok (ps := [[222], [966, 826, 827, 119], [227]]) (by decide +kernel)
def wz_W3 : List ev_Row := wz_W3_0 ++ (wz_W3_1)
theorem wz_W3k : ∀ r ∈ wz_W3, wz_wd cm_ms "BarberMinutes$Minutes" r := (List.forall_mem_append.mpr ⟨wz_W3_0k, wz_W3_1k⟩)
def wz_W4_0 : List ev_Row := [(50, 3, 3, 21, []), (50, 3, 4, 25, []), (49, 3, 0, 11, []), (49, 3, 2, 28, []), (200, 23, 31, 1, [2]), (50, 3, 2, 28, []), (49, 3, 3, 21, []), (67, 35, 0, 0, []), (49, 3, 4, 25, []), (49, 3, 1, 17, [])]
set_option maxRecDepth 1000000 in
theorem wz_W4_0k : ∀ r ∈ wz_W4_0, wz_wd cm_ms "BarberMinutes$Past" r := wz_ws_ok (ps := [[343], [345], [340], [342], [1183, 856, 857, 119], [342], [343], [1184, 509, 126, 510], [345], [341]]) (by decide +kernel)
def wz_W4 : List ev_Row := wz_W4_0
theorem wz_W4k : ∀ r ∈ wz_W4, wz_wd cm_ms "BarberMinutes$Past" r := wz_W4_0k
def wz_W5_0 : List ev_Row := [(50, 4, 0, 22, []), (67, 26, 0, 0, []), (50, 4, 1, 32, []), (50, 4, 2, 36, []), (50, 4, 7, 39, []), (49, 4, 7, 39, []), (200, 8, 43, 0, [7]), (50, 4, 8, 48, []), (50, 4, 9, 52, []), (50, 4, 10, 55, []), (200, 88, 58, 0, [4]), (200, 67, 61, 0, [4]), (49, 4, 9, 52, []), (49, 4, 3, 64, []), (200, 66, 67, 1, [4]), (49, 7, 3, 71, []), (49, 4, 4, 74, []), (200, 84, 77, 0, [4]), (49, 4, 8, 48, []), (200, 69, 81, 1, [4]), (201, 68, 85, 1, []), (200, 70, 88, 0, [4]), (200, 71, 91, 0, [4]), (200, 72, 94, 0, [4]), (200, 73, 97, 0, [4])]
set_option maxRecDepth 1000000 in
theorem wz_W5_0k : ∀ r ∈ wz_W5_0, wz_wd cm_ms "BarberMinutes$Reader" r := wz_ws_ok (ps := [[151], [508, 509, 126, 510], [152], [153], [158], [158], [511, 512, 513, 118], [159], [160], [161], [515, 517, 2, 117], [538, 540, 5, 117], [160], [154], [609, 611, 8, 117], [217], [155], [542, 544, 6, 117], [159], [613, 615, 9, 117], [631, 632, 117], [634, 636, 10, 117], [649, 651, 13, 117], [674, 676, 17, 117], [685, 687, 18, 117]]) (by decide +kernel)
def wz_W5_1 : List ev_Row := [(200, 74, 100, 0, [4]), (200, 75, 103, 0, [4]), (200, 76, 106, 0, [4]), (200, 77, 109, 0, [4]), (49, 7, 9, 112, []), (49, 7, 7, 115, []), (201, 12, 118, 2, []), (49, 7, 13, 122, []), (200, 16, 125, 0, [7]), (49, 7, 15, 128, []), (200, 78, 133, 1, [4]), (200, 79, 137, 2, [4]), (50, 7, 0, 140, []), (50, 7, 1, 144, []), (50, 7, 2, 149, []), (200, 80, 152, 2, [4]), (200, 83, 156, 0, [4]), (200, 9, 163, 3, [7]), (200, 10, 173, 3, [7]), (200, 81, 176, 1, [4]), (49, 7, 8, 179, []), (200, 11, 184, 1, [7]), (49, 7, 18, 187, []), (49, 7, 17, 190, []), (50, 7, 18, 187, [])]
set_option maxRecDepth 1000000 in
theorem wz_W5_1k : ∀ r ∈ wz_W5_1, wz_wd cm_ms "BarberMinutes$Reader" r := wz_ws_ok (ps := [[693, 695, 20, 117], [697, 699, 21, 117], [701, 703, 22, 117], [710, 712, 23, 117], [238], [229], [617, 618, 118], [252], [626, 627, 628, 118], [258], [639, 641, 11, 117], [643, 645, 12, 117], [205], [209], [213], [653, 655, 14, 117], [661, 663, 16, 117], [670, 671, 672, 118], [681, 682, 683, 118], [689, 691, 19, 117], [234], [706, 707, 708, 118], [265], [263], [265]]) (by decide +kernel)
def wz_W5_2 : List ev_Row := [(200, 86, 193, 1, [4]), (49, 4, 5, 197, []), (200, 82, 200, 0, [4]), (49, 4, 10, 55, []), (49, 4, 11, 11, []), (49, 4, 6, 203, []), (49, 4, 12, 15, []), (49, 4, 13, 19, []), (201, 85, 213, 1, []), (200, 1, 229, 0, [99]), (200, 2, 234, 1, [99]), (201, 87, 238, 2, []), (81, 32, 242, 0, []), (81, 97, 244, 0, []), (49, 4, 2, 36, []), (49, 4, 1, 32, []), (49, 4, 0, 22, []), (50, 4, 4, 74, []), (50, 4, 5, 197, []), (50, 4, 6, 203, []), (50, 4, 3, 64, []), (201, 91, 246, 1, []), (200, 89, 250, 0, [4]), (201, 92, 253, 1, []), (200, 90, 256, 0, [4])]
set_option maxRecDepth 1000000 in
theorem wz_W5_2k : ∀ r ∈ wz_W5_2, wz_wd cm_ms "BarberMinutes$Reader" r := wz_ws_ok (ps := [[557, 559, 7, 117], [156], [657, 659, 15, 117], [161], [162], [157], [163], [164], [546, 547, 117], [561, 562, 563, 127], [571, 572, 573, 127], [526, 527, 117], [529], [530], [153], [152], [151], [155], [156], [157], [154], [519, 520, 117], [522, 524, 3, 117], [531, 532, 117], [534, 536, 4, 117]]) (by decide +kernel)
/-! words -/
def wz_W5 : List ev_Row := wz_W5_0 ++ (wz_W5_1 ++ (wz_W5_2))
theorem wz_W5k : ∀ r ∈ wz_W5, wz_wd cm_ms "BarberMinutes$Reader" r := (List.forall_mem_append.mpr ⟨wz_W5_0k, (List.forall_mem_append.mpr ⟨wz_W5_1k, wz_W5_2k⟩)⟩)
def wz_W6_0 : List ev_Row := [(50, 5, 1, 22, []), (49, 7, 9, 26, []), (200, 54, 31, 2, [5]), (49, 5, 0, 9, []), (49, 5, 1, 22, []), (49, 5, 2, 18, []), (200, 22, 35, 1, [2]), (200, 35, 39, 2, [2]), (49, 2, 1, 42, []), (49, 7, 17, 45, []), (84, 48, 0, 0, []), (200, 57, 54, 1, [5])]
set_option maxRecDepth 1000000 in
theorem wz_W6_0k : ∀ r ∈ wz_W6_0, wz_wd cm_ms "BarberMinutes$Sweepings" r := wz_ws_ok (ps := [[413], [235], [1060, 1062, 42, 123], [411], [413], [415], [1064, 719, 720, 119], [1065, 913, 914, 119], [316], [262], [1098, 1099, 126, 1100], [1094, 1095, 1096, 123]]) (by decide +kernel)
def wz_W6 : List ev_Row := wz_W6_0
theorem wz_W6k : ∀ r ∈ wz_W6, wz_wd cm_ms "BarberMinutes$Sweepings" r := wz_W6_0k
def wz_W7_0 : List ev_Row := [(50, 6, 2, 18, []), (49, 7, 15, 22, []), (49, 6, 0, 9, []), (200, 51, 27, 4, [6]), (200, 52, 31, 3, [6]), (200, 21, 35, 2, [7]), (49, 6, 2, 18, []), (49, 6, 1, 15, []), (86, 39, 0, 0, [])]
set_option maxRecDepth 1000000 in
theorem wz_W7_0k : ∀ r ∈ wz_W7_0, wz_wd cm_ms "BarberMinutes$Tour" r := wz_ws_ok (ps := [[394], [256], [391], [1034, 1036, 39, 122], [1038, 1040, 40, 122], [1042, 1019, 1020, 118], [394], [392], [1043, 724, 723, 132]]) (by decide +kernel)
def wz_W7 : List ev_Row := wz_W7_0
theorem wz_W7k : ∀ r ∈ wz_W7, wz_wd cm_ms "BarberMinutes$Tour" r := wz_W7_0k
def wz_W8_0 : List ev_Row := [(50, 7, 0, 48, []), (50, 7, 1, 52, []), (50, 7, 2, 55, []), (50, 7, 3, 58, []), (50, 7, 9, 61, []), (50, 7, 15, 64, []), (50, 7, 18, 67, []), (49, 7, 17, 45, []), (49, 7, 3, 58, []), (49, 7, 4, 9, []), (49, 7, 5, 15, []), (49, 7, 6, 18, []), (49, 7, 7, 21, []), (49, 7, 8, 24, []), (49, 7, 9, 61, []), (49, 7, 10, 27, []), (49, 7, 11, 30, []), (49, 7, 12, 33, []), (49, 7, 13, 36, []), (49, 7, 15, 64, []), (49, 7, 16, 42, []), (201, 0, 70, 1, []), (49, 7, 14, 39, []), (201, 12, 76, 2, []), (200, 17, 80, 1, [7])]
set_option maxRecDepth 1000000 in
theorem wz_W8_0k : ∀ r ∈ wz_W8_0, wz_wd cm_ms "BarberMinutes$Town" r := wz_ws_ok (ps := [[203], [207], [211], [215], [236], [257], [264], [261], [215], [220], [223], [225], [228], [232], [236], [241], [244], [248], [251], [257], [260], [620, 621, 131], [255], [630, 618, 118], [988, 989, 990, 118]]) (by decide +kernel)
def wz_W8_1 : List ev_Row := [(200, 20, 83, 1, [7]), (85, 87, 0, 0, []), (67, 92, 0, 0, [])]
set_option maxRecDepth 1000000 in
theorem wz_W8_1k : ∀ r ∈ wz_W8_1, wz_wd cm_ms "BarberMinutes$Town" r := wz_ws_ok (ps := [[1006, 1008, 37, 118], [1022, 1023, 126, 1024], [1025, 509, 126, 510]]) (by decide +kernel)
def wz_W8 : List ev_Row := wz_W8_0 ++ (wz_W8_1)
theorem wz_W8k : ∀ r ∈ wz_W8, wz_wd cm_ms "BarberMinutes$Town" r := (List.forall_mem_append.mpr ⟨wz_W8_0k, wz_W8_1k⟩)
def wz_W9_0 : List ev_Row := [(50, 9, 0, 47, []), (50, 9, 11, 50, []), (49, 9, 2, 53, []), (49, 9, 1, 7, []), (50, 9, 2, 53, []), (49, 9, 3, 56, []), (49, 9, 5, 59, []), (200, 173, 62, 1, [9]), (50, 9, 4, 66, []), (50, 9, 8, 69, []), (50, 9, 7, 72, []), (50, 9, 6, 75, []), (50, 9, 5, 59, []), (201, 174, 78, 1, []), (49, 9, 8, 69, []), (49, 9, 12, 17, []), (201, 175, 82, 1, []), (49, 9, 7, 72, []), (49, 9, 13, 85, []), (50, 9, 13, 85, []), (50, 9, 9, 89, []), (50, 9, 10, 13, []), (49, 9, 6, 75, []), (200, 1, 92, 0, [99]), (200, 2, 98, 1, [99])]
set_option maxRecDepth 1000000 in
theorem wz_W9_0k : ∀ r ∈ wz_W9_0, wz_wd cm_ms "BarberMinutesModel" r := wz_ws_ok (ps := [[1303], [1314], [1305], [1304], [1305], [1306], [1308], [1432, 1434, 50, 125], [1307], [1311], [1310], [1309], [1308], [1436, 1437, 125], [1311], [1315], [1439, 1440, 125], [1310], [1316], [1316], [1312], [1313], [1309], [1451, 562, 563, 127], [1452, 572, 573, 127]]) (by decide +kernel)
def wz_W9_1 : List ev_Row := [(200, 178, 102, 1, [9]), (200, 176, 106, 0, [9]), (200, 179, 109, 1, [9]), (49, 9, 4, 66, []), (200, 177, 112, 2, [9]), (49, 9, 16, 23, []), (200, 181, 132, 0, [9]), (200, 182, 135, 0, [9]), (201, 167, 138, 3, []), (200, 184, 142, 2, [9]), (200, 180, 146, 1, [9]), (200, 188, 150, 2, [9]), (200, 164, 159, 0, [9]), (200, 165, 162, 1, [9]), (50, 9, 3, 56, []), (200, 194, 165, 0, [9]), (49, 9, 15, 20, []), (201, 170, 168, 5, []), (49, 9, 17, 26, []), (200, 192, 172, 1, [9]), (50, 9, 14, 176, []), (50, 9, 20, 179, []), (50, 9, 21, 182, []), (200, 187, 185, 0, [9]), (200, 195, 188, 0, [9])]
set_option maxRecDepth 1000000 in
theorem wz_W9_1k : ∀ r ∈ wz_W9_1, wz_wd cm_ms "BarberMinutesModel" r := wz_ws_ok (ps := [[1447, 1449, 52, 125], [1428, 1430, 49, 125], [1470, 1472, 57, 125], [1307], [1457, 1459, 54, 125], [1319], [1497, 1499, 63, 125], [1507, 1509, 64, 125], [1421, 1422, 125], [1535, 1537, 69, 125], [1466, 1468, 56, 125], [1474, 1476, 58, 125], [1417, 1419, 47, 125], [1424, 1426, 48, 125], [1306], [1442, 1444, 51, 125], [1318], [1563, 1564, 125], [1320], [1566, 1568, 75, 125], [1317], [1323], [1324], [1485, 1487, 60, 125], [1453, 1455, 53, 125]]) (by decide +kernel)
def wz_W9_2 : List ev_Row := [(200, 193, 191, 2, [9]), (200, 196, 195, 0, [9]), (200, 197, 198, 0, [9]), (200, 198, 201, 0, [9]), (200, 199, 204, 0, [9]), (200, 200, 207, 0, [9]), (200, 201, 210, 0, [9]), (200, 202, 213, 0, [9]), (200, 189, 218, 3, [9]), (200, 183, 226, 1, [9]), (200, 190, 230, 0, [9]), (200, 185, 243, 0, [9]), (200, 186, 246, 0, [9]), (201, 168, 249, 2, []), (49, 9, 9, 89, []), (49, 9, 11, 50, []), (49, 9, 10, 13, []), (49, 9, 14, 176, []), (200, 209, 254, 2, [9]), (200, 211, 258, 3, [9]), (200, 212, 262, 2, [9]), (200, 213, 266, 1, [9]), (200, 214, 269, 2, [9]), (200, 215, 272, 2, [9]), (200, 217, 275, 2, [9])]
set_option maxRecDepth 1000000 in
theorem wz_W9_2k : ∀ r ∈ wz_W9_2, wz_wd cm_ms "BarberMinutesModel" r := wz_ws_ok (ps := [[1481, 1483, 59, 125], [1489, 1491, 61, 125], [1520, 1522, 66, 125], [1527, 1529, 67, 125], [1546, 1548, 71, 125], [1550, 1552, 72, 125], [1554, 1556, 73, 125], [1559, 1561, 74, 125], [1462, 1464, 55, 125], [1493, 1495, 62, 125], [1511, 1513, 65, 125], [1531, 1533, 68, 125], [1539, 1541, 70, 125], [1543, 1544, 125], [1312], [1314], [1313], [1317], [1586, 1588, 77, 125], [1594, 1596, 79, 125], [1614, 1616, 83, 125], [1618, 1620, 84, 125], [1610, 1612, 82, 125], [1642, 1644, 86, 125], [1722, 1724, 97, 125]]) (by decide +kernel)
/-! words -/
def wz_W9_3 : List ev_Row := [(49, 9, 22, 35, []), (200, 219, 279, 1, [9]), (200, 205, 282, 1, [9]), (200, 222, 285, 1, [9]), (200, 206, 288, 1, [9]), (200, 216, 291, 2, [9]), (200, 210, 294, 1, [9]), (200, 208, 298, 0, [9]), (200, 228, 301, 0, [9]), (200, 231, 304, 1, [9]), (200, 233, 307, 2, [9]), (200, 220, 311, 1, [9]), (200, 236, 314, 1, [9]), (200, 218, 317, 2, [9]), (200, 241, 320, 2, [9]), (200, 240, 323, 2, [9]), (201, 243, 326, 1, []), (200, 244, 329, 1, [9]), (200, 249, 332, 2, [9]), (201, 169, 335, 1, []), (200, 254, 338, 2, [9]), (200, 255, 341, 0, [9]), (200, 207, 344, 1, [9]), (200, 259, 347, 2, [9]), (49, 9, 23, 38, [])]
set_option maxRecDepth 1000000 in
theorem wz_W9_3k : ∀ r ∈ wz_W9_3, wz_wd cm_ms "BarberMinutesModel" r := wz_ws_ok (ps := [[1325], [1682, 1684, 92, 125], [1582, 1584, 76, 125], [1590, 1592, 78, 125], [1602, 1604, 80, 125], [1606, 1608, 81, 125], [1630, 1632, 85, 125], [1654, 1656, 88, 125], [1650, 1652, 87, 125], [1666, 1668, 89, 125], [1674, 1676, 90, 125], [1678, 1680, 91, 125], [1694, 1696, 93, 125], [1718, 1720, 96, 125], [1710, 1712, 94, 125], [1714, 1716, 95, 125], [1734, 1735, 125], [1730, 1732, 98, 125], [1753, 1755, 99, 125], [1769, 1770, 125], [1780, 1782, 101, 125], [1776, 1778, 100, 125], [1796, 1798, 102, 125], [1800, 1802, 103, 125], [1326]]) (by decide +kernel)
def wz_W9_4 : List ev_Row := [(49, 9, 25, 350, []), (50, 9, 25, 350, []), (49, 9, 24, 41, []), (200, 261, 353, 3, [9]), (83, 1000000, 357, 0, []), (200, 262, 358, 0, [9]), (50, 9, 27, 361, []), (50, 9, 28, 364, []), (50, 9, 29, 367, []), (49, 9, 26, 44, []), (200, 265, 370, 1, [9]), (49, 9, 27, 361, []), (49, 9, 28, 364, []), (49, 9, 29, 367, []), (200, 266, 373, 1, [9]), (200, 271, 376, 1, [9]), (200, 272, 379, 0, [9]), (201, 275, 382, 3, []), (50, 9, 30, 386, []), (201, 277, 389, 3, []), (200, 278, 393, 1, [9]), (49, 9, 30, 386, []), (50, 9, 31, 396, []), (50, 9, 32, 400, []), (50, 9, 33, 403, [])]
set_option maxRecDepth 1000000 in
theorem wz_W9_4k : ∀ r ∈ wz_W9_4, wz_wd cm_ms "BarberMinutesModel" r := wz_ws_ok (ps := [[1328], [1328], [1327], [1813, 1815, 105, 125], [1812], [1808, 1810, 104, 125], [1330], [1331], [1332], [1329], [1829, 1831, 107, 125], [1330], [1331], [1332], [1825, 1827, 106, 125], [1853, 1855, 109, 125], [1849, 1851, 108, 125], [1865, 1866, 125], [1333], [1876, 1877, 125], [1872, 1874, 110, 125], [1333], [1334], [1335], [1336]]) (by decide +kernel)
def wz_W9_5 : List ev_Row := [(49, 9, 31, 396, []), (49, 9, 32, 400, []), (49, 9, 33, 403, []), (200, 281, 406, 1, [9]), (201, 171, 409, 3, []), (83, 65536, 413, 0, []), (50, 9, 34, 414, []), (83, 65537, 417, 0, []), (49, 9, 34, 414, []), (200, 284, 418, 4, [9]), (49, 9, 20, 179, []), (49, 9, 18, 29, []), (200, 287, 422, 0, [9]), (200, 166, 425, 1, [9]), (49, 9, 21, 182, []), (49, 9, 19, 32, [])]
set_option maxRecDepth 1000000 in
theorem wz_W9_5k : ∀ r ∈ wz_W9_5, wz_wd cm_ms "BarberMinutesModel" r := wz_ws_ok (ps := [[1334], [1335], [1336], [1887, 1889, 111, 125], [1891, 1892, 125], [1906], [1337], [1907], [1337], [1902, 1904, 112, 125], [1323], [1321], [1916, 1918, 113, 125], [1932, 1934, 114, 125], [1324], [1322]]) (by decide +kernel)
def wz_W9 : List ev_Row := wz_W9_0 ++ (wz_W9_1 ++ (wz_W9_2 ++ (wz_W9_3 ++ (wz_W9_4 ++ (wz_W9_5)))))
theorem wz_W9k : ∀ r ∈ wz_W9, wz_wd cm_ms "BarberMinutesModel" r := (List.forall_mem_append.mpr ⟨wz_W9_0k, (List.forall_mem_append.mpr ⟨wz_W9_1k, (List.forall_mem_append.mpr ⟨wz_W9_2k, (List.forall_mem_append.mpr ⟨wz_W9_3k, (List.forall_mem_append.mpr ⟨wz_W9_4k, wz_W9_5k⟩)⟩)⟩)⟩)⟩)
def wz_W10_0 : List ev_Row := [(83, 1431655765, 265, 0, []), (83, 858993459, 266, 0, []), (83, 252645135, 267, 0, [])]
set_option maxRecDepth 1000000 in
theorem wz_W10_0k : ∀ r ∈ wz_W10_0, wz_wd cm_ms "java/lang/Integer" r := wz_ws_ok (ps := [[623], [624], [625]]) (by decide +kernel)
def wz_W10 : List ev_Row := wz_W10_0
theorem wz_W10k : ∀ r ∈ wz_W10, wz_wd cm_ms "java/lang/Integer" r := wz_W10_0k
def wz_W11_0 : List ev_Row := [(70, 9, 0, 0, []), (200, 3, 335, 0, [99]), (200, 4, 492, 0, [99]), (201, 6, 495, 2, []), (72, 38, 0, 0, []), (71, 15, 0, 0, []), (82, 1053, 0, 0, []), (201, 7, 1059, 3, [])]
set_option maxRecDepth 1000000 in
theorem wz_W11_0k : ∀ r ∈ wz_W11_0, wz_wd cm_ms "java/lang/String" r := wz_ws_ok (ps := [[1970], [565, 566, 567, 127], [575, 576, 577, 127], [579, 580, 128], [569], [1971], [585], [587, 588, 129]]) (by decide +kernel)
def wz_W11 : List ev_Row := wz_W11_0
theorem wz_W11k : ∀ r ∈ wz_W11, wz_wd cm_ms "java/lang/String" r := wz_W11_0k
def wz_W12_0 : List ev_Row := [(201, 5, 9, 2, [])]
set_option maxRecDepth 1000000 in
theorem wz_W12_0k : ∀ r ∈ wz_W12_0, wz_wd cm_ms "java/lang/StringLatin1" r := wz_ws_ok (ps := [[582, 583, 127]]) (by decide +kernel)
def wz_W12 : List ev_Row := wz_W12_0
theorem wz_W12k : ∀ r ∈ wz_W12, wz_wd cm_ms "java/lang/StringLatin1" r := wz_W12_0k
def wz_W13 : List ev_Row := []
theorem wz_W13k : ∀ r ∈ wz_W13, wz_wd cm_ms "jdk/internal/util/Preconditions" r := fun r hr => nomatch hr
/-! checks of methods -/
set_option maxRecDepth 1000000 in
theorem mk_0 : ab_MK cm_ms mr_0 := wz_MK wz_C10 wz_W10k rfl (lw_in_3 (p := 27) rfl) (ks := [0, 0, 0, 0, 1, 0, 0, 0, 0, 2, 0, 0, 0, 0, 2, 0, 0, 0, 0, 0, 0, 0, 0, 3, 0, 0, 0, 0, 0, 0, 0, 0, 0, 0, 0, 0, 0, 0, 0, 0, 0, 0]) (by decide +kernel)
set_option maxRecDepth 1000000 in
theorem mk_1 : ab_MK cm_ms mr_1 := wz_MK wz_C11 wz_W11k rfl (lw_in_2 (p := 209) rfl) (ks := [0, 1, 0, 0, 2, 0, 0]) (by decide +kernel)
set_option maxRecDepth 1000000 in
theorem mk_2 : ab_MK cm_ms mr_2 := wz_MK wz_C11 wz_W11k rfl (lw_in_2 (p := 219) rfl) (ks := [0, 3, 0, 0, 1, 0, 4, 0, 0, 1, 0, 0]) (by decide +kernel)
set_option maxRecDepth 1000000 in
theorem mk_3 : ab_MK cm_ms mr_3 := wz_MK wz_C11 wz_W11k rfl (lw_in_2 (p := 213) rfl) (ks := [5, 0, 0, 6, 0, 0, 0]) (by decide +kernel)
set_option maxRecDepth 1000000 in
theorem mk_4 : ab_MK cm_ms mr_4 := wz_MK wz_C11 wz_W11k rfl (lw_in_2 (p := 223) rfl) (ks := [5, 0, 0, 6, 0, 0, 0, 0, 0]) (by decide +kernel)
set_option maxRecDepth 1000000 in
theorem mk_5 : ab_MK cm_ms mr_5 := wz_MK wz_C11 wz_W11k rfl (lw_in_2 (p := 229) rfl) (ks := [0, 0, 7, 8, 0, 0]) (by decide +kernel)
set_option maxRecDepth 1000000 in
theorem mk_6 : ab_MK cm_ms mr_6 := wz_MK wz_C12 wz_W12k rfl (lw_in_2 (p := 226) rfl) (ks := [0, 0, 0, 1, 0, 0, 0, 0, 0, 0, 0]) (by decide +kernel)
set_option maxRecDepth 1000000 in
theorem mk_7 : ab_MK cm_ms mr_7 := wz_MK wz_C13 wz_W13k rfl (lw_in_2 (p := 234) rfl) (ks := [0, 0, 0, 0, 0, 0, 0, 0, 0, 0]) (by decide +kernel)
set_option maxRecDepth 1000000 in
theorem mk_8 : ab_MK cm_ms mr_8 := wz_MK wz_C8 wz_W8k rfl (lw_in_2 (p := 159) rfl) (ks := [0, 0, 1, 0, 0, 2, 0, 0, 3, 0, 0, 4, 0, 0, 5, 0, 0, 6, 0, 0, 7, 0, 0, 0, 0, 0, 0, 8, 0, 0, 0, 0, 0, 0]) (by decide +kernel)
set_option maxRecDepth 1000000 in
theorem mk_9 : ab_MK cm_ms mr_9 := wz_MK wz_C8 wz_W8k rfl (lw_in_3 (p := 78) rfl) (ks := [0, 9, 0, 0, 0, 0, 10, 0, 9, 0, 0, 0, 11, 0, 9, 0, 0, 0, 12, 0, 9, 0, 0, 0, 13, 0, 9, 0, 0, 0, 14, 0, 9, 0, 0, 0, 0, 9, 0, 0, 4, 0]) (by decide +kernel)
set_option maxRecDepth 1000000 in
theorem mk_10 : ab_MK cm_ms mr_10 := wz_MK wz_C8 wz_W8k rfl (lw_in_3 (p := 89) rfl) (ks := [0, 15, 0, 0, 0, 0, 16, 0, 15, 0, 0, 0, 17, 0, 15, 0, 0, 0, 18, 0, 15, 0, 0, 0, 19, 0, 15, 0, 0, 0, 0, 15, 0, 0, 5, 0]) (by decide +kernel)
set_option maxRecDepth 1000000 in
theorem mk_11 : ab_MK cm_ms mr_11 := wz_MK wz_C8 wz_W8k rfl (lw_in_3 (p := 114) rfl) (ks := [0, 20, 0, 0, 0, 21, 0, 20, 0, 0, 0, 0, 20, 0, 0, 6, 0]) (by decide +kernel)
set_option maxRecDepth 1000000 in
theorem mk_12 : ab_MK cm_ms mr_12 := wz_MK wz_C8 wz_W8k rfl (lw_in_3 (p := 24) rfl) (ks := [0, 0, 0, 0, 0, 0, 0, 0, 0, 0, 0, 0, 0, 0, 0, 22, 0, 0, 0, 0, 0, 0]) (by decide +kernel)
set_option maxRecDepth 1000000 in
theorem mk_13 : ab_MK cm_ms mr_13 := wz_MK wz_C8 wz_W8k rfl (lw_in_3 (p := 194) rfl) (ks := [0, 0, 0, 0, 0, 0, 9, 0, 0, 0, 0, 0, 0, 0, 0, 0, 12, 0, 0, 0, 0, 0, 0, 0, 0]) (by decide +kernel)
set_option maxRecDepth 1000000 in
theorem mk_14 : ab_MK cm_ms mr_14 := wz_MK wz_C8 wz_W8k rfl (lw_in_4 (p := 3) rfl) (ks := [0, 0, 0, 0, 0, 0, 0, 0, 0, 0, 15, 0, 0, 19, 0, 0, 0, 0, 0, 0, 0, 0, 0, 0, 0, 0, 0, 0, 0, 0, 0, 0, 0, 0, 0]) (by decide +kernel)
set_option maxRecDepth 1000000 in
theorem mk_15 : ab_MK cm_ms mr_15 := wz_MK wz_C8 wz_W8k rfl (lw_in_4 (p := 11) rfl) (ks := [0, 0, 0, 0, 0, 0, 0, 0, 0, 23, 0, 0, 0, 0, 0, 0, 0, 0, 0, 19, 0, 0, 0, 0, 0, 0, 0, 0, 23, 0, 0, 0, 23, 0, 0, 0, 0, 23, 0, 0, 23, 0, 0, 0, 0, 0, 0, 0, 0, 0, 0, 0, 0, 0, 0, 0, 23, 0, 0, 0, 0, 0]) (by decide +kernel)
set_option maxRecDepth 1000000 in
theorem mk_16 : ab_MK cm_ms mr_16 := wz_MK wz_C8 wz_W8k rfl (lw_in_3 (p := 34) rfl) (ks := [0, 14, 0, 9, 24, 0, 0, 0]) (by decide +kernel)
set_option maxRecDepth 1000000 in
theorem mk_17 : ab_MK cm_ms mr_17 := wz_MK wz_C8 wz_W8k rfl (lw_in_4 (p := 156) rfl) (ks := [0, 0, 0, 0, 0, 0, 9, 0, 0, 0, 0, 0, 0, 0, 0, 0, 14, 0, 0, 0, 0, 0, 0, 22, 0, 0, 0, 0, 0, 0]) (by decide +kernel)
set_option maxRecDepth 1000000 in
theorem mk_18 : ab_MK cm_ms mr_18 := wz_MK wz_C8 wz_W8k rfl (lw_in_4 (p := 152) rfl) (ks := [0, 0, 0, 0, 0, 0, 0, 0, 0, 9, 0, 0, 0, 0, 25, 0, 0, 0, 0, 0, 0, 0, 0, 0, 0, 0, 0]) (by decide +kernel)
set_option maxRecDepth 1000000 in
theorem mk_19 : ab_MK cm_ms mr_19 := wz_MK wz_C8 wz_W8k rfl (lw_in_4 (p := 170) rfl) (ks := [0, 0, 0, 0, 0, 0, 0, 0, 0, 9, 0, 0, 0, 22, 0, 0, 0, 0, 26, 0, 0, 22, 0, 0, 0, 0, 0, 0, 0]) (by decide +kernel)
set_option maxRecDepth 1000000 in
theorem mk_20 : ab_MK cm_ms mr_20 := wz_MK wz_C8 wz_W8k rfl (lw_in_4 (p := 174) rfl) (ks := [0, 0, 0, 0, 9, 0, 0, 0, 0, 0, 0, 0, 0, 14, 0, 0, 0, 0, 0, 0, 0, 0, 0, 0, 0, 0, 0]) (by decide +kernel)
set_option maxRecDepth 1000000 in
theorem mk_21 : ab_MK cm_ms mr_21 := wz_MK wz_C8 wz_W8k rfl (lw_in_4 (p := 186) rfl) (ks := [0, 0, 0, 0, 20, 0, 0, 0, 0, 0, 20, 0, 0, 0, 0, 21, 0, 0, 0, 21, 0, 0, 0, 27, 0, 0, 0, 0, 0, 28, 0]) (by decide +kernel)
set_option maxRecDepth 1000000 in
theorem mk_22 : ab_MK cm_ms mr_22 := wz_MK wz_C3 wz_W3k rfl (lw_in_3 (p := 126) rfl) (ks := [0, 1, 0, 0, 2, 0, 0, 3, 0, 0, 0, 0, 0, 0, 4, 0, 0, 0, 0, 0, 0, 0, 5, 0, 0, 6, 0]) (by decide +kernel)
set_option maxRecDepth 1000000 in
theorem mk_23 : ab_MK cm_ms mr_23 := wz_MK wz_C3 wz_W3k rfl (lw_in_4 (p := 23) rfl) (ks := [0, 2, 0, 0, 2, 0, 0, 3, 0, 4, 0, 0, 4, 0, 0, 3, 0, 0, 7, 5, 0, 0, 8, 6, 0]) (by decide +kernel)
set_option maxRecDepth 1000000 in
theorem mk_24 : ab_MK cm_ms mr_24 := wz_MK wz_C3 wz_W3k rfl (lw_in_4 (p := 27) rfl) (ks := [0, 0, 0, 0, 9, 0, 0, 2, 0, 0, 0, 2, 0, 0, 0, 10, 0, 11, 0, 0, 0, 0, 0, 8, 0, 0, 6, 0]) (by decide +kernel)
set_option maxRecDepth 1000000 in
theorem mk_25 : ab_MK cm_ms mr_25 := wz_MK wz_C3 wz_W3k rfl (lw_in_3 (p := 157) rfl) (ks := [0, 2, 0, 0, 0, 12, 0, 0, 0, 0, 0]) (by decide +kernel)
set_option maxRecDepth 1000000 in
theorem mk_26 : ab_MK cm_ms mr_26 := wz_MK wz_C3 wz_W3k rfl (lw_in_3 (p := 211) rfl) (ks := [0, 0, 0, 0, 0, 0, 9, 0, 0, 0, 0, 13, 0, 0, 0, 0, 0, 0, 0, 0, 0, 0, 0]) (by decide +kernel)
set_option maxRecDepth 1000000 in
theorem mk_27 : ab_MK cm_ms mr_27 := wz_MK wz_C3 wz_W3k rfl (lw_in_3 (p := 233) rfl) (ks := [0, 0, 9, 0, 0, 0, 0, 0, 14, 0, 0, 0, 0]) (by decide +kernel)
set_option maxRecDepth 1000000 in
theorem mk_28 : ab_MK cm_ms mr_28 := wz_MK wz_C3 wz_W3k rfl (lw_in_3 (p := 165) rfl) (ks := [0, 2, 0, 0, 0, 12, 0, 0, 2, 0, 0, 0, 15, 0, 0, 0, 0, 16, 0, 0, 0, 0, 0, 0, 0, 0, 0, 0, 0]) (by decide +kernel)
set_option maxRecDepth 1000000 in
theorem mk_29 : ab_MK cm_ms mr_29 := wz_MK wz_C3 wz_W3k rfl (lw_in_3 (p := 161) rfl) (ks := [0, 0, 0, 0, 0, 0, 17, 0, 0, 0, 0, 0, 18, 0, 0, 0, 0, 0, 0, 0, 0, 0, 0, 0]) (by decide +kernel)
set_option maxRecDepth 1000000 in
theorem mk_30 : ab_MK cm_ms mr_30 := wz_MK wz_C3 wz_W3k rfl (lw_in_3 (p := 190) rfl) (ks := [0, 0, 0, 0, 0, 0, 9, 0, 0, 0, 0, 0, 18, 0, 0, 0, 0, 0, 0, 0, 0, 0, 0, 0]) (by decide +kernel)
set_option maxRecDepth 1000000 in
theorem mk_31 : ab_MK cm_ms mr_31 := wz_MK wz_C3 wz_W3k rfl (lw_in_3 (p := 186) rfl) (ks := [0, 0, 0, 0, 19, 20, 0]) (by decide +kernel)
set_option maxRecDepth 1000000 in
theorem mk_32 : ab_MK cm_ms mr_32 := wz_MK wz_C3 wz_W3k rfl (lw_in_3 (p := 224) rfl) (ks := [0, 0, 0, 21, 0, 22, 0, 0, 0, 0, 0, 0, 0]) (by decide +kernel)
set_option maxRecDepth 1000000 in
theorem mk_33 : ab_MK cm_ms mr_33 := wz_MK wz_C3 wz_W3k rfl (lw_in_3 (p := 177) rfl) (ks := [0, 7, 0, 0, 0, 0, 0, 0, 0, 0, 0]) (by decide +kernel)
set_option maxRecDepth 1000000 in
theorem mk_34 : ab_MK cm_ms mr_34 := wz_MK wz_C3 wz_W3k rfl (lw_in_3 (p := 181) rfl) (ks := [0, 0, 23, 0, 0, 24, 0, 0, 0, 7, 0, 0, 0, 0, 0, 0, 0, 0]) (by decide +kernel)
set_option maxRecDepth 1000000 in
theorem mk_35 : ab_MK cm_ms mr_35 := wz_MK wz_C3 wz_W3k rfl (lw_in_4 (p := 80) rfl) (ks := [0, 0, 0, 19, 0, 0, 0, 20, 0, 22, 0, 0, 0, 0, 0, 0, 0, 0, 0, 0, 0, 9, 0, 0, 0, 0, 0, 0, 0, 0, 0, 0, 0, 15, 0, 0, 25, 0, 0, 0, 0, 0, 0, 7, 0, 0, 0, 0, 5, 0, 0]) (by decide +kernel)
set_option maxRecDepth 1000000 in
theorem mk_36 : ab_MK cm_ms mr_36 := wz_MK wz_C3 wz_W3k rfl (lw_in_4 (p := 84) rfl) (ks := [0, 26, 0, 0, 0, 0, 2, 0, 0, 0, 0, 0, 0, 0, 0, 0, 0, 0, 0, 4, 0, 0, 0, 0, 0, 0, 0]) (by decide +kernel)
set_option maxRecDepth 1000000 in
theorem mk_37 : ab_MK cm_ms mr_37 := wz_MK wz_C3 wz_W3k rfl (lw_in_4 (p := 130) rfl) (ks := [0, 0, 0, 13, 0, 0, 0, 0, 0, 27, 0, 0, 0, 0, 0, 0, 0, 0, 0, 0, 0, 0, 0, 0, 9, 0, 0, 0, 0, 0, 0, 0, 0, 0, 0, 20, 0, 0, 0, 0, 0, 0, 28, 0, 0, 0, 0, 0, 0, 0, 0, 0, 0]) (by decide +kernel)
set_option maxRecDepth 1000000 in
theorem mk_38 : ab_MK cm_ms mr_38 := wz_MK wz_C4 wz_W4k rfl (lw_in_3 (p := 133) rfl) (ks := [0, 0, 1, 0, 0, 2, 0]) (by decide +kernel)
set_option maxRecDepth 1000000 in
theorem mk_39 : ab_MK cm_ms mr_39 := wz_MK wz_C4 wz_W4k rfl (lw_in_5 (p := 107) rfl) (ks := [0, 3, 0, 4, 0, 0, 5, 0, 0, 4, 0, 0, 0, 0, 6, 0, 0, 0, 7, 0, 0, 8, 1, 0]) (by decide +kernel)
set_option maxRecDepth 1000000 in
theorem mk_40 : ab_MK cm_ms mr_40 := wz_MK wz_C4 wz_W4k rfl (lw_in_5 (p := 127) rfl) (ks := [0, 7, 0, 0, 0, 0, 0, 4, 0, 0, 0, 0, 0, 0, 6, 0, 0, 7, 0, 0, 1, 0, 0, 3, 0, 4, 0, 5, 0, 0]) (by decide +kernel)
set_option maxRecDepth 1000000 in
theorem mk_41 : ab_MK cm_ms mr_41 := wz_MK wz_C4 wz_W4k rfl (lw_in_5 (p := 135) rfl) (ks := [0, 9, 0, 0, 0, 0, 0, 10, 0, 9, 0, 0, 5, 0, 0, 9, 0, 0, 2, 0, 9, 0, 0, 0]) (by decide +kernel)
set_option maxRecDepth 1000000 in
theorem mk_42 : ab_MK cm_ms mr_42 := wz_MK wz_C4 wz_W4k rfl (lw_in_5 (p := 143) rfl) (ks := [0, 0, 0, 0, 9, 0, 0, 0, 0, 0, 10, 0, 0, 5, 0, 0, 1, 0, 0]) (by decide +kernel)
set_option maxRecDepth 1000000 in
theorem mk_43 : ab_MK cm_ms mr_43 := wz_MK wz_C1 wz_W1k rfl (lw_in_4 (p := 63) rfl) (ks := [0, 0, 0, 0, 0, 0, 0, 0, 0, 0, 0, 0, 0, 0, 0, 0, 0, 0, 0, 0, 0, 0, 0, 0, 0, 0, 0, 0, 1, 0, 0, 0, 0, 0, 0, 0]) (by decide +kernel)
set_option maxRecDepth 1000000 in
theorem mk_44 : ab_MK cm_ms mr_44 := wz_MK wz_C1 wz_W1k rfl (lw_in_4 (p := 69) rfl) (ks := [0, 2, 0, 0, 0, 3, 0, 0, 0, 0, 0, 0, 0, 0, 0, 0, 0, 0, 0, 0, 0, 0, 0, 0, 0, 0, 0, 0, 0, 0, 4, 0, 0, 0, 0, 0, 0, 0, 0, 0, 0, 0, 0, 0, 0]) (by decide +kernel)
set_option maxRecDepth 1000000 in
theorem mk_45 : ab_MK cm_ms mr_45 := wz_MK wz_C1 wz_W1k rfl (lw_in_4 (p := 92) rfl) (ks := [0, 0, 0, 5, 6, 0, 0, 7, 0, 0, 8, 0, 0, 9, 0, 2, 0, 0, 0, 3, 0, 0, 0, 0, 0, 10, 0]) (by decide +kernel)
/-! checks of methods -/
set_option maxRecDepth 1000000 in
theorem mk_46 : ab_MK cm_ms mr_46 := wz_MK wz_C1 wz_W1k rfl (lw_in_4 (p := 97) rfl) (ks := [0, 0, 11, 0, 0, 0, 12, 0, 0, 0, 8, 0, 0, 7, 0, 0, 2, 0, 0, 13, 9, 0, 0, 0, 0, 0, 1, 0, 0, 0, 0, 0, 4, 0, 0, 0, 0, 0, 0, 0, 0, 0, 0, 0, 0, 0, 0, 0, 0, 0, 10, 0, 0, 0]) (by decide +kernel)
set_option maxRecDepth 1000000 in
theorem mk_47 : ab_MK cm_ms mr_47 := wz_MK wz_C1 wz_W1k rfl (lw_in_4 (p := 74) rfl) (ks := [0, 0, 0, 0, 0, 0, 0, 0, 0, 0, 0, 1, 0, 0, 0, 0, 0, 0, 2, 0, 0, 0, 0, 14, 0, 0, 0, 0, 2, 0, 0, 0, 0, 0, 0, 0, 2, 0, 0, 3, 0, 0, 15, 0, 0, 0, 0, 0, 16, 0, 0, 17, 0, 0, 0, 0, 0]) (by decide +kernel)
set_option maxRecDepth 1000000 in
theorem mk_48 : ab_MK cm_ms mr_48 := wz_MK wz_C1 wz_W1k rfl (lw_in_4 (p := 113) rfl) (ks := [0, 2, 0, 0, 0, 3, 0, 0, 0, 0, 0, 0, 0, 6, 0, 0, 0, 0, 18, 0, 0, 0, 0, 0, 0, 0]) (by decide +kernel)
set_option maxRecDepth 1000000 in
theorem mk_49 : ab_MK cm_ms mr_49 := wz_MK wz_C1 wz_W1k rfl (lw_in_4 (p := 117) rfl) (ks := [0, 0, 11, 0, 0, 2, 0, 0, 0, 19, 0, 0, 0, 11, 0, 0, 0, 0, 0, 0, 0, 0, 0, 0, 0, 11, 0, 0, 0, 0, 0, 0, 0, 0, 1, 0, 0, 0, 0, 0, 0, 0, 0, 0, 0, 4, 0, 0, 0, 0, 0, 0, 0, 0, 18, 0, 0, 0, 0, 0, 0, 0]) (by decide +kernel)
set_option maxRecDepth 1000000 in
theorem mk_50 : ab_MK cm_ms mr_50 := wz_MK wz_C7 wz_W7k rfl (lw_in_4 (p := 198) rfl) (ks := [0, 0, 1, 0, 2, 0, 0, 0, 1, 0, 3, 0, 0, 0, 0, 0, 0, 0, 0, 4, 0]) (by decide +kernel)
set_option maxRecDepth 1000000 in
theorem mk_51 : ab_MK cm_ms mr_51 := wz_MK wz_C7 wz_W7k rfl (lw_in_4 (p := 202) rfl) (ks := [0, 0, 2, 0, 0, 0, 0, 0, 0, 0, 0, 5, 0, 0, 0, 0, 0, 2, 0, 0, 0, 0, 0, 0, 0, 0, 3, 0, 0, 0, 0, 0, 0, 0, 0, 0, 0, 0, 0, 0, 0, 0, 0, 3, 0, 0, 0, 0, 0, 6, 0, 4, 0, 0, 0]) (by decide +kernel)
set_option maxRecDepth 1000000 in
theorem mk_52 : ab_MK cm_ms mr_52 := wz_MK wz_C7 wz_W7k rfl (lw_in_4 (p := 206) rfl) (ks := [0, 0, 0, 3, 0, 0, 0, 0, 0, 6, 0, 0, 0, 0, 7, 0, 0, 0, 1, 0, 3, 0, 0, 8, 0, 0, 9, 0]) (by decide +kernel)
set_option maxRecDepth 1000000 in
theorem mk_53 : ab_MK cm_ms mr_53 := wz_MK wz_C6 wz_W6k rfl (lw_in_4 (p := 224) rfl) (ks := [0, 0, 1, 0, 0, 0, 0, 0, 2, 0, 0, 0, 0, 0, 3, 0, 0, 4, 0, 5, 0, 0, 0, 0, 5, 0, 0, 1, 0, 0, 0]) (by decide +kernel)
set_option maxRecDepth 1000000 in
theorem mk_54 : ab_MK cm_ms mr_54 := wz_MK wz_C6 wz_W6k rfl (lw_in_4 (p := 228) rfl) (ks := [0, 6, 0, 7, 0, 0, 0, 0, 2, 0, 0, 0, 0, 0, 0, 0, 0, 6, 0, 0, 8, 0, 0, 0, 0, 0, 0, 0, 0, 0, 6, 9, 0, 0, 0, 10, 0, 0, 0, 0, 0, 0, 0, 0, 0]) (by decide +kernel)
set_option maxRecDepth 1000000 in
theorem mk_55 : ab_MK cm_ms mr_55 := wz_MK wz_C6 wz_W6k rfl (lw_in_5 (p := 2) rfl) (ks := [0, 0, 0, 0, 0, 0, 5, 0, 0, 0, 4, 0, 0, 0, 0, 0, 0, 0, 0]) (by decide +kernel)
set_option maxRecDepth 1000000 in
theorem mk_56 : ab_MK cm_ms mr_56 := wz_MK wz_C6 wz_W6k rfl (lw_in_5 (p := 10) rfl) (ks := [0, 5, 0, 0, 0, 0, 4, 0, 0, 0, 0, 0, 0, 0, 5, 0, 0, 0, 4, 0, 0, 0, 0, 0, 0, 0, 0]) (by decide +kernel)
set_option maxRecDepth 1000000 in
theorem mk_57 : ab_MK cm_ms mr_57 := wz_MK wz_C6 wz_W6k rfl (lw_in_5 (p := 22) rfl) (ks := [0, 0, 0, 0, 0, 0, 5, 0, 0, 0, 4, 0, 0, 0, 0, 0, 0, 0, 0, 0, 0, 0, 0, 5, 0, 0, 11, 0]) (by decide +kernel)
set_option maxRecDepth 1000000 in
theorem mk_58 : ab_MK cm_ms mr_58 := wz_MK wz_C6 wz_W6k rfl (lw_in_5 (p := 18) rfl) (ks := [0, 0, 0, 5, 0, 0, 0, 0, 0, 0, 5, 0, 0, 0, 2, 0, 0, 0, 12, 0, 0, 0, 0, 0, 0, 0, 0, 0, 0, 0, 0]) (by decide +kernel)
set_option maxRecDepth 1000000 in
theorem mk_59 : ab_MK cm_ms mr_59 := wz_MK wz_C2 wz_W2k rfl (lw_in_5 (p := 60) rfl) (ks := [0, 0, 0, 1, 0, 0, 0, 0, 0, 0, 0, 0, 2, 0, 0, 0, 0, 0, 0, 0, 0, 3, 0, 4, 0, 0, 0, 0, 5, 0, 0, 0, 6, 0, 7, 0, 0, 6, 0, 0, 2, 0, 0, 7, 0, 0, 0, 0, 0, 0, 0, 0, 0, 2, 7, 8, 0]) (by decide +kernel)
set_option maxRecDepth 1000000 in
theorem mk_60 : ab_MK cm_ms mr_60 := wz_MK wz_C2 wz_W2k rfl (lw_in_5 (p := 78) rfl) (ks := [0, 0, 0, 0, 9, 0, 0, 0, 6, 0, 0, 0, 10, 8, 0]) (by decide +kernel)
set_option maxRecDepth 1000000 in
theorem mk_61 : ab_MK cm_ms mr_61 := wz_MK wz_C2 wz_W2k rfl (lw_in_5 (p := 66) rfl) (ks := [0, 0, 0, 0, 0, 0, 0, 0, 0, 0, 0, 0, 0, 0, 0, 0]) (by decide +kernel)
set_option maxRecDepth 1000000 in
theorem mk_62 : ab_MK cm_ms mr_62 := wz_MK wz_C2 wz_W2k rfl (lw_in_5 (p := 70) rfl) (ks := [0, 0, 0, 0, 0, 0, 0, 0, 0, 0, 0, 0, 0, 0, 0, 0, 0, 0, 0, 0, 0, 0, 0, 0, 0, 0, 0, 0, 0, 0, 0, 0, 0, 11, 0, 0, 0, 0, 0, 0, 0, 0, 0, 0, 12, 0]) (by decide +kernel)
set_option maxRecDepth 1000000 in
theorem mk_63 : ab_MK cm_ms mr_63 := wz_MK wz_C2 wz_W2k rfl (lw_in_5 (p := 93) rfl) (ks := [0, 0, 13, 0, 0, 0, 0, 2, 0, 0, 0, 0, 14, 0, 0, 0, 15, 0, 16, 0, 14, 0, 0, 0, 6, 0, 0, 17, 0, 0, 0, 0, 0, 0]) (by decide +kernel)
set_option maxRecDepth 1000000 in
theorem mk_64 : ab_MK cm_ms mr_64 := wz_MK wz_C5 wz_W5k rfl (lw_in_2 (p := 152) rfl) (ks := [0, 0, 1, 0, 0, 0, 0, 2, 3, 0, 0, 4, 0, 0, 5, 0, 6, 7, 0, 0, 8, 0, 0, 9, 0, 0, 10, 0, 11, 0, 12, 0, 0, 0, 0, 0, 0, 13, 0, 0, 14, 0, 0, 0, 11, 0, 12, 0, 0, 0, 14, 0, 0, 0, 15, 0, 6, 16, 0, 0, 0, 15, 0, 13, 0]) (by decide +kernel)
set_option maxRecDepth 1000000 in
theorem mk_65 : ab_MK cm_ms mr_65 := wz_MK wz_C5 wz_W5k rfl (lw_in_3 (p := 122) rfl) (ks := [0, 17, 0]) (by decide +kernel)
set_option maxRecDepth 1000000 in
theorem mk_66 : ab_MK cm_ms mr_66 := wz_MK wz_C5 wz_W5k rfl (lw_in_3 (p := 17) rfl) (ks := [0, 13, 0, 0, 0, 9, 0]) (by decide +kernel)
set_option maxRecDepth 1000000 in
theorem mk_67 : ab_MK cm_ms mr_67 := wz_MK wz_C5 wz_W5k rfl (lw_in_2 (p := 186) rfl) (ks := [0, 18, 0, 0, 0, 0, 0, 0, 15, 0, 0, 0, 0, 19, 0, 0, 0, 15, 0, 0, 0, 0, 19, 0, 0, 0, 15, 0, 0, 0, 20, 0, 21, 0, 0, 0, 15, 0, 11, 0, 13, 0, 0, 0, 0, 0, 0, 22, 0, 0, 23, 0, 0, 24, 0, 0, 25, 0, 0, 26, 0, 0, 27, 0, 0, 28, 0, 0, 29, 0, 0]) (by decide +kernel)
set_option maxRecDepth 1000000 in
theorem mk_68 : ab_MK cm_ms mr_68 := wz_MK wz_C5 wz_W5k rfl (lw_in_3 (p := 38) rfl) (ks := [0, 0, 0, 0, 0, 0, 0, 0, 0, 0, 0, 0, 0, 0, 0, 0]) (by decide +kernel)
set_option maxRecDepth 1000000 in
theorem mk_69 : ab_MK cm_ms mr_69 := wz_MK wz_C5 wz_W5k rfl (lw_in_3 (p := 21) rfl) (ks := [0, 0, 0, 6, 16, 0, 0, 6, 30, 0, 0, 6, 31, 0, 6, 16, 32, 0, 0, 6, 33, 0, 6, 30, 32, 0, 0, 6, 34, 0, 0, 6, 35, 0, 0, 0]) (by decide +kernel)
set_option maxRecDepth 1000000 in
theorem mk_70 : ab_MK cm_ms mr_70 := wz_MK wz_C5 wz_W5k rfl (lw_in_3 (p := 42) rfl) (ks := [0, 0, 36, 0, 6, 0, 0, 0, 37, 38, 0, 0, 36, 0, 6, 0, 0, 0, 37, 39, 0, 0, 36, 0, 6, 0, 0, 0, 37, 40, 0, 0, 8, 0]) (by decide +kernel)
set_option maxRecDepth 1000000 in
theorem mk_71 : ab_MK cm_ms mr_71 := wz_MK wz_C5 wz_W5k rfl (lw_in_3 (p := 57) rfl) (ks := [0, 0, 0, 6, 16, 41, 0, 42, 0, 0, 11, 0, 0, 36, 0, 0, 0, 37, 0, 0, 0, 36, 0, 0, 0, 37, 0, 0, 13, 0, 0, 6, 0, 0, 0, 43, 0]) (by decide +kernel)
set_option maxRecDepth 1000000 in
theorem mk_72 : ab_MK cm_ms mr_72 := wz_MK wz_C5 wz_W5k rfl (lw_in_3 (p := 82) rfl) (ks := [0, 0, 0, 6, 30, 41, 0, 0, 36, 0, 0, 0, 37, 0, 0, 0, 36, 0, 0, 0, 37, 0, 0, 0, 36, 0, 0, 0, 37, 0, 0, 13, 0, 0, 6, 0, 0, 0, 44, 0]) (by decide +kernel)
set_option maxRecDepth 1000000 in
theorem mk_73 : ab_MK cm_ms mr_73 := wz_MK wz_C5 wz_W5k rfl (lw_in_3 (p := 93) rfl) (ks := [0, 0, 45, 0, 0, 11, 0, 0, 45, 0, 0, 0, 0, 0, 0, 0, 0, 0, 6, 31, 0, 0, 0, 0, 0, 0, 0, 0, 0, 15, 0, 0, 6, 31, 0, 0, 0, 0, 0, 0, 0, 0, 0, 11, 0]) (by decide +kernel)
set_option maxRecDepth 1000000 in
theorem mk_74 : ab_MK cm_ms mr_74 := wz_MK wz_C5 wz_W5k rfl (lw_in_3 (p := 101) rfl) (ks := [0, 0, 45, 0, 0, 11, 0, 0, 45, 0, 0, 0, 0, 0, 0, 0, 0, 0, 6, 33, 0, 0, 0, 0, 0, 0, 0, 0, 0, 15, 0, 0, 0, 0, 0, 0, 15, 0, 0, 6, 33, 0, 0, 0, 0, 0, 0, 0, 0, 0, 11, 0]) (by decide +kernel)
set_option maxRecDepth 1000000 in
theorem mk_75 : ab_MK cm_ms mr_75 := wz_MK wz_C5 wz_W5k rfl (lw_in_3 (p := 105) rfl) (ks := [0, 0, 45, 0, 0, 11, 0, 0, 45, 0, 0, 0, 0, 0, 0, 0, 0, 0, 0, 0, 0, 6, 46, 0, 0, 0, 0, 0, 0, 0, 0, 0, 15, 0, 0, 6, 46, 0, 0, 0, 0, 0, 0, 0, 0, 0, 6, 46, 0, 0, 0, 0, 0, 0, 0, 0, 0, 11, 0]) (by decide +kernel)
set_option maxRecDepth 1000000 in
theorem mk_76 : ab_MK cm_ms mr_76 := wz_MK wz_C5 wz_W5k rfl (lw_in_3 (p := 109) rfl) (ks := [0, 0, 0, 6, 35, 41, 0, 0, 36, 0, 0, 0, 37, 0, 0, 13, 0, 0, 6, 0, 47, 0]) (by decide +kernel)
/-! checks of methods -/
set_option maxRecDepth 1000000 in
theorem mk_77 : ab_MK cm_ms mr_77 := wz_MK wz_C5 wz_W5k rfl (lw_in_3 (p := 118) rfl) (ks := [0, 42, 0, 0, 0, 0, 0, 0, 6, 48, 0, 0, 0, 0, 0, 0, 0, 15, 0, 0, 11, 0, 0, 0, 37, 0, 0, 13, 0, 0, 0, 0, 0, 6, 49, 0, 0, 0, 0, 6, 0, 48, 0, 0, 0, 0, 50, 0]) (by decide +kernel)
set_option maxRecDepth 1000000 in
theorem mk_78 : ab_MK cm_ms mr_78 := wz_MK wz_C5 wz_W5k rfl (lw_in_3 (p := 47) rfl) (ks := [0, 0, 51, 0, 0, 0, 15, 0, 11, 0]) (by decide +kernel)
set_option maxRecDepth 1000000 in
theorem mk_79 : ab_MK cm_ms mr_79 := wz_MK wz_C5 wz_W5k rfl (lw_in_3 (p := 51) rfl) (ks := [0, 14, 0, 0, 0, 0, 15, 0, 0, 52, 0, 0, 0, 52, 0, 0, 0, 0, 15, 0, 52, 0, 0, 11, 0, 0]) (by decide +kernel)
set_option maxRecDepth 1000000 in
theorem mk_80 : ab_MK cm_ms mr_80 := wz_MK wz_C5 wz_W5k rfl (lw_in_3 (p := 61) rfl) (ks := [0, 14, 0, 0, 0, 18, 0, 0, 0, 0, 15, 0, 0, 53, 0, 0, 0, 0, 15, 0, 13, 0, 0, 54, 0, 0, 0, 55, 0, 54, 0, 56, 0, 0, 57, 0, 54, 0, 0, 0, 58, 0, 54, 0, 0, 0, 0, 54, 0, 0, 10, 0, 11, 0]) (by decide +kernel)
set_option maxRecDepth 1000000 in
theorem mk_81 : ab_MK cm_ms mr_81 := wz_MK wz_C5 wz_W5k rfl (lw_in_3 (p := 97) rfl) (ks := [0, 53, 0, 0, 14, 0, 0, 0, 18, 0, 0, 0, 0, 15, 0, 0, 0, 0, 0, 57, 0, 0, 0, 0, 0, 0, 15, 0, 13, 0, 0, 0, 0, 0, 0, 0, 58, 0, 0, 0]) (by decide +kernel)
set_option maxRecDepth 1000000 in
theorem mk_82 : ab_MK cm_ms mr_82 := wz_MK wz_C5 wz_W5k rfl (lw_in_3 (p := 65) rfl) (ks := [0, 0, 0, 0, 54, 0, 0, 14, 0, 0, 0, 55, 0, 0, 0, 56, 0, 0, 0, 0, 0, 0, 0, 0]) (by decide +kernel)
set_option maxRecDepth 1000000 in
theorem mk_83 : ab_MK cm_ms mr_83 := wz_MK wz_C5 wz_W5k rfl (lw_in_3 (p := 69) rfl) (ks := [0, 0, 51, 0, 0, 0, 0, 0, 51, 0, 0, 0, 0, 0, 51, 0, 0, 0, 0, 0, 15, 0, 0]) (by decide +kernel)
set_option maxRecDepth 1000000 in
theorem mk_84 : ab_MK cm_ms mr_84 := wz_MK wz_C5 wz_W5k rfl (lw_in_2 (p := 190) rfl) (ks := [0, 0, 0, 0, 0, 0, 0, 59, 51, 0, 0, 0, 0, 0, 0, 0]) (by decide +kernel)
set_option maxRecDepth 1000000 in
theorem mk_85 : ab_MK cm_ms mr_85 := wz_MK wz_C5 wz_W5k rfl (lw_in_2 (p := 193) rfl) (ks := [0, 0, 0, 0, 0, 0, 0, 0, 0, 0, 0, 0, 0, 0, 0, 0, 0, 0]) (by decide +kernel)
set_option maxRecDepth 1000000 in
theorem mk_86 : ab_MK cm_ms mr_86 := wz_MK wz_C5 wz_W5k rfl (lw_in_2 (p := 205) rfl) (ks := [0, 0, 0, 0, 0, 0, 60, 0, 0, 0, 0, 61, 62, 0, 0, 0, 0, 14, 0, 0, 0, 56, 0, 0, 0, 0, 0, 0, 0]) (by decide +kernel)
set_option maxRecDepth 1000000 in
theorem mk_87 : ab_MK cm_ms mr_87 := wz_MK wz_C5 wz_W5k rfl (lw_in_2 (p := 173) rfl) (ks := [0, 63, 0, 0, 0, 0, 64, 0, 0, 0, 0]) (by decide +kernel)
set_option maxRecDepth 1000000 in
theorem mk_88 : ab_MK cm_ms mr_88 := wz_MK wz_C5 wz_W5k rfl (lw_in_2 (p := 163) rfl) (ks := [0, 13, 0, 0, 0, 65, 0, 66, 0, 0, 67, 0, 65, 0, 0, 0, 0, 0, 65, 0, 0, 4, 0, 0, 0, 65, 68, 0, 0, 69, 0, 0, 70, 0, 65, 0, 66, 0, 0, 0, 71, 0, 0, 67, 0, 65, 0, 72, 0, 0, 73, 0, 0, 67, 0, 65, 0, 74, 0, 0, 75, 0, 0, 0, 67, 0, 65, 0, 0, 0, 0, 0, 0, 71, 0, 0, 65, 0, 0, 4, 0]) (by decide +kernel)
set_option maxRecDepth 1000000 in
theorem mk_89 : ab_MK cm_ms mr_89 := wz_MK wz_C5 wz_W5k rfl (lw_in_2 (p := 170) rfl) (ks := [0, 65, 0, 66, 0, 0, 67, 0, 65, 0, 72, 0, 0, 0, 56, 0, 67, 0, 65, 0, 62, 70, 0, 0, 65, 0, 0, 4, 0, 0, 0, 65, 0, 17, 0, 0, 0, 0, 0, 0, 71, 0]) (by decide +kernel)
set_option maxRecDepth 1000000 in
theorem mk_90 : ab_MK cm_ms mr_90 := wz_MK wz_C5 wz_W5k rfl (lw_in_2 (p := 182) rfl) (ks := [0, 65, 0, 66, 0, 0, 67, 0, 65, 0, 74, 0, 0, 0, 52, 0, 0, 0, 67, 0, 65, 0, 0, 0, 0, 69, 0, 0, 65, 0, 0, 4, 0, 0, 0, 65, 0, 17, 0, 0, 0, 0, 0, 0, 71, 0]) (by decide +kernel)
set_option maxRecDepth 1000000 in
theorem mk_91 : ab_MK cm_ms mr_91 := wz_MK wz_C5 wz_W5k rfl (lw_in_2 (p := 166) rfl) (ks := [0, 0, 0, 0, 0, 0, 0, 0, 0, 0]) (by decide +kernel)
set_option maxRecDepth 1000000 in
theorem mk_92 : ab_MK cm_ms mr_92 := wz_MK wz_C5 wz_W5k rfl (lw_in_2 (p := 178) rfl) (ks := [0, 0, 0, 0, 0, 0, 0, 0, 0, 0]) (by decide +kernel)
set_option maxRecDepth 1000000 in
theorem mk_93 : ab_MK cm_ms mr_93 := wz_MK wz_C0 wz_W0k rfl (lw_in_2 (p := 136) rfl) (ks := [0, 1, 0, 0, 0, 0, 0, 0, 0, 0, 2, 0, 0, 2, 0, 0, 2, 0, 0, 2, 0, 0, 2, 0, 1, 0]) (by decide +kernel)
set_option maxRecDepth 1000000 in
theorem mk_94 : ab_MK cm_ms mr_94 := wz_MK wz_C0 wz_W0k rfl (lw_in_2 (p := 140) rfl) (ks := [0, 0, 0, 0, 0, 1, 0, 0, 0, 3, 0, 1, 0, 0, 0, 0, 0, 0, 0, 1, 0, 0, 4, 0, 0, 0]) (by decide +kernel)
set_option maxRecDepth 1000000 in
theorem mk_95 : ab_MK cm_ms mr_95 := wz_MK wz_C0 wz_W0k rfl (lw_in_2 (p := 144) rfl) (ks := [0, 0, 0, 0, 1, 0, 0, 0, 5, 0, 0, 0, 4, 0, 0, 6, 0, 3, 0, 0, 7, 8, 9, 0, 10, 0, 0, 0, 6, 11, 12, 0, 0, 5, 0, 0, 7, 0, 0, 0, 13, 14, 0, 0, 15, 0, 16, 0, 13, 17, 0, 18, 19, 0, 0, 13, 20, 21, 0]) (by decide +kernel)
set_option maxRecDepth 1000000 in
theorem mk_96 : ab_MK cm_ms mr_96 := wz_MK wz_C0 wz_W0k rfl (lw_in_3 (p := 141) rfl) (ks := [0, 10, 0]) (by decide +kernel)
set_option maxRecDepth 1000000 in
theorem mk_97 : ab_MK cm_ms mr_97 := wz_MK wz_C0 wz_W0k rfl (lw_in_3 (p := 145) rfl) (ks := [0, 22, 0, 0, 0, 23, 0, 0, 0]) (by decide +kernel)
set_option maxRecDepth 1000000 in
theorem mk_98 : ab_MK cm_ms mr_98 := wz_MK wz_C0 wz_W0k rfl (lw_in_3 (p := 149) rfl) (ks := [0, 0, 24, 0, 0, 0, 0, 0, 0, 0, 0, 5, 0, 0, 0, 0, 0, 13, 25, 0, 0, 21, 0, 0, 0, 16, 26, 0, 0, 21, 0, 0, 0, 13, 27, 0, 0, 21, 0, 0, 0, 16, 0, 13, 0, 28, 0, 0, 0, 0, 21, 0, 0, 0, 13, 29, 0, 0, 21, 0, 0, 0, 13, 30, 0, 0, 21, 0, 0, 0, 16, 0, 13, 0, 31, 21, 0]) (by decide +kernel)
set_option maxRecDepth 1000000 in
theorem mk_99 : ab_MK cm_ms mr_99 := wz_MK wz_C0 wz_W0k rfl (lw_in_3 (p := 169) rfl) (ks := [0, 0, 32, 0, 0, 0, 0, 0, 0, 0, 0, 5, 0, 0, 0, 0, 0, 13, 33, 0, 0, 21, 0, 0, 0, 13, 34, 0, 0, 21, 0, 0, 0, 13, 35, 0, 0, 21, 0, 0, 0, 13, 36, 0, 0, 21, 0, 0, 0, 16, 0, 37, 0, 0, 0, 0, 21, 0, 0, 0, 16, 0, 13, 0, 38, 0, 0, 0, 0, 21, 0, 0, 0, 16, 0, 13, 0, 39, 21, 0, 0, 0, 16, 0, 13, 0, 40, 21, 0]) (by decide +kernel)
set_option maxRecDepth 1000000 in
theorem mk_100 : ab_MK cm_ms mr_100 := wz_MK wz_C0 wz_W0k rfl (lw_in_3 (p := 199) rfl) (ks := [0, 41, 0, 0, 0, 0, 0, 0, 0, 0, 5, 0, 0, 0, 16, 42, 0, 0, 21, 0]) (by decide +kernel)
set_option maxRecDepth 1000000 in
theorem mk_101 : ab_MK cm_ms mr_101 := wz_MK wz_C0 wz_W0k rfl (lw_in_3 (p := 207) rfl) (ks := [0, 41, 0, 0, 0, 5, 0, 0, 0, 16, 0, 13, 43, 21, 0]) (by decide +kernel)
set_option maxRecDepth 1000000 in
theorem mk_102 : ab_MK cm_ms mr_102 := wz_MK wz_C0 wz_W0k rfl (lw_in_3 (p := 216) rfl) (ks := [0, 41, 0, 0, 0, 5, 0, 0, 0, 0, 0, 0, 0, 13, 20, 0, 0, 16, 26, 0, 0, 0, 16, 26, 0, 0, 0, 0, 0, 0, 0, 0, 0, 21, 0]) (by decide +kernel)
set_option maxRecDepth 1000000 in
theorem mk_103 : ab_MK cm_ms mr_103 := wz_MK wz_C0 wz_W0k rfl (lw_in_3 (p := 220) rfl) (ks := [0, 41, 0, 0, 0, 5, 0, 0, 0, 0, 0, 0, 0, 13, 44, 0, 0, 16, 0, 13, 0, 38, 0, 0, 16, 0, 13, 0, 45, 0, 0, 0, 0, 0, 0, 0, 0, 0, 0, 0, 21, 0]) (by decide +kernel)
set_option maxRecDepth 1000000 in
theorem mk_104 : ab_MK cm_ms mr_104 := wz_MK wz_C0 wz_W0k rfl (lw_in_3 (p := 229) rfl) (ks := [0, 41, 0, 0, 0, 5, 0, 0, 0, 13, 0, 16, 0, 13, 46, 47, 21, 0]) (by decide +kernel)
set_option maxRecDepth 1000000 in
theorem mk_105 : ab_MK cm_ms mr_105 := wz_MK wz_C0 wz_W0k rfl (lw_in_3 (p := 239) rfl) (ks := [0, 0, 32, 0, 0, 0, 5, 0, 0, 0, 13, 0, 48, 21, 0]) (by decide +kernel)
set_option maxRecDepth 1000000 in
theorem mk_106 : ab_MK cm_ms mr_106 := wz_MK wz_C0 wz_W0k rfl (lw_in_4 (p := 7) rfl) (ks := [0, 0, 32, 0, 0, 0, 5, 0, 0, 0, 13, 0, 49, 21, 0]) (by decide +kernel)
set_option maxRecDepth 1000000 in
theorem mk_107 : ab_MK cm_ms mr_107 := wz_MK wz_C0 wz_W0k rfl (lw_in_4 (p := 15) rfl) (ks := [0, 0, 24, 0, 0, 0, 5, 0, 0, 0, 0, 0, 0, 0, 0, 5, 0, 0, 0, 50, 0, 0, 51, 26, 0, 0, 21, 0]) (by decide +kernel)
set_option maxRecDepth 1000000 in
theorem mk_108 : ab_MK cm_ms mr_108 := wz_MK wz_C0 wz_W0k rfl (lw_in_4 (p := 32) rfl) (ks := [0, 0, 32, 0, 0, 0, 5, 0, 0, 0, 0, 0, 0, 0, 0, 5, 0, 0, 0, 50, 0, 0, 51, 0, 13, 0, 39, 21, 0]) (by decide +kernel)
set_option maxRecDepth 1000000 in
theorem mk_109 : ab_MK cm_ms mr_109 := wz_MK wz_C0 wz_W0k rfl (lw_in_4 (p := 36) rfl) (ks := [0, 0, 32, 0, 0, 0, 5, 0, 0, 0, 0, 52, 21, 0]) (by decide +kernel)
set_option maxRecDepth 1000000 in
theorem mk_110 : ab_MK cm_ms mr_110 := wz_MK wz_C0 wz_W0k rfl (lw_in_4 (p := 44) rfl) (ks := [0, 41, 0, 0, 0, 5, 0, 0, 51, 0, 16, 53, 0, 0, 0, 0, 0, 0, 51, 0, 13, 43, 0, 0, 0, 21, 0, 0, 51, 0, 13, 54, 0, 0, 0, 0, 21, 0]) (by decide +kernel)
set_option maxRecDepth 1000000 in
theorem mk_111 : ab_MK cm_ms mr_111 := wz_MK wz_C0 wz_W0k rfl (lw_in_4 (p := 48) rfl) (ks := [0, 41, 0, 0, 0, 5, 0, 0, 0, 0, 0, 0, 0, 0, 0, 13, 44, 0, 0, 16, 0, 13, 0, 38, 0, 0, 0, 52, 0, 0, 0, 0, 0, 0, 0, 0, 0, 0, 0, 0, 0, 0, 0, 0, 0, 21, 0]) (by decide +kernel)
set_option maxRecDepth 1000000 in
theorem mk_112 : ab_MK cm_ms mr_112 := wz_MK wz_C0 wz_W0k rfl (lw_in_4 (p := 19) rfl) (ks := [0, 51, 0, 16, 53, 0, 0, 0, 0, 0, 0, 51, 0, 13, 54, 0, 0, 0]) (by decide +kernel)
set_option maxRecDepth 1000000 in
theorem mk_113 : ab_MK cm_ms mr_113 := wz_MK wz_C0 wz_W0k rfl (lw_in_4 (p := 40) rfl) (ks := [0, 51, 0, 16, 53, 0, 0, 0, 0, 0, 0, 51, 0, 13, 0, 45, 0, 0, 0, 0, 51, 0, 13, 54, 0, 0, 0, 0]) (by decide +kernel)
/-! checks of methods -/
set_option maxRecDepth 1000000 in
theorem mk_114 : ab_MK cm_ms mr_114 := wz_MK wz_C0 wz_W0k rfl (lw_in_4 (p := 52) rfl) (ks := [0, 0, 55, 0, 0, 0, 0, 13, 0, 0, 56, 0, 0, 0, 5, 0, 0, 57, 0, 13, 0, 16, 0, 0, 58, 0, 0, 0, 0, 0, 0, 5, 0, 0, 0, 21, 0]) (by decide +kernel)
set_option maxRecDepth 1000000 in
theorem mk_115 : ab_MK cm_ms mr_115 := wz_MK wz_C0 wz_W0k rfl (lw_in_4 (p := 88) rfl) (ks := [0, 0, 55, 0, 0, 0, 0, 57, 0, 13, 0, 16, 0, 59, 0, 0, 57, 60, 21, 0]) (by decide +kernel)
set_option maxRecDepth 1000000 in
theorem mk_116 : ab_MK cm_ms mr_116 := wz_MK wz_C0 wz_W0k rfl (lw_in_4 (p := 101) rfl) (ks := [0, 0, 55, 0, 0, 0, 0, 57, 0, 13, 0, 16, 0, 59, 0, 0, 57, 61, 21, 0]) (by decide +kernel)
set_option maxRecDepth 1000000 in
theorem mk_117 : ab_MK cm_ms mr_117 := wz_MK wz_C0 wz_W0k rfl (lw_in_4 (p := 105) rfl) (ks := [0, 0, 55, 0, 0, 0, 0, 57, 0, 13, 0, 16, 0, 59, 0, 0, 57, 62, 21, 0]) (by decide +kernel)
set_option maxRecDepth 1000000 in
theorem mk_118 : ab_MK cm_ms mr_118 := wz_MK wz_C0 wz_W0k rfl (lw_in_4 (p := 109) rfl) (ks := [0, 0, 32, 0, 0, 0, 5, 0, 0, 0, 57, 0, 13, 0, 16, 0, 63, 21, 0]) (by decide +kernel)
set_option maxRecDepth 1000000 in
theorem mk_119 : ab_MK cm_ms mr_119 := wz_MK wz_C0 wz_W0k rfl (lw_in_4 (p := 56) rfl) (ks := [0, 0, 0, 0, 0, 0, 0, 0, 0, 0, 64, 0]) (by decide +kernel)
set_option maxRecDepth 1000000 in
theorem mk_120 : ab_MK cm_ms mr_120 := wz_MK wz_C0 wz_W0k rfl (lw_in_4 (p := 122) rfl) (ks := [0, 0, 24, 0, 0, 0, 5, 0, 0, 0, 65, 0, 0, 0, 5, 0, 0, 0, 16, 0, 13, 0, 0, 66, 21, 0]) (by decide +kernel)
set_option maxRecDepth 1000000 in
theorem mk_121 : ab_MK cm_ms mr_121 := wz_MK wz_C0 wz_W0k rfl (lw_in_4 (p := 135) rfl) (ks := [0, 0, 0, 65, 64, 0, 0, 0, 0, 0, 0, 0, 0, 0, 0, 0, 13, 20, 0, 0, 16, 0, 13, 0, 0, 66, 0, 0, 0, 0, 0, 0, 0, 0, 0, 0, 0, 0, 21, 0]) (by decide +kernel)
set_option maxRecDepth 1000000 in
theorem mk_122 : ab_MK cm_ms mr_122 := wz_MK wz_C0 wz_W0k rfl (lw_in_4 (p := 139) rfl) (ks := [0, 0, 0, 65, 64, 0, 0, 0, 0, 0, 0, 0, 0, 0, 13, 20, 0, 0, 16, 0, 13, 0, 28, 0, 0, 16, 0, 13, 0, 0, 66, 0, 0, 0, 0, 0, 0, 0, 0, 0, 0, 0, 21, 0]) (by decide +kernel)
set_option maxRecDepth 1000000 in
theorem mk_123 : ab_MK cm_ms mr_123 := wz_MK wz_C0 wz_W0k rfl (lw_in_4 (p := 143) rfl) (ks := [0, 0, 0, 65, 64, 0, 0, 0, 0, 16, 0, 13, 46, 0, 0, 0, 0, 0, 0, 0, 0, 0, 0, 13, 20, 0, 0, 0, 0, 0, 0, 0, 0, 0, 13, 0, 47, 0, 0, 0, 0, 0, 0, 0, 0, 0, 67, 0, 0, 0, 67, 0, 0, 0, 0, 0, 0, 0, 21, 0]) (by decide +kernel)
set_option maxRecDepth 1000000 in
theorem mk_124 : ab_MK cm_ms mr_124 := wz_MK wz_C0 wz_W0k rfl (lw_in_4 (p := 148) rfl) (ks := [0, 41, 0, 0, 0, 5, 0, 0, 0, 13, 68, 21, 0]) (by decide +kernel)
set_option maxRecDepth 1000000 in
theorem mk_125 : ab_MK cm_ms mr_125 := wz_MK wz_C0 wz_W0k rfl (lw_in_4 (p := 160) rfl) (ks := [0, 41, 0, 0, 0, 5, 0, 0, 0, 13, 69, 0, 13, 0, 13, 68, 70, 0, 21, 0]) (by decide +kernel)
set_option maxRecDepth 1000000 in
theorem mk_126 : ab_MK cm_ms mr_126 := wz_MK wz_C0 wz_W0k rfl (lw_in_4 (p := 166) rfl) (ks := [0, 41, 0, 0, 0, 5, 0, 0, 0, 13, 71, 21, 0]) (by decide +kernel)
set_option maxRecDepth 1000000 in
theorem mk_127 : ab_MK cm_ms mr_127 := wz_MK wz_C0 wz_W0k rfl (lw_in_4 (p := 126) rfl) (ks := [0, 0, 0, 0, 0, 0, 0, 0, 0]) (by decide +kernel)
set_option maxRecDepth 1000000 in
theorem mk_128 : ab_MK cm_ms mr_128 := wz_MK wz_C0 wz_W0k rfl (lw_in_4 (p := 178) rfl) (ks := [0, 0, 72, 0, 0, 0, 72, 0, 0, 0, 5, 0, 0, 0, 13, 0, 0, 73, 21, 0]) (by decide +kernel)
set_option maxRecDepth 1000000 in
theorem mk_129 : ab_MK cm_ms mr_129 := wz_MK wz_C0 wz_W0k rfl (lw_in_4 (p := 194) rfl) (ks := [0, 41, 0, 0, 0, 5, 0, 0, 74, 0, 13, 75, 0, 0, 74, 76, 21, 0]) (by decide +kernel)
set_option maxRecDepth 1000000 in
theorem mk_130 : ab_MK cm_ms mr_130 := wz_MK wz_C0 wz_W0k rfl (lw_in_4 (p := 212) rfl) (ks := [0, 0, 72, 0, 0, 0, 5, 0, 0, 74, 0, 13, 75, 0, 0, 74, 77, 0, 0, 21, 0]) (by decide +kernel)
set_option maxRecDepth 1000000 in
theorem mk_131 : ab_MK cm_ms mr_131 := wz_MK wz_C0 wz_W0k rfl (lw_in_4 (p := 216) rfl) (ks := [0, 78, 0, 0, 0, 0, 0, 79, 80, 21, 0]) (by decide +kernel)
set_option maxRecDepth 1000000 in
theorem mk_132 : ab_MK cm_ms mr_132 := wz_MK wz_C0 wz_W0k rfl (lw_in_4 (p := 234) rfl) (ks := [0, 78, 0, 0, 0, 0, 0, 79, 80, 0, 0, 0, 5, 0, 0, 0, 79, 81, 0, 0, 21, 0]) (by decide +kernel)
set_option maxRecDepth 1000000 in
theorem mk_133 : ab_MK cm_ms mr_133 := wz_MK wz_C0 wz_W0k rfl (lw_in_4 (p := 238) rfl) (ks := [0, 78, 0, 0, 0, 0, 0, 79, 82, 21, 0]) (by decide +kernel)
set_option maxRecDepth 1000000 in
theorem mk_134 : ab_MK cm_ms mr_134 := wz_MK wz_C0 wz_W0k rfl (lw_in_5 (p := 6) rfl) (ks := [0, 78, 0, 0, 0, 0, 0, 79, 83, 21, 0]) (by decide +kernel)
set_option maxRecDepth 1000000 in
theorem mk_135 : ab_MK cm_ms mr_135 := wz_MK wz_C0 wz_W0k rfl (lw_in_5 (p := 14) rfl) (ks := [0, 78, 0, 0, 0, 0, 0, 79, 0, 13, 84, 21, 0]) (by decide +kernel)
set_option maxRecDepth 1000000 in
theorem mk_136 : ab_MK cm_ms mr_136 := wz_MK wz_C0 wz_W0k rfl (lw_in_5 (p := 29) rfl) (ks := [0, 78, 0, 0, 0, 0, 79, 0, 13, 84, 0, 0, 0, 0, 0, 0, 0, 0, 79, 0, 85, 21, 0]) (by decide +kernel)
set_option maxRecDepth 1000000 in
theorem mk_137 : ab_MK cm_ms mr_137 := wz_MK wz_C0 wz_W0k rfl (lw_in_4 (p := 220) rfl) (ks := [0, 41, 0, 0, 0, 5, 0, 0, 0, 0, 79, 0, 13, 86, 0, 0]) (by decide +kernel)
set_option maxRecDepth 1000000 in
theorem mk_138 : ab_MK cm_ms mr_138 := wz_MK wz_C0 wz_W0k rfl (lw_in_5 (p := 34) rfl) (ks := [0, 0, 87, 0, 0, 0, 0, 0, 0, 0, 0, 0, 88, 0, 0, 0, 0, 88, 21, 0]) (by decide +kernel)
set_option maxRecDepth 1000000 in
theorem mk_139 : ab_MK cm_ms mr_139 := wz_MK wz_C0 wz_W0k rfl (lw_in_5 (p := 45) rfl) (ks := [0, 0, 87, 0, 0, 0, 0, 0, 0, 0, 0, 0, 0, 0, 0, 89, 0, 0, 0, 0, 0, 0, 21, 0]) (by decide +kernel)
set_option maxRecDepth 1000000 in
theorem mk_140 : ab_MK cm_ms mr_140 := wz_MK wz_C0 wz_W0k rfl (lw_in_5 (p := 52) rfl) (ks := [0, 0, 87, 0, 0, 0, 0, 0, 0, 0, 0, 0, 0, 89, 0, 0, 0, 0, 0, 0, 0, 0, 0, 0, 0, 21, 0, 0, 0, 0, 0, 21, 0]) (by decide +kernel)
set_option maxRecDepth 1000000 in
theorem mk_141 : ab_MK cm_ms mr_141 := wz_MK wz_C0 wz_W0k rfl (lw_in_5 (p := 38) rfl) (ks := [0, 0, 0, 0, 0, 0, 0, 0, 0, 64, 0]) (by decide +kernel)
set_option maxRecDepth 1000000 in
theorem mk_142 : ab_MK cm_ms mr_142 := wz_MK wz_C0 wz_W0k rfl (lw_in_5 (p := 41) rfl) (ks := [0, 0, 0, 0, 0, 0, 0, 0, 0, 0, 0, 0, 0, 0, 0]) (by decide +kernel)
set_option maxRecDepth 1000000 in
theorem mk_143 : ab_MK cm_ms mr_143 := wz_MK wz_C0 wz_W0k rfl (lw_in_5 (p := 48) rfl) (ks := [0, 0, 0, 0, 0, 0, 0, 0, 0, 0, 0, 0, 0, 0, 0, 0, 0, 0, 0, 88, 0, 0, 0, 0, 0, 0, 0, 88, 0, 0, 0, 0, 88, 0, 0, 0, 0, 0, 0, 0, 88, 0, 0, 0, 0, 0]) (by decide +kernel)
set_option maxRecDepth 1000000 in
theorem mk_144 : ab_MK cm_ms mr_144 := wz_MK wz_C0 wz_W0k rfl (lw_in_5 (p := 56) rfl) (ks := [0, 0, 32, 0, 0, 0, 5, 0, 0, 0, 0, 50, 0, 90, 0, 13, 0, 51, 0, 91, 0, 0, 21, 0, 0, 0, 0, 90, 92, 0, 0, 90, 93, 0]) (by decide +kernel)
set_option maxRecDepth 1000000 in
theorem mk_145 : ab_MK cm_ms mr_145 := wz_MK wz_C0 wz_W0k rfl (lw_in_5 (p := 74) rfl) (ks := [0, 0, 32, 0, 0, 0, 5, 0, 0, 0, 0, 50, 0, 90, 0, 13, 0, 51, 0, 94, 0, 0, 21, 0, 0, 0, 0, 90, 92, 0, 0, 90, 93, 0]) (by decide +kernel)
set_option maxRecDepth 1000000 in
theorem mk_146 : ab_MK cm_ms mr_146 := wz_MK wz_C0 wz_W0k rfl (lw_in_5 (p := 84) rfl) (ks := [0, 0, 24, 0, 0, 0, 5, 0, 0, 0, 0, 95, 0, 0, 0, 5, 0, 0, 51, 0, 16, 53, 0, 90, 0, 96, 0, 0, 0, 0, 0, 0, 90, 0, 13, 0, 51, 97, 0, 0, 0, 0, 51, 26, 0, 0, 21, 0]) (by decide +kernel)
set_option maxRecDepth 1000000 in
theorem mk_147 : ab_MK cm_ms mr_147 := wz_MK wz_C0 wz_W0k rfl (lw_in_5 (p := 99) rfl) (ks := [0, 0, 32, 0, 0, 0, 5, 0, 0, 0, 0, 95, 0, 0, 0, 5, 0, 0, 51, 0, 16, 53, 0, 90, 0, 96, 0, 0, 0, 0, 0, 0, 0, 0, 90, 0, 13, 0, 51, 97, 0, 51, 0, 13, 0, 45, 0, 0, 0, 0, 0, 0, 21, 0]) (by decide +kernel)
set_option maxRecDepth 1000000 in
theorem mk_148 : ab_MK cm_ms mr_148 := wz_MK wz_C0 wz_W0k rfl (lw_in_5 (p := 88) rfl) (ks := [0, 0, 0, 98, 0, 0, 0, 0, 0, 0, 0, 0, 0, 0]) (by decide +kernel)
set_option maxRecDepth 1000000 in
theorem mk_149 : ab_MK cm_ms mr_149 := wz_MK wz_C0 wz_W0k rfl (lw_in_5 (p := 103) rfl) (ks := [0, 0, 32, 0, 0, 0, 5, 0, 0, 16, 0, 13, 0, 38, 0, 0, 0, 5, 0, 0, 18, 0, 16, 99, 0, 0, 16, 0, 13, 0, 100, 0, 0, 0, 0, 21, 0]) (by decide +kernel)
set_option maxRecDepth 1000000 in
theorem mk_150 : ab_MK cm_ms mr_150 := wz_MK wz_C0 wz_W0k rfl (lw_in_5 (p := 114) rfl) (ks := [0, 41, 0, 0, 0, 5, 0, 0, 16, 101, 0, 0, 0, 0, 5, 0, 0, 18, 0, 16, 99, 0, 16, 0, 13, 54, 0, 0, 16, 0, 13, 43, 21, 0]) (by decide +kernel)
set_option maxRecDepth 1000000 in
theorem mk_151 : ab_MK cm_ms mr_151 := wz_MK wz_C0 wz_W0k rfl (lw_in_5 (p := 118) rfl) (ks := [0, 0, 24, 0, 0, 0, 5, 0, 0, 16, 26, 0, 0, 0, 0, 0, 5, 0, 0, 18, 0, 16, 99, 0, 16, 26, 0, 0, 0, 0, 16, 0, 13, 0, 0, 102, 0, 0, 21, 0]) (by decide +kernel)
set_option maxRecDepth 1000000 in
theorem mk_152 : ab_MK cm_ms mr_152 := wz_MK wz_C0 wz_W0k rfl (lw_in_5 (p := 123) rfl) (ks := [0, 18, 0, 16, 103, 0, 0, 0, 5, 0, 0, 0, 0, 0, 21, 0, 0, 0]) (by decide +kernel)
set_option maxRecDepth 1000000 in
theorem mk_153 : ab_MK cm_ms mr_153 := wz_MK wz_C0 wz_W0k rfl (lw_in_5 (p := 131) rfl) (ks := [0, 41, 0, 0, 0, 5, 0, 0, 18, 0, 16, 104, 0, 0, 0, 0, 0, 0, 5, 0, 0, 0, 21, 0]) (by decide +kernel)
set_option maxRecDepth 1000000 in
theorem mk_154 : ab_MK cm_ms mr_154 := wz_MK wz_C0 wz_W0k rfl (lw_in_5 (p := 139) rfl) (ks := [0, 18, 0, 0, 16, 105, 0, 0, 0, 5, 0, 0, 0, 0, 0, 21, 0, 0, 0]) (by decide +kernel)
set_option maxRecDepth 1000000 in
theorem mk_155 : ab_MK cm_ms mr_155 := wz_MK wz_C0 wz_W0k rfl (lw_in_5 (p := 147) rfl) (ks := [0, 0, 0, 13, 106, 0, 0, 13, 107, 0, 0, 13, 108, 0, 0, 13, 20, 0, 0, 13, 44, 0, 0, 13, 29, 0, 13, 20, 109, 0, 0, 13, 36, 0, 13, 44, 109, 0, 0, 13, 69, 0, 0, 13, 110, 0, 0, 13, 111, 67, 0, 0, 16, 101, 0, 0, 18, 112, 0, 0, 18, 113, 0, 0, 1, 0, 0, 0]) (by decide +kernel)
set_option maxRecDepth 1000000 in
theorem mk_156 : ab_MK cm_ms mr_156 := wz_MK wz_C0 wz_W0k rfl (lw_in_5 (p := 152) rfl) (ks := [0, 22, 0]) (by decide +kernel)
set_option maxRecDepth 1000000 in
theorem mk_157 : ab_MK cm_ms mr_157 := wz_MK wz_C0 wz_W0k rfl (lw_in_2 (p := 148) rfl) (ks := [0, 0, 114, 0, 0]) (by decide +kernel)
set_option maxRecDepth 1000000 in
theorem mk_158 : ab_MK cm_ms mr_158 := wz_MK wz_C0 wz_W0k rfl (lw_in_4 (p := 60) rfl) (ks := [0, 41, 0, 0, 0, 5, 0, 0, 0, 0, 0, 0, 5, 0, 0, 0, 0, 41, 0, 0, 0, 0, 0]) (by decide +kernel)
