noncomputable abbrev lawP : ev_P := (0, 0, false, "BarberMinutesLaw", 7, 0)
noncomputable def lu_h : List (Nat × ev_Row) := [(23, 4, 4, 0, 0, []), (25, 9, 0, 0, 0, []), (26, 64, 0, 0, 0, []), (27, 1, 6, 0, 0, []), (29, 17, 0, 0, 0, []), (30, 39, 1698, 0, 0, []), (33, 9, 0, 0, 0, []), (34, 4, 4, 0, 0, []), (36, 65, 0, 0, 0, []), (37, 1, 63, 0, 0, []), (39, 19, 0, 0, 0, []), (40, 48, 1682, 0, 54, [236, 236, 309, 334, 347, 360, 397, 434, 459, 472, 485, 498, 511, 536, 561, 598, 635, 660, 673, 686, 723, 748, 773, 798, 823, 860, 885, 910, 935, 948, 961, 974, 1011, 1024, 1049, 1062, 1087, 1100, 1113, 1126, 1139, 1248, 1273, 1298, 1351, 1404, 1453, 1502, 1527, 1540, 1565, 1578, 1591, 1616, 1644, 1669])]
set_option maxRecDepth 1000000 in
theorem lu_h_ok : ∀ q ∈ lu_h, cm_RowOK cm_ms lawP code q := fd_chkAll_ok (ps := [[], [], [], [], [], [], [], [], [], [], [], []]) (by decide +kernel)
noncomputable def lu_z : List (Nat × ev_Row) := [(1722, 34, 4, 6, 0, []), (1725, 47, (-1702), 0, 0, [])]
set_option maxRecDepth 1000000 in
theorem lu_z_ok : ∀ q ∈ lu_z, cm_RowOK cm_ms lawP code q := fd_chkAll_ok (ps := [[], []]) (by decide +kernel)
noncomputable def lu_y : List (Nat × ev_Row) := [(1728, 0, 1, 0, 0, []), (1729, 210, 0, 0, 0, [])]
set_option maxRecDepth 1000000 in
theorem lu_y_ok : ∀ q ∈ lu_y, cm_RowOK cm_ms lawP code q := fd_chkAll_ok (ps := [[], []]) (by decide +kernel)
noncomputable def lu_c0f : List (Nat × ev_Row) := [(276, 9, 1, 0, 0, []), (277, 9, 0, 0, 0, []), (278, 4, 4, 0, 0, []), (280, 0, 1, 0, 0, []), (281, 16, 0, 0, 0, []), (282, 65, 0, 0, 0, []), (283, 9, 0, 0, 0, []), (284, 4, 4, 0, 0, []), (286, 0, 2, 0, 0, []), (287, 16, 0, 0, 0, []), (288, 65, 0, 0, 0, []), (289, 9, 0, 0, 0, []), (290, 4, 4, 0, 0, []), (292, 0, 3, 0, 0, []), (293, 16, 0, 0, 0, []), (294, 65, 0, 0, 0, []), (295, 9, 0, 0, 0, []), (296, 4, 4, 0, 0, []), (298, 0, 4, 0, 0, []), (299, 16, 0, 0, 0, []), (300, 65, 0, 0, 0, []), (301, 9, 0, 0, 0, []), (302, 4, 4, 0, 0, []), (304, 0, 5, 0, 0, []), (305, 16, 0, 0, 0, []), (306, 65, 0, 0, 0, []), (307, 200, 93, 19, 5, []), (310, 32, 0, 0, 0, []), (311, 9, 2, 0, 0, []), (312, 9, 0, 0, 0, []), (313, 4, 4, 0, 0, []), (315, 0, 1, 0, 0, []), (316, 16, 0, 0, 0, []), (317, 65, 0, 0, 0, []), (318, 9, 0, 0, 0, []), (319, 4, 4, 0, 0, []), (321, 0, 2, 0, 0, []), (322, 16, 0, 0, 0, []), (323, 65, 0, 0, 0, []), (324, 9, 0, 0, 0, []), (325, 4, 4, 0, 0, []), (327, 0, 3, 0, 0, []), (328, 16, 0, 0, 0, []), (329, 65, 0, 0, 0, []), (330, 9, 0, 0, 0, []), (331, 4, 4, 0, 0, []), (333, 0, 4, 0, 0, []), (334, 16, 0, 0, 0, []), (335, 65, 0, 0, 0, []), (336, 9, 0, 0, 0, []), (337, 4, 4, 0, 0, []), (339, 0, 5, 0, 0, []), (340, 16, 0, 0, 0, []), (341, 65, 0, 0, 0, []), (342, 200, 172, 23, 5, []), (345, 32, 0, 0, 0, []), (346, 47, 1376, 0, 0, [])]
set_option maxRecDepth 1000000 in
theorem lu_c0f_ok : ∀ q ∈ lu_c0f, cm_RowOK cm_ms lawP code q := fd_chkAll_ok (ps := [[], [], [], [], [], [], [], [], [], [], [], [], [], [], [], [], [], [], [], [], [], [], [], [], [], [], [488, 489, 490, 116], [], [], [], [], [], [], [], [], [], [], [], [], [], [], [], [], [], [], [], [], [], [], [], [], [], [], [], [1409, 1410, 1411, 125], [], []]) (by decide +kernel)
noncomputable def lu_c1a : List (Nat × ev_Row) := [(349, 9, 1, 0, 0, []), (350, 9, 0, 0, 0, []), (351, 4, 4, 0, 0, []), (353, 0, 1, 0, 0, []), (354, 16, 0, 0, 0, []), (355, 65, 0, 0, 0, []), (356, 200, 95, 24, 1, []), (359, 32, 0, 0, 0, [])]
set_option maxRecDepth 1000000 in
theorem lu_c1a_ok : ∀ q ∈ lu_c1a, cm_RowOK cm_ms lawP code q := fd_chkAll_ok (ps := [[], [], [], [], [], [], [496, 497, 498, 116], []]) (by decide +kernel)
noncomputable def lu_c1b : List (Nat × ev_Row) := [(360, 9, 2, 0, 0, []), (361, 9, 0, 0, 0, []), (362, 4, 4, 0, 0, []), (364, 0, 1, 0, 0, []), (365, 16, 0, 0, 0, []), (366, 65, 0, 0, 0, []), (367, 200, 191, 27, 1, []), (370, 32, 0, 0, 0, []), (371, 47, 1351, 0, 0, [])]
set_option maxRecDepth 1000000 in
theorem lu_c1b_ok : ∀ q ∈ lu_c1b, cm_RowOK cm_ms lawP code q := fd_chkAll_ok (ps := [[], [], [], [], [], [], [1413, 1414, 1415, 125], [], []]) (by decide +kernel)
noncomputable def lu_c2a : List (Nat × ev_Row) := [(374, 9, 1, 0, 0, []), (375, 200, 96, 28, 0, []), (378, 32, 0, 0, 0, [])]
set_option maxRecDepth 1000000 in
theorem lu_c2a_ok : ∀ q ∈ lu_c2a, cm_RowOK cm_ms lawP code q := fd_chkAll_ok (ps := [[], [733, 734, 735, 116], []]) (by decide +kernel)
noncomputable def lu_c2b : List (Nat × ev_Row) := [(379, 9, 2, 0, 0, []), (380, 200, 203, 32, 0, []), (383, 32, 0, 0, 0, []), (384, 47, 1338, 0, 0, [])]
set_option maxRecDepth 1000000 in
theorem lu_c2b_ok : ∀ q ∈ lu_c2b, cm_RowOK cm_ms lawP code q := fd_chkAll_ok (ps := [[], [1570, 1571, 1572, 125], [], []]) (by decide +kernel)
noncomputable def lu_c3a : List (Nat × ev_Row) := [(387, 9, 1, 0, 0, []), (388, 200, 97, 33, 0, []), (391, 32, 0, 0, 0, [])]
set_option maxRecDepth 1000000 in
theorem lu_c3a_ok : ∀ q ∈ lu_c3a, cm_RowOK cm_ms lawP code q := fd_chkAll_ok (ps := [[], [737, 738, 739, 116], []]) (by decide +kernel)
noncomputable def lu_c3b : List (Nat × ev_Row) := [(392, 9, 2, 0, 0, []), (393, 200, 204, 36, 0, []), (396, 32, 0, 0, 0, []), (397, 47, 1325, 0, 0, [])]
set_option maxRecDepth 1000000 in
theorem lu_c3b_ok : ∀ q ∈ lu_c3b, cm_RowOK cm_ms lawP code q := fd_chkAll_ok (ps := [[], [1574, 1575, 1576, 125], [], []]) (by decide +kernel)
noncomputable def lu_c4a : List (Nat × ev_Row) := [(400, 9, 1, 0, 0, []), (401, 9, 0, 0, 0, []), (402, 4, 4, 0, 0, []), (404, 0, 1, 0, 0, []), (405, 16, 0, 0, 0, []), (406, 65, 0, 0, 0, []), (407, 9, 0, 0, 0, []), (408, 4, 4, 0, 0, []), (410, 0, 2, 0, 0, []), (411, 16, 0, 0, 0, []), (412, 65, 0, 0, 0, []), (413, 200, 98, 37, 2, []), (416, 32, 0, 0, 0, [])]
set_option maxRecDepth 1000000 in
theorem lu_c4a_ok : ∀ q ∈ lu_c4a, cm_RowOK cm_ms lawP code q := fd_chkAll_ok (ps := [[], [], [], [], [], [], [], [], [], [], [], [741, 742, 743, 116], []]) (by decide +kernel)
noncomputable def lu_c4b : List (Nat × ev_Row) := [(417, 9, 2, 0, 0, []), (418, 9, 0, 0, 0, []), (419, 4, 4, 0, 0, []), (421, 0, 1, 0, 0, []), (422, 16, 0, 0, 0, []), (423, 65, 0, 0, 0, []), (424, 9, 0, 0, 0, []), (425, 4, 4, 0, 0, []), (427, 0, 2, 0, 0, []), (428, 16, 0, 0, 0, []), (429, 65, 0, 0, 0, []), (430, 200, 221, 41, 2, []), (433, 32, 0, 0, 0, []), (434, 47, 1288, 0, 0, [])]
set_option maxRecDepth 1000000 in
theorem lu_c4b_ok : ∀ q ∈ lu_c4b, cm_RowOK cm_ms lawP code q := fd_chkAll_ok (ps := [[], [], [], [], [], [], [], [], [], [], [], [1578, 1579, 1580, 125], [], []]) (by decide +kernel)
noncomputable def lu_c5a : List (Nat × ev_Row) := [(437, 9, 1, 0, 0, []), (438, 9, 0, 0, 0, []), (439, 4, 4, 0, 0, []), (441, 0, 1, 0, 0, []), (442, 16, 0, 0, 0, []), (443, 65, 0, 0, 0, []), (444, 9, 0, 0, 0, []), (445, 4, 4, 0, 0, []), (447, 0, 2, 0, 0, []), (448, 16, 0, 0, 0, []), (449, 65, 0, 0, 0, []), (450, 200, 99, 42, 2, []), (453, 32, 0, 0, 0, [])]
set_option maxRecDepth 1000000 in
theorem lu_c5a_ok : ∀ q ∈ lu_c5a, cm_RowOK cm_ms lawP code q := fd_chkAll_ok (ps := [[], [], [], [], [], [], [], [], [], [], [], [761, 762, 763, 116], []]) (by decide +kernel)
noncomputable def lu_c5b : List (Nat × ev_Row) := [(454, 9, 2, 0, 0, []), (455, 9, 0, 0, 0, []), (456, 4, 4, 0, 0, []), (458, 0, 1, 0, 0, []), (459, 16, 0, 0, 0, []), (460, 65, 0, 0, 0, []), (461, 9, 0, 0, 0, []), (462, 4, 4, 0, 0, []), (464, 0, 2, 0, 0, []), (465, 16, 0, 0, 0, []), (466, 65, 0, 0, 0, []), (467, 200, 223, 45, 2, []), (470, 32, 0, 0, 0, []), (471, 47, 1251, 0, 0, [])]
set_option maxRecDepth 1000000 in
theorem lu_c5b_ok : ∀ q ∈ lu_c5b, cm_RowOK cm_ms lawP code q := fd_chkAll_ok (ps := [[], [], [], [], [], [], [], [], [], [], [], [1598, 1599, 1600, 125], [], []]) (by decide +kernel)
noncomputable def lu_c6a : List (Nat × ev_Row) := [(474, 9, 1, 0, 0, []), (475, 9, 0, 0, 0, []), (476, 4, 4, 0, 0, []), (478, 0, 1, 0, 0, []), (479, 16, 0, 0, 0, []), (480, 65, 0, 0, 0, []), (481, 200, 100, 46, 1, []), (484, 32, 0, 0, 0, [])]
set_option maxRecDepth 1000000 in
theorem lu_c6a_ok : ∀ q ∈ lu_c6a, cm_RowOK cm_ms lawP code q := fd_chkAll_ok (ps := [[], [], [], [], [], [], [791, 792, 793, 116], []]) (by decide +kernel)
noncomputable def lu_c6b : List (Nat × ev_Row) := [(485, 9, 2, 0, 0, []), (486, 9, 0, 0, 0, []), (487, 4, 4, 0, 0, []), (489, 0, 1, 0, 0, []), (490, 16, 0, 0, 0, []), (491, 65, 0, 0, 0, []), (492, 200, 224, 49, 1, []), (495, 32, 0, 0, 0, []), (496, 47, 1226, 0, 0, [])]
set_option maxRecDepth 1000000 in
theorem lu_c6b_ok : ∀ q ∈ lu_c6b, cm_RowOK cm_ms lawP code q := fd_chkAll_ok (ps := [[], [], [], [], [], [], [1622, 1623, 1624, 125], [], []]) (by decide +kernel)
noncomputable def lu_c7a : List (Nat × ev_Row) := [(499, 9, 1, 0, 0, []), (500, 200, 101, 50, 0, []), (503, 32, 0, 0, 0, [])]
set_option maxRecDepth 1000000 in
theorem lu_c7a_ok : ∀ q ∈ lu_c7a, cm_RowOK cm_ms lawP code q := fd_chkAll_ok (ps := [[], [799, 800, 801, 116], []]) (by decide +kernel)
noncomputable def lu_c7b : List (Nat × ev_Row) := [(504, 9, 2, 0, 0, []), (505, 200, 225, 53, 0, []), (508, 32, 0, 0, 0, []), (509, 47, 1213, 0, 0, [])]
set_option maxRecDepth 1000000 in
theorem lu_c7b_ok : ∀ q ∈ lu_c7b, cm_RowOK cm_ms lawP code q := fd_chkAll_ok (ps := [[], [1626, 1627, 1628, 125], [], []]) (by decide +kernel)
noncomputable def lu_c8a : List (Nat × ev_Row) := [(512, 9, 1, 0, 0, []), (513, 200, 102, 54, 0, []), (516, 32, 0, 0, 0, [])]
set_option maxRecDepth 1000000 in
theorem lu_c8a_ok : ∀ q ∈ lu_c8a, cm_RowOK cm_ms lawP code q := fd_chkAll_ok (ps := [[], [808, 809, 810, 116], []]) (by decide +kernel)
noncomputable def lu_c8b : List (Nat × ev_Row) := [(517, 9, 2, 0, 0, []), (518, 200, 226, 57, 0, []), (521, 32, 0, 0, 0, []), (522, 47, 1200, 0, 0, [])]
set_option maxRecDepth 1000000 in
theorem lu_c8b_ok : ∀ q ∈ lu_c8b, cm_RowOK cm_ms lawP code q := fd_chkAll_ok (ps := [[], [1634, 1635, 1636, 125], [], []]) (by decide +kernel)
noncomputable def lu_c9a : List (Nat × ev_Row) := [(525, 9, 1, 0, 0, []), (526, 200, 103, 58, 0, []), (529, 32, 0, 0, 0, [])]
set_option maxRecDepth 1000000 in
theorem lu_c9a_ok : ∀ q ∈ lu_c9a, cm_RowOK cm_ms lawP code q := fd_chkAll_ok (ps := [[], [812, 813, 814, 116], []]) (by decide +kernel)
noncomputable def lu_c9b : List (Nat × ev_Row) := [(530, 9, 2, 0, 0, []), (531, 200, 227, 61, 0, []), (534, 32, 0, 0, 0, []), (535, 47, 1187, 0, 0, [])]
set_option maxRecDepth 1000000 in
theorem lu_c9b_ok : ∀ q ∈ lu_c9b, cm_RowOK cm_ms lawP code q := fd_chkAll_ok (ps := [[], [1638, 1639, 1640, 125], [], []]) (by decide +kernel)
noncomputable def lu_c10a : List (Nat × ev_Row) := [(538, 9, 1, 0, 0, []), (539, 200, 104, 62, 0, []), (542, 32, 0, 0, 0, [])]
set_option maxRecDepth 1000000 in
theorem lu_c10a_ok : ∀ q ∈ lu_c10a, cm_RowOK cm_ms lawP code q := fd_chkAll_ok (ps := [[], [821, 822, 823, 116], []]) (by decide +kernel)
noncomputable def lu_c10b : List (Nat × ev_Row) := [(543, 9, 2, 0, 0, []), (544, 200, 229, 65, 0, []), (547, 32, 0, 0, 0, []), (548, 47, 1174, 0, 0, [])]
set_option maxRecDepth 1000000 in
theorem lu_c10b_ok : ∀ q ∈ lu_c10b, cm_RowOK cm_ms lawP code q := fd_chkAll_ok (ps := [[], [1646, 1647, 1648, 125], [], []]) (by decide +kernel)
noncomputable def lu_c11a : List (Nat × ev_Row) := [(551, 9, 1, 0, 0, []), (552, 9, 0, 0, 0, []), (553, 4, 4, 0, 0, []), (555, 0, 1, 0, 0, []), (556, 16, 0, 0, 0, []), (557, 65, 0, 0, 0, []), (558, 200, 105, 66, 1, []), (561, 32, 0, 0, 0, [])]
set_option maxRecDepth 1000000 in
theorem lu_c11a_ok : ∀ q ∈ lu_c11a, cm_RowOK cm_ms lawP code q := fd_chkAll_ok (ps := [[], [], [], [], [], [], [831, 832, 833, 116], []]) (by decide +kernel)
noncomputable def lu_c11b : List (Nat × ev_Row) := [(562, 9, 2, 0, 0, []), (563, 9, 0, 0, 0, []), (564, 4, 4, 0, 0, []), (566, 0, 1, 0, 0, []), (567, 16, 0, 0, 0, []), (568, 65, 0, 0, 0, []), (569, 200, 230, 69, 1, []), (572, 32, 0, 0, 0, []), (573, 47, 1149, 0, 0, [])]
set_option maxRecDepth 1000000 in
theorem lu_c11b_ok : ∀ q ∈ lu_c11b, cm_RowOK cm_ms lawP code q := fd_chkAll_ok (ps := [[], [], [], [], [], [], [1658, 1659, 1660, 125], [], []]) (by decide +kernel)
noncomputable def lu_c12a : List (Nat × ev_Row) := [(576, 9, 1, 0, 0, []), (577, 9, 0, 0, 0, []), (578, 4, 4, 0, 0, []), (580, 0, 1, 0, 0, []), (581, 16, 0, 0, 0, []), (582, 65, 0, 0, 0, []), (583, 200, 106, 70, 1, []), (586, 32, 0, 0, 0, [])]
set_option maxRecDepth 1000000 in
theorem lu_c12a_ok : ∀ q ∈ lu_c12a, cm_RowOK cm_ms lawP code q := fd_chkAll_ok (ps := [[], [], [], [], [], [], [839, 840, 841, 116], []]) (by decide +kernel)
noncomputable def lu_c12b : List (Nat × ev_Row) := [(587, 9, 2, 0, 0, []), (588, 9, 0, 0, 0, []), (589, 4, 4, 0, 0, []), (591, 0, 1, 0, 0, []), (592, 16, 0, 0, 0, []), (593, 65, 0, 0, 0, []), (594, 200, 232, 73, 1, []), (597, 32, 0, 0, 0, []), (598, 47, 1124, 0, 0, [])]
set_option maxRecDepth 1000000 in
theorem lu_c12b_ok : ∀ q ∈ lu_c12b, cm_RowOK cm_ms lawP code q := fd_chkAll_ok (ps := [[], [], [], [], [], [], [1662, 1663, 1664, 125], [], []]) (by decide +kernel)
noncomputable def lu_c13a : List (Nat × ev_Row) := [(601, 9, 1, 0, 0, []), (602, 9, 0, 0, 0, []), (603, 4, 4, 0, 0, []), (605, 0, 1, 0, 0, []), (606, 16, 0, 0, 0, []), (607, 65, 0, 0, 0, []), (608, 9, 0, 0, 0, []), (609, 4, 4, 0, 0, []), (611, 0, 2, 0, 0, []), (612, 16, 0, 0, 0, []), (613, 65, 0, 0, 0, []), (614, 200, 107, 74, 2, []), (617, 32, 0, 0, 0, [])]
set_option maxRecDepth 1000000 in
theorem lu_c13a_ok : ∀ q ∈ lu_c13a, cm_RowOK cm_ms lawP code q := fd_chkAll_ok (ps := [[], [], [], [], [], [], [], [], [], [], [], [847, 848, 849, 116], []]) (by decide +kernel)
noncomputable def lu_c13b : List (Nat × ev_Row) := [(618, 9, 2, 0, 0, []), (619, 9, 0, 0, 0, []), (620, 4, 4, 0, 0, []), (622, 0, 1, 0, 0, []), (623, 16, 0, 0, 0, []), (624, 65, 0, 0, 0, []), (625, 9, 0, 0, 0, []), (626, 4, 4, 0, 0, []), (628, 0, 2, 0, 0, []), (629, 16, 0, 0, 0, []), (630, 65, 0, 0, 0, []), (631, 200, 234, 77, 2, []), (634, 32, 0, 0, 0, []), (635, 47, 1087, 0, 0, [])]
set_option maxRecDepth 1000000 in
theorem lu_c13b_ok : ∀ q ∈ lu_c13b, cm_RowOK cm_ms lawP code q := fd_chkAll_ok (ps := [[], [], [], [], [], [], [], [], [], [], [], [1670, 1671, 1672, 125], [], []]) (by decide +kernel)
noncomputable def lu_c14a : List (Nat × ev_Row) := [(638, 9, 1, 0, 0, []), (639, 9, 0, 0, 0, []), (640, 4, 4, 0, 0, []), (642, 0, 1, 0, 0, []), (643, 16, 0, 0, 0, []), (644, 65, 0, 0, 0, []), (645, 9, 0, 0, 0, []), (646, 4, 4, 0, 0, []), (648, 0, 2, 0, 0, []), (649, 16, 0, 0, 0, []), (650, 65, 0, 0, 0, []), (651, 200, 108, 78, 2, []), (654, 32, 0, 0, 0, [])]
set_option maxRecDepth 1000000 in
theorem lu_c14a_ok : ∀ q ∈ lu_c14a, cm_RowOK cm_ms lawP code q := fd_chkAll_ok (ps := [[], [], [], [], [], [], [], [], [], [], [], [864, 865, 866, 116], []]) (by decide +kernel)
noncomputable def lu_c14b : List (Nat × ev_Row) := [(655, 9, 2, 0, 0, []), (656, 9, 0, 0, 0, []), (657, 4, 4, 0, 0, []), (659, 0, 1, 0, 0, []), (660, 16, 0, 0, 0, []), (661, 65, 0, 0, 0, []), (662, 9, 0, 0, 0, []), (663, 4, 4, 0, 0, []), (665, 0, 2, 0, 0, []), (666, 16, 0, 0, 0, []), (667, 65, 0, 0, 0, []), (668, 200, 235, 81, 2, []), (671, 32, 0, 0, 0, []), (672, 47, 1050, 0, 0, [])]
set_option maxRecDepth 1000000 in
theorem lu_c14b_ok : ∀ q ∈ lu_c14b, cm_RowOK cm_ms lawP code q := fd_chkAll_ok (ps := [[], [], [], [], [], [], [], [], [], [], [], [1686, 1687, 1688, 125], [], []]) (by decide +kernel)
noncomputable def lu_c15a : List (Nat × ev_Row) := [(675, 9, 1, 0, 0, []), (676, 9, 0, 0, 0, []), (677, 4, 4, 0, 0, []), (679, 0, 1, 0, 0, []), (680, 16, 0, 0, 0, []), (681, 65, 0, 0, 0, []), (682, 200, 109, 82, 1, []), (685, 32, 0, 0, 0, [])]
set_option maxRecDepth 1000000 in
theorem lu_c15a_ok : ∀ q ∈ lu_c15a, cm_RowOK cm_ms lawP code q := fd_chkAll_ok (ps := [[], [], [], [], [], [], [868, 869, 870, 116], []]) (by decide +kernel)
noncomputable def lu_c15b : List (Nat × ev_Row) := [(686, 9, 2, 0, 0, []), (687, 9, 0, 0, 0, []), (688, 4, 4, 0, 0, []), (690, 0, 1, 0, 0, []), (691, 16, 0, 0, 0, []), (692, 65, 0, 0, 0, []), (693, 200, 237, 85, 1, []), (696, 32, 0, 0, 0, []), (697, 47, 1025, 0, 0, [])]
set_option maxRecDepth 1000000 in
theorem lu_c15b_ok : ∀ q ∈ lu_c15b, cm_RowOK cm_ms lawP code q := fd_chkAll_ok (ps := [[], [], [], [], [], [], [1690, 1691, 1692, 125], [], []]) (by decide +kernel)
noncomputable def lu_c16a : List (Nat × ev_Row) := [(700, 9, 1, 0, 0, []), (701, 200, 110, 86, 0, []), (704, 32, 0, 0, 0, [])]
set_option maxRecDepth 1000000 in
theorem lu_c16a_ok : ∀ q ∈ lu_c16a, cm_RowOK cm_ms lawP code q := fd_chkAll_ok (ps := [[], [876, 877, 878, 116], []]) (by decide +kernel)
noncomputable def lu_c16b : List (Nat × ev_Row) := [(705, 9, 2, 0, 0, []), (706, 200, 238, 89, 0, []), (709, 32, 0, 0, 0, []), (710, 47, 1012, 0, 0, [])]
set_option maxRecDepth 1000000 in
theorem lu_c16b_ok : ∀ q ∈ lu_c16b, cm_RowOK cm_ms lawP code q := fd_chkAll_ok (ps := [[], [1698, 1699, 1700, 125], [], []]) (by decide +kernel)
noncomputable def lu_c17a : List (Nat × ev_Row) := [(713, 9, 1, 0, 0, []), (714, 200, 111, 90, 0, []), (717, 32, 0, 0, 0, [])]
set_option maxRecDepth 1000000 in
theorem lu_c17a_ok : ∀ q ∈ lu_c17a, cm_RowOK cm_ms lawP code q := fd_chkAll_ok (ps := [[], [880, 881, 882, 116], []]) (by decide +kernel)
noncomputable def lu_c17b : List (Nat × ev_Row) := [(718, 9, 2, 0, 0, []), (719, 200, 239, 93, 0, []), (722, 32, 0, 0, 0, []), (723, 47, 999, 0, 0, [])]
set_option maxRecDepth 1000000 in
theorem lu_c17b_ok : ∀ q ∈ lu_c17b, cm_RowOK cm_ms lawP code q := fd_chkAll_ok (ps := [[], [1702, 1703, 1704, 125], [], []]) (by decide +kernel)
noncomputable def lu_c18a : List (Nat × ev_Row) := [(726, 9, 1, 0, 0, []), (727, 9, 0, 0, 0, []), (728, 4, 4, 0, 0, []), (730, 0, 1, 0, 0, []), (731, 16, 0, 0, 0, []), (732, 65, 0, 0, 0, []), (733, 9, 0, 0, 0, []), (734, 4, 4, 0, 0, []), (736, 0, 2, 0, 0, []), (737, 16, 0, 0, 0, []), (738, 65, 0, 0, 0, []), (739, 200, 114, 94, 2, []), (742, 32, 0, 0, 0, [])]
set_option maxRecDepth 1000000 in
theorem lu_c18a_ok : ∀ q ∈ lu_c18a, cm_RowOK cm_ms lawP code q := fd_chkAll_ok (ps := [[], [], [], [], [], [], [], [], [], [], [], [884, 885, 886, 116], []]) (by decide +kernel)
noncomputable def lu_c18b : List (Nat × ev_Row) := [(743, 9, 2, 0, 0, []), (744, 9, 0, 0, 0, []), (745, 4, 4, 0, 0, []), (747, 0, 1, 0, 0, []), (748, 16, 0, 0, 0, []), (749, 65, 0, 0, 0, []), (750, 9, 0, 0, 0, []), (751, 4, 4, 0, 0, []), (753, 0, 2, 0, 0, []), (754, 16, 0, 0, 0, []), (755, 65, 0, 0, 0, []), (756, 200, 242, 97, 2, []), (759, 32, 0, 0, 0, []), (760, 47, 962, 0, 0, [])]
set_option maxRecDepth 1000000 in
theorem lu_c18b_ok : ∀ q ∈ lu_c18b, cm_RowOK cm_ms lawP code q := fd_chkAll_ok (ps := [[], [], [], [], [], [], [], [], [], [], [], [1706, 1707, 1708, 125], [], []]) (by decide +kernel)
noncomputable def lu_c19a : List (Nat × ev_Row) := [(763, 9, 1, 0, 0, []), (764, 9, 0, 0, 0, []), (765, 4, 4, 0, 0, []), (767, 0, 1, 0, 0, []), (768, 16, 0, 0, 0, []), (769, 65, 0, 0, 0, []), (770, 200, 115, 98, 1, []), (773, 32, 0, 0, 0, [])]
set_option maxRecDepth 1000000 in
theorem lu_c19a_ok : ∀ q ∈ lu_c19a, cm_RowOK cm_ms lawP code q := fd_chkAll_ok (ps := [[], [], [], [], [], [], [920, 921, 922, 116], []]) (by decide +kernel)
noncomputable def lu_c19b : List (Nat × ev_Row) := [(774, 9, 2, 0, 0, []), (775, 9, 0, 0, 0, []), (776, 4, 4, 0, 0, []), (778, 0, 1, 0, 0, []), (779, 16, 0, 0, 0, []), (780, 65, 0, 0, 0, []), (781, 200, 245, 101, 1, []), (784, 32, 0, 0, 0, []), (785, 47, 937, 0, 0, [])]
set_option maxRecDepth 1000000 in
theorem lu_c19b_ok : ∀ q ∈ lu_c19b, cm_RowOK cm_ms lawP code q := fd_chkAll_ok (ps := [[], [], [], [], [], [], [1726, 1727, 1728, 125], [], []]) (by decide +kernel)
noncomputable def lu_c20a : List (Nat × ev_Row) := [(788, 9, 1, 0, 0, []), (789, 9, 0, 0, 0, []), (790, 4, 4, 0, 0, []), (792, 0, 1, 0, 0, []), (793, 16, 0, 0, 0, []), (794, 65, 0, 0, 0, []), (795, 200, 116, 102, 1, []), (798, 32, 0, 0, 0, [])]
set_option maxRecDepth 1000000 in
theorem lu_c20a_ok : ∀ q ∈ lu_c20a, cm_RowOK cm_ms lawP code q := fd_chkAll_ok (ps := [[], [], [], [], [], [], [933, 934, 935, 116], []]) (by decide +kernel)
noncomputable def lu_c20b : List (Nat × ev_Row) := [(799, 9, 2, 0, 0, []), (800, 9, 0, 0, 0, []), (801, 4, 4, 0, 0, []), (803, 0, 1, 0, 0, []), (804, 16, 0, 0, 0, []), (805, 65, 0, 0, 0, []), (806, 200, 246, 105, 1, []), (809, 32, 0, 0, 0, []), (810, 47, 912, 0, 0, [])]
set_option maxRecDepth 1000000 in
theorem lu_c20b_ok : ∀ q ∈ lu_c20b, cm_RowOK cm_ms lawP code q := fd_chkAll_ok (ps := [[], [], [], [], [], [], [1737, 1738, 1739, 125], [], []]) (by decide +kernel)
noncomputable def lu_c21a : List (Nat × ev_Row) := [(813, 9, 1, 0, 0, []), (814, 9, 0, 0, 0, []), (815, 4, 4, 0, 0, []), (817, 0, 1, 0, 0, []), (818, 16, 0, 0, 0, []), (819, 65, 0, 0, 0, []), (820, 200, 117, 106, 1, []), (823, 32, 0, 0, 0, [])]
set_option maxRecDepth 1000000 in
theorem lu_c21a_ok : ∀ q ∈ lu_c21a, cm_RowOK cm_ms lawP code q := fd_chkAll_ok (ps := [[], [], [], [], [], [], [937, 938, 939, 116], []]) (by decide +kernel)
noncomputable def lu_c21b : List (Nat × ev_Row) := [(824, 9, 2, 0, 0, []), (825, 9, 0, 0, 0, []), (826, 4, 4, 0, 0, []), (828, 0, 1, 0, 0, []), (829, 16, 0, 0, 0, []), (830, 65, 0, 0, 0, []), (831, 200, 247, 109, 1, []), (834, 32, 0, 0, 0, []), (835, 47, 887, 0, 0, [])]
set_option maxRecDepth 1000000 in
theorem lu_c21b_ok : ∀ q ∈ lu_c21b, cm_RowOK cm_ms lawP code q := fd_chkAll_ok (ps := [[], [], [], [], [], [], [1741, 1742, 1743, 125], [], []]) (by decide +kernel)
noncomputable def lu_c22a : List (Nat × ev_Row) := [(838, 9, 1, 0, 0, []), (839, 9, 0, 0, 0, []), (840, 4, 4, 0, 0, []), (842, 0, 1, 0, 0, []), (843, 16, 0, 0, 0, []), (844, 65, 0, 0, 0, []), (845, 200, 118, 110, 1, []), (848, 32, 0, 0, 0, [])]
set_option maxRecDepth 1000000 in
theorem lu_c22a_ok : ∀ q ∈ lu_c22a, cm_RowOK cm_ms lawP code q := fd_chkAll_ok (ps := [[], [], [], [], [], [], [941, 942, 943, 116], []]) (by decide +kernel)
noncomputable def lu_c22b : List (Nat × ev_Row) := [(849, 9, 2, 0, 0, []), (850, 9, 0, 0, 0, []), (851, 4, 4, 0, 0, []), (853, 0, 1, 0, 0, []), (854, 16, 0, 0, 0, []), (855, 65, 0, 0, 0, []), (856, 200, 248, 113, 1, []), (859, 32, 0, 0, 0, []), (860, 47, 862, 0, 0, [])]
set_option maxRecDepth 1000000 in
theorem lu_c22b_ok : ∀ q ∈ lu_c22b, cm_RowOK cm_ms lawP code q := fd_chkAll_ok (ps := [[], [], [], [], [], [], [1745, 1746, 1747, 125], [], []]) (by decide +kernel)
noncomputable def lu_c23a : List (Nat × ev_Row) := [(863, 9, 1, 0, 0, []), (864, 9, 0, 0, 0, []), (865, 4, 4, 0, 0, []), (867, 0, 1, 0, 0, []), (868, 16, 0, 0, 0, []), (869, 65, 0, 0, 0, []), (870, 9, 0, 0, 0, []), (871, 4, 4, 0, 0, []), (873, 0, 2, 0, 0, []), (874, 16, 0, 0, 0, []), (875, 65, 0, 0, 0, []), (876, 200, 120, 114, 2, []), (879, 32, 0, 0, 0, [])]
set_option maxRecDepth 1000000 in
theorem lu_c23a_ok : ∀ q ∈ lu_c23a, cm_RowOK cm_ms lawP code q := fd_chkAll_ok (ps := [[], [], [], [], [], [], [], [], [], [], [], [954, 955, 956, 116], []]) (by decide +kernel)
noncomputable def lu_c23b : List (Nat × ev_Row) := [(880, 9, 2, 0, 0, []), (881, 9, 0, 0, 0, []), (882, 4, 4, 0, 0, []), (884, 0, 1, 0, 0, []), (885, 16, 0, 0, 0, []), (886, 65, 0, 0, 0, []), (887, 9, 0, 0, 0, []), (888, 4, 4, 0, 0, []), (890, 0, 2, 0, 0, []), (891, 16, 0, 0, 0, []), (892, 65, 0, 0, 0, []), (893, 200, 250, 117, 2, []), (896, 32, 0, 0, 0, []), (897, 47, 825, 0, 0, [])]
set_option maxRecDepth 1000000 in
theorem lu_c23b_ok : ∀ q ∈ lu_c23b, cm_RowOK cm_ms lawP code q := fd_chkAll_ok (ps := [[], [], [], [], [], [], [], [], [], [], [], [1749, 1750, 1751, 125], [], []]) (by decide +kernel)
noncomputable def lu_c24a : List (Nat × ev_Row) := [(900, 9, 1, 0, 0, []), (901, 9, 0, 0, 0, []), (902, 4, 4, 0, 0, []), (904, 0, 1, 0, 0, []), (905, 16, 0, 0, 0, []), (906, 65, 0, 0, 0, []), (907, 200, 121, 118, 1, []), (910, 32, 0, 0, 0, [])]
set_option maxRecDepth 1000000 in
theorem lu_c24a_ok : ∀ q ∈ lu_c24a, cm_RowOK cm_ms lawP code q := fd_chkAll_ok (ps := [[], [], [], [], [], [], [967, 968, 969, 116], []]) (by decide +kernel)
noncomputable def lu_c24b : List (Nat × ev_Row) := [(911, 9, 2, 0, 0, []), (912, 9, 0, 0, 0, []), (913, 4, 4, 0, 0, []), (915, 0, 1, 0, 0, []), (916, 16, 0, 0, 0, []), (917, 65, 0, 0, 0, []), (918, 200, 251, 121, 1, []), (921, 32, 0, 0, 0, []), (922, 47, 800, 0, 0, [])]
set_option maxRecDepth 1000000 in
theorem lu_c24b_ok : ∀ q ∈ lu_c24b, cm_RowOK cm_ms lawP code q := fd_chkAll_ok (ps := [[], [], [], [], [], [], [1757, 1758, 1759, 125], [], []]) (by decide +kernel)
noncomputable def lu_c25a : List (Nat × ev_Row) := [(925, 9, 1, 0, 0, []), (926, 9, 0, 0, 0, []), (927, 4, 4, 0, 0, []), (929, 0, 1, 0, 0, []), (930, 16, 0, 0, 0, []), (931, 65, 0, 0, 0, []), (932, 200, 122, 122, 1, []), (935, 32, 0, 0, 0, [])]
set_option maxRecDepth 1000000 in
theorem lu_c25a_ok : ∀ q ∈ lu_c25a, cm_RowOK cm_ms lawP code q := fd_chkAll_ok (ps := [[], [], [], [], [], [], [971, 972, 973, 116], []]) (by decide +kernel)
noncomputable def lu_c25b : List (Nat × ev_Row) := [(936, 9, 2, 0, 0, []), (937, 9, 0, 0, 0, []), (938, 4, 4, 0, 0, []), (940, 0, 1, 0, 0, []), (941, 16, 0, 0, 0, []), (942, 65, 0, 0, 0, []), (943, 200, 252, 125, 1, []), (946, 32, 0, 0, 0, []), (947, 47, 775, 0, 0, [])]
set_option maxRecDepth 1000000 in
theorem lu_c25b_ok : ∀ q ∈ lu_c25b, cm_RowOK cm_ms lawP code q := fd_chkAll_ok (ps := [[], [], [], [], [], [], [1761, 1762, 1763, 125], [], []]) (by decide +kernel)
noncomputable def lu_c26a : List (Nat × ev_Row) := [(950, 9, 1, 0, 0, []), (951, 9, 0, 0, 0, []), (952, 4, 4, 0, 0, []), (954, 0, 1, 0, 0, []), (955, 16, 0, 0, 0, []), (956, 65, 0, 0, 0, []), (957, 200, 123, 126, 1, []), (960, 32, 0, 0, 0, [])]
set_option maxRecDepth 1000000 in
theorem lu_c26a_ok : ∀ q ∈ lu_c26a, cm_RowOK cm_ms lawP code q := fd_chkAll_ok (ps := [[], [], [], [], [], [], [975, 976, 977, 116], []]) (by decide +kernel)
noncomputable def lu_c26b : List (Nat × ev_Row) := [(961, 9, 2, 0, 0, []), (962, 9, 0, 0, 0, []), (963, 4, 4, 0, 0, []), (965, 0, 1, 0, 0, []), (966, 16, 0, 0, 0, []), (967, 65, 0, 0, 0, []), (968, 200, 253, 129, 1, []), (971, 32, 0, 0, 0, []), (972, 47, 750, 0, 0, [])]
set_option maxRecDepth 1000000 in
theorem lu_c26b_ok : ∀ q ∈ lu_c26b, cm_RowOK cm_ms lawP code q := fd_chkAll_ok (ps := [[], [], [], [], [], [], [1765, 1766, 1767, 125], [], []]) (by decide +kernel)
noncomputable def lu_c27a : List (Nat × ev_Row) := [(975, 9, 1, 0, 0, []), (976, 200, 124, 130, 0, []), (979, 32, 0, 0, 0, [])]
set_option maxRecDepth 1000000 in
theorem lu_c27a_ok : ∀ q ∈ lu_c27a, cm_RowOK cm_ms lawP code q := fd_chkAll_ok (ps := [[], [980, 981, 982, 116], []]) (by decide +kernel)
noncomputable def lu_c27b : List (Nat × ev_Row) := [(980, 9, 2, 0, 0, []), (981, 200, 256, 133, 0, []), (984, 32, 0, 0, 0, []), (985, 47, 737, 0, 0, [])]
set_option maxRecDepth 1000000 in
theorem lu_c27b_ok : ∀ q ∈ lu_c27b, cm_RowOK cm_ms lawP code q := fd_chkAll_ok (ps := [[], [1772, 1773, 1774, 125], [], []]) (by decide +kernel)
noncomputable def lu_c28a : List (Nat × ev_Row) := [(988, 9, 1, 0, 0, []), (989, 200, 125, 134, 0, []), (992, 32, 0, 0, 0, [])]
set_option maxRecDepth 1000000 in
theorem lu_c28a_ok : ∀ q ∈ lu_c28a, cm_RowOK cm_ms lawP code q := fd_chkAll_ok (ps := [[], [992, 993, 994, 116], []]) (by decide +kernel)
noncomputable def lu_c28b : List (Nat × ev_Row) := [(993, 9, 2, 0, 0, []), (994, 200, 257, 137, 0, []), (997, 32, 0, 0, 0, []), (998, 47, 724, 0, 0, [])]
set_option maxRecDepth 1000000 in
theorem lu_c28b_ok : ∀ q ∈ lu_c28b, cm_RowOK cm_ms lawP code q := fd_chkAll_ok (ps := [[], [1784, 1785, 1786, 125], [], []]) (by decide +kernel)
noncomputable def lu_c29a : List (Nat × ev_Row) := [(1001, 9, 1, 0, 0, []), (1002, 200, 126, 138, 0, []), (1005, 32, 0, 0, 0, [])]
set_option maxRecDepth 1000000 in
theorem lu_c29a_ok : ∀ q ∈ lu_c29a, cm_RowOK cm_ms lawP code q := fd_chkAll_ok (ps := [[], [998, 999, 1000, 116], []]) (by decide +kernel)
noncomputable def lu_c29b : List (Nat × ev_Row) := [(1006, 9, 2, 0, 0, []), (1007, 200, 258, 141, 0, []), (1010, 32, 0, 0, 0, []), (1011, 47, 711, 0, 0, [])]
set_option maxRecDepth 1000000 in
theorem lu_c29b_ok : ∀ q ∈ lu_c29b, cm_RowOK cm_ms lawP code q := fd_chkAll_ok (ps := [[], [1788, 1789, 1790, 125], [], []]) (by decide +kernel)
noncomputable def lu_c30a : List (Nat × ev_Row) := [(1014, 9, 1, 0, 0, []), (1015, 9, 0, 0, 0, []), (1016, 4, 4, 0, 0, []), (1018, 0, 1, 0, 0, []), (1019, 16, 0, 0, 0, []), (1020, 65, 0, 0, 0, []), (1021, 9, 0, 0, 0, []), (1022, 4, 4, 0, 0, []), (1024, 0, 2, 0, 0, []), (1025, 16, 0, 0, 0, []), (1026, 65, 0, 0, 0, []), (1027, 200, 128, 142, 2, []), (1030, 32, 0, 0, 0, [])]
set_option maxRecDepth 1000000 in
theorem lu_c30a_ok : ∀ q ∈ lu_c30a, cm_RowOK cm_ms lawP code q := fd_chkAll_ok (ps := [[], [], [], [], [], [], [], [], [], [], [], [1010, 1011, 1012, 116], []]) (by decide +kernel)
noncomputable def lu_c30b : List (Nat × ev_Row) := [(1031, 9, 2, 0, 0, []), (1032, 9, 0, 0, 0, []), (1033, 4, 4, 0, 0, []), (1035, 0, 1, 0, 0, []), (1036, 16, 0, 0, 0, []), (1037, 65, 0, 0, 0, []), (1038, 9, 0, 0, 0, []), (1039, 4, 4, 0, 0, []), (1041, 0, 2, 0, 0, []), (1042, 16, 0, 0, 0, []), (1043, 65, 0, 0, 0, []), (1044, 200, 260, 145, 2, []), (1047, 32, 0, 0, 0, []), (1048, 47, 674, 0, 0, [])]
set_option maxRecDepth 1000000 in
theorem lu_c30b_ok : ∀ q ∈ lu_c30b, cm_RowOK cm_ms lawP code q := fd_chkAll_ok (ps := [[], [], [], [], [], [], [], [], [], [], [], [1792, 1793, 1794, 125], [], []]) (by decide +kernel)
noncomputable def lu_c31a : List (Nat × ev_Row) := [(1051, 9, 1, 0, 0, []), (1052, 200, 129, 146, 0, []), (1055, 32, 0, 0, 0, [])]
set_option maxRecDepth 1000000 in
theorem lu_c31a_ok : ∀ q ∈ lu_c31a, cm_RowOK cm_ms lawP code q := fd_chkAll_ok (ps := [[], [1026, 1027, 1028, 116], []]) (by decide +kernel)
noncomputable def lu_c31b : List (Nat × ev_Row) := [(1056, 9, 2, 0, 0, []), (1057, 200, 263, 149, 0, []), (1060, 32, 0, 0, 0, []), (1061, 47, 661, 0, 0, [])]
set_option maxRecDepth 1000000 in
theorem lu_c31b_ok : ∀ q ∈ lu_c31b, cm_RowOK cm_ms lawP code q := fd_chkAll_ok (ps := [[], [1804, 1805, 1806, 125], [], []]) (by decide +kernel)
noncomputable def lu_c32a : List (Nat × ev_Row) := [(1064, 9, 1, 0, 0, []), (1065, 9, 0, 0, 0, []), (1066, 4, 4, 0, 0, []), (1068, 0, 1, 0, 0, []), (1069, 16, 0, 0, 0, []), (1070, 65, 0, 0, 0, []), (1071, 200, 130, 150, 1, []), (1074, 32, 0, 0, 0, [])]
set_option maxRecDepth 1000000 in
theorem lu_c32a_ok : ∀ q ∈ lu_c32a, cm_RowOK cm_ms lawP code q := fd_chkAll_ok (ps := [[], [], [], [], [], [], [1044, 1045, 1046, 116], []]) (by decide +kernel)
noncomputable def lu_c32b : List (Nat × ev_Row) := [(1075, 9, 2, 0, 0, []), (1076, 9, 0, 0, 0, []), (1077, 4, 4, 0, 0, []), (1079, 0, 1, 0, 0, []), (1080, 16, 0, 0, 0, []), (1081, 65, 0, 0, 0, []), (1082, 200, 264, 153, 1, []), (1085, 32, 0, 0, 0, []), (1086, 47, 636, 0, 0, [])]
set_option maxRecDepth 1000000 in
theorem lu_c32b_ok : ∀ q ∈ lu_c32b, cm_RowOK cm_ms lawP code q := fd_chkAll_ok (ps := [[], [], [], [], [], [], [1817, 1818, 1819, 125], [], []]) (by decide +kernel)
noncomputable def lu_c33a : List (Nat × ev_Row) := [(1089, 9, 1, 0, 0, []), (1090, 200, 131, 154, 0, []), (1093, 32, 0, 0, 0, [])]
set_option maxRecDepth 1000000 in
theorem lu_c33a_ok : ∀ q ∈ lu_c33a, cm_RowOK cm_ms lawP code q := fd_chkAll_ok (ps := [[], [1048, 1049, 1050, 116], []]) (by decide +kernel)
noncomputable def lu_c33b : List (Nat × ev_Row) := [(1094, 9, 2, 0, 0, []), (1095, 200, 267, 157, 0, []), (1098, 32, 0, 0, 0, []), (1099, 47, 623, 0, 0, [])]
set_option maxRecDepth 1000000 in
theorem lu_c33b_ok : ∀ q ∈ lu_c33b, cm_RowOK cm_ms lawP code q := fd_chkAll_ok (ps := [[], [1821, 1822, 1823, 125], [], []]) (by decide +kernel)
noncomputable def lu_c34a : List (Nat × ev_Row) := [(1102, 9, 1, 0, 0, []), (1103, 9, 0, 0, 0, []), (1104, 4, 4, 0, 0, []), (1106, 0, 1, 0, 0, []), (1107, 16, 0, 0, 0, []), (1108, 65, 0, 0, 0, []), (1109, 200, 132, 158, 1, []), (1112, 32, 0, 0, 0, [])]
set_option maxRecDepth 1000000 in
theorem lu_c34a_ok : ∀ q ∈ lu_c34a, cm_RowOK cm_ms lawP code q := fd_chkAll_ok (ps := [[], [], [], [], [], [], [1066, 1067, 1068, 116], []]) (by decide +kernel)
noncomputable def lu_c34b : List (Nat × ev_Row) := [(1113, 9, 2, 0, 0, []), (1114, 9, 0, 0, 0, []), (1115, 4, 4, 0, 0, []), (1117, 0, 1, 0, 0, []), (1118, 16, 0, 0, 0, []), (1119, 65, 0, 0, 0, []), (1120, 200, 268, 161, 1, []), (1123, 32, 0, 0, 0, []), (1124, 47, 598, 0, 0, [])]
set_option maxRecDepth 1000000 in
theorem lu_c34b_ok : ∀ q ∈ lu_c34b, cm_RowOK cm_ms lawP code q := fd_chkAll_ok (ps := [[], [], [], [], [], [], [1833, 1834, 1835, 125], [], []]) (by decide +kernel)
noncomputable def lu_c35a : List (Nat × ev_Row) := [(1127, 9, 1, 0, 0, []), (1128, 200, 133, 162, 0, []), (1131, 32, 0, 0, 0, [])]
set_option maxRecDepth 1000000 in
theorem lu_c35a_ok : ∀ q ∈ lu_c35a, cm_RowOK cm_ms lawP code q := fd_chkAll_ok (ps := [[], [1070, 1071, 1072, 116], []]) (by decide +kernel)
noncomputable def lu_c35b : List (Nat × ev_Row) := [(1132, 9, 2, 0, 0, []), (1133, 200, 269, 165, 0, []), (1136, 32, 0, 0, 0, []), (1137, 47, 585, 0, 0, [])]
set_option maxRecDepth 1000000 in
theorem lu_c35b_ok : ∀ q ∈ lu_c35b, cm_RowOK cm_ms lawP code q := fd_chkAll_ok (ps := [[], [1837, 1838, 1839, 125], [], []]) (by decide +kernel)
noncomputable def lu_c36a : List (Nat × ev_Row) := [(1140, 9, 1, 0, 0, []), (1141, 200, 134, 166, 0, []), (1144, 32, 0, 0, 0, [])]
set_option maxRecDepth 1000000 in
theorem lu_c36a_ok : ∀ q ∈ lu_c36a, cm_RowOK cm_ms lawP code q := fd_chkAll_ok (ps := [[], [1078, 1079, 1080, 116], []]) (by decide +kernel)
noncomputable def lu_c36b : List (Nat × ev_Row) := [(1145, 9, 2, 0, 0, []), (1146, 200, 270, 169, 0, []), (1149, 32, 0, 0, 0, []), (1150, 47, 572, 0, 0, [])]
set_option maxRecDepth 1000000 in
theorem lu_c36b_ok : ∀ q ∈ lu_c36b, cm_RowOK cm_ms lawP code q := fd_chkAll_ok (ps := [[], [1841, 1842, 1843, 125], [], []]) (by decide +kernel)
noncomputable def lu_c37a : List (Nat × ev_Row) := [(1153, 9, 1, 0, 0, []), (1154, 200, 135, 170, 0, []), (1157, 32, 0, 0, 0, [])]
set_option maxRecDepth 1000000 in
theorem lu_c37a_ok : ∀ q ∈ lu_c37a, cm_RowOK cm_ms lawP code q := fd_chkAll_ok (ps := [[], [1086, 1087, 1088, 116], []]) (by decide +kernel)
noncomputable def lu_c37b : List (Nat × ev_Row) := [(1158, 9, 2, 0, 0, []), (1159, 200, 273, 173, 0, []), (1162, 32, 0, 0, 0, []), (1163, 47, 559, 0, 0, [])]
set_option maxRecDepth 1000000 in
theorem lu_c37b_ok : ∀ q ∈ lu_c37b, cm_RowOK cm_ms lawP code q := fd_chkAll_ok (ps := [[], [1845, 1846, 1847, 125], [], []]) (by decide +kernel)
noncomputable def lu_c38a : List (Nat × ev_Row) := [(1166, 9, 1, 0, 0, []), (1167, 200, 136, 174, 0, []), (1170, 32, 0, 0, 0, [])]
set_option maxRecDepth 1000000 in
theorem lu_c38a_ok : ∀ q ∈ lu_c38a, cm_RowOK cm_ms lawP code q := fd_chkAll_ok (ps := [[], [1101, 1102, 1103, 116], []]) (by decide +kernel)
noncomputable def lu_c38b : List (Nat × ev_Row) := [(1171, 9, 2, 0, 0, []), (1172, 200, 274, 177, 0, []), (1175, 32, 0, 0, 0, []), (1176, 47, 546, 0, 0, [])]
set_option maxRecDepth 1000000 in
theorem lu_c38b_ok : ∀ q ∈ lu_c38b, cm_RowOK cm_ms lawP code q := fd_chkAll_ok (ps := [[], [1857, 1858, 1859, 125], [], []]) (by decide +kernel)
noncomputable def lu_c39a : List (Nat × ev_Row) := [(1179, 9, 1, 0, 0, []), (1180, 9, 0, 0, 0, []), (1181, 4, 4, 0, 0, []), (1183, 0, 1, 0, 0, []), (1184, 16, 0, 0, 0, []), (1185, 65, 0, 0, 0, []), (1186, 9, 0, 0, 0, []), (1187, 4, 4, 0, 0, []), (1189, 0, 2, 0, 0, []), (1190, 16, 0, 0, 0, []), (1191, 65, 0, 0, 0, []), (1192, 41, 7, 0, 0, []), (1195, 0, 1, 0, 0, []), (1196, 47, 4, 0, 0, []), (1199, 0, 0, 0, 0, []), (1200, 9, 0, 0, 0, []), (1201, 4, 4, 0, 0, []), (1203, 0, 3, 0, 0, []), (1204, 16, 0, 0, 0, []), (1205, 65, 0, 0, 0, []), (1206, 41, 7, 0, 0, []), (1209, 0, 1, 0, 0, []), (1210, 47, 4, 0, 0, []), (1213, 0, 0, 0, 0, []), (1214, 9, 0, 0, 0, []), (1215, 4, 4, 0, 0, []), (1217, 0, 4, 0, 0, []), (1218, 16, 0, 0, 0, []), (1219, 65, 0, 0, 0, []), (1220, 41, 7, 0, 0, []), (1223, 0, 1, 0, 0, []), (1224, 47, 4, 0, 0, []), (1227, 0, 0, 0, 0, []), (1228, 200, 138, 178, 4, []), (1231, 32, 0, 0, 0, [])]
set_option maxRecDepth 1000000 in
theorem lu_c39a_ok : ∀ q ∈ lu_c39a, cm_RowOK cm_ms lawP code q := fd_chkAll_ok (ps := [[], [], [], [], [], [], [], [], [], [], [], [], [], [], [], [], [], [], [], [], [], [], [], [], [], [], [], [], [], [], [], [], [], [1106, 1107, 1108, 116], []]) (by decide +kernel)
noncomputable def lu_c39b : List (Nat × ev_Row) := [(1232, 9, 2, 0, 0, []), (1233, 9, 0, 0, 0, []), (1234, 4, 4, 0, 0, []), (1236, 0, 1, 0, 0, []), (1237, 16, 0, 0, 0, []), (1238, 65, 0, 0, 0, []), (1239, 9, 0, 0, 0, []), (1240, 4, 4, 0, 0, []), (1242, 0, 2, 0, 0, []), (1243, 16, 0, 0, 0, []), (1244, 65, 0, 0, 0, []), (1245, 41, 7, 0, 0, []), (1248, 0, 1, 0, 0, []), (1249, 47, 4, 0, 0, []), (1252, 0, 0, 0, 0, []), (1253, 9, 0, 0, 0, []), (1254, 4, 4, 0, 0, []), (1256, 0, 3, 0, 0, []), (1257, 16, 0, 0, 0, []), (1258, 65, 0, 0, 0, []), (1259, 41, 7, 0, 0, []), (1262, 0, 1, 0, 0, []), (1263, 47, 4, 0, 0, []), (1266, 0, 0, 0, 0, []), (1267, 9, 0, 0, 0, []), (1268, 4, 4, 0, 0, []), (1270, 0, 4, 0, 0, []), (1271, 16, 0, 0, 0, []), (1272, 65, 0, 0, 0, []), (1273, 41, 7, 0, 0, []), (1276, 0, 1, 0, 0, []), (1277, 47, 4, 0, 0, []), (1280, 0, 0, 0, 0, []), (1281, 200, 276, 182, 4, []), (1284, 32, 0, 0, 0, []), (1285, 47, 437, 0, 0, [])]
set_option maxRecDepth 1000000 in
theorem lu_c39b_ok : ∀ q ∈ lu_c39b, cm_RowOK cm_ms lawP code q := fd_chkAll_ok (ps := [[], [], [], [], [], [], [], [], [], [], [], [], [], [], [], [], [], [], [], [], [], [], [], [], [], [], [], [], [], [], [], [], [], [1861, 1862, 1863, 125], [], []]) (by decide +kernel)
noncomputable def lu_c40a : List (Nat × ev_Row) := [(1288, 9, 1, 0, 0, []), (1289, 9, 0, 0, 0, []), (1290, 4, 4, 0, 0, []), (1292, 0, 1, 0, 0, []), (1293, 16, 0, 0, 0, []), (1294, 65, 0, 0, 0, []), (1295, 200, 139, 183, 1, []), (1298, 32, 0, 0, 0, [])]
set_option maxRecDepth 1000000 in
theorem lu_c40a_ok : ∀ q ∈ lu_c40a, cm_RowOK cm_ms lawP code q := fd_chkAll_ok (ps := [[], [], [], [], [], [], [1117, 1118, 1119, 116], []]) (by decide +kernel)
noncomputable def lu_c40b : List (Nat × ev_Row) := [(1299, 9, 2, 0, 0, []), (1300, 9, 0, 0, 0, []), (1301, 4, 4, 0, 0, []), (1303, 0, 1, 0, 0, []), (1304, 16, 0, 0, 0, []), (1305, 65, 0, 0, 0, []), (1306, 200, 279, 186, 1, []), (1309, 32, 0, 0, 0, []), (1310, 47, 412, 0, 0, [])]
set_option maxRecDepth 1000000 in
theorem lu_c40b_ok : ∀ q ∈ lu_c40b, cm_RowOK cm_ms lawP code q := fd_chkAll_ok (ps := [[], [], [], [], [], [], [1868, 1869, 1870, 125], [], []]) (by decide +kernel)
noncomputable def lu_c41a : List (Nat × ev_Row) := [(1313, 9, 1, 0, 0, []), (1314, 9, 0, 0, 0, []), (1315, 4, 4, 0, 0, []), (1317, 0, 1, 0, 0, []), (1318, 16, 0, 0, 0, []), (1319, 65, 0, 0, 0, []), (1320, 200, 140, 187, 1, []), (1323, 32, 0, 0, 0, [])]
set_option maxRecDepth 1000000 in
theorem lu_c41a_ok : ∀ q ∈ lu_c41a, cm_RowOK cm_ms lawP code q := fd_chkAll_ok (ps := [[], [], [], [], [], [], [1124, 1125, 1126, 116], []]) (by decide +kernel)
noncomputable def lu_c41b : List (Nat × ev_Row) := [(1324, 9, 2, 0, 0, []), (1325, 9, 0, 0, 0, []), (1326, 4, 4, 0, 0, []), (1328, 0, 1, 0, 0, []), (1329, 16, 0, 0, 0, []), (1330, 65, 0, 0, 0, []), (1331, 200, 280, 190, 1, []), (1334, 32, 0, 0, 0, []), (1335, 47, 387, 0, 0, [])]
set_option maxRecDepth 1000000 in
theorem lu_c41b_ok : ∀ q ∈ lu_c41b, cm_RowOK cm_ms lawP code q := fd_chkAll_ok (ps := [[], [], [], [], [], [], [1879, 1880, 1881, 125], [], []]) (by decide +kernel)
noncomputable def lu_c42a : List (Nat × ev_Row) := [(1338, 9, 1, 0, 0, []), (1339, 9, 0, 0, 0, []), (1340, 4, 4, 0, 0, []), (1342, 0, 1, 0, 0, []), (1343, 16, 0, 0, 0, []), (1344, 65, 0, 0, 0, []), (1345, 9, 0, 0, 0, []), (1346, 4, 4, 0, 0, []), (1348, 0, 2, 0, 0, []), (1349, 16, 0, 0, 0, []), (1350, 65, 0, 0, 0, []), (1351, 41, 7, 0, 0, []), (1354, 0, 1, 0, 0, []), (1355, 47, 4, 0, 0, []), (1358, 0, 0, 0, 0, []), (1359, 200, 144, 191, 2, []), (1362, 91, 0, 0, 0, [])]
set_option maxRecDepth 1000000 in
theorem lu_c42a_ok : ∀ q ∈ lu_c42a, cm_RowOK cm_ms lawP code q := fd_chkAll_ok (ps := [[], [], [], [], [], [], [], [], [], [], [], [], [], [], [], [1128, 1129, 1130, 116], []]) (by decide +kernel)
noncomputable def lu_c42b : List (Nat × ev_Row) := [(1363, 9, 2, 0, 0, []), (1364, 9, 0, 0, 0, []), (1365, 4, 4, 0, 0, []), (1367, 0, 1, 0, 0, []), (1368, 16, 0, 0, 0, []), (1369, 65, 0, 0, 0, []), (1370, 9, 0, 0, 0, []), (1371, 4, 4, 0, 0, []), (1373, 0, 2, 0, 0, []), (1374, 16, 0, 0, 0, []), (1375, 65, 0, 0, 0, []), (1376, 41, 7, 0, 0, []), (1379, 0, 1, 0, 0, []), (1380, 47, 4, 0, 0, []), (1383, 0, 0, 0, 0, []), (1384, 200, 282, 195, 2, []), (1387, 91, 0, 0, 0, []), (1388, 47, 334, 0, 0, [])]
set_option maxRecDepth 1000000 in
theorem lu_c42b_ok : ∀ q ∈ lu_c42b, cm_RowOK cm_ms lawP code q := fd_chkAll_ok (ps := [[], [], [], [], [], [], [], [], [], [], [], [], [], [], [], [1883, 1884, 1885, 125], [], []]) (by decide +kernel)
noncomputable def lu_c43a : List (Nat × ev_Row) := [(1391, 9, 1, 0, 0, []), (1392, 9, 0, 0, 0, []), (1393, 4, 4, 0, 0, []), (1395, 0, 1, 0, 0, []), (1396, 16, 0, 0, 0, []), (1397, 65, 0, 0, 0, []), (1398, 9, 0, 0, 0, []), (1399, 4, 4, 0, 0, []), (1401, 0, 2, 0, 0, []), (1402, 16, 0, 0, 0, []), (1403, 65, 0, 0, 0, []), (1404, 41, 7, 0, 0, []), (1407, 0, 1, 0, 0, []), (1408, 47, 4, 0, 0, []), (1411, 0, 0, 0, 0, []), (1412, 200, 145, 196, 2, []), (1415, 91, 0, 0, 0, [])]
set_option maxRecDepth 1000000 in
theorem lu_c43a_ok : ∀ q ∈ lu_c43a, cm_RowOK cm_ms lawP code q := fd_chkAll_ok (ps := [[], [], [], [], [], [], [], [], [], [], [], [], [], [], [], [1146, 1147, 1148, 116], []]) (by decide +kernel)
noncomputable def lu_c43b : List (Nat × ev_Row) := [(1416, 9, 2, 0, 0, []), (1417, 9, 0, 0, 0, []), (1418, 4, 4, 0, 0, []), (1420, 0, 1, 0, 0, []), (1421, 16, 0, 0, 0, []), (1422, 65, 0, 0, 0, []), (1423, 9, 0, 0, 0, []), (1424, 4, 4, 0, 0, []), (1426, 0, 2, 0, 0, []), (1427, 16, 0, 0, 0, []), (1428, 65, 0, 0, 0, []), (1429, 41, 7, 0, 0, []), (1432, 0, 1, 0, 0, []), (1433, 47, 4, 0, 0, []), (1436, 0, 0, 0, 0, []), (1437, 200, 283, 199, 2, []), (1440, 91, 0, 0, 0, []), (1441, 47, 281, 0, 0, [])]
set_option maxRecDepth 1000000 in
theorem lu_c43b_ok : ∀ q ∈ lu_c43b, cm_RowOK cm_ms lawP code q := fd_chkAll_ok (ps := [[], [], [], [], [], [], [], [], [], [], [], [], [], [], [], [1894, 1895, 1896, 125], [], []]) (by decide +kernel)
noncomputable def lu_c44f : List (Nat × ev_Row) := [(1444, 9, 1, 0, 0, []), (1445, 9, 0, 0, 0, []), (1446, 4, 4, 0, 0, []), (1448, 0, 1, 0, 0, []), (1449, 16, 0, 0, 0, []), (1450, 65, 0, 0, 0, []), (1451, 9, 0, 0, 0, []), (1452, 4, 4, 0, 0, []), (1454, 0, 2, 0, 0, []), (1455, 16, 0, 0, 0, []), (1456, 65, 0, 0, 0, []), (1457, 9, 0, 0, 0, []), (1458, 4, 4, 0, 0, []), (1460, 0, 3, 0, 0, []), (1461, 16, 0, 0, 0, []), (1462, 65, 0, 0, 0, []), (1463, 200, 146, 200, 3, []), (1466, 9, 2, 0, 0, []), (1467, 9, 0, 0, 0, []), (1468, 4, 4, 0, 0, []), (1470, 0, 1, 0, 0, []), (1471, 16, 0, 0, 0, []), (1472, 65, 0, 0, 0, []), (1473, 9, 0, 0, 0, []), (1474, 4, 4, 0, 0, []), (1476, 0, 2, 0, 0, []), (1477, 16, 0, 0, 0, []), (1478, 65, 0, 0, 0, []), (1479, 9, 0, 0, 0, []), (1480, 4, 4, 0, 0, []), (1482, 0, 3, 0, 0, []), (1483, 16, 0, 0, 0, []), (1484, 65, 0, 0, 0, []), (1485, 200, 285, 204, 3, []), (1488, 35, 234, 0, 0, []), (1491, 0, 0, 0, 0, []), (1492, 210, 0, 0, 0, [])]
set_option maxRecDepth 1000000 in
theorem lu_c44f_ok : ∀ q ∈ lu_c44f, cm_RowOK cm_ms lawP code q := fd_chkAll_ok (ps := [[], [], [], [], [], [], [], [], [], [], [], [], [], [], [], [], [1156, 1157, 1158, 116], [], [], [], [], [], [], [], [], [], [], [], [], [], [], [], [], [1898, 1899, 1900, 125], [], [], []]) (by decide +kernel)
noncomputable def lu_c45a : List (Nat × ev_Row) := [(1493, 9, 1, 0, 0, []), (1494, 9, 0, 0, 0, []), (1495, 4, 4, 0, 0, []), (1497, 0, 1, 0, 0, []), (1498, 16, 0, 0, 0, []), (1499, 65, 0, 0, 0, []), (1500, 9, 0, 0, 0, []), (1501, 4, 4, 0, 0, []), (1503, 0, 2, 0, 0, []), (1504, 16, 0, 0, 0, []), (1505, 65, 0, 0, 0, []), (1506, 9, 0, 0, 0, []), (1507, 4, 4, 0, 0, []), (1509, 0, 3, 0, 0, []), (1510, 16, 0, 0, 0, []), (1511, 65, 0, 0, 0, []), (1512, 200, 147, 205, 3, []), (1515, 32, 0, 0, 0, [])]
set_option maxRecDepth 1000000 in
theorem lu_c45a_ok : ∀ q ∈ lu_c45a, cm_RowOK cm_ms lawP code q := fd_chkAll_ok (ps := [[], [], [], [], [], [], [], [], [], [], [], [], [], [], [], [], [1171, 1172, 1173, 116], []]) (by decide +kernel)
noncomputable def lu_c45b : List (Nat × ev_Row) := [(1516, 9, 2, 0, 0, []), (1517, 9, 0, 0, 0, []), (1518, 4, 4, 0, 0, []), (1520, 0, 1, 0, 0, []), (1521, 16, 0, 0, 0, []), (1522, 65, 0, 0, 0, []), (1523, 9, 0, 0, 0, []), (1524, 4, 4, 0, 0, []), (1526, 0, 2, 0, 0, []), (1527, 16, 0, 0, 0, []), (1528, 65, 0, 0, 0, []), (1529, 9, 0, 0, 0, []), (1530, 4, 4, 0, 0, []), (1532, 0, 3, 0, 0, []), (1533, 16, 0, 0, 0, []), (1534, 65, 0, 0, 0, []), (1535, 200, 286, 208, 3, []), (1538, 32, 0, 0, 0, []), (1539, 47, 183, 0, 0, [])]
set_option maxRecDepth 1000000 in
theorem lu_c45b_ok : ∀ q ∈ lu_c45b, cm_RowOK cm_ms lawP code q := fd_chkAll_ok (ps := [[], [], [], [], [], [], [], [], [], [], [], [], [], [], [], [], [1908, 1909, 1910, 125], [], []]) (by decide +kernel)
noncomputable def lu_c46a : List (Nat × ev_Row) := [(1542, 9, 1, 0, 0, []), (1543, 9, 0, 0, 0, []), (1544, 4, 4, 0, 0, []), (1546, 0, 1, 0, 0, []), (1547, 16, 0, 0, 0, []), (1548, 65, 0, 0, 0, []), (1549, 200, 149, 209, 1, []), (1552, 32, 0, 0, 0, [])]
set_option maxRecDepth 1000000 in
theorem lu_c46a_ok : ∀ q ∈ lu_c46a, cm_RowOK cm_ms lawP code q := fd_chkAll_ok (ps := [[], [], [], [], [], [], [1175, 1176, 1177, 116], []]) (by decide +kernel)
noncomputable def lu_c46b : List (Nat × ev_Row) := [(1553, 9, 2, 0, 0, []), (1554, 9, 0, 0, 0, []), (1555, 4, 4, 0, 0, []), (1557, 0, 1, 0, 0, []), (1558, 16, 0, 0, 0, []), (1559, 65, 0, 0, 0, []), (1560, 200, 288, 212, 1, []), (1563, 32, 0, 0, 0, []), (1564, 47, 158, 0, 0, [])]
set_option maxRecDepth 1000000 in
theorem lu_c46b_ok : ∀ q ∈ lu_c46b, cm_RowOK cm_ms lawP code q := fd_chkAll_ok (ps := [[], [], [], [], [], [], [1912, 1913, 1914, 125], [], []]) (by decide +kernel)
noncomputable def lu_c47a : List (Nat × ev_Row) := [(1567, 9, 1, 0, 0, []), (1568, 200, 150, 213, 0, []), (1571, 32, 0, 0, 0, [])]
set_option maxRecDepth 1000000 in
theorem lu_c47a_ok : ∀ q ∈ lu_c47a, cm_RowOK cm_ms lawP code q := fd_chkAll_ok (ps := [[], [1186, 1187, 1188, 116], []]) (by decide +kernel)
noncomputable def lu_c47b : List (Nat × ev_Row) := [(1572, 9, 2, 0, 0, []), (1573, 200, 289, 216, 0, []), (1576, 32, 0, 0, 0, []), (1577, 47, 145, 0, 0, [])]
set_option maxRecDepth 1000000 in
theorem lu_c47b_ok : ∀ q ∈ lu_c47b, cm_RowOK cm_ms lawP code q := fd_chkAll_ok (ps := [[], [1920, 1921, 1922, 125], [], []]) (by decide +kernel)
noncomputable def lu_c48a : List (Nat × ev_Row) := [(1580, 9, 1, 0, 0, []), (1581, 9, 0, 0, 0, []), (1582, 4, 4, 0, 0, []), (1584, 0, 1, 0, 0, []), (1585, 16, 0, 0, 0, []), (1586, 65, 0, 0, 0, []), (1587, 200, 151, 217, 1, []), (1590, 32, 0, 0, 0, [])]
set_option maxRecDepth 1000000 in
theorem lu_c48a_ok : ∀ q ∈ lu_c48a, cm_RowOK cm_ms lawP code q := fd_chkAll_ok (ps := [[], [], [], [], [], [], [1190, 1191, 1192, 116], []]) (by decide +kernel)
noncomputable def lu_c48b : List (Nat × ev_Row) := [(1591, 9, 2, 0, 0, []), (1592, 9, 0, 0, 0, []), (1593, 4, 4, 0, 0, []), (1595, 0, 1, 0, 0, []), (1596, 16, 0, 0, 0, []), (1597, 65, 0, 0, 0, []), (1598, 200, 290, 220, 1, []), (1601, 32, 0, 0, 0, []), (1602, 47, 120, 0, 0, [])]
set_option maxRecDepth 1000000 in
theorem lu_c48b_ok : ∀ q ∈ lu_c48b, cm_RowOK cm_ms lawP code q := fd_chkAll_ok (ps := [[], [], [], [], [], [], [1924, 1925, 1926, 125], [], []]) (by decide +kernel)
noncomputable def lu_c49a : List (Nat × ev_Row) := [(1605, 9, 1, 0, 0, []), (1606, 200, 152, 221, 0, []), (1609, 32, 0, 0, 0, [])]
set_option maxRecDepth 1000000 in
theorem lu_c49a_ok : ∀ q ∈ lu_c49a, cm_RowOK cm_ms lawP code q := fd_chkAll_ok (ps := [[], [1195, 1196, 1197, 116], []]) (by decide +kernel)
noncomputable def lu_c49b : List (Nat × ev_Row) := [(1610, 9, 2, 0, 0, []), (1611, 200, 291, 225, 0, []), (1614, 32, 0, 0, 0, []), (1615, 47, 107, 0, 0, [])]
set_option maxRecDepth 1000000 in
theorem lu_c49b_ok : ∀ q ∈ lu_c49b, cm_RowOK cm_ms lawP code q := fd_chkAll_ok (ps := [[], [1928, 1929, 1930, 125], [], []]) (by decide +kernel)
noncomputable def lu_c50a : List (Nat × ev_Row) := [(1618, 9, 1, 0, 0, []), (1619, 200, 153, 226, 0, []), (1622, 32, 0, 0, 0, [])]
set_option maxRecDepth 1000000 in
theorem lu_c50a_ok : ∀ q ∈ lu_c50a, cm_RowOK cm_ms lawP code q := fd_chkAll_ok (ps := [[], [1203, 1204, 1205, 116], []]) (by decide +kernel)
noncomputable def lu_c50b : List (Nat × ev_Row) := [(1623, 9, 2, 0, 0, []), (1624, 200, 292, 229, 0, []), (1627, 32, 0, 0, 0, []), (1628, 47, 94, 0, 0, [])]
set_option maxRecDepth 1000000 in
theorem lu_c50b_ok : ∀ q ∈ lu_c50b, cm_RowOK cm_ms lawP code q := fd_chkAll_ok (ps := [[], [1936, 1937, 1938, 125], [], []]) (by decide +kernel)
noncomputable def lu_c51a : List (Nat × ev_Row) := [(1631, 9, 1, 0, 0, []), (1632, 9, 0, 0, 0, []), (1633, 4, 4, 0, 0, []), (1635, 0, 1, 0, 0, []), (1636, 16, 0, 0, 0, []), (1637, 65, 0, 0, 0, []), (1638, 200, 154, 230, 1, []), (1641, 32, 0, 0, 0, [])]
set_option maxRecDepth 1000000 in
theorem lu_c51a_ok : ∀ q ∈ lu_c51a, cm_RowOK cm_ms lawP code q := fd_chkAll_ok (ps := [[], [], [], [], [], [], [1211, 1212, 1213, 116], []]) (by decide +kernel)
noncomputable def lu_c51b : List (Nat × ev_Row) := [(1642, 9, 2, 0, 0, []), (1643, 9, 0, 0, 0, []), (1644, 4, 4, 0, 0, []), (1646, 0, 1, 0, 0, []), (1647, 16, 0, 0, 0, []), (1648, 65, 0, 0, 0, []), (1649, 200, 293, 234, 1, []), (1652, 32, 0, 0, 0, []), (1653, 47, 69, 0, 0, [])]
set_option maxRecDepth 1000000 in
theorem lu_c51b_ok : ∀ q ∈ lu_c51b, cm_RowOK cm_ms lawP code q := fd_chkAll_ok (ps := [[], [], [], [], [], [], [1940, 1941, 1942, 125], [], []]) (by decide +kernel)
noncomputable def lu_c52a : List (Nat × ev_Row) := [(1656, 9, 1, 0, 0, []), (1657, 9, 0, 0, 0, []), (1658, 4, 4, 0, 0, []), (1660, 0, 1, 0, 0, []), (1661, 16, 0, 0, 0, []), (1662, 65, 0, 0, 0, []), (1663, 9, 3, 0, 0, [])]
set_option maxRecDepth 1000000 in
theorem lu_c52a_ok : ∀ q ∈ lu_c52a, cm_RowOK cm_ms lawP code q := fd_chkAll_ok (ps := [[], [], [], [], [], [], []]) (by decide +kernel)
noncomputable def lu_c52b : List (Nat × ev_Row) := [(1667, 10, 5, 0, 0, []), (1669, 9, 2, 0, 0, []), (1670, 9, 0, 0, 0, []), (1671, 4, 4, 0, 0, []), (1673, 0, 1, 0, 0, []), (1674, 16, 0, 0, 0, []), (1675, 65, 0, 0, 0, []), (1676, 200, 294, 240, 1, []), (1679, 10, 6, 0, 0, []), (1681, 47, 41, 0, 0, [])]
set_option maxRecDepth 1000000 in
theorem lu_c52b_ok : ∀ q ∈ lu_c52b, cm_RowOK cm_ms lawP code q := fd_chkAll_ok (ps := [[], [], [], [], [], [], [], [1944, 1945, 1946, 125], [], []]) (by decide +kernel)
noncomputable def lu_c53a : List (Nat × ev_Row) := [(1684, 9, 1, 0, 0, []), (1685, 9, 0, 0, 0, []), (1686, 4, 4, 0, 0, []), (1688, 0, 1, 0, 0, []), (1689, 16, 0, 0, 0, []), (1690, 65, 0, 0, 0, []), (1691, 200, 155, 241, 1, []), (1694, 32, 0, 0, 0, [])]
set_option maxRecDepth 1000000 in
theorem lu_c53a_ok : ∀ q ∈ lu_c53a, cm_RowOK cm_ms lawP code q := fd_chkAll_ok (ps := [[], [], [], [], [], [], [1219, 1220, 1221, 116], []]) (by decide +kernel)
noncomputable def lu_c53b : List (Nat × ev_Row) := [(1695, 9, 2, 0, 0, []), (1696, 9, 0, 0, 0, []), (1697, 4, 4, 0, 0, []), (1699, 0, 1, 0, 0, []), (1700, 16, 0, 0, 0, []), (1701, 65, 0, 0, 0, []), (1702, 200, 295, 244, 1, []), (1705, 32, 0, 0, 0, []), (1706, 47, 16, 0, 0, [])]
set_option maxRecDepth 1000000 in
theorem lu_c53b_ok : ∀ q ∈ lu_c53b, cm_RowOK cm_ms lawP code q := fd_chkAll_ok (ps := [[], [], [], [], [], [], [1948, 1949, 1950, 125], [], []]) (by decide +kernel)
noncomputable def lu_c54a : List (Nat × ev_Row) := [(1709, 9, 1, 0, 0, []), (1710, 200, 156, 245, 0, []), (1713, 32, 0, 0, 0, [])]
set_option maxRecDepth 1000000 in
theorem lu_c54a_ok : ∀ q ∈ lu_c54a, cm_RowOK cm_ms lawP code q := fd_chkAll_ok (ps := [[], [1224, 1225, 1226, 116], []]) (by decide +kernel)
noncomputable def lu_c54b : List (Nat × ev_Row) := [(1714, 9, 2, 0, 0, []), (1715, 200, 296, 248, 0, []), (1718, 32, 0, 0, 0, []), (1719, 47, 3, 0, 0, [])]
set_option maxRecDepth 1000000 in
theorem lu_c54b_ok : ∀ q ∈ lu_c54b, cm_RowOK cm_ms lawP code q := fd_chkAll_ok (ps := [[], [1952, 1953, 1954, 125], [], []]) (by decide +kernel)
