/-! AB: contracts -/
/-- Reader.takeWord@at@19 (24 steps) -/
def ct_138 : ab_Ct := (78, [(1, 0, [2]), (1, 0, [1039])], [], [(2, 0, (1, 0, [1])), (2, 7, (1, 0, [19]))], [(2, [2, 3, 4, 5, 6, 9])], [([], [], [])])
set_option maxRecDepth 1000000 in
theorem ck_138 : ab_CT cm_ms hp hN 8 ct_138 := ab_chk_ok (us := [ct_92, ct_98]) (inl := inl0) (d := 6) (dd := 1) (n := 20000) (tms := []) cm_ms_ok cm_ms_rc hNP (List.forall_mem_cons.mpr ⟨ab_CT_up ck_92 (by decide), List.forall_mem_cons.mpr ⟨ab_CT_up ck_98 (by decide), fun _ h => absurd h List.not_mem_nil⟩⟩) (by decide +kernel) (by decide +kernel)
/-- Reader.takeWhole@6 (96 steps) -/
def ct_139 : ab_Ct := (79, [(1, 0, [2]), (3, 0, []), (3, 1, [])], [((-2147483648), 2147483647, 0, (0, 0, []), (0, 0, [])), ((-2147483648), 2147483647, 0, (0, 0, []), (0, 0, []))], [(2, 0, (1, 0, [1])), (2, 7, (1, 0, [6]))], [(2, [2, 3, 4, 5, 6, 9])], [([(3, 2, [])], [((-2147483648), 2147483647, 0, (0, 0, []), (0, 0, [])), ((-2147483648), 2147483647, 0, (0, 0, []), (0, 0, [])), ((-2147483648), 2147483647, 0, (0, 0, []), (0, 0, []))], [])])
set_option maxRecDepth 1000000 in
theorem ck_139 : ab_CT cm_ms hp hN 7 ct_139 := ab_chk_ok (us := [ct_97]) (inl := inl0) (d := 5) (dd := 1) (n := 20000) (tms := []) cm_ms_ok cm_ms_rc hNP (List.forall_mem_cons.mpr ⟨ab_CT_up ck_97 (by decide), fun _ h => absurd h List.not_mem_nil⟩) (by decide +kernel) (by decide +kernel)
/-- Reader.takeWhole@19 (96 steps) -/
def ct_140 : ab_Ct := (79, [(1, 0, [2]), (3, 0, []), (3, 1, [])], [((-2147483648), 2147483647, 0, (0, 0, []), (0, 0, [])), ((-2147483648), 2147483647, 0, (0, 0, []), (0, 0, []))], [(2, 0, (1, 0, [1])), (2, 7, (1, 0, [19]))], [(2, [2, 3, 4, 5, 6, 9])], [([(3, 2, [])], [((-2147483648), 2147483647, 0, (0, 0, []), (0, 0, [])), ((-2147483648), 2147483647, 0, (0, 0, []), (0, 0, [])), ((-2147483648), 2147483647, 0, (0, 0, []), (0, 0, []))], [])])
set_option maxRecDepth 1000000 in
theorem ck_140 : ab_CT cm_ms hp hN 7 ct_140 := ab_chk_ok (us := [ct_98]) (inl := inl0) (d := 5) (dd := 1) (n := 20000) (tms := []) cm_ms_ok cm_ms_rc hNP (List.forall_mem_cons.mpr ⟨ab_CT_up ck_98 (by decide), fun _ h => absurd h List.not_mem_nil⟩) (by decide +kernel) (by decide +kernel)
/-- Reader.readTown@6 (34 steps) -/
def ct_141 : ab_Ct := (70, [(1, 0, [2])], [], [(2, 0, (1, 0, [1])), (2, 7, (1, 0, [6]))], [(2, [2, 3, 4, 5, 6, 8, 9]), (6, [0, 1, 2])], [([], [], [])])
set_option maxRecDepth 1000000 in
theorem ck_141 : ab_CT cm_ms hp hN 9 ct_141 := ab_chk_ok (us := [ct_115, ct_117, ct_119, ct_139]) (inl := inl0) (d := 8) (dd := 0) (n := 20000) (tms := []) cm_ms_ok cm_ms_rc hNP (List.forall_mem_cons.mpr ⟨ab_CT_up ck_115 (by decide), List.forall_mem_cons.mpr ⟨ab_CT_up ck_117 (by decide), List.forall_mem_cons.mpr ⟨ab_CT_up ck_119 (by decide), List.forall_mem_cons.mpr ⟨ab_CT_up ck_139 (by decide), fun _ h => absurd h List.not_mem_nil⟩⟩⟩⟩) (by decide +kernel) (by decide +kernel)
/-- Reader.readTown@19 (34 steps) -/
def ct_142 : ab_Ct := (70, [(1, 0, [2])], [], [(2, 0, (1, 0, [1])), (2, 7, (1, 0, [19]))], [(2, [2, 3, 4, 5, 6, 8, 9]), (19, [0, 1, 2])], [([], [], [])])
set_option maxRecDepth 1000000 in
theorem ck_142 : ab_CT cm_ms hp hN 9 ct_142 := ab_chk_ok (us := [ct_116, ct_118, ct_120, ct_140]) (inl := inl0) (d := 8) (dd := 0) (n := 20000) (tms := []) cm_ms_ok cm_ms_rc hNP (List.forall_mem_cons.mpr ⟨ab_CT_up ck_116 (by decide), List.forall_mem_cons.mpr ⟨ab_CT_up ck_118 (by decide), List.forall_mem_cons.mpr ⟨ab_CT_up ck_120 (by decide), List.forall_mem_cons.mpr ⟨ab_CT_up ck_140 (by decide), fun _ h => absurd h List.not_mem_nil⟩⟩⟩⟩) (by decide +kernel) (by decide +kernel)
/-- Reader.nameHere (26 steps) -/
def ct_143 : ab_Ct := (82, [(1, 0, [2])], [], [], [], [([(3, 0, [])], [((-1), 15, 0, (0, 0, []), (0, 0, []))], [])])
set_option maxRecDepth 1000000 in
theorem ck_143 : ab_CT cm_ms hp hN 1 ct_143 := ab_chk_ok (us := []) (inl := inl0) (d := 0) (dd := 0) (n := 20000) (tms := [((2, [(0, (1, 0, [2])), (1, (3, 0, []))], [], [(0, 16, 0, (0, 0, []), (0, 0, []))], []), [(0, 1, (0, 0, [])), ((-1), 2147483648, (3, 0, []))])]) cm_ms_ok cm_ms_rc hNP (fun _ h => absurd h List.not_mem_nil) (by decide +kernel) (by decide +kernel)
/-- Reader.lineHere (135 steps) -/
def ct_144 : ab_Ct := (84, [(1, 0, [2])], [], [], [], [([(0, (-1), [])], [], []), ([(0, 0, [])], [], []), ([(0, 1, [])], [], []), ([(0, 2, [])], [], []), ([(0, 3, [])], [], []), ([(0, 4, [])], [], []), ([(0, 5, [])], [], []), ([(0, 6, [])], [], []), ([(0, 7, [])], [], [])])
set_option maxRecDepth 1000000 in
theorem ck_144 : ab_CT cm_ms hp hN 8 ct_144 := ab_chk_ok (us := [ct_73, ct_74, ct_75, ct_76, ct_77, ct_78, ct_79, ct_80]) (inl := inl0) (d := 6) (dd := 1) (n := 20000) (tms := []) cm_ms_ok cm_ms_rc hNP (List.forall_mem_cons.mpr ⟨ab_CT_up ck_73 (by decide), List.forall_mem_cons.mpr ⟨ab_CT_up ck_74 (by decide), List.forall_mem_cons.mpr ⟨ab_CT_up ck_75 (by decide), List.forall_mem_cons.mpr ⟨ab_CT_up ck_76 (by decide), List.forall_mem_cons.mpr ⟨ab_CT_up ck_77 (by decide), List.forall_mem_cons.mpr ⟨ab_CT_up ck_78 (by decide), List.forall_mem_cons.mpr ⟨ab_CT_up ck_79 (by decide), List.forall_mem_cons.mpr ⟨ab_CT_up ck_80 (by decide), fun _ h => absurd h List.not_mem_nil⟩⟩⟩⟩⟩⟩⟩⟩) (by decide +kernel) (by decide +kernel)
/-- Reader.takeNewName@1@6 BY HAND -/
def ct_145 : ab_Ct := (80, [(1, 0, [2]), (0, 1, []), (3, 0, [])], [(0, 5, 0, (0, 0, []), (0, 0, []))], [(2, 0, (1, 0, [1])), (2, 7, (1, 0, [6]))], [(2, [2, 3, 4, 5, 6, 9, 10]), (3, []), (4, []), (5, [])], [([], [(0, 5, 0, (0, 0, []), (0, 0, []))], [])])
theorem ck_145 : ab_CT cm_ms hp hN 40 ct_145 := sorry
/-- Reader.takeNewName@1@19 BY HAND -/
def ct_146 : ab_Ct := (80, [(1, 0, [2]), (0, 1, []), (3, 0, [])], [(0, 5, 0, (0, 0, []), (0, 0, []))], [(2, 0, (1, 0, [1])), (2, 7, (1, 0, [19]))], [(2, [2, 3, 4, 5, 6, 9, 10]), (3, []), (4, []), (5, [])], [([], [(0, 5, 0, (0, 0, []), (0, 0, []))], [])])
theorem ck_146 : ab_CT cm_ms hp hN 40 ct_146 := sorry
/-- Reader.takeNewName@2@6 BY HAND -/
def ct_147 : ab_Ct := (80, [(1, 0, [2]), (0, 2, []), (3, 0, [])], [(0, 4, 0, (0, 0, []), (0, 0, []))], [(2, 0, (1, 0, [1])), (2, 7, (1, 0, [6]))], [(2, [2, 3, 4, 5, 6, 9, 10]), (3, []), (4, []), (5, [])], [([], [(0, 4, 0, (0, 0, []), (0, 0, []))], [])])
theorem ck_147 : ab_CT cm_ms hp hN 40 ct_147 := sorry
/-- Reader.takeNewName@2@19 BY HAND -/
def ct_148 : ab_Ct := (80, [(1, 0, [2]), (0, 2, []), (3, 0, [])], [(0, 4, 0, (0, 0, []), (0, 0, []))], [(2, 0, (1, 0, [1])), (2, 7, (1, 0, [19]))], [(2, [2, 3, 4, 5, 6, 9, 10]), (3, []), (4, []), (5, [])], [([], [(0, 4, 0, (0, 0, []), (0, 0, []))], [])])
theorem ck_148 : ab_CT cm_ms hp hN 40 ct_148 := sorry
/-- Reader.takeNewName@6@6 BY HAND -/
def ct_149 : ab_Ct := (80, [(1, 0, [2]), (0, 6, []), (3, 0, [])], [(0, 4, 0, (0, 0, []), (0, 0, []))], [(2, 0, (1, 0, [1])), (2, 7, (1, 0, [6]))], [(2, [2, 3, 4, 5, 6, 9, 10]), (3, []), (4, []), (5, [])], [([], [(0, 4, 0, (0, 0, []), (0, 0, []))], [])])
theorem ck_149 : ab_CT cm_ms hp hN 40 ct_149 := sorry
/-- Reader.takeNewName@6@19 BY HAND -/
def ct_150 : ab_Ct := (80, [(1, 0, [2]), (0, 6, []), (3, 0, [])], [(0, 4, 0, (0, 0, []), (0, 0, []))], [(2, 0, (1, 0, [1])), (2, 7, (1, 0, [19]))], [(2, [2, 3, 4, 5, 6, 9, 10]), (3, []), (4, []), (5, [])], [([], [(0, 4, 0, (0, 0, []), (0, 0, []))], [])])
theorem ck_150 : ab_CT cm_ms hp hN 40 ct_150 := sorry
/-- Reader.colourHere (33 steps) -/
def ct_151 : ab_Ct := (83, [(1, 0, [2])], [], [], [(2, [9])], [([(3, 0, [])], [((-1), 2, 0, (0, 0, []), (0, 0, []))], [])])
set_option maxRecDepth 1000000 in
theorem ck_151 : ab_CT cm_ms hp hN 8 ct_151 := ab_chk_ok (us := [ct_84, ct_85, ct_86]) (inl := inl0) (d := 6) (dd := 1) (n := 20000) (tms := []) cm_ms_ok cm_ms_rc hNP (List.forall_mem_cons.mpr ⟨ab_CT_up ck_84 (by decide), List.forall_mem_cons.mpr ⟨ab_CT_up ck_85 (by decide), List.forall_mem_cons.mpr ⟨ab_CT_up ck_86 (by decide), fun _ h => absurd h List.not_mem_nil⟩⟩⟩) (by decide +kernel) (by decide +kernel)
/-- Reader.readMan@6 (38 steps) -/
def ct_152 : ab_Ct := (71, [(1, 0, [2])], [(0, 5, 0, (0, 0, []), (0, 0, []))], [(2, 0, (1, 0, [1])), (2, 7, (1, 0, [6])), (6, 3, (3, 0, []))], [(2, [2, 3, 4, 5, 6, 9, 10]), (3, []), (4, []), (5, []), (6, [3]), (7, []), (8, []), (9, []), (10, []), (11, [])], [([], [(0, 5, 0, (0, 0, []), (0, 0, []))], [])])
set_option maxRecDepth 1000000 in
theorem ck_152 : ab_CT cm_ms hp hN 41 ct_152 := ab_chk_ok (us := [ct_3, ct_97, ct_127, ct_129, ct_139, ct_145, ct_151]) (inl := inl0) (d := 40) (dd := 0) (n := 20000) (tms := []) cm_ms_ok cm_ms_rc hNP (List.forall_mem_cons.mpr ⟨ab_CT_up ck_3 (by decide), List.forall_mem_cons.mpr ⟨ab_CT_up ck_97 (by decide), List.forall_mem_cons.mpr ⟨ab_CT_up ck_127 (by decide), List.forall_mem_cons.mpr ⟨ab_CT_up ck_129 (by decide), List.forall_mem_cons.mpr ⟨ab_CT_up ck_139 (by decide), List.forall_mem_cons.mpr ⟨ab_CT_up ck_145 (by decide), List.forall_mem_cons.mpr ⟨ab_CT_up ck_151 (by decide), fun _ h => absurd h List.not_mem_nil⟩⟩⟩⟩⟩⟩⟩) (by decide +kernel) (by decide +kernel)
/-- Reader.readMan@19 (38 steps) -/
def ct_153 : ab_Ct := (71, [(1, 0, [2])], [(0, 5, 0, (0, 0, []), (0, 0, []))], [(2, 0, (1, 0, [1])), (2, 7, (1, 0, [19])), (19, 3, (3, 0, []))], [(2, [2, 3, 4, 5, 6, 9, 10]), (3, []), (4, []), (5, []), (19, [3]), (20, []), (21, []), (22, []), (23, []), (24, [])], [([], [(0, 5, 0, (0, 0, []), (0, 0, []))], [])])
set_option maxRecDepth 1000000 in
theorem ck_153 : ab_CT cm_ms hp hN 41 ct_153 := ab_chk_ok (us := [ct_4, ct_98, ct_128, ct_130, ct_140, ct_146, ct_151]) (inl := inl0) (d := 40) (dd := 0) (n := 20000) (tms := []) cm_ms_ok cm_ms_rc hNP (List.forall_mem_cons.mpr ⟨ab_CT_up ck_4 (by decide), List.forall_mem_cons.mpr ⟨ab_CT_up ck_98 (by decide), List.forall_mem_cons.mpr ⟨ab_CT_up ck_128 (by decide), List.forall_mem_cons.mpr ⟨ab_CT_up ck_130 (by decide), List.forall_mem_cons.mpr ⟨ab_CT_up ck_140 (by decide), List.forall_mem_cons.mpr ⟨ab_CT_up ck_146 (by decide), List.forall_mem_cons.mpr ⟨ab_CT_up ck_151 (by decide), fun _ h => absurd h List.not_mem_nil⟩⟩⟩⟩⟩⟩⟩) (by decide +kernel) (by decide +kernel)
/-- Reader.readMotion@6 (41 steps) -/
def ct_154 : ab_Ct := (72, [(1, 0, [2])], [(0, 4, 0, (0, 0, []), (0, 0, []))], [(2, 0, (1, 0, [1])), (2, 7, (1, 0, [6])), (6, 9, (3, 0, []))], [(2, [2, 3, 4, 5, 6, 9, 10]), (3, []), (4, []), (5, []), (6, [9]), (12, []), (13, []), (14, []), (15, [])], [([], [(0, 4, 0, (0, 0, []), (0, 0, []))], [])])
set_option maxRecDepth 1000000 in
theorem ck_154 : ab_CT cm_ms hp hN 41 ct_154 := ab_chk_ok (us := [ct_5, ct_131, ct_133, ct_135, ct_139, ct_147]) (inl := inl0) (d := 40) (dd := 0) (n := 20000) (tms := []) cm_ms_ok cm_ms_rc hNP (List.forall_mem_cons.mpr ⟨ab_CT_up ck_5 (by decide), List.forall_mem_cons.mpr ⟨ab_CT_up ck_131 (by decide), List.forall_mem_cons.mpr ⟨ab_CT_up ck_133 (by decide), List.forall_mem_cons.mpr ⟨ab_CT_up ck_135 (by decide), List.forall_mem_cons.mpr ⟨ab_CT_up ck_139 (by decide), List.forall_mem_cons.mpr ⟨ab_CT_up ck_147 (by decide), fun _ h => absurd h List.not_mem_nil⟩⟩⟩⟩⟩⟩) (by decide +kernel) (by decide +kernel)
/-- Reader.readMotion@19 (41 steps) -/
def ct_155 : ab_Ct := (72, [(1, 0, [2])], [(0, 4, 0, (0, 0, []), (0, 0, []))], [(2, 0, (1, 0, [1])), (2, 7, (1, 0, [19])), (19, 9, (3, 0, []))], [(2, [2, 3, 4, 5, 6, 9, 10]), (3, []), (4, []), (5, []), (19, [9]), (25, []), (26, []), (27, []), (28, [])], [([], [(0, 4, 0, (0, 0, []), (0, 0, []))], [])])
set_option maxRecDepth 1000000 in
theorem ck_155 : ab_CT cm_ms hp hN 41 ct_155 := ab_chk_ok (us := [ct_6, ct_132, ct_134, ct_136, ct_140, ct_148]) (inl := inl0) (d := 40) (dd := 0) (n := 20000) (tms := []) cm_ms_ok cm_ms_rc hNP (List.forall_mem_cons.mpr ⟨ab_CT_up ck_6 (by decide), List.forall_mem_cons.mpr ⟨ab_CT_up ck_132 (by decide), List.forall_mem_cons.mpr ⟨ab_CT_up ck_134 (by decide), List.forall_mem_cons.mpr ⟨ab_CT_up ck_136 (by decide), List.forall_mem_cons.mpr ⟨ab_CT_up ck_140 (by decide), List.forall_mem_cons.mpr ⟨ab_CT_up ck_148 (by decide), fun _ h => absurd h List.not_mem_nil⟩⟩⟩⟩⟩⟩) (by decide +kernel) (by decide +kernel)
/-- Reader.toldHere@1 BY HAND -/
def ct_156 : ab_Ct := (81, [(1, 0, [2]), (0, 1, [])], [], [], [(2, [9])], [([(3, 0, [])], [((-1), 5, 0, (0, 0, []), (0, 0, []))], [])])
theorem ck_156 : ab_CT cm_ms hp hN 40 ct_156 := sorry
/-- Reader.toldHere@2 BY HAND -/
def ct_157 : ab_Ct := (81, [(1, 0, [2]), (0, 2, [])], [], [], [(2, [9])], [([(3, 0, [])], [((-1), 4, 0, (0, 0, []), (0, 0, []))], [])])
theorem ck_157 : ab_CT cm_ms hp hN 40 ct_157 := sorry
/-- Reader.readAgainst@6 (55 steps) -/
def ct_158 : ab_Ct := (73, [(1, 0, [2])], [], [(2, 0, (1, 0, [1])), (2, 7, (1, 0, [6]))], [(2, [2, 3, 4, 5, 6, 9]), (10, [])], [([], [], [])])
set_option maxRecDepth 1000000 in
theorem ck_158 : ab_CT cm_ms hp hN 42 ct_158 := ab_chk_ok (us := [ct_97, ct_156, ct_157]) (inl := inl0) (d := 40) (dd := 1) (n := 20000) (tms := []) cm_ms_ok cm_ms_rc hNP (List.forall_mem_cons.mpr ⟨ab_CT_up ck_97 (by decide), List.forall_mem_cons.mpr ⟨ab_CT_up ck_156 (by decide), List.forall_mem_cons.mpr ⟨ab_CT_up ck_157 (by decide), fun _ h => absurd h List.not_mem_nil⟩⟩⟩) (by decide +kernel) (by decide +kernel)
/-- Reader.readAgainst@19 (55 steps) -/
def ct_159 : ab_Ct := (73, [(1, 0, [2])], [], [(2, 0, (1, 0, [1])), (2, 7, (1, 0, [19]))], [(2, [2, 3, 4, 5, 6, 9]), (23, [])], [([], [], [])])
set_option maxRecDepth 1000000 in
theorem ck_159 : ab_CT cm_ms hp hN 42 ct_159 := ab_chk_ok (us := [ct_98, ct_156, ct_157]) (inl := inl0) (d := 40) (dd := 1) (n := 20000) (tms := []) cm_ms_ok cm_ms_rc hNP (List.forall_mem_cons.mpr ⟨ab_CT_up ck_98 (by decide), List.forall_mem_cons.mpr ⟨ab_CT_up ck_156 (by decide), List.forall_mem_cons.mpr ⟨ab_CT_up ck_157 (by decide), fun _ h => absurd h List.not_mem_nil⟩⟩⟩) (by decide +kernel) (by decide +kernel)
/-- Reader.readAmends@6 (75 steps) -/
def ct_160 : ab_Ct := (74, [(1, 0, [2])], [], [(2, 0, (1, 0, [1])), (2, 7, (1, 0, [6]))], [(2, [2, 3, 4, 5, 6, 9]), (15, [1, 2, 3, 4])], [([], [], [])])
set_option maxRecDepth 1000000 in
theorem ck_160 : ab_CT cm_ms hp hN 42 ct_160 := ab_chk_ok (us := [ct_97, ct_157]) (inl := inl0) (d := 40) (dd := 1) (n := 20000) (tms := []) cm_ms_ok cm_ms_rc hNP (List.forall_mem_cons.mpr ⟨ab_CT_up ck_97 (by decide), List.forall_mem_cons.mpr ⟨ab_CT_up ck_157 (by decide), fun _ h => absurd h List.not_mem_nil⟩⟩) (by decide +kernel) (by decide +kernel)
/-- Reader.readAmends@19 (75 steps) -/
def ct_161 : ab_Ct := (74, [(1, 0, [2])], [], [(2, 0, (1, 0, [1])), (2, 7, (1, 0, [19]))], [(2, [2, 3, 4, 5, 6, 9]), (28, [1, 2, 3, 4])], [([], [], [])])
set_option maxRecDepth 1000000 in
theorem ck_161 : ab_CT cm_ms hp hN 42 ct_161 := ab_chk_ok (us := [ct_98, ct_157]) (inl := inl0) (d := 40) (dd := 1) (n := 20000) (tms := []) cm_ms_ok cm_ms_rc hNP (List.forall_mem_cons.mpr ⟨ab_CT_up ck_98 (by decide), List.forall_mem_cons.mpr ⟨ab_CT_up ck_157 (by decide), fun _ h => absurd h List.not_mem_nil⟩⟩) (by decide +kernel) (by decide +kernel)
/-- Reader.readQuarrel@6 (82 steps) -/
def ct_162 : ab_Ct := (75, [(1, 0, [2])], [], [(2, 0, (1, 0, [1])), (2, 7, (1, 0, [6]))], [(2, [2, 3, 4, 5, 6, 9]), (11, [])], [([], [], [])])
set_option maxRecDepth 1000000 in
theorem ck_162 : ab_CT cm_ms hp hN 42 ct_162 := ab_chk_ok (us := [ct_97, ct_156]) (inl := inl0) (d := 40) (dd := 1) (n := 20000) (tms := []) cm_ms_ok cm_ms_rc hNP (List.forall_mem_cons.mpr ⟨ab_CT_up ck_97 (by decide), List.forall_mem_cons.mpr ⟨ab_CT_up ck_156 (by decide), fun _ h => absurd h List.not_mem_nil⟩⟩) (by decide +kernel) (by decide +kernel)
/-- Reader.readQuarrel@19 (82 steps) -/
def ct_163 : ab_Ct := (75, [(1, 0, [2])], [], [(2, 0, (1, 0, [1])), (2, 7, (1, 0, [19]))], [(2, [2, 3, 4, 5, 6, 9]), (24, [])], [([], [], [])])
set_option maxRecDepth 1000000 in
theorem ck_163 : ab_CT cm_ms hp hN 42 ct_163 := ab_chk_ok (us := [ct_98, ct_156]) (inl := inl0) (d := 40) (dd := 1) (n := 20000) (tms := []) cm_ms_ok cm_ms_rc hNP (List.forall_mem_cons.mpr ⟨ab_CT_up ck_98 (by decide), List.forall_mem_cons.mpr ⟨ab_CT_up ck_156 (by decide), fun _ h => absurd h List.not_mem_nil⟩⟩) (by decide +kernel) (by decide +kernel)
/-- Reader.readChair@6 (23 steps) -/
def ct_164 : ab_Ct := (76, [(1, 0, [2])], [(0, 4, 0, (0, 0, []), (0, 0, []))], [(2, 0, (1, 0, [1])), (2, 7, (1, 0, [6])), (6, 15, (3, 0, []))], [(2, [2, 3, 4, 5, 6, 9, 10]), (3, []), (4, []), (5, []), (6, [15]), (17, [])], [([], [(0, 4, 0, (0, 0, []), (0, 0, []))], [])])
set_option maxRecDepth 1000000 in
theorem ck_164 : ab_CT cm_ms hp hN 41 ct_164 := ab_chk_ok (us := [ct_7, ct_137, ct_139, ct_149]) (inl := inl0) (d := 40) (dd := 0) (n := 20000) (tms := []) cm_ms_ok cm_ms_rc hNP (List.forall_mem_cons.mpr ⟨ab_CT_up ck_7 (by decide), List.forall_mem_cons.mpr ⟨ab_CT_up ck_137 (by decide), List.forall_mem_cons.mpr ⟨ab_CT_up ck_139 (by decide), List.forall_mem_cons.mpr ⟨ab_CT_up ck_149 (by decide), fun _ h => absurd h List.not_mem_nil⟩⟩⟩⟩) (by decide +kernel) (by decide +kernel)
/-- Reader.readChair@19 (23 steps) -/
def ct_165 : ab_Ct := (76, [(1, 0, [2])], [(0, 4, 0, (0, 0, []), (0, 0, []))], [(2, 0, (1, 0, [1])), (2, 7, (1, 0, [19])), (19, 15, (3, 0, []))], [(2, [2, 3, 4, 5, 6, 9, 10]), (3, []), (4, []), (5, []), (19, [15]), (30, [])], [([], [(0, 4, 0, (0, 0, []), (0, 0, []))], [])])
set_option maxRecDepth 1000000 in
theorem ck_165 : ab_CT cm_ms hp hN 41 ct_165 := ab_chk_ok (us := [ct_8, ct_138, ct_140, ct_150]) (inl := inl0) (d := 40) (dd := 0) (n := 20000) (tms := []) cm_ms_ok cm_ms_rc hNP (List.forall_mem_cons.mpr ⟨ab_CT_up ck_8 (by decide), List.forall_mem_cons.mpr ⟨ab_CT_up ck_138 (by decide), List.forall_mem_cons.mpr ⟨ab_CT_up ck_140 (by decide), List.forall_mem_cons.mpr ⟨ab_CT_up ck_150 (by decide), fun _ h => absurd h List.not_mem_nil⟩⟩⟩⟩) (by decide +kernel) (by decide +kernel)
/-- Reader.readHeap@6 (58 steps) -/
def ct_166 : ab_Ct := (77, [(1, 0, [2])], [], [(2, 0, (1, 0, [1])), (2, 7, (1, 0, [6]))], [(2, [2, 3, 4, 5, 6, 9]), (6, [18]), (18, [])], [([], [], [])])
set_option maxRecDepth 1000000 in
theorem ck_166 : ab_CT cm_ms hp hN 10 ct_166 := ab_chk_ok (us := [ct_97, ct_139, ct_151]) (inl := inl0) (d := 8) (dd := 1) (n := 20000) (tms := []) cm_ms_ok cm_ms_rc hNP (List.forall_mem_cons.mpr ⟨ab_CT_up ck_97 (by decide), List.forall_mem_cons.mpr ⟨ab_CT_up ck_139 (by decide), List.forall_mem_cons.mpr ⟨ab_CT_up ck_151 (by decide), fun _ h => absurd h List.not_mem_nil⟩⟩⟩) (by decide +kernel) (by decide +kernel)
/-- Reader.readHeap@19 (58 steps) -/
def ct_167 : ab_Ct := (77, [(1, 0, [2])], [], [(2, 0, (1, 0, [1])), (2, 7, (1, 0, [19]))], [(2, [2, 3, 4, 5, 6, 9]), (19, [18]), (31, [])], [([], [], [])])
set_option maxRecDepth 1000000 in
theorem ck_167 : ab_CT cm_ms hp hN 10 ct_167 := ab_chk_ok (us := [ct_98, ct_140, ct_151]) (inl := inl0) (d := 8) (dd := 1) (n := 20000) (tms := []) cm_ms_ok cm_ms_rc hNP (List.forall_mem_cons.mpr ⟨ab_CT_up ck_98 (by decide), List.forall_mem_cons.mpr ⟨ab_CT_up ck_140 (by decide), List.forall_mem_cons.mpr ⟨ab_CT_up ck_151 (by decide), fun _ h => absurd h List.not_mem_nil⟩⟩⟩) (by decide +kernel) (by decide +kernel)
/-- Reader.readLine@6 (769 steps) -/
def ct_168 : ab_Ct := (67, [(1, 0, [2])], [], [(2, 0, (1, 0, [1])), (2, 7, (1, 0, [6]))], [(2, [2, 3, 4, 5, 6, 8, 9, 10]), (3, []), (4, []), (5, []), (6, [0, 1, 2, 3, 9, 15, 18]), (7, []), (8, []), (9, []), (10, []), (11, []), (12, []), (13, []), (14, []), (15, []), (17, []), (18, [])], [([], [], [])])
set_option maxRecDepth 1000000 in
theorem ck_168 : ab_CT cm_ms hp hN 44 ct_168 := ab_chk_ok (us := [ct_9, ct_11, ct_15, ct_97, ct_141, ct_144, ct_152, ct_154, ct_158, ct_160, ct_162, ct_164, ct_166]) (inl := inl0) (d := 42) (dd := 1) (n := 20000) (tms := []) cm_ms_ok cm_ms_rc hNP (List.forall_mem_cons.mpr ⟨ab_CT_up ck_9 (by decide), List.forall_mem_cons.mpr ⟨ab_CT_up ck_11 (by decide), List.forall_mem_cons.mpr ⟨ab_CT_up ck_15 (by decide), List.forall_mem_cons.mpr ⟨ab_CT_up ck_97 (by decide), List.forall_mem_cons.mpr ⟨ab_CT_up ck_141 (by decide), List.forall_mem_cons.mpr ⟨ab_CT_up ck_144 (by decide), List.forall_mem_cons.mpr ⟨ab_CT_up ck_152 (by decide), List.forall_mem_cons.mpr ⟨ab_CT_up ck_154 (by decide), List.forall_mem_cons.mpr ⟨ab_CT_up ck_158 (by decide), List.forall_mem_cons.mpr ⟨ab_CT_up ck_160 (by decide), List.forall_mem_cons.mpr ⟨ab_CT_up ck_162 (by decide), List.forall_mem_cons.mpr ⟨ab_CT_up ck_164 (by decide), List.forall_mem_cons.mpr ⟨ab_CT_up ck_166 (by decide), fun _ h => absurd h List.not_mem_nil⟩⟩⟩⟩⟩⟩⟩⟩⟩⟩⟩⟩⟩) (by decide +kernel) (by decide +kernel)
/-- Reader.readLine@19 (769 steps) -/
def ct_169 : ab_Ct := (67, [(1, 0, [2])], [], [(2, 0, (1, 0, [1])), (2, 7, (1, 0, [19]))], [(2, [2, 3, 4, 5, 6, 8, 9, 10]), (3, []), (4, []), (5, []), (19, [0, 1, 2, 3, 9, 15, 18]), (20, []), (21, []), (22, []), (23, []), (24, []), (25, []), (26, []), (27, []), (28, []), (30, []), (31, [])], [([], [], [])])
set_option maxRecDepth 1000000 in
theorem ck_169 : ab_CT cm_ms hp hN 44 ct_169 := ab_chk_ok (us := [ct_9, ct_11, ct_15, ct_98, ct_142, ct_144, ct_153, ct_155, ct_159, ct_161, ct_163, ct_165, ct_167]) (inl := inl0) (d := 42) (dd := 1) (n := 20000) (tms := []) cm_ms_ok cm_ms_rc hNP (List.forall_mem_cons.mpr ⟨ab_CT_up ck_9 (by decide), List.forall_mem_cons.mpr ⟨ab_CT_up ck_11 (by decide), List.forall_mem_cons.mpr ⟨ab_CT_up ck_15 (by decide), List.forall_mem_cons.mpr ⟨ab_CT_up ck_98 (by decide), List.forall_mem_cons.mpr ⟨ab_CT_up ck_142 (by decide), List.forall_mem_cons.mpr ⟨ab_CT_up ck_144 (by decide), List.forall_mem_cons.mpr ⟨ab_CT_up ck_153 (by decide), List.forall_mem_cons.mpr ⟨ab_CT_up ck_155 (by decide), List.forall_mem_cons.mpr ⟨ab_CT_up ck_159 (by decide), List.forall_mem_cons.mpr ⟨ab_CT_up ck_161 (by decide), List.forall_mem_cons.mpr ⟨ab_CT_up ck_163 (by decide), List.forall_mem_cons.mpr ⟨ab_CT_up ck_165 (by decide), List.forall_mem_cons.mpr ⟨ab_CT_up ck_167 (by decide), fun _ h => absurd h List.not_mem_nil⟩⟩⟩⟩⟩⟩⟩⟩⟩⟩⟩⟩⟩) (by decide +kernel) (by decide +kernel)
/-- Reader.read@6 (215 steps) -/
def ct_170 : ab_Ct := (64, [(1, 0, [2]), (1, 0, [1]), (3, 0, []), (1, 0, [6])], [(0, 900, 0, (0, 0, []), (0, 0, []))], [], [(2, [0, 1, 2, 3, 4, 5, 6, 7, 8, 9, 10]), (3, []), (4, []), (5, []), (6, [0, 1, 2, 3, 9, 15, 18]), (7, []), (8, []), (9, []), (10, []), (11, []), (12, []), (13, []), (14, []), (15, []), (17, []), (18, [])], [([(3, 1, [])], [(0, 900, 0, (0, 0, []), (0, 0, [])), (0, 7, 0, (0, 0, []), (0, 0, []))], [])])
set_option maxRecDepth 1000000 in
theorem ck_170 : ab_CT cm_ms hp hN 46 ct_170 := ab_chk_ok (us := [ct_1, ct_97, ct_168]) (inl := inl0) (d := 44) (dd := 1) (n := 20000) (tms := [((58, [(0, (1, 0, [2])), (4, (3, 1, []))], [], [(0, 900, 0, (0, 0, []), (0, 0, [])), (0, 900, 0, (0, 0, []), (0, 0, [])), (0, 900, 0, (0, 0, []), (0, 0, []))], [(2, 0, (1, 0, [1])), (2, 1, (3, 2, [])), (2, 7, (1, 0, [6]))]), [(0, 1, (0, 0, [])), ((-1), 2147483648, (3, 1, []))])]) cm_ms_ok cm_ms_rc hNP (List.forall_mem_cons.mpr ⟨ab_CT_up ck_1 (by decide), List.forall_mem_cons.mpr ⟨ab_CT_up ck_97 (by decide), List.forall_mem_cons.mpr ⟨ab_CT_up ck_168 (by decide), fun _ h => absurd h List.not_mem_nil⟩⟩⟩) (by decide +kernel) (by decide +kernel)
/-- Reader.read@19 (215 steps) -/
def ct_171 : ab_Ct := (64, [(1, 0, [2]), (1, 0, [1]), (3, 0, []), (1, 0, [19])], [(0, 900, 0, (0, 0, []), (0, 0, []))], [], [(2, [0, 1, 2, 3, 4, 5, 6, 7, 8, 9, 10]), (3, []), (4, []), (5, []), (19, [0, 1, 2, 3, 9, 15, 18]), (20, []), (21, []), (22, []), (23, []), (24, []), (25, []), (26, []), (27, []), (28, []), (30, []), (31, [])], [([(3, 1, [])], [(0, 900, 0, (0, 0, []), (0, 0, [])), (0, 7, 0, (0, 0, []), (0, 0, []))], [])])
set_option maxRecDepth 1000000 in
theorem ck_171 : ab_CT cm_ms hp hN 46 ct_171 := ab_chk_ok (us := [ct_2, ct_98, ct_169]) (inl := inl0) (d := 44) (dd := 1) (n := 20000) (tms := [((58, [(0, (1, 0, [2])), (4, (3, 1, []))], [], [(0, 900, 0, (0, 0, []), (0, 0, [])), (0, 900, 0, (0, 0, []), (0, 0, [])), (0, 900, 0, (0, 0, []), (0, 0, []))], [(2, 0, (1, 0, [1])), (2, 1, (3, 2, [])), (2, 7, (1, 0, [19]))]), [(0, 1, (0, 0, [])), ((-1), 2147483648, (3, 1, []))])]) cm_ms_ok cm_ms_rc hNP (List.forall_mem_cons.mpr ⟨ab_CT_up ck_2 (by decide), List.forall_mem_cons.mpr ⟨ab_CT_up ck_98 (by decide), List.forall_mem_cons.mpr ⟨ab_CT_up ck_169 (by decide), fun _ h => absurd h List.not_mem_nil⟩⟩⟩) (by decide +kernel) (by decide +kernel)
/-- .store (101 steps) -/
def ct_172 : ab_Ct := (94, [(1, 0, [0]), (3, 0, [])], [((-2147483648), 2147483647, 0, (0, 0, []), (0, 0, []))], [], [(0, [1]), (1, [])], [([], [((-2147483648), 2147483647, 0, (0, 0, []), (0, 0, []))], [])])
set_option maxRecDepth 1000000 in
theorem ck_172 : ab_CT cm_ms hp hN 1 ct_172 := ab_chk_ok (us := []) (inl := inl0) (d := 0) (dd := 0) (n := 20000) (tms := []) cm_ms_ok cm_ms_rc hNP (fun _ h => absurd h List.not_mem_nil) (by decide +kernel) (by decide +kernel)
/-- .feed (26 steps) -/
def ct_173 : ab_Ct := (93, [(1, 0, [0]), (3, 0, []), (3, 1, []), (3, 2, []), (3, 3, []), (3, 4, [])], [((-2147483648), 2147483647, 0, (0, 0, []), (0, 0, [])), ((-2147483648), 2147483647, 0, (0, 0, []), (0, 0, [])), ((-2147483648), 2147483647, 0, (0, 0, []), (0, 0, [])), ((-2147483648), 2147483647, 0, (0, 0, []), (0, 0, [])), ((-2147483648), 2147483647, 0, (0, 0, []), (0, 0, []))], [], [(0, [1]), (1, [])], [([(3, 5, [])], [((-2147483648), 2147483647, 0, (0, 0, []), (0, 0, [])), ((-2147483648), 2147483647, 0, (0, 0, []), (0, 0, [])), ((-2147483648), 2147483647, 0, (0, 0, []), (0, 0, [])), ((-2147483648), 2147483647, 0, (0, 0, []), (0, 0, [])), ((-2147483648), 2147483647, 0, (0, 0, []), (0, 0, [])), ((-1), 900, 0, (0, 0, []), (0, 0, []))], [])])
set_option maxRecDepth 1000000 in
theorem ck_173 : ab_CT cm_ms hp hN 2 ct_173 := ab_chk_ok (us := [ct_172]) (inl := inl0) (d := 1) (dd := 0) (n := 20000) (tms := []) cm_ms_ok cm_ms_rc hNP (List.forall_mem_cons.mpr ⟨ab_CT_up ck_172 (by decide), fun _ h => absurd h List.not_mem_nil⟩) (by decide +kernel) (by decide +kernel)
/-- .town@6 (93 steps) -/
def ct_174 : ab_Ct := (95, [(1, 0, [0]), (3, 0, [])], [((-2147483648), 2147483647, 0, (0, 0, []), (0, 0, []))], [(0, 4, (1, 0, [6]))], [(0, [1, 3, 4, 12, 13, 14]), (2, [0, 1, 2, 3, 4, 5, 6, 7, 8, 9, 10]), (3, []), (4, []), (5, []), (6, [0, 1, 2, 3, 9, 15, 18]), (7, []), (8, []), (9, []), (10, []), (11, []), (12, []), (13, []), (14, []), (15, []), (17, []), (18, []), (32, [2, 3]), (33, []), (34, []), (35, [2, 3]), (36, []), (37, []), (38, [3, 4]), (41, [2, 3]), (42, []), (43, []), (44, [2, 3]), (45, []), (46, []), (47, [2, 3]), (48, []), (49, []), (50, [2, 3]), (51, []), (52, []), (53, [2, 3]), (54, []), (55, []), (56, [2, 3]), (57, []), (58, []), (59, [2, 3]), (60, []), (61, []), (62, [2, 3]), (63, []), (64, []), (65, [2, 3]), (66, []), (67, []), (68, [2, 3]), (69, []), (70, []), (71, [2, 3]), (72, []), (73, []), (74, [2, 3]), (75, []), (76, []), (77, [2, 3]), (78, []), (79, []), (80, [2, 3]), (81, []), (82, []), (83, [2, 3]), (84, []), (85, []), (86, [2, 3]), (87, []), (88, []), (89, [2, 3]), (90, []), (91, []), (92, [2, 3]), (93, []), (94, []), (95, [2, 3]), (96, []), (97, []), (100, [2, 3]), (101, []), (102, []), (103, [2, 3]), (104, []), (105, []), (106, [2, 3]), (107, []), (108, []), (109, [2, 3]), (110, []), (111, []), (112, [2, 3]), (113, []), (114, []), (120, [2, 3]), (121, []), (122, [])], [([(3, 1, [])], [((-2147483648), 2147483647, 0, (0, 0, []), (0, 0, [])), ((-1), 6, 0, (0, 0, []), (0, 0, []))], [])])
set_option maxRecDepth 1000000 in
theorem ck_174 : ab_CT cm_ms hp hN 48 ct_174 := ab_chk_ok (us := [ct_21, ct_170]) (inl := inl0) (d := 46) (dd := 1) (n := 20000) (tms := []) cm_ms_ok cm_ms_rc hNP (List.forall_mem_cons.mpr ⟨ab_CT_up ck_21 (by decide), List.forall_mem_cons.mpr ⟨ab_CT_up ck_170 (by decide), fun _ h => absurd h List.not_mem_nil⟩⟩) (by decide +kernel) (by decide +kernel)
/-- .town@19 (93 steps) -/
def ct_175 : ab_Ct := (95, [(1, 0, [0]), (3, 0, [])], [((-2147483648), 2147483647, 0, (0, 0, []), (0, 0, []))], [(0, 4, (1, 0, [19]))], [(0, [1, 3, 4, 12, 13, 14]), (2, [0, 1, 2, 3, 4, 5, 6, 7, 8, 9, 10]), (3, []), (4, []), (5, []), (19, [0, 1, 2, 3, 9, 15, 18]), (20, []), (21, []), (22, []), (23, []), (24, []), (25, []), (26, []), (27, []), (28, []), (30, []), (31, []), (32, [2, 3]), (33, []), (34, []), (35, [2, 3]), (36, []), (37, []), (38, [3, 4]), (41, [2, 3]), (42, []), (43, []), (44, [2, 3]), (45, []), (46, []), (47, [2, 3]), (48, []), (49, []), (50, [2, 3]), (51, []), (52, []), (53, [2, 3]), (54, []), (55, []), (56, [2, 3]), (57, []), (58, []), (59, [2, 3]), (60, []), (61, []), (62, [2, 3]), (63, []), (64, []), (65, [2, 3]), (66, []), (67, []), (68, [2, 3]), (69, []), (70, []), (71, [2, 3]), (72, []), (73, []), (74, [2, 3]), (75, []), (76, []), (77, [2, 3]), (78, []), (79, []), (80, [2, 3]), (81, []), (82, []), (83, [2, 3]), (84, []), (85, []), (86, [2, 3]), (87, []), (88, []), (89, [2, 3]), (90, []), (91, []), (92, [2, 3]), (93, []), (94, []), (95, [2, 3]), (96, []), (97, []), (100, [2, 3]), (101, []), (102, []), (103, [2, 3]), (104, []), (105, []), (106, [2, 3]), (107, []), (108, []), (109, [2, 3]), (110, []), (111, []), (112, [2, 3]), (113, []), (114, []), (120, [2, 3]), (121, []), (122, [])], [([(3, 1, [])], [((-2147483648), 2147483647, 0, (0, 0, []), (0, 0, [])), ((-1), 6, 0, (0, 0, []), (0, 0, []))], [])])
set_option maxRecDepth 1000000 in
theorem ck_175 : ab_CT cm_ms hp hN 48 ct_175 := ab_chk_ok (us := [ct_21, ct_171]) (inl := inl0) (d := 46) (dd := 1) (n := 20000) (tms := []) cm_ms_ok cm_ms_rc hNP (List.forall_mem_cons.mpr ⟨ab_CT_up ck_21 (by decide), List.forall_mem_cons.mpr ⟨ab_CT_up ck_171 (by decide), fun _ h => absurd h List.not_mem_nil⟩⟩) (by decide +kernel) (by decide +kernel)
/-- .fault (3 steps) -/
def ct_176 : ab_Ct := (96, [(1, 0, [0])], [], [], [], [([(3, 0, [])], [((-2147483648), 2147483647, 0, (0, 0, []), (0, 0, []))], [])])
set_option maxRecDepth 1000000 in
theorem ck_176 : ab_CT cm_ms hp hN 1 ct_176 := ab_chk_ok (us := []) (inl := inl0) (d := 0) (dd := 0) (n := 20000) (tms := []) cm_ms_ok cm_ms_rc hNP (fun _ h => absurd h List.not_mem_nil) (by decide +kernel) (by decide +kernel)
/-- .where (10 steps) -/
def ct_177 : ab_Ct := (97, [(1, 0, [0])], [], [], [], [([(3, 0, [])], [((-2147483648), 2147483647, 0, (0, 0, []), (0, 0, []))], [])])
set_option maxRecDepth 1000000 in
theorem ck_177 : ab_CT cm_ms hp hN 1 ct_177 := ab_chk_ok (us := []) (inl := inl0) (d := 0) (dd := 0) (n := 20000) (tms := []) cm_ms_ok cm_ms_rc hNP (fun _ h => absurd h List.not_mem_nil) (by decide +kernel) (by decide +kernel)
/-- .man (181 steps) -/
def ct_178 : ab_Ct := (98, [(1, 0, [0]), (3, 0, []), (3, 1, [])], [((-2147483648), 2147483647, 0, (0, 0, []), (0, 0, [])), ((-2147483648), 2147483647, 0, (0, 0, []), (0, 0, []))], [], [(0, [14])], [([(3, 2, [])], [((-2147483648), 2147483647, 0, (0, 0, []), (0, 0, [])), ((-2147483648), 2147483647, 0, (0, 0, []), (0, 0, [])), ((-2147483648), 2147483647, 0, (0, 0, []), (0, 0, []))], [])])
set_option maxRecDepth 1000000 in
theorem ck_178 : ab_CT cm_ms hp hN 4 ct_178 := ab_chk_ok (us := [ct_27]) (inl := inl0) (d := 2) (dd := 1) (n := 20000) (tms := []) cm_ms_ok cm_ms_rc hNP (List.forall_mem_cons.mpr ⟨ab_CT_up ck_27 (by decide), fun _ h => absurd h List.not_mem_nil⟩) (by decide +kernel) (by decide +kernel)
/-- .motion (205 steps) -/
def ct_179 : ab_Ct := (99, [(1, 0, [0]), (3, 0, []), (3, 1, [])], [((-2147483648), 2147483647, 0, (0, 0, []), (0, 0, [])), ((-2147483648), 2147483647, 0, (0, 0, []), (0, 0, []))], [], [(0, [14])], [([(3, 2, [])], [((-2147483648), 2147483647, 0, (0, 0, []), (0, 0, [])), ((-2147483648), 2147483647, 0, (0, 0, []), (0, 0, [])), ((-2147483648), 2147483647, 0, (0, 0, []), (0, 0, []))], [])])
set_option maxRecDepth 1000000 in
theorem ck_179 : ab_CT cm_ms hp hN 5 ct_179 := ab_chk_ok (us := [ct_28, ct_29, ct_31]) (inl := inl0) (d := 3) (dd := 1) (n := 20000) (tms := []) cm_ms_ok cm_ms_rc hNP (List.forall_mem_cons.mpr ⟨ab_CT_up ck_28 (by decide), List.forall_mem_cons.mpr ⟨ab_CT_up ck_29 (by decide), List.forall_mem_cons.mpr ⟨ab_CT_up ck_31 (by decide), fun _ h => absurd h List.not_mem_nil⟩⟩⟩) (by decide +kernel) (by decide +kernel)
/-- .floor (58 steps) -/
def ct_180 : ab_Ct := (100, [(1, 0, [0]), (3, 0, [])], [((-2147483648), 2147483647, 0, (0, 0, []), (0, 0, []))], [], [(0, [14])], [([(3, 1, [])], [((-2147483648), 2147483647, 0, (0, 0, []), (0, 0, [])), ((-2147483648), 2147483647, 0, (0, 0, []), (0, 0, []))], [])])
set_option maxRecDepth 1000000 in
theorem ck_180 : ab_CT cm_ms hp hN 2 ct_180 := ab_chk_ok (us := []) (inl := inl0) (d := 0) (dd := 1) (n := 20000) (tms := []) cm_ms_ok cm_ms_rc hNP (fun _ h => absurd h List.not_mem_nil) (by decide +kernel) (by decide +kernel)
/-- .bald (36 steps) -/
def ct_181 : ab_Ct := (101, [(1, 0, [0])], [], [], [(0, [14])], [([(3, 0, [])], [((-2147483648), 2147483647, 0, (0, 0, []), (0, 0, []))], [])])
set_option maxRecDepth 1000000 in
theorem ck_181 : ab_CT cm_ms hp hN 4 ct_181 := ab_chk_ok (us := [ct_24]) (inl := inl0) (d := 2) (dd := 1) (n := 20000) (tms := []) cm_ms_ok cm_ms_rc hNP (List.forall_mem_cons.mpr ⟨ab_CT_up ck_24 (by decide), fun _ h => absurd h List.not_mem_nil⟩) (by decide +kernel) (by decide +kernel)
/-- .longest (57 steps) -/
def ct_182 : ab_Ct := (102, [(1, 0, [0])], [], [], [(0, [14])], [([(3, 0, [])], [((-1), 5, 0, (0, 0, []), (0, 0, []))], [])])
set_option maxRecDepth 1000000 in
theorem ck_182 : ab_CT cm_ms hp hN 2 ct_182 := ab_chk_ok (us := []) (inl := inl0) (d := 0) (dd := 1) (n := 20000) (tms := [((17, [(0, (1, 0, [0])), (1, (3, 0, [])), (2, (3, 1, []))], [], [(0, 5, 0, (0, 0, []), (0, 0, [])), (1, 6, 0, (0, 0, []), (0, 0, []))], []), [(0, 1, (0, 0, [])), ((-1), 2147483648, (3, 1, []))])]) cm_ms_ok cm_ms_rc hNP (fun _ h => absurd h List.not_mem_nil) (by decide +kernel) (by decide +kernel)
/-- .ready (66 steps) -/
def ct_183 : ab_Ct := (103, [(1, 0, [0])], [], [], [(0, [14])], [([(3, 0, [])], [((-2147483648), 2147483647, 0, (0, 0, []), (0, 0, []))], [])])
set_option maxRecDepth 1000000 in
theorem ck_183 : ab_CT cm_ms hp hN 6 ct_183 := ab_chk_ok (us := [ct_30, ct_31]) (inl := inl0) (d := 4) (dd := 1) (n := 20000) (tms := [((17, [(0, (1, 0, [0])), (1, (3, 0, [])), (2, (3, 1, []))], [], [((-2147483648), 2147483647, 0, (0, 0, []), (0, 0, [])), (0, 5, 0, (0, 0, []), (0, 0, []))], []), [(0, 1, (0, 0, [])), ((-1), 2147483648, (3, 1, []))])]) cm_ms_ok cm_ms_rc hNP (List.forall_mem_cons.mpr ⟨ab_CT_up ck_30 (by decide), List.forall_mem_cons.mpr ⟨ab_CT_up ck_31 (by decide), fun _ h => absurd h List.not_mem_nil⟩⟩) (by decide +kernel) (by decide +kernel)
