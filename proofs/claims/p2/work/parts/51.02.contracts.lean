/-! AB: contracts -/
/-- Reader.isWord@at (85 steps) -/
def ct_92 : ab_Ct := (86, [(1, 0, [2]), (1, 0, [1039])], [], [], [], [([(3, 0, [])], [(0, 1, 0, (0, 0, []), (0, 0, []))], [])])
set_option maxRecDepth 1000000 in
theorem ck_92 : ab_CT cm_ms hp hN 6 ct_92 := ab_chk_ok (us := [ct_72]) (inl := inl0) (d := 1) (dd := 4) (n := 20000) (tms := [((5, [(0, (1, 0, [2])), (1, (1, 0, [1039])), (2, (6, 0, [])), (4, (3, 0, []))], [], [(0, 2, 0, (0, 0, []), (0, 0, []))], []), [(0, 1, (0, 0, [])), ((-1), 2147483648, (3, 0, []))])]) cm_ms_ok cm_ms_rc hNP (List.forall_mem_cons.mpr ⟨ab_CT_up ck_72 (by decide), fun _ h => absurd h List.not_mem_nil⟩) (by decide +kernel) (by decide +kernel)
/-- Reader.readLetters@6 (178 steps) -/
def ct_93 : ab_Ct := (89, [(1, 0, [2])], [], [(2, 0, (1, 0, [1])), (2, 7, (1, 0, [6]))], [(2, [2, 3, 6])], [([], [], [])])
set_option maxRecDepth 1000000 in
theorem ck_93 : ab_CT cm_ms hp hN 3 ct_93 := ab_chk_ok (us := [ct_72]) (inl := inl0) (d := 1) (dd := 1) (n := 20000) (tms := [((0, [(0, (1, 0, [2]))], [], [(1, 900, 0, (0, 0, []), (0, 0, [])), (1, 900, 0, (0, 0, []), (0, 0, []))], [(2, 0, (1, 0, [1])), (2, 1, (3, 0, [])), (2, 2, (3, 1, [])), (2, 7, (1, 0, [6]))]), [(0, 1, (0, 0, [])), ((-1), 2147483648, (3, 1, []))])]) cm_ms_ok cm_ms_rc hNP (List.forall_mem_cons.mpr ⟨ab_CT_up ck_72 (by decide), fun _ h => absurd h List.not_mem_nil⟩) (by decide +kernel) (by decide +kernel)
/-- Reader.readLetters@19 (178 steps) -/
def ct_94 : ab_Ct := (89, [(1, 0, [2])], [], [(2, 0, (1, 0, [1])), (2, 7, (1, 0, [19]))], [(2, [2, 3, 6])], [([], [], [])])
set_option maxRecDepth 1000000 in
theorem ck_94 : ab_CT cm_ms hp hN 3 ct_94 := ab_chk_ok (us := [ct_72]) (inl := inl0) (d := 1) (dd := 1) (n := 20000) (tms := [((0, [(0, (1, 0, [2]))], [], [(1, 900, 0, (0, 0, []), (0, 0, [])), (1, 900, 0, (0, 0, []), (0, 0, []))], [(2, 0, (1, 0, [1])), (2, 1, (3, 0, [])), (2, 2, (3, 1, [])), (2, 7, (1, 0, [19]))]), [(0, 1, (0, 0, [])), ((-1), 2147483648, (3, 1, []))])]) cm_ms_ok cm_ms_rc hNP (List.forall_mem_cons.mpr ⟨ab_CT_up ck_72 (by decide), fun _ h => absurd h List.not_mem_nil⟩) (by decide +kernel) (by decide +kernel)
/-- Reader.readDigits@6 (186 steps) -/
def ct_95 : ab_Ct := (90, [(1, 0, [2])], [], [(2, 0, (1, 0, [1])), (2, 7, (1, 0, [6]))], [(2, [2, 3, 5])], [([], [], [])])
set_option maxRecDepth 1000000 in
theorem ck_95 : ab_CT cm_ms hp hN 2 ct_95 := ab_chk_ok (us := []) (inl := inl0) (d := 0) (dd := 1) (n := 20000) (tms := [((0, [(0, (1, 0, [2]))], [], [(1, 900, 0, (0, 0, []), (0, 0, [])), (1, 900, 0, (0, 0, []), (0, 0, [])), ((-2147483648), 2147483647, 0, (0, 0, []), (0, 0, []))], [(2, 0, (1, 0, [1])), (2, 1, (3, 0, [])), (2, 2, (3, 1, [])), (2, 5, (3, 2, [])), (2, 7, (1, 0, [6]))]), [(0, 1, (0, 0, [])), ((-1), 2147483648, (3, 1, []))])]) cm_ms_ok cm_ms_rc hNP (fun _ h => absurd h List.not_mem_nil) (by decide +kernel) (by decide +kernel)
/-- Reader.readDigits@19 (186 steps) -/
def ct_96 : ab_Ct := (90, [(1, 0, [2])], [], [(2, 0, (1, 0, [1])), (2, 7, (1, 0, [19]))], [(2, [2, 3, 5])], [([], [], [])])
set_option maxRecDepth 1000000 in
theorem ck_96 : ab_CT cm_ms hp hN 2 ct_96 := ab_chk_ok (us := []) (inl := inl0) (d := 0) (dd := 1) (n := 20000) (tms := [((0, [(0, (1, 0, [2]))], [], [(1, 900, 0, (0, 0, []), (0, 0, [])), (1, 900, 0, (0, 0, []), (0, 0, [])), ((-2147483648), 2147483647, 0, (0, 0, []), (0, 0, []))], [(2, 0, (1, 0, [1])), (2, 1, (3, 0, [])), (2, 2, (3, 1, [])), (2, 5, (3, 2, [])), (2, 7, (1, 0, [19]))]), [(0, 1, (0, 0, [])), ((-1), 2147483648, (3, 1, []))])]) cm_ms_ok cm_ms_rc hNP (fun _ h => absurd h List.not_mem_nil) (by decide +kernel) (by decide +kernel)
/-- Reader.stepOn@6 (435 steps) -/
def ct_97 : ab_Ct := (88, [(1, 0, [2])], [], [(2, 0, (1, 0, [1])), (2, 7, (1, 0, [6]))], [(2, [2, 3, 4, 5, 6])], [([], [], [])])
set_option maxRecDepth 1000000 in
theorem ck_97 : ab_CT cm_ms hp hN 5 ct_97 := ab_chk_ok (us := [ct_93, ct_95]) (inl := inl0) (d := 3) (dd := 1) (n := 20000) (tms := [((8, [(0, (1, 0, [2]))], [], [(0, 900, 0, (0, 0, []), (0, 0, []))], [(2, 0, (1, 0, [1])), (2, 2, (3, 0, [])), (2, 7, (1, 0, [6])), (2, 9, (0, 0, []))]), [(0, 1, (0, 0, [])), ((-1), 2147483648, (3, 0, []))])]) cm_ms_ok cm_ms_rc hNP (List.forall_mem_cons.mpr ⟨ab_CT_up ck_93 (by decide), List.forall_mem_cons.mpr ⟨ab_CT_up ck_95 (by decide), fun _ h => absurd h List.not_mem_nil⟩⟩) (by decide +kernel) (by decide +kernel)
/-- Reader.stepOn@19 (435 steps) -/
def ct_98 : ab_Ct := (88, [(1, 0, [2])], [], [(2, 0, (1, 0, [1])), (2, 7, (1, 0, [19]))], [(2, [2, 3, 4, 5, 6])], [([], [], [])])
set_option maxRecDepth 1000000 in
theorem ck_98 : ab_CT cm_ms hp hN 5 ct_98 := ab_chk_ok (us := [ct_94, ct_96]) (inl := inl0) (d := 3) (dd := 1) (n := 20000) (tms := [((8, [(0, (1, 0, [2]))], [], [(0, 900, 0, (0, 0, []), (0, 0, []))], [(2, 0, (1, 0, [1])), (2, 2, (3, 0, [])), (2, 7, (1, 0, [19])), (2, 9, (0, 0, []))]), [(0, 1, (0, 0, [])), ((-1), 2147483648, (3, 0, []))])]) cm_ms_ok cm_ms_rc hNP (List.forall_mem_cons.mpr ⟨ab_CT_up ck_94 (by decide), List.forall_mem_cons.mpr ⟨ab_CT_up ck_96 (by decide), fun _ h => absurd h List.not_mem_nil⟩⟩) (by decide +kernel) (by decide +kernel)
/-- Reader.takeWord@town@6 (24 steps) -/
def ct_99 : ab_Ct := (78, [(1, 0, [2]), (1, 0, [1001])], [], [(2, 0, (1, 0, [1])), (2, 7, (1, 0, [6]))], [(2, [2, 3, 4, 5, 6, 9])], [([], [], [])])
set_option maxRecDepth 1000000 in
theorem ck_99 : ab_CT cm_ms hp hN 8 ct_99 := ab_chk_ok (us := [ct_73, ct_97]) (inl := inl0) (d := 6) (dd := 1) (n := 20000) (tms := []) cm_ms_ok cm_ms_rc hNP (List.forall_mem_cons.mpr ⟨ab_CT_up ck_73 (by decide), List.forall_mem_cons.mpr ⟨ab_CT_up ck_97 (by decide), fun _ h => absurd h List.not_mem_nil⟩⟩) (by decide +kernel) (by decide +kernel)
/-- Reader.takeWord@town@19 (24 steps) -/
def ct_100 : ab_Ct := (78, [(1, 0, [2]), (1, 0, [1001])], [], [(2, 0, (1, 0, [1])), (2, 7, (1, 0, [19]))], [(2, [2, 3, 4, 5, 6, 9])], [([], [], [])])
set_option maxRecDepth 1000000 in
theorem ck_100 : ab_CT cm_ms hp hN 8 ct_100 := ab_chk_ok (us := [ct_73, ct_98]) (inl := inl0) (d := 6) (dd := 1) (n := 20000) (tms := []) cm_ms_ok cm_ms_rc hNP (List.forall_mem_cons.mpr ⟨ab_CT_up ck_73 (by decide), List.forall_mem_cons.mpr ⟨ab_CT_up ck_98 (by decide), fun _ h => absurd h List.not_mem_nil⟩⟩) (by decide +kernel) (by decide +kernel)
/-- Reader.takeWord@man@6 (24 steps) -/
def ct_101 : ab_Ct := (78, [(1, 0, [2]), (1, 0, [1003])], [], [(2, 0, (1, 0, [1])), (2, 7, (1, 0, [6]))], [(2, [2, 3, 4, 5, 6, 9])], [([], [], [])])
set_option maxRecDepth 1000000 in
theorem ck_101 : ab_CT cm_ms hp hN 8 ct_101 := ab_chk_ok (us := [ct_74, ct_97]) (inl := inl0) (d := 6) (dd := 1) (n := 20000) (tms := []) cm_ms_ok cm_ms_rc hNP (List.forall_mem_cons.mpr ⟨ab_CT_up ck_74 (by decide), List.forall_mem_cons.mpr ⟨ab_CT_up ck_97 (by decide), fun _ h => absurd h List.not_mem_nil⟩⟩) (by decide +kernel) (by decide +kernel)
/-- Reader.takeWord@man@19 (24 steps) -/
def ct_102 : ab_Ct := (78, [(1, 0, [2]), (1, 0, [1003])], [], [(2, 0, (1, 0, [1])), (2, 7, (1, 0, [19]))], [(2, [2, 3, 4, 5, 6, 9])], [([], [], [])])
set_option maxRecDepth 1000000 in
theorem ck_102 : ab_CT cm_ms hp hN 8 ct_102 := ab_chk_ok (us := [ct_74, ct_98]) (inl := inl0) (d := 6) (dd := 1) (n := 20000) (tms := []) cm_ms_ok cm_ms_rc hNP (List.forall_mem_cons.mpr ⟨ab_CT_up ck_74 (by decide), List.forall_mem_cons.mpr ⟨ab_CT_up ck_98 (by decide), fun _ h => absurd h List.not_mem_nil⟩⟩) (by decide +kernel) (by decide +kernel)
/-- Reader.takeWord@motion@6 (24 steps) -/
def ct_103 : ab_Ct := (78, [(1, 0, [2]), (1, 0, [1005])], [], [(2, 0, (1, 0, [1])), (2, 7, (1, 0, [6]))], [(2, [2, 3, 4, 5, 6, 9])], [([], [], [])])
set_option maxRecDepth 1000000 in
theorem ck_103 : ab_CT cm_ms hp hN 8 ct_103 := ab_chk_ok (us := [ct_75, ct_97]) (inl := inl0) (d := 6) (dd := 1) (n := 20000) (tms := []) cm_ms_ok cm_ms_rc hNP (List.forall_mem_cons.mpr ⟨ab_CT_up ck_75 (by decide), List.forall_mem_cons.mpr ⟨ab_CT_up ck_97 (by decide), fun _ h => absurd h List.not_mem_nil⟩⟩) (by decide +kernel) (by decide +kernel)
/-- Reader.takeWord@motion@19 (24 steps) -/
def ct_104 : ab_Ct := (78, [(1, 0, [2]), (1, 0, [1005])], [], [(2, 0, (1, 0, [1])), (2, 7, (1, 0, [19]))], [(2, [2, 3, 4, 5, 6, 9])], [([], [], [])])
set_option maxRecDepth 1000000 in
theorem ck_104 : ab_CT cm_ms hp hN 8 ct_104 := ab_chk_ok (us := [ct_75, ct_98]) (inl := inl0) (d := 6) (dd := 1) (n := 20000) (tms := []) cm_ms_ok cm_ms_rc hNP (List.forall_mem_cons.mpr ⟨ab_CT_up ck_75 (by decide), List.forall_mem_cons.mpr ⟨ab_CT_up ck_98 (by decide), fun _ h => absurd h List.not_mem_nil⟩⟩) (by decide +kernel) (by decide +kernel)
/-- Reader.takeWord@against@6 (24 steps) -/
def ct_105 : ab_Ct := (78, [(1, 0, [2]), (1, 0, [1007])], [], [(2, 0, (1, 0, [1])), (2, 7, (1, 0, [6]))], [(2, [2, 3, 4, 5, 6, 9])], [([], [], [])])
set_option maxRecDepth 1000000 in
theorem ck_105 : ab_CT cm_ms hp hN 8 ct_105 := ab_chk_ok (us := [ct_76, ct_97]) (inl := inl0) (d := 6) (dd := 1) (n := 20000) (tms := []) cm_ms_ok cm_ms_rc hNP (List.forall_mem_cons.mpr ⟨ab_CT_up ck_76 (by decide), List.forall_mem_cons.mpr ⟨ab_CT_up ck_97 (by decide), fun _ h => absurd h List.not_mem_nil⟩⟩) (by decide +kernel) (by decide +kernel)
/-- Reader.takeWord@against@19 (24 steps) -/
def ct_106 : ab_Ct := (78, [(1, 0, [2]), (1, 0, [1007])], [], [(2, 0, (1, 0, [1])), (2, 7, (1, 0, [19]))], [(2, [2, 3, 4, 5, 6, 9])], [([], [], [])])
set_option maxRecDepth 1000000 in
theorem ck_106 : ab_CT cm_ms hp hN 8 ct_106 := ab_chk_ok (us := [ct_76, ct_98]) (inl := inl0) (d := 6) (dd := 1) (n := 20000) (tms := []) cm_ms_ok cm_ms_rc hNP (List.forall_mem_cons.mpr ⟨ab_CT_up ck_76 (by decide), List.forall_mem_cons.mpr ⟨ab_CT_up ck_98 (by decide), fun _ h => absurd h List.not_mem_nil⟩⟩) (by decide +kernel) (by decide +kernel)
/-- Reader.takeWord@amends@6 (24 steps) -/
def ct_107 : ab_Ct := (78, [(1, 0, [2]), (1, 0, [1009])], [], [(2, 0, (1, 0, [1])), (2, 7, (1, 0, [6]))], [(2, [2, 3, 4, 5, 6, 9])], [([], [], [])])
set_option maxRecDepth 1000000 in
theorem ck_107 : ab_CT cm_ms hp hN 8 ct_107 := ab_chk_ok (us := [ct_77, ct_97]) (inl := inl0) (d := 6) (dd := 1) (n := 20000) (tms := []) cm_ms_ok cm_ms_rc hNP (List.forall_mem_cons.mpr ⟨ab_CT_up ck_77 (by decide), List.forall_mem_cons.mpr ⟨ab_CT_up ck_97 (by decide), fun _ h => absurd h List.not_mem_nil⟩⟩) (by decide +kernel) (by decide +kernel)
/-- Reader.takeWord@amends@19 (24 steps) -/
def ct_108 : ab_Ct := (78, [(1, 0, [2]), (1, 0, [1009])], [], [(2, 0, (1, 0, [1])), (2, 7, (1, 0, [19]))], [(2, [2, 3, 4, 5, 6, 9])], [([], [], [])])
set_option maxRecDepth 1000000 in
theorem ck_108 : ab_CT cm_ms hp hN 8 ct_108 := ab_chk_ok (us := [ct_77, ct_98]) (inl := inl0) (d := 6) (dd := 1) (n := 20000) (tms := []) cm_ms_ok cm_ms_rc hNP (List.forall_mem_cons.mpr ⟨ab_CT_up ck_77 (by decide), List.forall_mem_cons.mpr ⟨ab_CT_up ck_98 (by decide), fun _ h => absurd h List.not_mem_nil⟩⟩) (by decide +kernel) (by decide +kernel)
/-- Reader.takeWord@quarrel@6 (24 steps) -/
def ct_109 : ab_Ct := (78, [(1, 0, [2]), (1, 0, [1011])], [], [(2, 0, (1, 0, [1])), (2, 7, (1, 0, [6]))], [(2, [2, 3, 4, 5, 6, 9])], [([], [], [])])
set_option maxRecDepth 1000000 in
theorem ck_109 : ab_CT cm_ms hp hN 8 ct_109 := ab_chk_ok (us := [ct_78, ct_97]) (inl := inl0) (d := 6) (dd := 1) (n := 20000) (tms := []) cm_ms_ok cm_ms_rc hNP (List.forall_mem_cons.mpr ⟨ab_CT_up ck_78 (by decide), List.forall_mem_cons.mpr ⟨ab_CT_up ck_97 (by decide), fun _ h => absurd h List.not_mem_nil⟩⟩) (by decide +kernel) (by decide +kernel)
/-- Reader.takeWord@quarrel@19 (24 steps) -/
def ct_110 : ab_Ct := (78, [(1, 0, [2]), (1, 0, [1011])], [], [(2, 0, (1, 0, [1])), (2, 7, (1, 0, [19]))], [(2, [2, 3, 4, 5, 6, 9])], [([], [], [])])
set_option maxRecDepth 1000000 in
theorem ck_110 : ab_CT cm_ms hp hN 8 ct_110 := ab_chk_ok (us := [ct_78, ct_98]) (inl := inl0) (d := 6) (dd := 1) (n := 20000) (tms := []) cm_ms_ok cm_ms_rc hNP (List.forall_mem_cons.mpr ⟨ab_CT_up ck_78 (by decide), List.forall_mem_cons.mpr ⟨ab_CT_up ck_98 (by decide), fun _ h => absurd h List.not_mem_nil⟩⟩) (by decide +kernel) (by decide +kernel)
/-- Reader.takeWord@chair@6 (24 steps) -/
def ct_111 : ab_Ct := (78, [(1, 0, [2]), (1, 0, [1013])], [], [(2, 0, (1, 0, [1])), (2, 7, (1, 0, [6]))], [(2, [2, 3, 4, 5, 6, 9])], [([], [], [])])
set_option maxRecDepth 1000000 in
theorem ck_111 : ab_CT cm_ms hp hN 8 ct_111 := ab_chk_ok (us := [ct_79, ct_97]) (inl := inl0) (d := 6) (dd := 1) (n := 20000) (tms := []) cm_ms_ok cm_ms_rc hNP (List.forall_mem_cons.mpr ⟨ab_CT_up ck_79 (by decide), List.forall_mem_cons.mpr ⟨ab_CT_up ck_97 (by decide), fun _ h => absurd h List.not_mem_nil⟩⟩) (by decide +kernel) (by decide +kernel)
/-- Reader.takeWord@chair@19 (24 steps) -/
def ct_112 : ab_Ct := (78, [(1, 0, [2]), (1, 0, [1013])], [], [(2, 0, (1, 0, [1])), (2, 7, (1, 0, [19]))], [(2, [2, 3, 4, 5, 6, 9])], [([], [], [])])
set_option maxRecDepth 1000000 in
theorem ck_112 : ab_CT cm_ms hp hN 8 ct_112 := ab_chk_ok (us := [ct_79, ct_98]) (inl := inl0) (d := 6) (dd := 1) (n := 20000) (tms := []) cm_ms_ok cm_ms_rc hNP (List.forall_mem_cons.mpr ⟨ab_CT_up ck_79 (by decide), List.forall_mem_cons.mpr ⟨ab_CT_up ck_98 (by decide), fun _ h => absurd h List.not_mem_nil⟩⟩) (by decide +kernel) (by decide +kernel)
/-- Reader.takeWord@heap@6 (24 steps) -/
def ct_113 : ab_Ct := (78, [(1, 0, [2]), (1, 0, [1015])], [], [(2, 0, (1, 0, [1])), (2, 7, (1, 0, [6]))], [(2, [2, 3, 4, 5, 6, 9])], [([], [], [])])
set_option maxRecDepth 1000000 in
theorem ck_113 : ab_CT cm_ms hp hN 8 ct_113 := ab_chk_ok (us := [ct_80, ct_97]) (inl := inl0) (d := 6) (dd := 1) (n := 20000) (tms := []) cm_ms_ok cm_ms_rc hNP (List.forall_mem_cons.mpr ⟨ab_CT_up ck_80 (by decide), List.forall_mem_cons.mpr ⟨ab_CT_up ck_97 (by decide), fun _ h => absurd h List.not_mem_nil⟩⟩) (by decide +kernel) (by decide +kernel)
/-- Reader.takeWord@heap@19 (24 steps) -/
def ct_114 : ab_Ct := (78, [(1, 0, [2]), (1, 0, [1015])], [], [(2, 0, (1, 0, [1])), (2, 7, (1, 0, [19]))], [(2, [2, 3, 4, 5, 6, 9])], [([], [], [])])
set_option maxRecDepth 1000000 in
theorem ck_114 : ab_CT cm_ms hp hN 8 ct_114 := ab_chk_ok (us := [ct_80, ct_98]) (inl := inl0) (d := 6) (dd := 1) (n := 20000) (tms := []) cm_ms_ok cm_ms_rc hNP (List.forall_mem_cons.mpr ⟨ab_CT_up ck_80 (by decide), List.forall_mem_cons.mpr ⟨ab_CT_up ck_98 (by decide), fun _ h => absurd h List.not_mem_nil⟩⟩) (by decide +kernel) (by decide +kernel)
/-- Reader.takeWord@grows@6 (24 steps) -/
def ct_115 : ab_Ct := (78, [(1, 0, [2]), (1, 0, [1017])], [], [(2, 0, (1, 0, [1])), (2, 7, (1, 0, [6]))], [(2, [2, 3, 4, 5, 6, 9])], [([], [], [])])
set_option maxRecDepth 1000000 in
theorem ck_115 : ab_CT cm_ms hp hN 8 ct_115 := ab_chk_ok (us := [ct_81, ct_97]) (inl := inl0) (d := 6) (dd := 1) (n := 20000) (tms := []) cm_ms_ok cm_ms_rc hNP (List.forall_mem_cons.mpr ⟨ab_CT_up ck_81 (by decide), List.forall_mem_cons.mpr ⟨ab_CT_up ck_97 (by decide), fun _ h => absurd h List.not_mem_nil⟩⟩) (by decide +kernel) (by decide +kernel)
/-- Reader.takeWord@grows@19 (24 steps) -/
def ct_116 : ab_Ct := (78, [(1, 0, [2]), (1, 0, [1017])], [], [(2, 0, (1, 0, [1])), (2, 7, (1, 0, [19]))], [(2, [2, 3, 4, 5, 6, 9])], [([], [], [])])
set_option maxRecDepth 1000000 in
theorem ck_116 : ab_CT cm_ms hp hN 8 ct_116 := ab_chk_ok (us := [ct_81, ct_98]) (inl := inl0) (d := 6) (dd := 1) (n := 20000) (tms := []) cm_ms_ok cm_ms_rc hNP (List.forall_mem_cons.mpr ⟨ab_CT_up ck_81 (by decide), List.forall_mem_cons.mpr ⟨ab_CT_up ck_98 (by decide), fun _ h => absurd h List.not_mem_nil⟩⟩) (by decide +kernel) (by decide +kernel)
/-- Reader.takeWord@bald@6 (24 steps) -/
def ct_117 : ab_Ct := (78, [(1, 0, [2]), (1, 0, [1019])], [], [(2, 0, (1, 0, [1])), (2, 7, (1, 0, [6]))], [(2, [2, 3, 4, 5, 6, 9])], [([], [], [])])
set_option maxRecDepth 1000000 in
theorem ck_117 : ab_CT cm_ms hp hN 8 ct_117 := ab_chk_ok (us := [ct_82, ct_97]) (inl := inl0) (d := 6) (dd := 1) (n := 20000) (tms := []) cm_ms_ok cm_ms_rc hNP (List.forall_mem_cons.mpr ⟨ab_CT_up ck_82 (by decide), List.forall_mem_cons.mpr ⟨ab_CT_up ck_97 (by decide), fun _ h => absurd h List.not_mem_nil⟩⟩) (by decide +kernel) (by decide +kernel)
/-- Reader.takeWord@bald@19 (24 steps) -/
def ct_118 : ab_Ct := (78, [(1, 0, [2]), (1, 0, [1019])], [], [(2, 0, (1, 0, [1])), (2, 7, (1, 0, [19]))], [(2, [2, 3, 4, 5, 6, 9])], [([], [], [])])
set_option maxRecDepth 1000000 in
theorem ck_118 : ab_CT cm_ms hp hN 8 ct_118 := ab_chk_ok (us := [ct_82, ct_98]) (inl := inl0) (d := 6) (dd := 1) (n := 20000) (tms := []) cm_ms_ok cm_ms_rc hNP (List.forall_mem_cons.mpr ⟨ab_CT_up ck_82 (by decide), List.forall_mem_cons.mpr ⟨ab_CT_up ck_98 (by decide), fun _ h => absurd h List.not_mem_nil⟩⟩) (by decide +kernel) (by decide +kernel)
/-- Reader.takeWord@shave@6 (24 steps) -/
def ct_119 : ab_Ct := (78, [(1, 0, [2]), (1, 0, [1021])], [], [(2, 0, (1, 0, [1])), (2, 7, (1, 0, [6]))], [(2, [2, 3, 4, 5, 6, 9])], [([], [], [])])
set_option maxRecDepth 1000000 in
theorem ck_119 : ab_CT cm_ms hp hN 8 ct_119 := ab_chk_ok (us := [ct_83, ct_97]) (inl := inl0) (d := 6) (dd := 1) (n := 20000) (tms := []) cm_ms_ok cm_ms_rc hNP (List.forall_mem_cons.mpr ⟨ab_CT_up ck_83 (by decide), List.forall_mem_cons.mpr ⟨ab_CT_up ck_97 (by decide), fun _ h => absurd h List.not_mem_nil⟩⟩) (by decide +kernel) (by decide +kernel)
/-- Reader.takeWord@shave@19 (24 steps) -/
def ct_120 : ab_Ct := (78, [(1, 0, [2]), (1, 0, [1021])], [], [(2, 0, (1, 0, [1])), (2, 7, (1, 0, [19]))], [(2, [2, 3, 4, 5, 6, 9])], [([], [], [])])
set_option maxRecDepth 1000000 in
theorem ck_120 : ab_CT cm_ms hp hN 8 ct_120 := ab_chk_ok (us := [ct_83, ct_98]) (inl := inl0) (d := 6) (dd := 1) (n := 20000) (tms := []) cm_ms_ok cm_ms_rc hNP (List.forall_mem_cons.mpr ⟨ab_CT_up ck_83 (by decide), List.forall_mem_cons.mpr ⟨ab_CT_up ck_98 (by decide), fun _ h => absurd h List.not_mem_nil⟩⟩) (by decide +kernel) (by decide +kernel)
/-- Reader.takeWord@fair@6 (24 steps) -/
def ct_121 : ab_Ct := (78, [(1, 0, [2]), (1, 0, [1023])], [], [(2, 0, (1, 0, [1])), (2, 7, (1, 0, [6]))], [(2, [2, 3, 4, 5, 6, 9])], [([], [], [])])
set_option maxRecDepth 1000000 in
theorem ck_121 : ab_CT cm_ms hp hN 8 ct_121 := ab_chk_ok (us := [ct_84, ct_97]) (inl := inl0) (d := 6) (dd := 1) (n := 20000) (tms := []) cm_ms_ok cm_ms_rc hNP (List.forall_mem_cons.mpr ⟨ab_CT_up ck_84 (by decide), List.forall_mem_cons.mpr ⟨ab_CT_up ck_97 (by decide), fun _ h => absurd h List.not_mem_nil⟩⟩) (by decide +kernel) (by decide +kernel)
/-- Reader.takeWord@fair@19 (24 steps) -/
def ct_122 : ab_Ct := (78, [(1, 0, [2]), (1, 0, [1023])], [], [(2, 0, (1, 0, [1])), (2, 7, (1, 0, [19]))], [(2, [2, 3, 4, 5, 6, 9])], [([], [], [])])
set_option maxRecDepth 1000000 in
theorem ck_122 : ab_CT cm_ms hp hN 8 ct_122 := ab_chk_ok (us := [ct_84, ct_98]) (inl := inl0) (d := 6) (dd := 1) (n := 20000) (tms := []) cm_ms_ok cm_ms_rc hNP (List.forall_mem_cons.mpr ⟨ab_CT_up ck_84 (by decide), List.forall_mem_cons.mpr ⟨ab_CT_up ck_98 (by decide), fun _ h => absurd h List.not_mem_nil⟩⟩) (by decide +kernel) (by decide +kernel)
/-- Reader.takeWord@dark@6 (24 steps) -/
def ct_123 : ab_Ct := (78, [(1, 0, [2]), (1, 0, [1025])], [], [(2, 0, (1, 0, [1])), (2, 7, (1, 0, [6]))], [(2, [2, 3, 4, 5, 6, 9])], [([], [], [])])
set_option maxRecDepth 1000000 in
theorem ck_123 : ab_CT cm_ms hp hN 8 ct_123 := ab_chk_ok (us := [ct_85, ct_97]) (inl := inl0) (d := 6) (dd := 1) (n := 20000) (tms := []) cm_ms_ok cm_ms_rc hNP (List.forall_mem_cons.mpr ⟨ab_CT_up ck_85 (by decide), List.forall_mem_cons.mpr ⟨ab_CT_up ck_97 (by decide), fun _ h => absurd h List.not_mem_nil⟩⟩) (by decide +kernel) (by decide +kernel)
/-- Reader.takeWord@dark@19 (24 steps) -/
def ct_124 : ab_Ct := (78, [(1, 0, [2]), (1, 0, [1025])], [], [(2, 0, (1, 0, [1])), (2, 7, (1, 0, [19]))], [(2, [2, 3, 4, 5, 6, 9])], [([], [], [])])
set_option maxRecDepth 1000000 in
theorem ck_124 : ab_CT cm_ms hp hN 8 ct_124 := ab_chk_ok (us := [ct_85, ct_98]) (inl := inl0) (d := 6) (dd := 1) (n := 20000) (tms := []) cm_ms_ok cm_ms_rc hNP (List.forall_mem_cons.mpr ⟨ab_CT_up ck_85 (by decide), List.forall_mem_cons.mpr ⟨ab_CT_up ck_98 (by decide), fun _ h => absurd h List.not_mem_nil⟩⟩) (by decide +kernel) (by decide +kernel)
/-- Reader.takeWord@grey@6 (24 steps) -/
def ct_125 : ab_Ct := (78, [(1, 0, [2]), (1, 0, [1027])], [], [(2, 0, (1, 0, [1])), (2, 7, (1, 0, [6]))], [(2, [2, 3, 4, 5, 6, 9])], [([], [], [])])
set_option maxRecDepth 1000000 in
theorem ck_125 : ab_CT cm_ms hp hN 8 ct_125 := ab_chk_ok (us := [ct_86, ct_97]) (inl := inl0) (d := 6) (dd := 1) (n := 20000) (tms := []) cm_ms_ok cm_ms_rc hNP (List.forall_mem_cons.mpr ⟨ab_CT_up ck_86 (by decide), List.forall_mem_cons.mpr ⟨ab_CT_up ck_97 (by decide), fun _ h => absurd h List.not_mem_nil⟩⟩) (by decide +kernel) (by decide +kernel)
/-- Reader.takeWord@grey@19 (24 steps) -/
def ct_126 : ab_Ct := (78, [(1, 0, [2]), (1, 0, [1027])], [], [(2, 0, (1, 0, [1])), (2, 7, (1, 0, [19]))], [(2, [2, 3, 4, 5, 6, 9])], [([], [], [])])
set_option maxRecDepth 1000000 in
theorem ck_126 : ab_CT cm_ms hp hN 8 ct_126 := ab_chk_ok (us := [ct_86, ct_98]) (inl := inl0) (d := 6) (dd := 1) (n := 20000) (tms := []) cm_ms_ok cm_ms_rc hNP (List.forall_mem_cons.mpr ⟨ab_CT_up ck_86 (by decide), List.forall_mem_cons.mpr ⟨ab_CT_up ck_98 (by decide), fun _ h => absurd h List.not_mem_nil⟩⟩) (by decide +kernel) (by decide +kernel)
/-- Reader.takeWord@long@6 (24 steps) -/
def ct_127 : ab_Ct := (78, [(1, 0, [2]), (1, 0, [1029])], [], [(2, 0, (1, 0, [1])), (2, 7, (1, 0, [6]))], [(2, [2, 3, 4, 5, 6, 9])], [([], [], [])])
set_option maxRecDepth 1000000 in
theorem ck_127 : ab_CT cm_ms hp hN 8 ct_127 := ab_chk_ok (us := [ct_87, ct_97]) (inl := inl0) (d := 6) (dd := 1) (n := 20000) (tms := []) cm_ms_ok cm_ms_rc hNP (List.forall_mem_cons.mpr ⟨ab_CT_up ck_87 (by decide), List.forall_mem_cons.mpr ⟨ab_CT_up ck_97 (by decide), fun _ h => absurd h List.not_mem_nil⟩⟩) (by decide +kernel) (by decide +kernel)
/-- Reader.takeWord@long@19 (24 steps) -/
def ct_128 : ab_Ct := (78, [(1, 0, [2]), (1, 0, [1029])], [], [(2, 0, (1, 0, [1])), (2, 7, (1, 0, [19]))], [(2, [2, 3, 4, 5, 6, 9])], [([], [], [])])
set_option maxRecDepth 1000000 in
theorem ck_128 : ab_CT cm_ms hp hN 8 ct_128 := ab_chk_ok (us := [ct_87, ct_98]) (inl := inl0) (d := 6) (dd := 1) (n := 20000) (tms := []) cm_ms_ok cm_ms_rc hNP (List.forall_mem_cons.mpr ⟨ab_CT_up ck_87 (by decide), List.forall_mem_cons.mpr ⟨ab_CT_up ck_98 (by decide), fun _ h => absurd h List.not_mem_nil⟩⟩) (by decide +kernel) (by decide +kernel)
/-- Reader.takeWord@votes@6 (24 steps) -/
def ct_129 : ab_Ct := (78, [(1, 0, [2]), (1, 0, [1031])], [], [(2, 0, (1, 0, [1])), (2, 7, (1, 0, [6]))], [(2, [2, 3, 4, 5, 6, 9])], [([], [], [])])
set_option maxRecDepth 1000000 in
theorem ck_129 : ab_CT cm_ms hp hN 8 ct_129 := ab_chk_ok (us := [ct_88, ct_97]) (inl := inl0) (d := 6) (dd := 1) (n := 20000) (tms := []) cm_ms_ok cm_ms_rc hNP (List.forall_mem_cons.mpr ⟨ab_CT_up ck_88 (by decide), List.forall_mem_cons.mpr ⟨ab_CT_up ck_97 (by decide), fun _ h => absurd h List.not_mem_nil⟩⟩) (by decide +kernel) (by decide +kernel)
/-- Reader.takeWord@votes@19 (24 steps) -/
def ct_130 : ab_Ct := (78, [(1, 0, [2]), (1, 0, [1031])], [], [(2, 0, (1, 0, [1])), (2, 7, (1, 0, [19]))], [(2, [2, 3, 4, 5, 6, 9])], [([], [], [])])
set_option maxRecDepth 1000000 in
theorem ck_130 : ab_CT cm_ms hp hN 8 ct_130 := ab_chk_ok (us := [ct_88, ct_98]) (inl := inl0) (d := 6) (dd := 1) (n := 20000) (tms := []) cm_ms_ok cm_ms_rc hNP (List.forall_mem_cons.mpr ⟨ab_CT_up ck_88 (by decide), List.forall_mem_cons.mpr ⟨ab_CT_up ck_98 (by decide), fun _ h => absurd h List.not_mem_nil⟩⟩) (by decide +kernel) (by decide +kernel)
/-- Reader.takeWord@cuts@6 (24 steps) -/
def ct_131 : ab_Ct := (78, [(1, 0, [2]), (1, 0, [1033])], [], [(2, 0, (1, 0, [1])), (2, 7, (1, 0, [6]))], [(2, [2, 3, 4, 5, 6, 9])], [([], [], [])])
set_option maxRecDepth 1000000 in
theorem ck_131 : ab_CT cm_ms hp hN 8 ct_131 := ab_chk_ok (us := [ct_89, ct_97]) (inl := inl0) (d := 6) (dd := 1) (n := 20000) (tms := []) cm_ms_ok cm_ms_rc hNP (List.forall_mem_cons.mpr ⟨ab_CT_up ck_89 (by decide), List.forall_mem_cons.mpr ⟨ab_CT_up ck_97 (by decide), fun _ h => absurd h List.not_mem_nil⟩⟩) (by decide +kernel) (by decide +kernel)
/-- Reader.takeWord@cuts@19 (24 steps) -/
def ct_132 : ab_Ct := (78, [(1, 0, [2]), (1, 0, [1033])], [], [(2, 0, (1, 0, [1])), (2, 7, (1, 0, [19]))], [(2, [2, 3, 4, 5, 6, 9])], [([], [], [])])
set_option maxRecDepth 1000000 in
theorem ck_132 : ab_CT cm_ms hp hN 8 ct_132 := ab_chk_ok (us := [ct_89, ct_98]) (inl := inl0) (d := 6) (dd := 1) (n := 20000) (tms := []) cm_ms_ok cm_ms_rc hNP (List.forall_mem_cons.mpr ⟨ab_CT_up ck_89 (by decide), List.forall_mem_cons.mpr ⟨ab_CT_up ck_98 (by decide), fun _ h => absurd h List.not_mem_nil⟩⟩) (by decide +kernel) (by decide +kernel)
/-- Reader.takeWord@needs@6 (24 steps) -/
def ct_133 : ab_Ct := (78, [(1, 0, [2]), (1, 0, [1035])], [], [(2, 0, (1, 0, [1])), (2, 7, (1, 0, [6]))], [(2, [2, 3, 4, 5, 6, 9])], [([], [], [])])
set_option maxRecDepth 1000000 in
theorem ck_133 : ab_CT cm_ms hp hN 8 ct_133 := ab_chk_ok (us := [ct_90, ct_97]) (inl := inl0) (d := 6) (dd := 1) (n := 20000) (tms := []) cm_ms_ok cm_ms_rc hNP (List.forall_mem_cons.mpr ⟨ab_CT_up ck_90 (by decide), List.forall_mem_cons.mpr ⟨ab_CT_up ck_97 (by decide), fun _ h => absurd h List.not_mem_nil⟩⟩) (by decide +kernel) (by decide +kernel)
/-- Reader.takeWord@needs@19 (24 steps) -/
def ct_134 : ab_Ct := (78, [(1, 0, [2]), (1, 0, [1035])], [], [(2, 0, (1, 0, [1])), (2, 7, (1, 0, [19]))], [(2, [2, 3, 4, 5, 6, 9])], [([], [], [])])
set_option maxRecDepth 1000000 in
theorem ck_134 : ab_CT cm_ms hp hN 8 ct_134 := ab_chk_ok (us := [ct_90, ct_98]) (inl := inl0) (d := 6) (dd := 1) (n := 20000) (tms := []) cm_ms_ok cm_ms_rc hNP (List.forall_mem_cons.mpr ⟨ab_CT_up ck_90 (by decide), List.forall_mem_cons.mpr ⟨ab_CT_up ck_98 (by decide), fun _ h => absurd h List.not_mem_nil⟩⟩) (by decide +kernel) (by decide +kernel)
/-- Reader.takeWord@worth@6 (24 steps) -/
def ct_135 : ab_Ct := (78, [(1, 0, [2]), (1, 0, [1037])], [], [(2, 0, (1, 0, [1])), (2, 7, (1, 0, [6]))], [(2, [2, 3, 4, 5, 6, 9])], [([], [], [])])
set_option maxRecDepth 1000000 in
theorem ck_135 : ab_CT cm_ms hp hN 8 ct_135 := ab_chk_ok (us := [ct_91, ct_97]) (inl := inl0) (d := 6) (dd := 1) (n := 20000) (tms := []) cm_ms_ok cm_ms_rc hNP (List.forall_mem_cons.mpr ⟨ab_CT_up ck_91 (by decide), List.forall_mem_cons.mpr ⟨ab_CT_up ck_97 (by decide), fun _ h => absurd h List.not_mem_nil⟩⟩) (by decide +kernel) (by decide +kernel)
/-- Reader.takeWord@worth@19 (24 steps) -/
def ct_136 : ab_Ct := (78, [(1, 0, [2]), (1, 0, [1037])], [], [(2, 0, (1, 0, [1])), (2, 7, (1, 0, [19]))], [(2, [2, 3, 4, 5, 6, 9])], [([], [], [])])
set_option maxRecDepth 1000000 in
theorem ck_136 : ab_CT cm_ms hp hN 8 ct_136 := ab_chk_ok (us := [ct_91, ct_98]) (inl := inl0) (d := 6) (dd := 1) (n := 20000) (tms := []) cm_ms_ok cm_ms_rc hNP (List.forall_mem_cons.mpr ⟨ab_CT_up ck_91 (by decide), List.forall_mem_cons.mpr ⟨ab_CT_up ck_98 (by decide), fun _ h => absurd h List.not_mem_nil⟩⟩) (by decide +kernel) (by decide +kernel)
/-- Reader.takeWord@at@6 (24 steps) -/
def ct_137 : ab_Ct := (78, [(1, 0, [2]), (1, 0, [1039])], [], [(2, 0, (1, 0, [1])), (2, 7, (1, 0, [6]))], [(2, [2, 3, 4, 5, 6, 9])], [([], [], [])])
set_option maxRecDepth 1000000 in
theorem ck_137 : ab_CT cm_ms hp hN 8 ct_137 := ab_chk_ok (us := [ct_92, ct_97]) (inl := inl0) (d := 6) (dd := 1) (n := 20000) (tms := []) cm_ms_ok cm_ms_rc hNP (List.forall_mem_cons.mpr ⟨ab_CT_up ck_92 (by decide), List.forall_mem_cons.mpr ⟨ab_CT_up ck_97 (by decide), fun _ h => absurd h List.not_mem_nil⟩⟩) (by decide +kernel) (by decide +kernel)
