/-! AB: contracts -/
/-- Reader.isWord@worth (z) (85 steps) -/
def ct_92 : ab_Ct := (86, [(1, 0, [2]), (1, 0, [1037])], [], [], [], [([(3, 0, [])], [(0, 1, 0, (0, 0, []), (0, 0, []))], [])])
set_option maxRecDepth 1000000 in
theorem ck_92 : ab_CT cm_ms hp0 hN0 6 ct_92 := ab_chk_ok (us := [ct_72]) (inl := inl0) (hin := inl0_ok) (d := 1) (dd := 4) (n := 20000) (tms := [((5, [(0, (1, 0, [2])), (1, (1, 0, [1037])), (2, (6, 0, [])), (4, (3, 0, []))], [], [(0, 5, 0, (0, 0, []), (0, 0, []))], []), [(0, 1, (0, 0, [])), ((-1), 2147483648, (3, 0, []))])]) cm_ms_ok cm_ms_rc hNP0 (List.forall_mem_cons.mpr ⟨ab_CT_up ck_72 (by decide), fun _ h => absurd h List.not_mem_nil⟩) (by decide +kernel) (by decide +kernel)
/-- Reader.isWord@at (z) (85 steps) -/
def ct_93 : ab_Ct := (86, [(1, 0, [2]), (1, 0, [1039])], [], [], [], [([(3, 0, [])], [(0, 1, 0, (0, 0, []), (0, 0, []))], [])])
set_option maxRecDepth 1000000 in
theorem ck_93 : ab_CT cm_ms hp0 hN0 6 ct_93 := ab_chk_ok (us := [ct_72]) (inl := inl0) (hin := inl0_ok) (d := 1) (dd := 4) (n := 20000) (tms := [((5, [(0, (1, 0, [2])), (1, (1, 0, [1039])), (2, (6, 0, [])), (4, (3, 0, []))], [], [(0, 2, 0, (0, 0, []), (0, 0, []))], []), [(0, 1, (0, 0, [])), ((-1), 2147483648, (3, 0, []))])]) cm_ms_ok cm_ms_rc hNP0 (List.forall_mem_cons.mpr ⟨ab_CT_up ck_72 (by decide), fun _ h => absurd h List.not_mem_nil⟩) (by decide +kernel) (by decide +kernel)
/-- Reader.isWord@town (85 steps) -/
def ct_94 : ab_Ct := (86, [(1, 0, [2]), (1, 0, [1001])], [], [], [], [([(3, 0, [])], [(0, 1, 0, (0, 0, []), (0, 0, []))], [])])
set_option maxRecDepth 1000000 in
theorem ck_94 : ab_CT cm_ms hp hN 6 ct_94 := ab_chk_ok (us := [ct_73]) (inl := inl0) (hin := inl0_ok) (d := 1) (dd := 4) (n := 20000) (tms := [((5, [(0, (1, 0, [2])), (1, (1, 0, [1001])), (2, (6, 0, [])), (4, (3, 0, []))], [], [(0, 4, 0, (0, 0, []), (0, 0, []))], []), [(0, 1, (0, 0, [])), ((-1), 2147483648, (3, 0, []))])]) cm_ms_ok cm_ms_rc hNP (List.forall_mem_cons.mpr ⟨ab_CT_up ck_73 (by decide), fun _ h => absurd h List.not_mem_nil⟩) (by decide +kernel) (by decide +kernel)
/-- Reader.isWord@man (85 steps) -/
def ct_95 : ab_Ct := (86, [(1, 0, [2]), (1, 0, [1003])], [], [], [], [([(3, 0, [])], [(0, 1, 0, (0, 0, []), (0, 0, []))], [])])
set_option maxRecDepth 1000000 in
theorem ck_95 : ab_CT cm_ms hp hN 6 ct_95 := ab_chk_ok (us := [ct_73]) (inl := inl0) (hin := inl0_ok) (d := 1) (dd := 4) (n := 20000) (tms := [((5, [(0, (1, 0, [2])), (1, (1, 0, [1003])), (2, (6, 0, [])), (4, (3, 0, []))], [], [(0, 3, 0, (0, 0, []), (0, 0, []))], []), [(0, 1, (0, 0, [])), ((-1), 2147483648, (3, 0, []))])]) cm_ms_ok cm_ms_rc hNP (List.forall_mem_cons.mpr ⟨ab_CT_up ck_73 (by decide), fun _ h => absurd h List.not_mem_nil⟩) (by decide +kernel) (by decide +kernel)
/-- Reader.isWord@motion (85 steps) -/
def ct_96 : ab_Ct := (86, [(1, 0, [2]), (1, 0, [1005])], [], [], [], [([(3, 0, [])], [(0, 1, 0, (0, 0, []), (0, 0, []))], [])])
set_option maxRecDepth 1000000 in
theorem ck_96 : ab_CT cm_ms hp hN 6 ct_96 := ab_chk_ok (us := [ct_73]) (inl := inl0) (hin := inl0_ok) (d := 1) (dd := 4) (n := 20000) (tms := [((5, [(0, (1, 0, [2])), (1, (1, 0, [1005])), (2, (6, 0, [])), (4, (3, 0, []))], [], [(0, 6, 0, (0, 0, []), (0, 0, []))], []), [(0, 1, (0, 0, [])), ((-1), 2147483648, (3, 0, []))])]) cm_ms_ok cm_ms_rc hNP (List.forall_mem_cons.mpr ⟨ab_CT_up ck_73 (by decide), fun _ h => absurd h List.not_mem_nil⟩) (by decide +kernel) (by decide +kernel)
/-- Reader.isWord@against (85 steps) -/
def ct_97 : ab_Ct := (86, [(1, 0, [2]), (1, 0, [1007])], [], [], [], [([(3, 0, [])], [(0, 1, 0, (0, 0, []), (0, 0, []))], [])])
set_option maxRecDepth 1000000 in
theorem ck_97 : ab_CT cm_ms hp hN 6 ct_97 := ab_chk_ok (us := [ct_73]) (inl := inl0) (hin := inl0_ok) (d := 1) (dd := 4) (n := 20000) (tms := [((5, [(0, (1, 0, [2])), (1, (1, 0, [1007])), (2, (6, 0, [])), (4, (3, 0, []))], [], [(0, 7, 0, (0, 0, []), (0, 0, []))], []), [(0, 1, (0, 0, [])), ((-1), 2147483648, (3, 0, []))])]) cm_ms_ok cm_ms_rc hNP (List.forall_mem_cons.mpr ⟨ab_CT_up ck_73 (by decide), fun _ h => absurd h List.not_mem_nil⟩) (by decide +kernel) (by decide +kernel)
/-- Reader.isWord@amends (85 steps) -/
def ct_98 : ab_Ct := (86, [(1, 0, [2]), (1, 0, [1009])], [], [], [], [([(3, 0, [])], [(0, 1, 0, (0, 0, []), (0, 0, []))], [])])
set_option maxRecDepth 1000000 in
theorem ck_98 : ab_CT cm_ms hp hN 6 ct_98 := ab_chk_ok (us := [ct_73]) (inl := inl0) (hin := inl0_ok) (d := 1) (dd := 4) (n := 20000) (tms := [((5, [(0, (1, 0, [2])), (1, (1, 0, [1009])), (2, (6, 0, [])), (4, (3, 0, []))], [], [(0, 6, 0, (0, 0, []), (0, 0, []))], []), [(0, 1, (0, 0, [])), ((-1), 2147483648, (3, 0, []))])]) cm_ms_ok cm_ms_rc hNP (List.forall_mem_cons.mpr ⟨ab_CT_up ck_73 (by decide), fun _ h => absurd h List.not_mem_nil⟩) (by decide +kernel) (by decide +kernel)
/-- Reader.isWord@quarrel (85 steps) -/
def ct_99 : ab_Ct := (86, [(1, 0, [2]), (1, 0, [1011])], [], [], [], [([(3, 0, [])], [(0, 1, 0, (0, 0, []), (0, 0, []))], [])])
set_option maxRecDepth 1000000 in
theorem ck_99 : ab_CT cm_ms hp hN 6 ct_99 := ab_chk_ok (us := [ct_73]) (inl := inl0) (hin := inl0_ok) (d := 1) (dd := 4) (n := 20000) (tms := [((5, [(0, (1, 0, [2])), (1, (1, 0, [1011])), (2, (6, 0, [])), (4, (3, 0, []))], [], [(0, 7, 0, (0, 0, []), (0, 0, []))], []), [(0, 1, (0, 0, [])), ((-1), 2147483648, (3, 0, []))])]) cm_ms_ok cm_ms_rc hNP (List.forall_mem_cons.mpr ⟨ab_CT_up ck_73 (by decide), fun _ h => absurd h List.not_mem_nil⟩) (by decide +kernel) (by decide +kernel)
/-- Reader.isWord@chair (85 steps) -/
def ct_100 : ab_Ct := (86, [(1, 0, [2]), (1, 0, [1013])], [], [], [], [([(3, 0, [])], [(0, 1, 0, (0, 0, []), (0, 0, []))], [])])
set_option maxRecDepth 1000000 in
theorem ck_100 : ab_CT cm_ms hp hN 6 ct_100 := ab_chk_ok (us := [ct_73]) (inl := inl0) (hin := inl0_ok) (d := 1) (dd := 4) (n := 20000) (tms := [((5, [(0, (1, 0, [2])), (1, (1, 0, [1013])), (2, (6, 0, [])), (4, (3, 0, []))], [], [(0, 5, 0, (0, 0, []), (0, 0, []))], []), [(0, 1, (0, 0, [])), ((-1), 2147483648, (3, 0, []))])]) cm_ms_ok cm_ms_rc hNP (List.forall_mem_cons.mpr ⟨ab_CT_up ck_73 (by decide), fun _ h => absurd h List.not_mem_nil⟩) (by decide +kernel) (by decide +kernel)
/-- Reader.isWord@heap (85 steps) -/
def ct_101 : ab_Ct := (86, [(1, 0, [2]), (1, 0, [1015])], [], [], [], [([(3, 0, [])], [(0, 1, 0, (0, 0, []), (0, 0, []))], [])])
set_option maxRecDepth 1000000 in
theorem ck_101 : ab_CT cm_ms hp hN 6 ct_101 := ab_chk_ok (us := [ct_73]) (inl := inl0) (hin := inl0_ok) (d := 1) (dd := 4) (n := 20000) (tms := [((5, [(0, (1, 0, [2])), (1, (1, 0, [1015])), (2, (6, 0, [])), (4, (3, 0, []))], [], [(0, 4, 0, (0, 0, []), (0, 0, []))], []), [(0, 1, (0, 0, [])), ((-1), 2147483648, (3, 0, []))])]) cm_ms_ok cm_ms_rc hNP (List.forall_mem_cons.mpr ⟨ab_CT_up ck_73 (by decide), fun _ h => absurd h List.not_mem_nil⟩) (by decide +kernel) (by decide +kernel)
/-- Reader.isWord@grows (85 steps) -/
def ct_102 : ab_Ct := (86, [(1, 0, [2]), (1, 0, [1017])], [], [], [], [([(3, 0, [])], [(0, 1, 0, (0, 0, []), (0, 0, []))], [])])
set_option maxRecDepth 1000000 in
theorem ck_102 : ab_CT cm_ms hp hN 6 ct_102 := ab_chk_ok (us := [ct_73]) (inl := inl0) (hin := inl0_ok) (d := 1) (dd := 4) (n := 20000) (tms := [((5, [(0, (1, 0, [2])), (1, (1, 0, [1017])), (2, (6, 0, [])), (4, (3, 0, []))], [], [(0, 5, 0, (0, 0, []), (0, 0, []))], []), [(0, 1, (0, 0, [])), ((-1), 2147483648, (3, 0, []))])]) cm_ms_ok cm_ms_rc hNP (List.forall_mem_cons.mpr ⟨ab_CT_up ck_73 (by decide), fun _ h => absurd h List.not_mem_nil⟩) (by decide +kernel) (by decide +kernel)
/-- Reader.isWord@bald (85 steps) -/
def ct_103 : ab_Ct := (86, [(1, 0, [2]), (1, 0, [1019])], [], [], [], [([(3, 0, [])], [(0, 1, 0, (0, 0, []), (0, 0, []))], [])])
set_option maxRecDepth 1000000 in
theorem ck_103 : ab_CT cm_ms hp hN 6 ct_103 := ab_chk_ok (us := [ct_73]) (inl := inl0) (hin := inl0_ok) (d := 1) (dd := 4) (n := 20000) (tms := [((5, [(0, (1, 0, [2])), (1, (1, 0, [1019])), (2, (6, 0, [])), (4, (3, 0, []))], [], [(0, 4, 0, (0, 0, []), (0, 0, []))], []), [(0, 1, (0, 0, [])), ((-1), 2147483648, (3, 0, []))])]) cm_ms_ok cm_ms_rc hNP (List.forall_mem_cons.mpr ⟨ab_CT_up ck_73 (by decide), fun _ h => absurd h List.not_mem_nil⟩) (by decide +kernel) (by decide +kernel)
/-- Reader.isWord@shave (85 steps) -/
def ct_104 : ab_Ct := (86, [(1, 0, [2]), (1, 0, [1021])], [], [], [], [([(3, 0, [])], [(0, 1, 0, (0, 0, []), (0, 0, []))], [])])
set_option maxRecDepth 1000000 in
theorem ck_104 : ab_CT cm_ms hp hN 6 ct_104 := ab_chk_ok (us := [ct_73]) (inl := inl0) (hin := inl0_ok) (d := 1) (dd := 4) (n := 20000) (tms := [((5, [(0, (1, 0, [2])), (1, (1, 0, [1021])), (2, (6, 0, [])), (4, (3, 0, []))], [], [(0, 5, 0, (0, 0, []), (0, 0, []))], []), [(0, 1, (0, 0, [])), ((-1), 2147483648, (3, 0, []))])]) cm_ms_ok cm_ms_rc hNP (List.forall_mem_cons.mpr ⟨ab_CT_up ck_73 (by decide), fun _ h => absurd h List.not_mem_nil⟩) (by decide +kernel) (by decide +kernel)
/-- Reader.isWord@fair (85 steps) -/
def ct_105 : ab_Ct := (86, [(1, 0, [2]), (1, 0, [1023])], [], [], [], [([(3, 0, [])], [(0, 1, 0, (0, 0, []), (0, 0, []))], [])])
set_option maxRecDepth 1000000 in
theorem ck_105 : ab_CT cm_ms hp hN 6 ct_105 := ab_chk_ok (us := [ct_73]) (inl := inl0) (hin := inl0_ok) (d := 1) (dd := 4) (n := 20000) (tms := [((5, [(0, (1, 0, [2])), (1, (1, 0, [1023])), (2, (6, 0, [])), (4, (3, 0, []))], [], [(0, 4, 0, (0, 0, []), (0, 0, []))], []), [(0, 1, (0, 0, [])), ((-1), 2147483648, (3, 0, []))])]) cm_ms_ok cm_ms_rc hNP (List.forall_mem_cons.mpr ⟨ab_CT_up ck_73 (by decide), fun _ h => absurd h List.not_mem_nil⟩) (by decide +kernel) (by decide +kernel)
/-- Reader.isWord@dark (85 steps) -/
def ct_106 : ab_Ct := (86, [(1, 0, [2]), (1, 0, [1025])], [], [], [], [([(3, 0, [])], [(0, 1, 0, (0, 0, []), (0, 0, []))], [])])
set_option maxRecDepth 1000000 in
theorem ck_106 : ab_CT cm_ms hp hN 6 ct_106 := ab_chk_ok (us := [ct_73]) (inl := inl0) (hin := inl0_ok) (d := 1) (dd := 4) (n := 20000) (tms := [((5, [(0, (1, 0, [2])), (1, (1, 0, [1025])), (2, (6, 0, [])), (4, (3, 0, []))], [], [(0, 4, 0, (0, 0, []), (0, 0, []))], []), [(0, 1, (0, 0, [])), ((-1), 2147483648, (3, 0, []))])]) cm_ms_ok cm_ms_rc hNP (List.forall_mem_cons.mpr ⟨ab_CT_up ck_73 (by decide), fun _ h => absurd h List.not_mem_nil⟩) (by decide +kernel) (by decide +kernel)
/-- Reader.isWord@grey (85 steps) -/
def ct_107 : ab_Ct := (86, [(1, 0, [2]), (1, 0, [1027])], [], [], [], [([(3, 0, [])], [(0, 1, 0, (0, 0, []), (0, 0, []))], [])])
set_option maxRecDepth 1000000 in
theorem ck_107 : ab_CT cm_ms hp hN 6 ct_107 := ab_chk_ok (us := [ct_73]) (inl := inl0) (hin := inl0_ok) (d := 1) (dd := 4) (n := 20000) (tms := [((5, [(0, (1, 0, [2])), (1, (1, 0, [1027])), (2, (6, 0, [])), (4, (3, 0, []))], [], [(0, 4, 0, (0, 0, []), (0, 0, []))], []), [(0, 1, (0, 0, [])), ((-1), 2147483648, (3, 0, []))])]) cm_ms_ok cm_ms_rc hNP (List.forall_mem_cons.mpr ⟨ab_CT_up ck_73 (by decide), fun _ h => absurd h List.not_mem_nil⟩) (by decide +kernel) (by decide +kernel)
/-- Reader.isWord@long (85 steps) -/
def ct_108 : ab_Ct := (86, [(1, 0, [2]), (1, 0, [1029])], [], [], [], [([(3, 0, [])], [(0, 1, 0, (0, 0, []), (0, 0, []))], [])])
set_option maxRecDepth 1000000 in
theorem ck_108 : ab_CT cm_ms hp hN 6 ct_108 := ab_chk_ok (us := [ct_73]) (inl := inl0) (hin := inl0_ok) (d := 1) (dd := 4) (n := 20000) (tms := [((5, [(0, (1, 0, [2])), (1, (1, 0, [1029])), (2, (6, 0, [])), (4, (3, 0, []))], [], [(0, 4, 0, (0, 0, []), (0, 0, []))], []), [(0, 1, (0, 0, [])), ((-1), 2147483648, (3, 0, []))])]) cm_ms_ok cm_ms_rc hNP (List.forall_mem_cons.mpr ⟨ab_CT_up ck_73 (by decide), fun _ h => absurd h List.not_mem_nil⟩) (by decide +kernel) (by decide +kernel)
/-- Reader.isWord@votes (85 steps) -/
def ct_109 : ab_Ct := (86, [(1, 0, [2]), (1, 0, [1031])], [], [], [], [([(3, 0, [])], [(0, 1, 0, (0, 0, []), (0, 0, []))], [])])
set_option maxRecDepth 1000000 in
theorem ck_109 : ab_CT cm_ms hp hN 6 ct_109 := ab_chk_ok (us := [ct_73]) (inl := inl0) (hin := inl0_ok) (d := 1) (dd := 4) (n := 20000) (tms := [((5, [(0, (1, 0, [2])), (1, (1, 0, [1031])), (2, (6, 0, [])), (4, (3, 0, []))], [], [(0, 5, 0, (0, 0, []), (0, 0, []))], []), [(0, 1, (0, 0, [])), ((-1), 2147483648, (3, 0, []))])]) cm_ms_ok cm_ms_rc hNP (List.forall_mem_cons.mpr ⟨ab_CT_up ck_73 (by decide), fun _ h => absurd h List.not_mem_nil⟩) (by decide +kernel) (by decide +kernel)
/-- Reader.isWord@cuts (85 steps) -/
def ct_110 : ab_Ct := (86, [(1, 0, [2]), (1, 0, [1033])], [], [], [], [([(3, 0, [])], [(0, 1, 0, (0, 0, []), (0, 0, []))], [])])
set_option maxRecDepth 1000000 in
theorem ck_110 : ab_CT cm_ms hp hN 6 ct_110 := ab_chk_ok (us := [ct_73]) (inl := inl0) (hin := inl0_ok) (d := 1) (dd := 4) (n := 20000) (tms := [((5, [(0, (1, 0, [2])), (1, (1, 0, [1033])), (2, (6, 0, [])), (4, (3, 0, []))], [], [(0, 4, 0, (0, 0, []), (0, 0, []))], []), [(0, 1, (0, 0, [])), ((-1), 2147483648, (3, 0, []))])]) cm_ms_ok cm_ms_rc hNP (List.forall_mem_cons.mpr ⟨ab_CT_up ck_73 (by decide), fun _ h => absurd h List.not_mem_nil⟩) (by decide +kernel) (by decide +kernel)
/-- Reader.isWord@needs (85 steps) -/
def ct_111 : ab_Ct := (86, [(1, 0, [2]), (1, 0, [1035])], [], [], [], [([(3, 0, [])], [(0, 1, 0, (0, 0, []), (0, 0, []))], [])])
set_option maxRecDepth 1000000 in
theorem ck_111 : ab_CT cm_ms hp hN 6 ct_111 := ab_chk_ok (us := [ct_73]) (inl := inl0) (hin := inl0_ok) (d := 1) (dd := 4) (n := 20000) (tms := [((5, [(0, (1, 0, [2])), (1, (1, 0, [1035])), (2, (6, 0, [])), (4, (3, 0, []))], [], [(0, 5, 0, (0, 0, []), (0, 0, []))], []), [(0, 1, (0, 0, [])), ((-1), 2147483648, (3, 0, []))])]) cm_ms_ok cm_ms_rc hNP (List.forall_mem_cons.mpr ⟨ab_CT_up ck_73 (by decide), fun _ h => absurd h List.not_mem_nil⟩) (by decide +kernel) (by decide +kernel)
/-- Reader.isWord@worth (85 steps) -/
def ct_112 : ab_Ct := (86, [(1, 0, [2]), (1, 0, [1037])], [], [], [], [([(3, 0, [])], [(0, 1, 0, (0, 0, []), (0, 0, []))], [])])
set_option maxRecDepth 1000000 in
theorem ck_112 : ab_CT cm_ms hp hN 6 ct_112 := ab_chk_ok (us := [ct_73]) (inl := inl0) (hin := inl0_ok) (d := 1) (dd := 4) (n := 20000) (tms := [((5, [(0, (1, 0, [2])), (1, (1, 0, [1037])), (2, (6, 0, [])), (4, (3, 0, []))], [], [(0, 5, 0, (0, 0, []), (0, 0, []))], []), [(0, 1, (0, 0, [])), ((-1), 2147483648, (3, 0, []))])]) cm_ms_ok cm_ms_rc hNP (List.forall_mem_cons.mpr ⟨ab_CT_up ck_73 (by decide), fun _ h => absurd h List.not_mem_nil⟩) (by decide +kernel) (by decide +kernel)
/-- Reader.isWord@at (85 steps) -/
def ct_113 : ab_Ct := (86, [(1, 0, [2]), (1, 0, [1039])], [], [], [], [([(3, 0, [])], [(0, 1, 0, (0, 0, []), (0, 0, []))], [])])
set_option maxRecDepth 1000000 in
theorem ck_113 : ab_CT cm_ms hp hN 6 ct_113 := ab_chk_ok (us := [ct_73]) (inl := inl0) (hin := inl0_ok) (d := 1) (dd := 4) (n := 20000) (tms := [((5, [(0, (1, 0, [2])), (1, (1, 0, [1039])), (2, (6, 0, [])), (4, (3, 0, []))], [], [(0, 2, 0, (0, 0, []), (0, 0, []))], []), [(0, 1, (0, 0, [])), ((-1), 2147483648, (3, 0, []))])]) cm_ms_ok cm_ms_rc hNP (List.forall_mem_cons.mpr ⟨ab_CT_up ck_73 (by decide), fun _ h => absurd h List.not_mem_nil⟩) (by decide +kernel) (by decide +kernel)
/-- Reader.readLetters (z) (178 steps) -/
def ct_114 : ab_Ct := (89, [(1, 0, [2])], [], [(2, 0, (1, 0, [1]))], [(2, [2, 3, 6])], [([], [], [])])
set_option maxRecDepth 1000000 in
theorem ck_114 : ab_CT cm_ms hp0 hN0 3 ct_114 := ab_chk_ok (us := [ct_72]) (inl := inl0) (hin := inl0_ok) (d := 1) (dd := 1) (n := 20000) (tms := [((0, [(0, (1, 0, [2]))], [], [(1, 900, 0, (0, 0, []), (0, 0, [])), (1, 900, 0, (0, 0, []), (0, 0, []))], [(2, 0, (1, 0, [1])), (2, 1, (3, 0, [])), (2, 2, (3, 1, []))]), [(0, 1, (0, 0, [])), ((-1), 2147483648, (3, 1, []))])]) cm_ms_ok cm_ms_rc hNP0 (List.forall_mem_cons.mpr ⟨ab_CT_up ck_72 (by decide), fun _ h => absurd h List.not_mem_nil⟩) (by decide +kernel) (by decide +kernel)
/-- Reader.readLetters (178 steps) -/
def ct_115 : ab_Ct := (89, [(1, 0, [2])], [], [(2, 0, (1, 0, [1]))], [(2, [2, 3, 6])], [([], [], [])])
set_option maxRecDepth 1000000 in
theorem ck_115 : ab_CT cm_ms hp hN 3 ct_115 := ab_chk_ok (us := [ct_73]) (inl := inl0) (hin := inl0_ok) (d := 1) (dd := 1) (n := 20000) (tms := [((0, [(0, (1, 0, [2]))], [], [(1, 900, 0, (0, 0, []), (0, 0, [])), (1, 900, 0, (0, 0, []), (0, 0, []))], [(2, 0, (1, 0, [1])), (2, 1, (3, 0, [])), (2, 2, (3, 1, []))]), [(0, 1, (0, 0, [])), ((-1), 2147483648, (3, 1, []))])]) cm_ms_ok cm_ms_rc hNP (List.forall_mem_cons.mpr ⟨ab_CT_up ck_73 (by decide), fun _ h => absurd h List.not_mem_nil⟩) (by decide +kernel) (by decide +kernel)
/-- Reader.readDigits (z) (186 steps) -/
def ct_116 : ab_Ct := (90, [(1, 0, [2])], [], [(2, 0, (1, 0, [1]))], [(2, [2, 3, 5])], [([], [], [])])
set_option maxRecDepth 1000000 in
theorem ck_116 : ab_CT cm_ms hp0 hN0 2 ct_116 := ab_chk_ok (us := []) (inl := inl0) (hin := inl0_ok) (d := 0) (dd := 1) (n := 20000) (tms := [((0, [(0, (1, 0, [2]))], [], [(1, 900, 0, (0, 0, []), (0, 0, [])), (1, 900, 0, (0, 0, []), (0, 0, [])), ((-2147483648), 2147483647, 0, (0, 0, []), (0, 0, []))], [(2, 0, (1, 0, [1])), (2, 1, (3, 0, [])), (2, 2, (3, 1, [])), (2, 5, (3, 2, []))]), [(0, 1, (0, 0, [])), ((-1), 2147483648, (3, 1, []))])]) cm_ms_ok cm_ms_rc hNP0 (fun _ h => absurd h List.not_mem_nil) (by decide +kernel) (by decide +kernel)
/-- Reader.readDigits (186 steps) -/
def ct_117 : ab_Ct := (90, [(1, 0, [2])], [], [(2, 0, (1, 0, [1]))], [(2, [2, 3, 5])], [([], [], [])])
set_option maxRecDepth 1000000 in
theorem ck_117 : ab_CT cm_ms hp hN 2 ct_117 := ab_chk_ok (us := []) (inl := inl0) (hin := inl0_ok) (d := 0) (dd := 1) (n := 20000) (tms := [((0, [(0, (1, 0, [2]))], [], [(1, 900, 0, (0, 0, []), (0, 0, [])), (1, 900, 0, (0, 0, []), (0, 0, [])), ((-2147483648), 2147483647, 0, (0, 0, []), (0, 0, []))], [(2, 0, (1, 0, [1])), (2, 1, (3, 0, [])), (2, 2, (3, 1, [])), (2, 5, (3, 2, []))]), [(0, 1, (0, 0, [])), ((-1), 2147483648, (3, 1, []))])]) cm_ms_ok cm_ms_rc hNP (fun _ h => absurd h List.not_mem_nil) (by decide +kernel) (by decide +kernel)
/-- Reader.stepOn (z) (435 steps) -/
def ct_118 : ab_Ct := (88, [(1, 0, [2])], [], [(2, 0, (1, 0, [1]))], [(2, [2, 3, 4, 5, 6])], [([], [], [])])
set_option maxRecDepth 1000000 in
theorem ck_118 : ab_CT cm_ms hp0 hN0 5 ct_118 := ab_chk_ok (us := [ct_114, ct_116]) (inl := inl0) (hin := inl0_ok) (d := 3) (dd := 1) (n := 20000) (tms := [((8, [(0, (1, 0, [2]))], [], [(0, 900, 0, (0, 0, []), (0, 0, []))], [(2, 0, (1, 0, [1])), (2, 2, (3, 0, [])), (2, 9, (0, 0, []))]), [(0, 1, (0, 0, [])), ((-1), 2147483648, (3, 0, []))])]) cm_ms_ok cm_ms_rc hNP0 (List.forall_mem_cons.mpr ⟨ab_CT_up ck_114 (by decide), List.forall_mem_cons.mpr ⟨ab_CT_up ck_116 (by decide), fun _ h => absurd h List.not_mem_nil⟩⟩) (by decide +kernel) (by decide +kernel)
/-- Reader.stepOn (435 steps) -/
def ct_119 : ab_Ct := (88, [(1, 0, [2])], [], [(2, 0, (1, 0, [1]))], [(2, [2, 3, 4, 5, 6])], [([], [], [])])
set_option maxRecDepth 1000000 in
theorem ck_119 : ab_CT cm_ms hp hN 5 ct_119 := ab_chk_ok (us := [ct_115, ct_117]) (inl := inl0) (hin := inl0_ok) (d := 3) (dd := 1) (n := 20000) (tms := [((8, [(0, (1, 0, [2]))], [], [(0, 900, 0, (0, 0, []), (0, 0, []))], [(2, 0, (1, 0, [1])), (2, 2, (3, 0, [])), (2, 9, (0, 0, []))]), [(0, 1, (0, 0, [])), ((-1), 2147483648, (3, 0, []))])]) cm_ms_ok cm_ms_rc hNP (List.forall_mem_cons.mpr ⟨ab_CT_up ck_115 (by decide), List.forall_mem_cons.mpr ⟨ab_CT_up ck_117 (by decide), fun _ h => absurd h List.not_mem_nil⟩⟩) (by decide +kernel) (by decide +kernel)
/-- Reader.takeWord@town (24 steps) -/
def ct_120 : ab_Ct := (78, [(1, 0, [2]), (1, 0, [1001])], [], [(2, 0, (1, 0, [1]))], [(2, [2, 3, 4, 5, 6, 9])], [([], [], [])])
set_option maxRecDepth 1000000 in
theorem ck_120 : ab_CT cm_ms hp hN 8 ct_120 := ab_chk_ok (us := [ct_94, ct_119]) (inl := inl0) (hin := inl0_ok) (d := 6) (dd := 1) (n := 20000) (tms := []) cm_ms_ok cm_ms_rc hNP (List.forall_mem_cons.mpr ⟨ab_CT_up ck_94 (by decide), List.forall_mem_cons.mpr ⟨ab_CT_up ck_119 (by decide), fun _ h => absurd h List.not_mem_nil⟩⟩) (by decide +kernel) (by decide +kernel)
/-- Reader.takeWord@man (24 steps) -/
def ct_121 : ab_Ct := (78, [(1, 0, [2]), (1, 0, [1003])], [], [(2, 0, (1, 0, [1]))], [(2, [2, 3, 4, 5, 6, 9])], [([], [], [])])
set_option maxRecDepth 1000000 in
theorem ck_121 : ab_CT cm_ms hp hN 8 ct_121 := ab_chk_ok (us := [ct_95, ct_119]) (inl := inl0) (hin := inl0_ok) (d := 6) (dd := 1) (n := 20000) (tms := []) cm_ms_ok cm_ms_rc hNP (List.forall_mem_cons.mpr ⟨ab_CT_up ck_95 (by decide), List.forall_mem_cons.mpr ⟨ab_CT_up ck_119 (by decide), fun _ h => absurd h List.not_mem_nil⟩⟩) (by decide +kernel) (by decide +kernel)
/-- Reader.takeWord@motion (24 steps) -/
def ct_122 : ab_Ct := (78, [(1, 0, [2]), (1, 0, [1005])], [], [(2, 0, (1, 0, [1]))], [(2, [2, 3, 4, 5, 6, 9])], [([], [], [])])
set_option maxRecDepth 1000000 in
theorem ck_122 : ab_CT cm_ms hp hN 8 ct_122 := ab_chk_ok (us := [ct_96, ct_119]) (inl := inl0) (hin := inl0_ok) (d := 6) (dd := 1) (n := 20000) (tms := []) cm_ms_ok cm_ms_rc hNP (List.forall_mem_cons.mpr ⟨ab_CT_up ck_96 (by decide), List.forall_mem_cons.mpr ⟨ab_CT_up ck_119 (by decide), fun _ h => absurd h List.not_mem_nil⟩⟩) (by decide +kernel) (by decide +kernel)
/-- Reader.takeWord@against (24 steps) -/
def ct_123 : ab_Ct := (78, [(1, 0, [2]), (1, 0, [1007])], [], [(2, 0, (1, 0, [1]))], [(2, [2, 3, 4, 5, 6, 9])], [([], [], [])])
set_option maxRecDepth 1000000 in
theorem ck_123 : ab_CT cm_ms hp hN 8 ct_123 := ab_chk_ok (us := [ct_97, ct_119]) (inl := inl0) (hin := inl0_ok) (d := 6) (dd := 1) (n := 20000) (tms := []) cm_ms_ok cm_ms_rc hNP (List.forall_mem_cons.mpr ⟨ab_CT_up ck_97 (by decide), List.forall_mem_cons.mpr ⟨ab_CT_up ck_119 (by decide), fun _ h => absurd h List.not_mem_nil⟩⟩) (by decide +kernel) (by decide +kernel)
/-- Reader.takeWord@amends (24 steps) -/
def ct_124 : ab_Ct := (78, [(1, 0, [2]), (1, 0, [1009])], [], [(2, 0, (1, 0, [1]))], [(2, [2, 3, 4, 5, 6, 9])], [([], [], [])])
set_option maxRecDepth 1000000 in
theorem ck_124 : ab_CT cm_ms hp hN 8 ct_124 := ab_chk_ok (us := [ct_98, ct_119]) (inl := inl0) (hin := inl0_ok) (d := 6) (dd := 1) (n := 20000) (tms := []) cm_ms_ok cm_ms_rc hNP (List.forall_mem_cons.mpr ⟨ab_CT_up ck_98 (by decide), List.forall_mem_cons.mpr ⟨ab_CT_up ck_119 (by decide), fun _ h => absurd h List.not_mem_nil⟩⟩) (by decide +kernel) (by decide +kernel)
/-- Reader.takeWord@quarrel (24 steps) -/
def ct_125 : ab_Ct := (78, [(1, 0, [2]), (1, 0, [1011])], [], [(2, 0, (1, 0, [1]))], [(2, [2, 3, 4, 5, 6, 9])], [([], [], [])])
set_option maxRecDepth 1000000 in
theorem ck_125 : ab_CT cm_ms hp hN 8 ct_125 := ab_chk_ok (us := [ct_99, ct_119]) (inl := inl0) (hin := inl0_ok) (d := 6) (dd := 1) (n := 20000) (tms := []) cm_ms_ok cm_ms_rc hNP (List.forall_mem_cons.mpr ⟨ab_CT_up ck_99 (by decide), List.forall_mem_cons.mpr ⟨ab_CT_up ck_119 (by decide), fun _ h => absurd h List.not_mem_nil⟩⟩) (by decide +kernel) (by decide +kernel)
/-- Reader.takeWord@chair (24 steps) -/
def ct_126 : ab_Ct := (78, [(1, 0, [2]), (1, 0, [1013])], [], [(2, 0, (1, 0, [1]))], [(2, [2, 3, 4, 5, 6, 9])], [([], [], [])])
set_option maxRecDepth 1000000 in
theorem ck_126 : ab_CT cm_ms hp hN 8 ct_126 := ab_chk_ok (us := [ct_100, ct_119]) (inl := inl0) (hin := inl0_ok) (d := 6) (dd := 1) (n := 20000) (tms := []) cm_ms_ok cm_ms_rc hNP (List.forall_mem_cons.mpr ⟨ab_CT_up ck_100 (by decide), List.forall_mem_cons.mpr ⟨ab_CT_up ck_119 (by decide), fun _ h => absurd h List.not_mem_nil⟩⟩) (by decide +kernel) (by decide +kernel)
/-- Reader.takeWord@heap (24 steps) -/
def ct_127 : ab_Ct := (78, [(1, 0, [2]), (1, 0, [1015])], [], [(2, 0, (1, 0, [1]))], [(2, [2, 3, 4, 5, 6, 9])], [([], [], [])])
set_option maxRecDepth 1000000 in
theorem ck_127 : ab_CT cm_ms hp hN 8 ct_127 := ab_chk_ok (us := [ct_101, ct_119]) (inl := inl0) (hin := inl0_ok) (d := 6) (dd := 1) (n := 20000) (tms := []) cm_ms_ok cm_ms_rc hNP (List.forall_mem_cons.mpr ⟨ab_CT_up ck_101 (by decide), List.forall_mem_cons.mpr ⟨ab_CT_up ck_119 (by decide), fun _ h => absurd h List.not_mem_nil⟩⟩) (by decide +kernel) (by decide +kernel)
/-- Reader.takeWord@grows (24 steps) -/
def ct_128 : ab_Ct := (78, [(1, 0, [2]), (1, 0, [1017])], [], [(2, 0, (1, 0, [1]))], [(2, [2, 3, 4, 5, 6, 9])], [([], [], [])])
set_option maxRecDepth 1000000 in
theorem ck_128 : ab_CT cm_ms hp hN 8 ct_128 := ab_chk_ok (us := [ct_102, ct_119]) (inl := inl0) (hin := inl0_ok) (d := 6) (dd := 1) (n := 20000) (tms := []) cm_ms_ok cm_ms_rc hNP (List.forall_mem_cons.mpr ⟨ab_CT_up ck_102 (by decide), List.forall_mem_cons.mpr ⟨ab_CT_up ck_119 (by decide), fun _ h => absurd h List.not_mem_nil⟩⟩) (by decide +kernel) (by decide +kernel)
/-- Reader.takeWord@bald (24 steps) -/
def ct_129 : ab_Ct := (78, [(1, 0, [2]), (1, 0, [1019])], [], [(2, 0, (1, 0, [1]))], [(2, [2, 3, 4, 5, 6, 9])], [([], [], [])])
set_option maxRecDepth 1000000 in
theorem ck_129 : ab_CT cm_ms hp hN 8 ct_129 := ab_chk_ok (us := [ct_103, ct_119]) (inl := inl0) (hin := inl0_ok) (d := 6) (dd := 1) (n := 20000) (tms := []) cm_ms_ok cm_ms_rc hNP (List.forall_mem_cons.mpr ⟨ab_CT_up ck_103 (by decide), List.forall_mem_cons.mpr ⟨ab_CT_up ck_119 (by decide), fun _ h => absurd h List.not_mem_nil⟩⟩) (by decide +kernel) (by decide +kernel)
/-- Reader.takeWord@shave (24 steps) -/
def ct_130 : ab_Ct := (78, [(1, 0, [2]), (1, 0, [1021])], [], [(2, 0, (1, 0, [1]))], [(2, [2, 3, 4, 5, 6, 9])], [([], [], [])])
set_option maxRecDepth 1000000 in
theorem ck_130 : ab_CT cm_ms hp hN 8 ct_130 := ab_chk_ok (us := [ct_104, ct_119]) (inl := inl0) (hin := inl0_ok) (d := 6) (dd := 1) (n := 20000) (tms := []) cm_ms_ok cm_ms_rc hNP (List.forall_mem_cons.mpr ⟨ab_CT_up ck_104 (by decide), List.forall_mem_cons.mpr ⟨ab_CT_up ck_119 (by decide), fun _ h => absurd h List.not_mem_nil⟩⟩) (by decide +kernel) (by decide +kernel)
/-- Reader.takeWord@fair (24 steps) -/
def ct_131 : ab_Ct := (78, [(1, 0, [2]), (1, 0, [1023])], [], [(2, 0, (1, 0, [1]))], [(2, [2, 3, 4, 5, 6, 9])], [([], [], [])])
set_option maxRecDepth 1000000 in
theorem ck_131 : ab_CT cm_ms hp hN 8 ct_131 := ab_chk_ok (us := [ct_105, ct_119]) (inl := inl0) (hin := inl0_ok) (d := 6) (dd := 1) (n := 20000) (tms := []) cm_ms_ok cm_ms_rc hNP (List.forall_mem_cons.mpr ⟨ab_CT_up ck_105 (by decide), List.forall_mem_cons.mpr ⟨ab_CT_up ck_119 (by decide), fun _ h => absurd h List.not_mem_nil⟩⟩) (by decide +kernel) (by decide +kernel)
/-- Reader.takeWord@dark (24 steps) -/
def ct_132 : ab_Ct := (78, [(1, 0, [2]), (1, 0, [1025])], [], [(2, 0, (1, 0, [1]))], [(2, [2, 3, 4, 5, 6, 9])], [([], [], [])])
set_option maxRecDepth 1000000 in
theorem ck_132 : ab_CT cm_ms hp hN 8 ct_132 := ab_chk_ok (us := [ct_106, ct_119]) (inl := inl0) (hin := inl0_ok) (d := 6) (dd := 1) (n := 20000) (tms := []) cm_ms_ok cm_ms_rc hNP (List.forall_mem_cons.mpr ⟨ab_CT_up ck_106 (by decide), List.forall_mem_cons.mpr ⟨ab_CT_up ck_119 (by decide), fun _ h => absurd h List.not_mem_nil⟩⟩) (by decide +kernel) (by decide +kernel)
/-- Reader.takeWord@grey (24 steps) -/
def ct_133 : ab_Ct := (78, [(1, 0, [2]), (1, 0, [1027])], [], [(2, 0, (1, 0, [1]))], [(2, [2, 3, 4, 5, 6, 9])], [([], [], [])])
set_option maxRecDepth 1000000 in
theorem ck_133 : ab_CT cm_ms hp hN 8 ct_133 := ab_chk_ok (us := [ct_107, ct_119]) (inl := inl0) (hin := inl0_ok) (d := 6) (dd := 1) (n := 20000) (tms := []) cm_ms_ok cm_ms_rc hNP (List.forall_mem_cons.mpr ⟨ab_CT_up ck_107 (by decide), List.forall_mem_cons.mpr ⟨ab_CT_up ck_119 (by decide), fun _ h => absurd h List.not_mem_nil⟩⟩) (by decide +kernel) (by decide +kernel)
/-- Reader.takeWord@long (24 steps) -/
def ct_134 : ab_Ct := (78, [(1, 0, [2]), (1, 0, [1029])], [], [(2, 0, (1, 0, [1]))], [(2, [2, 3, 4, 5, 6, 9])], [([], [], [])])
set_option maxRecDepth 1000000 in
theorem ck_134 : ab_CT cm_ms hp hN 8 ct_134 := ab_chk_ok (us := [ct_108, ct_119]) (inl := inl0) (hin := inl0_ok) (d := 6) (dd := 1) (n := 20000) (tms := []) cm_ms_ok cm_ms_rc hNP (List.forall_mem_cons.mpr ⟨ab_CT_up ck_108 (by decide), List.forall_mem_cons.mpr ⟨ab_CT_up ck_119 (by decide), fun _ h => absurd h List.not_mem_nil⟩⟩) (by decide +kernel) (by decide +kernel)
/-- Reader.takeWord@votes (24 steps) -/
def ct_135 : ab_Ct := (78, [(1, 0, [2]), (1, 0, [1031])], [], [(2, 0, (1, 0, [1]))], [(2, [2, 3, 4, 5, 6, 9])], [([], [], [])])
set_option maxRecDepth 1000000 in
theorem ck_135 : ab_CT cm_ms hp hN 8 ct_135 := ab_chk_ok (us := [ct_109, ct_119]) (inl := inl0) (hin := inl0_ok) (d := 6) (dd := 1) (n := 20000) (tms := []) cm_ms_ok cm_ms_rc hNP (List.forall_mem_cons.mpr ⟨ab_CT_up ck_109 (by decide), List.forall_mem_cons.mpr ⟨ab_CT_up ck_119 (by decide), fun _ h => absurd h List.not_mem_nil⟩⟩) (by decide +kernel) (by decide +kernel)
/-- Reader.takeWord@cuts (24 steps) -/
def ct_136 : ab_Ct := (78, [(1, 0, [2]), (1, 0, [1033])], [], [(2, 0, (1, 0, [1]))], [(2, [2, 3, 4, 5, 6, 9])], [([], [], [])])
set_option maxRecDepth 1000000 in
theorem ck_136 : ab_CT cm_ms hp hN 8 ct_136 := ab_chk_ok (us := [ct_110, ct_119]) (inl := inl0) (hin := inl0_ok) (d := 6) (dd := 1) (n := 20000) (tms := []) cm_ms_ok cm_ms_rc hNP (List.forall_mem_cons.mpr ⟨ab_CT_up ck_110 (by decide), List.forall_mem_cons.mpr ⟨ab_CT_up ck_119 (by decide), fun _ h => absurd h List.not_mem_nil⟩⟩) (by decide +kernel) (by decide +kernel)
/-- Reader.takeWord@needs (24 steps) -/
def ct_137 : ab_Ct := (78, [(1, 0, [2]), (1, 0, [1035])], [], [(2, 0, (1, 0, [1]))], [(2, [2, 3, 4, 5, 6, 9])], [([], [], [])])
set_option maxRecDepth 1000000 in
theorem ck_137 : ab_CT cm_ms hp hN 8 ct_137 := ab_chk_ok (us := [ct_111, ct_119]) (inl := inl0) (hin := inl0_ok) (d := 6) (dd := 1) (n := 20000) (tms := []) cm_ms_ok cm_ms_rc hNP (List.forall_mem_cons.mpr ⟨ab_CT_up ck_111 (by decide), List.forall_mem_cons.mpr ⟨ab_CT_up ck_119 (by decide), fun _ h => absurd h List.not_mem_nil⟩⟩) (by decide +kernel) (by decide +kernel)
