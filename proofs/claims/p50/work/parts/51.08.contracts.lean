/-- Model.isWord@grows (104 steps) -/
def ct_301 : ab_Ct := (178, [(1, 0, [124]), (1, 0, [1043])], [], [], [], [([(3, 0, [])], [(0, 1, 0, (0, 0, []), (0, 0, []))], [])])
set_option maxRecDepth 1000000 in
theorem ck_301 : ab_CT cm_ms hp hN 5 ct_301 := ab_chk_ok (us := []) (inl := inl0) (hin := inl0_ok) (d := 0) (dd := 4) (n := 20000) (tms := [((32, [(0, (1, 0, [124])), (1, (1, 0, [1043])), (2, (3, 0, [])), (3, (3, 1, []))], [], [(0, 1, 0, (0, 0, []), (0, 0, [])), (0, 5, 0, (0, 0, []), (0, 0, []))], [(124, 6, (0, 2, [])), (124, 8, (0, 5, [])), (124, 13, (0, 0, []))]), [(0, 1, (0, 0, [])), ((-1), 2147483648, (3, 1, []))])]) cm_ms_ok cm_ms_rc hNP (fun _ h => absurd h List.not_mem_nil) (by decide +kernel) (by decide +kernel)
/-- Model.isWord@bald (104 steps) -/
def ct_302 : ab_Ct := (178, [(1, 0, [124]), (1, 0, [1045])], [], [], [], [([(3, 0, [])], [(0, 1, 0, (0, 0, []), (0, 0, []))], [])])
set_option maxRecDepth 1000000 in
theorem ck_302 : ab_CT cm_ms hp hN 5 ct_302 := ab_chk_ok (us := []) (inl := inl0) (hin := inl0_ok) (d := 0) (dd := 4) (n := 20000) (tms := [((32, [(0, (1, 0, [124])), (1, (1, 0, [1045])), (2, (3, 0, [])), (3, (3, 1, []))], [], [(0, 1, 0, (0, 0, []), (0, 0, [])), (0, 4, 0, (0, 0, []), (0, 0, []))], [(124, 6, (0, 2, [])), (124, 8, (0, 4, [])), (124, 13, (0, 0, []))]), [(0, 1, (0, 0, [])), ((-1), 2147483648, (3, 1, []))])]) cm_ms_ok cm_ms_rc hNP (fun _ h => absurd h List.not_mem_nil) (by decide +kernel) (by decide +kernel)
/-- Model.isWord@shave (104 steps) -/
def ct_303 : ab_Ct := (178, [(1, 0, [124]), (1, 0, [1047])], [], [], [], [([(3, 0, [])], [(0, 1, 0, (0, 0, []), (0, 0, []))], [])])
set_option maxRecDepth 1000000 in
theorem ck_303 : ab_CT cm_ms hp hN 5 ct_303 := ab_chk_ok (us := []) (inl := inl0) (hin := inl0_ok) (d := 0) (dd := 4) (n := 20000) (tms := [((32, [(0, (1, 0, [124])), (1, (1, 0, [1047])), (2, (3, 0, [])), (3, (3, 1, []))], [], [(0, 1, 0, (0, 0, []), (0, 0, [])), (0, 5, 0, (0, 0, []), (0, 0, []))], [(124, 6, (0, 2, [])), (124, 8, (0, 5, [])), (124, 13, (0, 0, []))]), [(0, 1, (0, 0, [])), ((-1), 2147483648, (3, 1, []))])]) cm_ms_ok cm_ms_rc hNP (fun _ h => absurd h List.not_mem_nil) (by decide +kernel) (by decide +kernel)
/-- Model.isWord@man (104 steps) -/
def ct_304 : ab_Ct := (178, [(1, 0, [124]), (1, 0, [1049])], [], [], [], [([(3, 0, [])], [(0, 1, 0, (0, 0, []), (0, 0, []))], [])])
set_option maxRecDepth 1000000 in
theorem ck_304 : ab_CT cm_ms hp hN 5 ct_304 := ab_chk_ok (us := []) (inl := inl0) (hin := inl0_ok) (d := 0) (dd := 4) (n := 20000) (tms := [((32, [(0, (1, 0, [124])), (1, (1, 0, [1049])), (2, (3, 0, [])), (3, (3, 1, []))], [], [(0, 1, 0, (0, 0, []), (0, 0, [])), (0, 3, 0, (0, 0, []), (0, 0, []))], [(124, 6, (0, 2, [])), (124, 8, (0, 3, [])), (124, 13, (0, 0, []))]), [(0, 1, (0, 0, [])), ((-1), 2147483648, (3, 1, []))])]) cm_ms_ok cm_ms_rc hNP (fun _ h => absurd h List.not_mem_nil) (by decide +kernel) (by decide +kernel)
/-- Model.isWord@motion (104 steps) -/
def ct_305 : ab_Ct := (178, [(1, 0, [124]), (1, 0, [1051])], [], [], [], [([(3, 0, [])], [(0, 1, 0, (0, 0, []), (0, 0, []))], [])])
set_option maxRecDepth 1000000 in
theorem ck_305 : ab_CT cm_ms hp hN 5 ct_305 := ab_chk_ok (us := []) (inl := inl0) (hin := inl0_ok) (d := 0) (dd := 4) (n := 20000) (tms := [((32, [(0, (1, 0, [124])), (1, (1, 0, [1051])), (2, (3, 0, [])), (3, (3, 1, []))], [], [(0, 1, 0, (0, 0, []), (0, 0, [])), (0, 6, 0, (0, 0, []), (0, 0, []))], [(124, 6, (0, 2, [])), (124, 8, (0, 6, [])), (124, 13, (0, 0, []))]), [(0, 1, (0, 0, [])), ((-1), 2147483648, (3, 1, []))])]) cm_ms_ok cm_ms_rc hNP (fun _ h => absurd h List.not_mem_nil) (by decide +kernel) (by decide +kernel)
/-- Model.isWord@against (104 steps) -/
def ct_306 : ab_Ct := (178, [(1, 0, [124]), (1, 0, [1053])], [], [], [], [([(3, 0, [])], [(0, 1, 0, (0, 0, []), (0, 0, []))], [])])
set_option maxRecDepth 1000000 in
theorem ck_306 : ab_CT cm_ms hp hN 5 ct_306 := ab_chk_ok (us := []) (inl := inl0) (hin := inl0_ok) (d := 0) (dd := 4) (n := 20000) (tms := [((32, [(0, (1, 0, [124])), (1, (1, 0, [1053])), (2, (3, 0, [])), (3, (3, 1, []))], [], [(0, 1, 0, (0, 0, []), (0, 0, [])), (0, 7, 0, (0, 0, []), (0, 0, []))], [(124, 6, (0, 2, [])), (124, 8, (0, 7, [])), (124, 13, (0, 0, []))]), [(0, 1, (0, 0, [])), ((-1), 2147483648, (3, 1, []))])]) cm_ms_ok cm_ms_rc hNP (fun _ h => absurd h List.not_mem_nil) (by decide +kernel) (by decide +kernel)
/-- Model.isWord@amends (104 steps) -/
def ct_307 : ab_Ct := (178, [(1, 0, [124]), (1, 0, [1055])], [], [], [], [([(3, 0, [])], [(0, 1, 0, (0, 0, []), (0, 0, []))], [])])
set_option maxRecDepth 1000000 in
theorem ck_307 : ab_CT cm_ms hp hN 5 ct_307 := ab_chk_ok (us := []) (inl := inl0) (hin := inl0_ok) (d := 0) (dd := 4) (n := 20000) (tms := [((32, [(0, (1, 0, [124])), (1, (1, 0, [1055])), (2, (3, 0, [])), (3, (3, 1, []))], [], [(0, 1, 0, (0, 0, []), (0, 0, [])), (0, 6, 0, (0, 0, []), (0, 0, []))], [(124, 6, (0, 2, [])), (124, 8, (0, 6, [])), (124, 13, (0, 0, []))]), [(0, 1, (0, 0, [])), ((-1), 2147483648, (3, 1, []))])]) cm_ms_ok cm_ms_rc hNP (fun _ h => absurd h List.not_mem_nil) (by decide +kernel) (by decide +kernel)
/-- Model.isWord@quarrel (104 steps) -/
def ct_308 : ab_Ct := (178, [(1, 0, [124]), (1, 0, [1057])], [], [], [], [([(3, 0, [])], [(0, 1, 0, (0, 0, []), (0, 0, []))], [])])
set_option maxRecDepth 1000000 in
theorem ck_308 : ab_CT cm_ms hp hN 5 ct_308 := ab_chk_ok (us := []) (inl := inl0) (hin := inl0_ok) (d := 0) (dd := 4) (n := 20000) (tms := [((32, [(0, (1, 0, [124])), (1, (1, 0, [1057])), (2, (3, 0, [])), (3, (3, 1, []))], [], [(0, 1, 0, (0, 0, []), (0, 0, [])), (0, 7, 0, (0, 0, []), (0, 0, []))], [(124, 6, (0, 2, [])), (124, 8, (0, 7, [])), (124, 13, (0, 0, []))]), [(0, 1, (0, 0, [])), ((-1), 2147483648, (3, 1, []))])]) cm_ms_ok cm_ms_rc hNP (fun _ h => absurd h List.not_mem_nil) (by decide +kernel) (by decide +kernel)
/-- Model.isWord@chair (104 steps) -/
def ct_309 : ab_Ct := (178, [(1, 0, [124]), (1, 0, [1059])], [], [], [], [([(3, 0, [])], [(0, 1, 0, (0, 0, []), (0, 0, []))], [])])
set_option maxRecDepth 1000000 in
theorem ck_309 : ab_CT cm_ms hp hN 5 ct_309 := ab_chk_ok (us := []) (inl := inl0) (hin := inl0_ok) (d := 0) (dd := 4) (n := 20000) (tms := [((32, [(0, (1, 0, [124])), (1, (1, 0, [1059])), (2, (3, 0, [])), (3, (3, 1, []))], [], [(0, 1, 0, (0, 0, []), (0, 0, [])), (0, 5, 0, (0, 0, []), (0, 0, []))], [(124, 6, (0, 2, [])), (124, 8, (0, 5, [])), (124, 13, (0, 0, []))]), [(0, 1, (0, 0, [])), ((-1), 2147483648, (3, 1, []))])]) cm_ms_ok cm_ms_rc hNP (fun _ h => absurd h List.not_mem_nil) (by decide +kernel) (by decide +kernel)
/-- Model.isWord@heap (104 steps) -/
def ct_310 : ab_Ct := (178, [(1, 0, [124]), (1, 0, [1061])], [], [], [], [([(3, 0, [])], [(0, 1, 0, (0, 0, []), (0, 0, []))], [])])
set_option maxRecDepth 1000000 in
theorem ck_310 : ab_CT cm_ms hp hN 5 ct_310 := ab_chk_ok (us := []) (inl := inl0) (hin := inl0_ok) (d := 0) (dd := 4) (n := 20000) (tms := [((32, [(0, (1, 0, [124])), (1, (1, 0, [1061])), (2, (3, 0, [])), (3, (3, 1, []))], [], [(0, 1, 0, (0, 0, []), (0, 0, [])), (0, 4, 0, (0, 0, []), (0, 0, []))], [(124, 6, (0, 2, [])), (124, 8, (0, 4, [])), (124, 13, (0, 0, []))]), [(0, 1, (0, 0, [])), ((-1), 2147483648, (3, 1, []))])]) cm_ms_ok cm_ms_rc hNP (fun _ h => absurd h List.not_mem_nil) (by decide +kernel) (by decide +kernel)
/-- Model.isWord@fair (104 steps) -/
def ct_311 : ab_Ct := (178, [(1, 0, [124]), (1, 0, [1063])], [], [], [], [([(3, 0, [])], [(0, 1, 0, (0, 0, []), (0, 0, []))], [])])
set_option maxRecDepth 1000000 in
theorem ck_311 : ab_CT cm_ms hp hN 5 ct_311 := ab_chk_ok (us := []) (inl := inl0) (hin := inl0_ok) (d := 0) (dd := 4) (n := 20000) (tms := [((32, [(0, (1, 0, [124])), (1, (1, 0, [1063])), (2, (3, 0, [])), (3, (3, 1, []))], [], [(0, 1, 0, (0, 0, []), (0, 0, [])), (0, 4, 0, (0, 0, []), (0, 0, []))], [(124, 6, (0, 2, [])), (124, 8, (0, 4, [])), (124, 13, (0, 0, []))]), [(0, 1, (0, 0, [])), ((-1), 2147483648, (3, 1, []))])]) cm_ms_ok cm_ms_rc hNP (fun _ h => absurd h List.not_mem_nil) (by decide +kernel) (by decide +kernel)
/-- Model.isWord@dark (104 steps) -/
def ct_312 : ab_Ct := (178, [(1, 0, [124]), (1, 0, [1065])], [], [], [], [([(3, 0, [])], [(0, 1, 0, (0, 0, []), (0, 0, []))], [])])
set_option maxRecDepth 1000000 in
theorem ck_312 : ab_CT cm_ms hp hN 5 ct_312 := ab_chk_ok (us := []) (inl := inl0) (hin := inl0_ok) (d := 0) (dd := 4) (n := 20000) (tms := [((32, [(0, (1, 0, [124])), (1, (1, 0, [1065])), (2, (3, 0, [])), (3, (3, 1, []))], [], [(0, 1, 0, (0, 0, []), (0, 0, [])), (0, 4, 0, (0, 0, []), (0, 0, []))], [(124, 6, (0, 2, [])), (124, 8, (0, 4, [])), (124, 13, (0, 0, []))]), [(0, 1, (0, 0, [])), ((-1), 2147483648, (3, 1, []))])]) cm_ms_ok cm_ms_rc hNP (fun _ h => absurd h List.not_mem_nil) (by decide +kernel) (by decide +kernel)
/-- Model.isWord@grey (104 steps) -/
def ct_313 : ab_Ct := (178, [(1, 0, [124]), (1, 0, [1067])], [], [], [], [([(3, 0, [])], [(0, 1, 0, (0, 0, []), (0, 0, []))], [])])
set_option maxRecDepth 1000000 in
theorem ck_313 : ab_CT cm_ms hp hN 5 ct_313 := ab_chk_ok (us := []) (inl := inl0) (hin := inl0_ok) (d := 0) (dd := 4) (n := 20000) (tms := [((32, [(0, (1, 0, [124])), (1, (1, 0, [1067])), (2, (3, 0, [])), (3, (3, 1, []))], [], [(0, 1, 0, (0, 0, []), (0, 0, [])), (0, 4, 0, (0, 0, []), (0, 0, []))], [(124, 6, (0, 2, [])), (124, 8, (0, 4, [])), (124, 13, (0, 0, []))]), [(0, 1, (0, 0, [])), ((-1), 2147483648, (3, 1, []))])]) cm_ms_ok cm_ms_rc hNP (fun _ h => absurd h List.not_mem_nil) (by decide +kernel) (by decide +kernel)
/-- Model.isWord@long (104 steps) -/
def ct_314 : ab_Ct := (178, [(1, 0, [124]), (1, 0, [1069])], [], [], [], [([(3, 0, [])], [(0, 1, 0, (0, 0, []), (0, 0, []))], [])])
set_option maxRecDepth 1000000 in
theorem ck_314 : ab_CT cm_ms hp hN 5 ct_314 := ab_chk_ok (us := []) (inl := inl0) (hin := inl0_ok) (d := 0) (dd := 4) (n := 20000) (tms := [((32, [(0, (1, 0, [124])), (1, (1, 0, [1069])), (2, (3, 0, [])), (3, (3, 1, []))], [], [(0, 1, 0, (0, 0, []), (0, 0, [])), (0, 4, 0, (0, 0, []), (0, 0, []))], [(124, 6, (0, 2, [])), (124, 8, (0, 4, [])), (124, 13, (0, 0, []))]), [(0, 1, (0, 0, [])), ((-1), 2147483648, (3, 1, []))])]) cm_ms_ok cm_ms_rc hNP (fun _ h => absurd h List.not_mem_nil) (by decide +kernel) (by decide +kernel)
/-- Model.isWord@votes (104 steps) -/
def ct_315 : ab_Ct := (178, [(1, 0, [124]), (1, 0, [1071])], [], [], [], [([(3, 0, [])], [(0, 1, 0, (0, 0, []), (0, 0, []))], [])])
set_option maxRecDepth 1000000 in
theorem ck_315 : ab_CT cm_ms hp hN 5 ct_315 := ab_chk_ok (us := []) (inl := inl0) (hin := inl0_ok) (d := 0) (dd := 4) (n := 20000) (tms := [((32, [(0, (1, 0, [124])), (1, (1, 0, [1071])), (2, (3, 0, [])), (3, (3, 1, []))], [], [(0, 1, 0, (0, 0, []), (0, 0, [])), (0, 5, 0, (0, 0, []), (0, 0, []))], [(124, 6, (0, 2, [])), (124, 8, (0, 5, [])), (124, 13, (0, 0, []))]), [(0, 1, (0, 0, [])), ((-1), 2147483648, (3, 1, []))])]) cm_ms_ok cm_ms_rc hNP (fun _ h => absurd h List.not_mem_nil) (by decide +kernel) (by decide +kernel)
/-- Model.isWord@cuts (104 steps) -/
def ct_316 : ab_Ct := (178, [(1, 0, [124]), (1, 0, [1073])], [], [], [], [([(3, 0, [])], [(0, 1, 0, (0, 0, []), (0, 0, []))], [])])
set_option maxRecDepth 1000000 in
theorem ck_316 : ab_CT cm_ms hp hN 5 ct_316 := ab_chk_ok (us := []) (inl := inl0) (hin := inl0_ok) (d := 0) (dd := 4) (n := 20000) (tms := [((32, [(0, (1, 0, [124])), (1, (1, 0, [1073])), (2, (3, 0, [])), (3, (3, 1, []))], [], [(0, 1, 0, (0, 0, []), (0, 0, [])), (0, 4, 0, (0, 0, []), (0, 0, []))], [(124, 6, (0, 2, [])), (124, 8, (0, 4, [])), (124, 13, (0, 0, []))]), [(0, 1, (0, 0, [])), ((-1), 2147483648, (3, 1, []))])]) cm_ms_ok cm_ms_rc hNP (fun _ h => absurd h List.not_mem_nil) (by decide +kernel) (by decide +kernel)
/-- Model.isWord@needs (104 steps) -/
def ct_317 : ab_Ct := (178, [(1, 0, [124]), (1, 0, [1075])], [], [], [], [([(3, 0, [])], [(0, 1, 0, (0, 0, []), (0, 0, []))], [])])
set_option maxRecDepth 1000000 in
theorem ck_317 : ab_CT cm_ms hp hN 5 ct_317 := ab_chk_ok (us := []) (inl := inl0) (hin := inl0_ok) (d := 0) (dd := 4) (n := 20000) (tms := [((32, [(0, (1, 0, [124])), (1, (1, 0, [1075])), (2, (3, 0, [])), (3, (3, 1, []))], [], [(0, 1, 0, (0, 0, []), (0, 0, [])), (0, 5, 0, (0, 0, []), (0, 0, []))], [(124, 6, (0, 2, [])), (124, 8, (0, 5, [])), (124, 13, (0, 0, []))]), [(0, 1, (0, 0, [])), ((-1), 2147483648, (3, 1, []))])]) cm_ms_ok cm_ms_rc hNP (fun _ h => absurd h List.not_mem_nil) (by decide +kernel) (by decide +kernel)
/-- Model.isWord@worth (104 steps) -/
def ct_318 : ab_Ct := (178, [(1, 0, [124]), (1, 0, [1077])], [], [], [], [([(3, 0, [])], [(0, 1, 0, (0, 0, []), (0, 0, []))], [])])
set_option maxRecDepth 1000000 in
theorem ck_318 : ab_CT cm_ms hp hN 5 ct_318 := ab_chk_ok (us := []) (inl := inl0) (hin := inl0_ok) (d := 0) (dd := 4) (n := 20000) (tms := [((32, [(0, (1, 0, [124])), (1, (1, 0, [1077])), (2, (3, 0, [])), (3, (3, 1, []))], [], [(0, 1, 0, (0, 0, []), (0, 0, [])), (0, 5, 0, (0, 0, []), (0, 0, []))], [(124, 6, (0, 2, [])), (124, 8, (0, 5, [])), (124, 13, (0, 0, []))]), [(0, 1, (0, 0, [])), ((-1), 2147483648, (3, 1, []))])]) cm_ms_ok cm_ms_rc hNP (fun _ h => absurd h List.not_mem_nil) (by decide +kernel) (by decide +kernel)
/-- Model.isWord@at (104 steps) -/
def ct_319 : ab_Ct := (178, [(1, 0, [124]), (1, 0, [1079])], [], [], [], [([(3, 0, [])], [(0, 1, 0, (0, 0, []), (0, 0, []))], [])])
set_option maxRecDepth 1000000 in
theorem ck_319 : ab_CT cm_ms hp hN 5 ct_319 := ab_chk_ok (us := []) (inl := inl0) (hin := inl0_ok) (d := 0) (dd := 4) (n := 20000) (tms := [((32, [(0, (1, 0, [124])), (1, (1, 0, [1079])), (2, (3, 0, [])), (3, (3, 1, []))], [], [(0, 1, 0, (0, 0, []), (0, 0, [])), (0, 2, 0, (0, 0, []), (0, 0, []))], [(124, 6, (0, 2, [])), (124, 8, (0, 2, [])), (124, 13, (0, 0, []))]), [(0, 1, (0, 0, [])), ((-1), 2147483648, (3, 1, []))])]) cm_ms_ok cm_ms_rc hNP (fun _ h => absurd h List.not_mem_nil) (by decide +kernel) (by decide +kernel)
/-- Model.mustName (226 steps) -/
def ct_320 : ab_Ct := (181, [(1, 0, [124])], [], [], [(124, [9, 10, 13])], [([], [(0, 1, 0, (0, 0, []), (0, 0, []))], [(124, 6, (0, 2, [])), (124, 13, (3, 0, []))]), ([], [((-2147483648), 2147483647, 0, (0, 0, []), (0, 0, []))], [(124, 6, (3, 0, [])), (124, 13, (0, 1, []))])])
set_option maxRecDepth 1000000 in
theorem ck_320 : ab_CT cm_ms hp hN 7 ct_320 := ab_chk_ok (us := [ct_300, ct_304, ct_305, ct_306, ct_307, ct_308, ct_309, ct_310]) (inl := inl0) (hin := inl0_ok) (d := 5) (dd := 1) (n := 20000) (tms := []) cm_ms_ok cm_ms_rc hNP (List.forall_mem_cons.mpr ⟨ab_CT_up ck_300 (by decide), List.forall_mem_cons.mpr ⟨ab_CT_up ck_304 (by decide), List.forall_mem_cons.mpr ⟨ab_CT_up ck_305 (by decide), List.forall_mem_cons.mpr ⟨ab_CT_up ck_306 (by decide), List.forall_mem_cons.mpr ⟨ab_CT_up ck_307 (by decide), List.forall_mem_cons.mpr ⟨ab_CT_up ck_308 (by decide), List.forall_mem_cons.mpr ⟨ab_CT_up ck_309 (by decide), List.forall_mem_cons.mpr ⟨ab_CT_up ck_310 (by decide), fun _ h => absurd h List.not_mem_nil⟩⟩⟩⟩⟩⟩⟩⟩) (by decide +kernel) (by decide +kernel)
/-- Model.find (84 steps) -/
def ct_321 : ab_Ct := (182, [(1, 0, [124])], [], [], [], [([(3, 0, [])], [((-1), 15, 0, (0, 0, []), (0, 0, []))], [])])
set_option maxRecDepth 1000000 in
theorem ck_321 : ab_CT cm_ms hp hN 1 ct_321 := ab_chk_ok (us := []) (inl := inl0) (hin := inl0_ok) (d := 0) (dd := 0) (n := 20000) (tms := [((2, [(0, (1, 0, [124])), (1, (3, 0, []))], [], [(0, 16, 0, (0, 0, []), (0, 0, []))], []), [(0, 1, (0, 0, [])), ((-1), 2147483648, (3, 0, [])), (0, 1000, (0, 0, [])), (0, 0, (0, 0, []))]), ((44, [(0, (1, 0, [124])), (1, (3, 0, [])), (2, (0, 0, [])), (3, (3, 1, []))], [], [(0, 15, 0, (0, 0, []), (0, 0, [])), (0, 8, 0, (0, 0, []), (0, 0, []))], []), [(0, 1, (0, 0, [])), ((-1), 2147483648, (3, 0, [])), (0, 1, (0, 0, [])), ((-1), 2147483648, (3, 1, []))]), ((44, [(0, (1, 0, [124])), (1, (3, 0, [])), (2, (0, 1, [])), (3, (3, 1, []))], [], [(0, 15, 0, (0, 0, []), (0, 0, [])), (0, 8, 0, (0, 0, []), (0, 0, [])), (0, 8, 0, (0, 0, []), (0, 0, []))], [(124, 8, (3, 2, []))]), [(0, 1, (0, 0, [])), ((-1), 2147483648, (3, 0, [])), (0, 1, (0, 0, [])), ((-1), 2147483648, (3, 1, []))])]) cm_ms_ok cm_ms_rc hNP (fun _ h => absurd h List.not_mem_nil) (by decide +kernel) (by decide +kernel)
/-- Model.newName (81 steps) -/
def ct_322 : ab_Ct := (183, [(1, 0, [124]), (3, 0, [])], [(0, 15, 0, (0, 0, []), (0, 0, []))], [], [(124, [4, 5, 6, 7, 8, 9, 10, 13]), (126, []), (128, [69, 70, 71, 72, 73, 74, 75, 76, 77, 78, 79, 80, 81, 82, 83, 84, 85, 86, 87, 88, 89, 90, 91, 92, 93, 94, 95, 96, 97, 98, 99, 100, 101, 102, 103, 104, 105, 106, 107, 108, 109, 110, 111, 112, 113, 114, 115, 116, 117, 118, 119, 120, 121, 122, 123, 124, 125, 126, 127, 128, 129, 130, 131, 132, 133, 134, 135, 136, 137, 138, 139, 140, 141, 142, 143, 144, 145, 146, 147, 148, 149, 150, 151, 152, 153, 154, 155, 156, 157, 158, 159, 160, 161, 162, 163, 164, 165, 166, 167, 168, 169, 170, 171, 172, 173, 174, 175, 176, 177, 178, 179, 180, 181, 182, 183, 184, 185, 186, 187, 188, 189, 190, 191, 192, 193, 194, 195, 196, 197, 198, 199, 200, 201, 202, 203, 204, 205, 206, 207, 208, 209, 210, 211, 212])], [([], [(0, 15, 0, (0, 0, []), (0, 0, []))], [])])
set_option maxRecDepth 1000000 in
theorem ck_322 : ab_CT cm_ms hp hN 9 ct_322 := ab_chk_ok (us := [ct_299, ct_320, ct_321]) (inl := inl0) (hin := inl0_ok) (d := 7) (dd := 1) (n := 20000) (tms := [((45, [(0, (1, 0, [124])), (1, (3, 0, [])), (2, (3, 1, []))], [], [(0, 15, 0, (0, 0, []), (0, 0, [])), (0, 8, 0, (0, 0, []), (0, 0, []))], [(124, 6, (0, 2, [])), (124, 13, (0, 0, []))]), [(0, 1, (0, 0, [])), ((-1), 2147483648, (3, 1, []))])]) cm_ms_ok cm_ms_rc hNP (List.forall_mem_cons.mpr ⟨ab_CT_up ck_299 (by decide), List.forall_mem_cons.mpr ⟨ab_CT_up ck_320 (by decide), List.forall_mem_cons.mpr ⟨ab_CT_up ck_321 (by decide), fun _ h => absurd h List.not_mem_nil⟩⟩⟩) (by decide +kernel) (by decide +kernel)
/-- Model.after@grows (178 steps) -/
def ct_323 : ab_Ct := (189, [(1, 0, [124]), (1, 0, [1043]), (0, 0, []), (0, 9, [])], [], [], [(124, [4, 5, 6, 7, 8, 9, 10, 13]), (126, [])], [([(3, 0, [])], [(0, 9, 0, (0, 0, []), (0, 0, []))], [])])
set_option maxRecDepth 1000000 in
theorem ck_323 : ab_CT cm_ms hp hN 8 ct_323 := ab_chk_ok (us := [ct_299, ct_301]) (inl := inl0) (hin := inl0_ok) (d := 5) (dd := 2) (n := 20000) (tms := []) cm_ms_ok cm_ms_rc hNP (List.forall_mem_cons.mpr ⟨ab_CT_up ck_299 (by decide), List.forall_mem_cons.mpr ⟨ab_CT_up ck_301 (by decide), fun _ h => absurd h List.not_mem_nil⟩⟩) (by decide +kernel) (by decide +kernel)
/-- Model.after@bald (178 steps) -/
def ct_324 : ab_Ct := (189, [(1, 0, [124]), (1, 0, [1045]), (0, 0, []), (0, 20, [])], [], [], [(124, [4, 5, 6, 7, 8, 9, 10, 13]), (126, [])], [([(3, 0, [])], [(0, 20, 0, (0, 0, []), (0, 0, []))], [])])
set_option maxRecDepth 1000000 in
theorem ck_324 : ab_CT cm_ms hp hN 8 ct_324 := ab_chk_ok (us := [ct_299, ct_302]) (inl := inl0) (hin := inl0_ok) (d := 5) (dd := 2) (n := 20000) (tms := []) cm_ms_ok cm_ms_rc hNP (List.forall_mem_cons.mpr ⟨ab_CT_up ck_299 (by decide), List.forall_mem_cons.mpr ⟨ab_CT_up ck_302 (by decide), fun _ h => absurd h List.not_mem_nil⟩⟩) (by decide +kernel) (by decide +kernel)
/-- Model.after@shave (178 steps) -/
def ct_325 : ab_Ct := (189, [(1, 0, [124]), (1, 0, [1047]), (0, 0, []), (0, 100, [])], [], [], [(124, [4, 5, 6, 7, 8, 9, 10, 13]), (126, [])], [([(3, 0, [])], [(0, 100, 0, (0, 0, []), (0, 0, []))], [])])
set_option maxRecDepth 1000000 in
theorem ck_325 : ab_CT cm_ms hp hN 8 ct_325 := ab_chk_ok (us := [ct_299, ct_303]) (inl := inl0) (hin := inl0_ok) (d := 5) (dd := 2) (n := 20000) (tms := []) cm_ms_ok cm_ms_rc hNP (List.forall_mem_cons.mpr ⟨ab_CT_up ck_299 (by decide), List.forall_mem_cons.mpr ⟨ab_CT_up ck_303 (by decide), fun _ h => absurd h List.not_mem_nil⟩⟩) (by decide +kernel) (by decide +kernel)
/-- Model.after@long (178 steps) -/
def ct_326 : ab_Ct := (189, [(1, 0, [124]), (1, 0, [1069]), (0, 0, []), (0, 99, [])], [], [], [(124, [4, 5, 6, 7, 8, 9, 10, 13]), (126, [])], [([(3, 0, [])], [(0, 99, 0, (0, 0, []), (0, 0, []))], [])])
set_option maxRecDepth 1000000 in
theorem ck_326 : ab_CT cm_ms hp hN 8 ct_326 := ab_chk_ok (us := [ct_299, ct_314]) (inl := inl0) (hin := inl0_ok) (d := 5) (dd := 2) (n := 20000) (tms := []) cm_ms_ok cm_ms_rc hNP (List.forall_mem_cons.mpr ⟨ab_CT_up ck_299 (by decide), List.forall_mem_cons.mpr ⟨ab_CT_up ck_314 (by decide), fun _ h => absurd h List.not_mem_nil⟩⟩) (by decide +kernel) (by decide +kernel)
/-- Model.after@votes (178 steps) -/
def ct_327 : ab_Ct := (189, [(1, 0, [124]), (1, 0, [1071]), (0, 0, []), (0, 9, [])], [], [], [(124, [4, 5, 6, 7, 8, 9, 10, 13]), (126, [])], [([(3, 0, [])], [(0, 9, 0, (0, 0, []), (0, 0, []))], [])])
set_option maxRecDepth 1000000 in
theorem ck_327 : ab_CT cm_ms hp hN 8 ct_327 := ab_chk_ok (us := [ct_299, ct_315]) (inl := inl0) (hin := inl0_ok) (d := 5) (dd := 2) (n := 20000) (tms := []) cm_ms_ok cm_ms_rc hNP (List.forall_mem_cons.mpr ⟨ab_CT_up ck_299 (by decide), List.forall_mem_cons.mpr ⟨ab_CT_up ck_315 (by decide), fun _ h => absurd h List.not_mem_nil⟩⟩) (by decide +kernel) (by decide +kernel)
/-- Model.after@cuts (178 steps) -/
def ct_328 : ab_Ct := (189, [(1, 0, [124]), (1, 0, [1073]), (0, 1, []), (0, 30, [])], [], [], [(124, [4, 5, 6, 7, 8, 9, 10, 13]), (126, [])], [([(3, 0, [])], [(1, 30, 0, (0, 0, []), (0, 0, []))], [])])
set_option maxRecDepth 1000000 in
theorem ck_328 : ab_CT cm_ms hp hN 8 ct_328 := ab_chk_ok (us := [ct_299, ct_316]) (inl := inl0) (hin := inl0_ok) (d := 5) (dd := 2) (n := 20000) (tms := []) cm_ms_ok cm_ms_rc hNP (List.forall_mem_cons.mpr ⟨ab_CT_up ck_299 (by decide), List.forall_mem_cons.mpr ⟨ab_CT_up ck_316 (by decide), fun _ h => absurd h List.not_mem_nil⟩⟩) (by decide +kernel) (by decide +kernel)
/-- Model.after@needs (178 steps) -/
def ct_329 : ab_Ct := (189, [(1, 0, [124]), (1, 0, [1075]), (0, 0, []), (0, 54, [])], [], [], [(124, [4, 5, 6, 7, 8, 9, 10, 13]), (126, [])], [([(3, 0, [])], [(0, 54, 0, (0, 0, []), (0, 0, []))], [])])
set_option maxRecDepth 1000000 in
theorem ck_329 : ab_CT cm_ms hp hN 8 ct_329 := ab_chk_ok (us := [ct_299, ct_317]) (inl := inl0) (hin := inl0_ok) (d := 5) (dd := 2) (n := 20000) (tms := []) cm_ms_ok cm_ms_rc hNP (List.forall_mem_cons.mpr ⟨ab_CT_up ck_299 (by decide), List.forall_mem_cons.mpr ⟨ab_CT_up ck_317 (by decide), fun _ h => absurd h List.not_mem_nil⟩⟩) (by decide +kernel) (by decide +kernel)
/-- Model.after@worth (178 steps) -/
def ct_330 : ab_Ct := (189, [(1, 0, [124]), (1, 0, [1077]), (0, 0, []), (0, 99, [])], [], [], [(124, [4, 5, 6, 7, 8, 9, 10, 13]), (126, [])], [([(3, 0, [])], [(0, 99, 0, (0, 0, []), (0, 0, []))], [])])
set_option maxRecDepth 1000000 in
theorem ck_330 : ab_CT cm_ms hp hN 8 ct_330 := ab_chk_ok (us := [ct_299, ct_318]) (inl := inl0) (hin := inl0_ok) (d := 5) (dd := 2) (n := 20000) (tms := []) cm_ms_ok cm_ms_rc hNP (List.forall_mem_cons.mpr ⟨ab_CT_up ck_299 (by decide), List.forall_mem_cons.mpr ⟨ab_CT_up ck_318 (by decide), fun _ h => absurd h List.not_mem_nil⟩⟩) (by decide +kernel) (by decide +kernel)
/-- Model.after@at (178 steps) -/
def ct_331 : ab_Ct := (189, [(1, 0, [124]), (1, 0, [1079]), (0, 0, []), (0, 99, [])], [], [], [(124, [4, 5, 6, 7, 8, 9, 10, 13]), (126, [])], [([(3, 0, [])], [(0, 99, 0, (0, 0, []), (0, 0, []))], [])])
set_option maxRecDepth 1000000 in
theorem ck_331 : ab_CT cm_ms hp hN 8 ct_331 := ab_chk_ok (us := [ct_299, ct_319]) (inl := inl0) (hin := inl0_ok) (d := 5) (dd := 2) (n := 20000) (tms := []) cm_ms_ok cm_ms_rc hNP (List.forall_mem_cons.mpr ⟨ab_CT_up ck_299 (by decide), List.forall_mem_cons.mpr ⟨ab_CT_up ck_319 (by decide), fun _ h => absurd h List.not_mem_nil⟩⟩) (by decide +kernel) (by decide +kernel)
/-- Model.colourHere@failed (64 steps) -/
def ct_332 : ab_Ct := (190, [(1, 0, [124])], [], [(124, 13, (0, 1, []))], [], [([(0, 0, [])], [], [(124, 13, (0, 1, []))])])
set_option maxRecDepth 1000000 in
theorem ck_332 : ab_CT cm_ms hp hN 7 ct_332 := ab_chk_ok (us := [ct_311, ct_312, ct_313]) (inl := inl0) (hin := inl0_ok) (d := 5) (dd := 1) (n := 20000) (tms := []) cm_ms_ok cm_ms_rc hNP (List.forall_mem_cons.mpr ⟨ab_CT_up ck_311 (by decide), List.forall_mem_cons.mpr ⟨ab_CT_up ck_312 (by decide), List.forall_mem_cons.mpr ⟨ab_CT_up ck_313 (by decide), fun _ h => absurd h List.not_mem_nil⟩⟩⟩) (by decide +kernel) (by decide +kernel)
/-- Model.colourHere (86 steps) -/
def ct_333 : ab_Ct := (190, [(1, 0, [124])], [], [], [(124, [9, 10, 13])], [([(0, 0, [])], [], [(124, 13, (0, 0, []))]), ([(0, 0, [])], [], [(124, 13, (0, 1, []))]), ([(0, 1, [])], [], [(124, 13, (0, 0, []))]), ([(0, 2, [])], [], [(124, 13, (0, 0, []))])])
set_option maxRecDepth 1000000 in
theorem ck_333 : ab_CT cm_ms hp hN 7 ct_333 := ab_chk_ok (us := [ct_311, ct_312, ct_313]) (inl := inl0) (hin := inl0_ok) (d := 5) (dd := 1) (n := 20000) (tms := []) cm_ms_ok cm_ms_rc hNP (List.forall_mem_cons.mpr ⟨ab_CT_up ck_311 (by decide), List.forall_mem_cons.mpr ⟨ab_CT_up ck_312 (by decide), List.forall_mem_cons.mpr ⟨ab_CT_up ck_313 (by decide), fun _ h => absurd h List.not_mem_nil⟩⟩⟩) (by decide +kernel) (by decide +kernel)
/-- Model.asTold@132 (35 steps) -/
def ct_334 : ab_Ct := (192, [(1, 0, [124]), (1, 0, [132])], [], [], [(132, [])], [([], [], [])])
set_option maxRecDepth 1000000 in
theorem ck_334 : ab_CT cm_ms hp hN 1 ct_334 := ab_chk_ok (us := []) (inl := inl0) (hin := inl0_ok) (d := 0) (dd := 0) (n := 20000) (tms := [((2, [(0, (1, 0, [124])), (1, (1, 0, [132])), (2, (3, 0, []))], [], [(0, 11, 0, (0, 0, []), (0, 0, []))], []), [(0, 2, (0, 0, [])), ((-1), 2147483648, (3, 0, []))]), ((20, [(0, (1, 0, [124])), (1, (1, 0, [132])), (2, (3, 0, []))], [], [(0, 6, 0, (0, 0, []), (0, 0, []))], []), [(0, 1, (0, 0, [])), ((-1), 2147483648, (3, 0, []))])]) cm_ms_ok cm_ms_rc hNP (fun _ h => absurd h List.not_mem_nil) (by decide +kernel) (by decide +kernel)
/-- Model.asTold (35 steps) -/
def ct_335 : ab_Ct := (192, [(1, 0, [124]), (1, 0, [129, 132])], [], [], [(129, []), (132, [])], [([], [], [])])
set_option maxRecDepth 1000000 in
theorem ck_335 : ab_CT cm_ms hp hN 1 ct_335 := ab_chk_ok (us := []) (inl := inl0) (hin := inl0_ok) (d := 0) (dd := 0) (n := 20000) (tms := [((2, [(0, (1, 0, [124])), (1, (1, 0, [129, 132])), (2, (3, 0, []))], [], [(0, 11, 0, (0, 0, []), (0, 0, []))], []), [(0, 2, (0, 0, [])), ((-1), 2147483648, (3, 0, []))]), ((20, [(0, (1, 0, [124])), (1, (1, 0, [129, 132])), (2, (3, 0, []))], [], [(0, 6, 0, (0, 0, []), (0, 0, []))], []), [(0, 1, (0, 0, [])), ((-1), 2147483648, (3, 0, []))])]) cm_ms_ok cm_ms_rc hNP (fun _ h => absurd h List.not_mem_nil) (by decide +kernel) (by decide +kernel)
/-- Model.townLine (75 steps) -/
def ct_336 : ab_Ct := (195, [(1, 0, [124])], [(0, 1, 0, (0, 0, []), (0, 0, []))], [(128, 10, (3, 0, []))], [(124, [4, 5, 6, 7, 8, 9, 10, 13]), (126, []), (128, [0, 1, 2, 10])], [([], [(0, 0, 0, (0, 0, []), (0, 0, []))], [(124, 13, (0, 0, [])), (128, 10, (0, 1, []))]), ([], [(0, 1, 0, (0, 0, []), (0, 0, []))], [(124, 13, (0, 1, [])), (128, 10, (3, 0, []))])])
set_option maxRecDepth 1000000 in
theorem ck_336 : ab_CT cm_ms hp hN 10 ct_336 := ab_chk_ok (us := [ct_299, ct_323, ct_324, ct_325]) (inl := inl0) (hin := inl0_ok) (d := 8) (dd := 1) (n := 20000) (tms := []) cm_ms_ok cm_ms_rc hNP (List.forall_mem_cons.mpr ⟨ab_CT_up ck_299 (by decide), List.forall_mem_cons.mpr ⟨ab_CT_up ck_323 (by decide), List.forall_mem_cons.mpr ⟨ab_CT_up ck_324 (by decide), List.forall_mem_cons.mpr ⟨ab_CT_up ck_325 (by decide), fun _ h => absurd h List.not_mem_nil⟩⟩⟩⟩) (by decide +kernel) (by decide +kernel)
/-- Model.manLine@failed (4 steps) -/
def ct_337 : ab_Ct := (196, [(1, 0, [124])], [], [(124, 13, (0, 1, []))], [], [([], [], [(124, 13, (0, 1, []))])])
set_option maxRecDepth 1000000 in
theorem ck_337 : ab_CT cm_ms hp hN 1 ct_337 := ab_chk_ok (us := []) (inl := inl0) (hin := inl0_ok) (d := 0) (dd := 0) (n := 20000) (tms := []) cm_ms_ok cm_ms_rc hNP (fun _ h => absurd h List.not_mem_nil) (by decide +kernel) (by decide +kernel)
/-- Model.manLine@can (197 steps) -/
def ct_338 : ab_Ct := (196, [(1, 0, [124])], [(0, 5, 0, (0, 0, []), (0, 0, []))], [(124, 13, (0, 0, [])), (128, 3, (3, 0, []))], [(124, [4, 5, 6, 7, 8, 9, 10, 13]), (126, []), (128, [3, 11, 12, 13, 14, 15, 16, 17, 18, 19, 20, 21, 22, 23, 24, 25, 26, 27, 28, 69, 70, 71, 72, 73, 74, 75, 76, 77, 78, 79, 80, 81, 82, 83, 84, 85, 86, 87, 88, 89, 90, 91, 92, 93, 94, 95, 96, 97, 98, 99, 100, 101, 102, 103, 104, 105, 106, 107, 108, 109, 110, 111, 112, 113, 114, 115, 116, 117, 118, 119, 120, 121, 122, 123, 124, 125, 126, 127, 128, 129, 130, 131, 132, 133, 134, 135, 136, 137, 138, 139, 140, 141, 142, 143, 144, 145, 146, 147, 148, 149, 150, 151, 152, 153, 154, 155, 156, 157, 158, 159, 160, 161, 162, 163, 164, 165, 166, 167, 168, 169, 170, 171, 172, 173, 174, 175, 176, 177, 178, 179, 180, 181, 182, 183, 184, 185, 186, 187, 188, 189, 190, 191, 192, 193, 194, 195, 196, 197, 198, 199, 200, 201, 202, 203, 204, 205, 206, 207, 208, 209, 210, 211, 212])], [([], [(0, 5, 0, (0, 0, []), (0, 0, [])), (1, 6, 1, (3, 0, []), (0, 1, []))], [(124, 13, (0, 0, [])), (128, 3, (3, 1, []))]), ([], [(0, 5, 0, (0, 0, []), (0, 0, []))], [(124, 13, (0, 1, [])), (128, 3, (3, 0, []))])])
set_option maxRecDepth 1000000 in
theorem ck_338 : ab_CT cm_ms hp hN 11 ct_338 := ab_chk_ok (us := [ct_299, ct_322, ct_326, ct_327, ct_333]) (inl := inl0) (hin := inl0_ok) (d := 9) (dd := 1) (n := 20000) (tms := []) cm_ms_ok cm_ms_rc hNP (List.forall_mem_cons.mpr ⟨ab_CT_up ck_299 (by decide), List.forall_mem_cons.mpr ⟨ab_CT_up ck_322 (by decide), List.forall_mem_cons.mpr ⟨ab_CT_up ck_326 (by decide), List.forall_mem_cons.mpr ⟨ab_CT_up ck_327 (by decide), List.forall_mem_cons.mpr ⟨ab_CT_up ck_333 (by decide), fun _ h => absurd h List.not_mem_nil⟩⟩⟩⟩⟩) (by decide +kernel) (by decide +kernel)
/-- Model.motionLine@failed (4 steps) -/
def ct_339 : ab_Ct := (197, [(1, 0, [124])], [], [(124, 13, (0, 1, []))], [], [([], [], [(124, 13, (0, 1, []))])])
set_option maxRecDepth 1000000 in
theorem ck_339 : ab_CT cm_ms hp hN 1 ct_339 := ab_chk_ok (us := []) (inl := inl0) (hin := inl0_ok) (d := 0) (dd := 0) (n := 20000) (tms := []) cm_ms_ok cm_ms_rc hNP (fun _ h => absurd h List.not_mem_nil) (by decide +kernel) (by decide +kernel)
/-- Model.motionLine@can (64 steps) -/
def ct_340 : ab_Ct := (197, [(1, 0, [124])], [(0, 4, 0, (0, 0, []), (0, 0, []))], [(124, 13, (0, 0, [])), (128, 4, (3, 0, []))], [(124, [4, 5, 6, 7, 8, 9, 10, 13]), (126, []), (128, [4, 29, 30, 31, 32, 33, 34, 35, 36, 37, 38, 39, 40, 41, 42, 43, 69, 70, 71, 72, 73, 74, 75, 76, 77, 78, 79, 80, 81, 82, 83, 84, 85, 86, 87, 88, 89, 90, 91, 92, 93, 94, 95, 96, 97, 98, 99, 100, 101, 102, 103, 104, 105, 106, 107, 108, 109, 110, 111, 112, 113, 114, 115, 116, 117, 118, 119, 120, 121, 122, 123, 124, 125, 126, 127, 128, 129, 130, 131, 132, 133, 134, 135, 136, 137, 138, 139, 140, 141, 142, 143, 144, 145, 146, 147, 148, 149, 150, 151, 152, 153, 154, 155, 156, 157, 158, 159, 160, 161, 162, 163, 164, 165, 166, 167, 168, 169, 170, 171, 172, 173, 174, 175, 176, 177, 178, 179, 180, 181, 182, 183, 184, 185, 186, 187, 188, 189, 190, 191, 192, 193, 194, 195, 196, 197, 198, 199, 200, 201, 202, 203, 204, 205, 206, 207, 208, 209, 210, 211, 212])], [([], [(0, 4, 0, (0, 0, []), (0, 0, [])), (1, 5, 1, (3, 0, []), (0, 1, []))], [(124, 13, (0, 0, [])), (128, 4, (3, 1, []))]), ([], [(0, 4, 0, (0, 0, []), (0, 0, []))], [(124, 13, (0, 1, [])), (128, 4, (3, 0, []))])])
set_option maxRecDepth 1000000 in
theorem ck_340 : ab_CT cm_ms hp hN 10 ct_340 := ab_chk_ok (us := [ct_322, ct_328, ct_329, ct_330]) (inl := inl0) (hin := inl0_ok) (d := 9) (dd := 0) (n := 20000) (tms := []) cm_ms_ok cm_ms_rc hNP (List.forall_mem_cons.mpr ⟨ab_CT_up ck_322 (by decide), List.forall_mem_cons.mpr ⟨ab_CT_up ck_328 (by decide), List.forall_mem_cons.mpr ⟨ab_CT_up ck_329 (by decide), List.forall_mem_cons.mpr ⟨ab_CT_up ck_330 (by decide), fun _ h => absurd h List.not_mem_nil⟩⟩⟩⟩) (by decide +kernel) (by decide +kernel)
/-- Model.againstLine@failed (45 steps) -/
def ct_341 : ab_Ct := (198, [(1, 0, [124])], [], [(124, 13, (0, 1, []))], [], [([], [], [(124, 13, (0, 1, []))])])
set_option maxRecDepth 1000000 in
theorem ck_341 : ab_CT cm_ms hp hN 3 ct_341 := ab_chk_ok (us := []) (inl := inl0) (hin := inl0_ok) (d := 0) (dd := 2) (n := 20000) (tms := []) cm_ms_ok cm_ms_rc hNP (fun _ h => absurd h List.not_mem_nil) (by decide +kernel) (by decide +kernel)
/-- Model.againstLine@can (491 steps) -/
def ct_342 : ab_Ct := (198, [(1, 0, [124])], [(0, 8, 0, (0, 0, []), (0, 0, []))], [(124, 13, (0, 0, [])), (128, 5, (3, 0, []))], [(124, [4, 5, 6, 7, 8, 9, 10, 13]), (126, []), (128, [5, 44, 45, 46, 47, 48, 49])], [([], [(0, 8, 0, (0, 0, []), (0, 0, [])), (1, 9, 1, (3, 0, []), (0, 1, []))], [(124, 13, (0, 0, [])), (128, 5, (3, 1, []))]), ([], [(0, 8, 0, (0, 0, []), (0, 0, []))], [(124, 13, (0, 1, [])), (128, 5, (3, 0, []))])])
set_option maxRecDepth 1000000 in
theorem ck_342 : ab_CT cm_ms hp hN 11 ct_342 := ab_chk_ok (us := [ct_299, ct_320, ct_321]) (inl := inl0) (hin := inl0_ok) (d := 7) (dd := 3) (n := 20000) (tms := []) cm_ms_ok cm_ms_rc hNP (List.forall_mem_cons.mpr ⟨ab_CT_up ck_299 (by decide), List.forall_mem_cons.mpr ⟨ab_CT_up ck_320 (by decide), List.forall_mem_cons.mpr ⟨ab_CT_up ck_321 (by decide), fun _ h => absurd h List.not_mem_nil⟩⟩⟩) (by decide +kernel) (by decide +kernel)
/-- Model.amendsLine@failed (48 steps) -/
def ct_343 : ab_Ct := (199, [(1, 0, [124])], [], [(124, 13, (0, 1, []))], [], [([], [], [(124, 13, (0, 1, []))])])
set_option maxRecDepth 1000000 in
theorem ck_343 : ab_CT cm_ms hp hN 3 ct_343 := ab_chk_ok (us := []) (inl := inl0) (hin := inl0_ok) (d := 0) (dd := 2) (n := 20000) (tms := []) cm_ms_ok cm_ms_rc hNP (fun _ h => absurd h List.not_mem_nil) (by decide +kernel) (by decide +kernel)
/-- Model.amendsLine@can (552 steps) -/
def ct_344 : ab_Ct := (199, [(1, 0, [124])], [(0, 5, 0, (0, 0, []), (0, 0, []))], [(124, 13, (0, 0, [])), (128, 6, (3, 0, []))], [(124, [4, 5, 6, 7, 8, 9, 10, 13]), (126, []), (128, [6, 51, 52, 53, 54])], [([], [(0, 5, 0, (0, 0, []), (0, 0, [])), (1, 6, 1, (3, 0, []), (0, 1, []))], [(124, 13, (0, 0, [])), (128, 6, (3, 1, []))]), ([], [(0, 5, 0, (0, 0, []), (0, 0, []))], [(124, 13, (0, 1, [])), (128, 6, (3, 0, []))])])
set_option maxRecDepth 1000000 in
theorem ck_344 : ab_CT cm_ms hp hN 11 ct_344 := ab_chk_ok (us := [ct_299, ct_320, ct_321]) (inl := inl0) (hin := inl0_ok) (d := 7) (dd := 3) (n := 20000) (tms := []) cm_ms_ok cm_ms_rc hNP (List.forall_mem_cons.mpr ⟨ab_CT_up ck_299 (by decide), List.forall_mem_cons.mpr ⟨ab_CT_up ck_320 (by decide), List.forall_mem_cons.mpr ⟨ab_CT_up ck_321 (by decide), fun _ h => absurd h List.not_mem_nil⟩⟩⟩) (by decide +kernel) (by decide +kernel)
/-- Model.quarrelLine@failed (45 steps) -/
def ct_345 : ab_Ct := (200, [(1, 0, [124])], [], [(124, 13, (0, 1, []))], [], [([], [], [(124, 13, (0, 1, []))])])
set_option maxRecDepth 1000000 in
theorem ck_345 : ab_CT cm_ms hp hN 3 ct_345 := ab_chk_ok (us := []) (inl := inl0) (hin := inl0_ok) (d := 0) (dd := 2) (n := 20000) (tms := []) cm_ms_ok cm_ms_rc hNP (fun _ h => absurd h List.not_mem_nil) (by decide +kernel) (by decide +kernel)
/-- Model.quarrelLine@can (534 steps) -/
def ct_346 : ab_Ct := (200, [(1, 0, [124])], [(0, 8, 0, (0, 0, []), (0, 0, []))], [(124, 13, (0, 0, [])), (128, 7, (3, 0, []))], [(124, [4, 5, 6, 7, 8, 9, 10, 13]), (126, []), (128, [7, 55, 56, 57, 58, 59, 60])], [([], [(0, 8, 0, (0, 0, []), (0, 0, [])), (1, 9, 1, (3, 0, []), (0, 1, []))], [(124, 13, (0, 0, [])), (128, 7, (3, 1, []))]), ([], [(0, 8, 0, (0, 0, []), (0, 0, []))], [(124, 13, (0, 1, [])), (128, 7, (3, 0, []))])])
set_option maxRecDepth 1000000 in
theorem ck_346 : ab_CT cm_ms hp hN 11 ct_346 := ab_chk_ok (us := [ct_299, ct_320, ct_321]) (inl := inl0) (hin := inl0_ok) (d := 7) (dd := 3) (n := 20000) (tms := []) cm_ms_ok cm_ms_rc hNP (List.forall_mem_cons.mpr ⟨ab_CT_up ck_299 (by decide), List.forall_mem_cons.mpr ⟨ab_CT_up ck_320 (by decide), List.forall_mem_cons.mpr ⟨ab_CT_up ck_321 (by decide), fun _ h => absurd h List.not_mem_nil⟩⟩⟩) (by decide +kernel) (by decide +kernel)
