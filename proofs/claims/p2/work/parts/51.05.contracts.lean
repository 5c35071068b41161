/-! AB: contracts -/
/-- .trouble (3 steps) -/
def ct_230 : ab_Ct := (156, [(1, 0, [0])], [], [], [], [([(3, 0, [])], [((-2147483648), 2147483647, 0, (0, 0, []), (0, 0, []))], [])])
set_option maxRecDepth 1000000 in
theorem ck_230 : ab_CT cm_ms hp hN 1 ct_230 := ab_chk_ok (us := []) (inl := inl0) (d := 0) (dd := 0) (n := 20000) (tms := []) cm_ms_ok cm_ms_rc hNP (fun _ h => absurd h List.not_mem_nil) (by decide +kernel) (by decide +kernel)
/-- Model.ones (19 steps) -/
def ct_231 : ab_Ct := (169, [(3, 0, [])], [((-2147483648), 2147483647, 0, (0, 0, []), (0, 0, []))], [], [], [([(3, 1, [])], [((-2147483648), 2147483647, 0, (0, 0, []), (0, 0, [])), ((-2147483648), 2147483647, 0, (0, 0, []), (0, 0, []))], [])])
set_option maxRecDepth 1000000 in
theorem ck_231 : ab_CT cm_ms hp hN 1 ct_231 := ab_chk_ok (us := []) (inl := inl0) (d := 0) (dd := 0) (n := 20000) (tms := [((4, [(0, (3, 0, [])), (1, (3, 1, [])), (2, (3, 2, []))], [], [((-2147483648), 2147483647, 0, (0, 0, []), (0, 0, [])), ((-2147483648), 2147483647, 0, (0, 0, []), (0, 0, [])), (0, 8, 0, (0, 0, []), (0, 0, []))], []), [(0, 1, (0, 0, [])), ((-1), 2147483648, (3, 2, []))])]) cm_ms_ok cm_ms_rc hNP (fun _ h => absurd h List.not_mem_nil) (by decide +kernel) (by decide +kernel)
/-- Model.copy@129,132 (18 steps) -/
def ct_232 : ab_Ct := (170, [(1, 0, [129]), (3, 0, []), (1, 0, [132]), (3, 1, []), (3, 2, [])], [(0, 0, 0, (0, 0, []), (0, 0, [])), (0, 0, 0, (0, 0, []), (0, 0, [])), (11, 11, 0, (0, 0, []), (0, 0, []))], [], [(132, [])], [([], [(0, 0, 0, (0, 0, []), (0, 0, [])), (0, 0, 0, (0, 0, []), (0, 0, [])), (11, 11, 0, (0, 0, []), (0, 0, []))], [])])
set_option maxRecDepth 1000000 in
theorem ck_232 : ab_CT cm_ms hp hN 1 ct_232 := ab_chk_ok (us := []) (inl := inl0) (d := 0) (dd := 0) (n := 20000) (tms := [((3, [(0, (1, 0, [129])), (1, (3, 0, [])), (2, (1, 0, [132])), (3, (3, 1, [])), (4, (3, 2, [])), (5, (3, 3, []))], [], [(0, 0, 0, (0, 0, []), (0, 0, [])), (0, 0, 0, (0, 0, []), (0, 0, [])), (11, 11, 0, (0, 0, []), (0, 0, [])), (0, 11, 0, (0, 0, []), (0, 0, []))], []), [(0, 1, (0, 0, [])), ((-1), 2147483648, (3, 3, []))])]) cm_ms_ok cm_ms_rc hNP (fun _ h => absurd h List.not_mem_nil) (by decide +kernel) (by decide +kernel)
/-- Model.copy@129,130 (18 steps) -/
def ct_233 : ab_Ct := (170, [(1, 0, [129]), (3, 0, []), (1, 0, [130]), (3, 1, []), (3, 2, [])], [(0, 0, 0, (0, 0, []), (0, 0, [])), (0, 165, 0, (0, 0, []), (0, 0, [])), (11, 11, 0, (0, 0, []), (0, 0, []))], [], [(130, [])], [([], [(0, 0, 0, (0, 0, []), (0, 0, [])), (0, 165, 0, (0, 0, []), (0, 0, [])), (11, 11, 0, (0, 0, []), (0, 0, []))], [])])
set_option maxRecDepth 1000000 in
theorem ck_233 : ab_CT cm_ms hp hN 1 ct_233 := ab_chk_ok (us := []) (inl := inl0) (d := 0) (dd := 0) (n := 20000) (tms := [((3, [(0, (1, 0, [129])), (1, (3, 0, [])), (2, (1, 0, [130])), (3, (3, 1, [])), (4, (3, 2, [])), (5, (3, 3, []))], [], [(0, 0, 0, (0, 0, []), (0, 0, [])), (0, 165, 0, (0, 0, []), (0, 0, [])), (11, 11, 0, (0, 0, []), (0, 0, [])), (0, 11, 0, (0, 0, []), (0, 0, []))], []), [(0, 1, (0, 0, [])), ((-1), 2147483648, (3, 3, []))])]) cm_ms_ok cm_ms_rc hNP (fun _ h => absurd h List.not_mem_nil) (by decide +kernel) (by decide +kernel)
/-- Model.copy@130,129 (18 steps) -/
def ct_234 : ab_Ct := (170, [(1, 0, [130]), (3, 0, []), (1, 0, [129]), (3, 1, []), (3, 2, [])], [(0, 165, 0, (0, 0, []), (0, 0, [])), (0, 0, 0, (0, 0, []), (0, 0, [])), (11, 11, 0, (0, 0, []), (0, 0, []))], [], [(129, [])], [([], [(0, 165, 0, (0, 0, []), (0, 0, [])), (0, 0, 0, (0, 0, []), (0, 0, [])), (11, 11, 0, (0, 0, []), (0, 0, []))], [])])
set_option maxRecDepth 1000000 in
theorem ck_234 : ab_CT cm_ms hp hN 1 ct_234 := ab_chk_ok (us := []) (inl := inl0) (d := 0) (dd := 0) (n := 20000) (tms := [((3, [(0, (1, 0, [130])), (1, (3, 0, [])), (2, (1, 0, [129])), (3, (3, 1, [])), (4, (3, 2, [])), (5, (3, 3, []))], [], [(0, 165, 0, (0, 0, []), (0, 0, [])), (0, 0, 0, (0, 0, []), (0, 0, [])), (11, 11, 0, (0, 0, []), (0, 0, [])), (0, 11, 0, (0, 0, []), (0, 0, []))], []), [(0, 1, (0, 0, [])), ((-1), 2147483648, (3, 3, []))])]) cm_ms_ok cm_ms_rc hNP (fun _ h => absurd h List.not_mem_nil) (by decide +kernel) (by decide +kernel)
/-- Model.copy@129,131 (18 steps) -/
def ct_235 : ab_Ct := (170, [(1, 0, [129]), (3, 0, []), (1, 0, [131]), (3, 1, []), (3, 2, [])], [(0, 0, 0, (0, 0, []), (0, 0, [])), (0, 22, 0, (0, 0, []), (0, 0, [])), (11, 11, 0, (0, 0, []), (0, 0, []))], [], [(131, [])], [([], [(0, 0, 0, (0, 0, []), (0, 0, [])), (0, 22, 0, (0, 0, []), (0, 0, [])), (11, 11, 0, (0, 0, []), (0, 0, []))], [])])
set_option maxRecDepth 1000000 in
theorem ck_235 : ab_CT cm_ms hp hN 1 ct_235 := ab_chk_ok (us := []) (inl := inl0) (d := 0) (dd := 0) (n := 20000) (tms := [((3, [(0, (1, 0, [129])), (1, (3, 0, [])), (2, (1, 0, [131])), (3, (3, 1, [])), (4, (3, 2, [])), (5, (3, 3, []))], [], [(0, 0, 0, (0, 0, []), (0, 0, [])), (0, 22, 0, (0, 0, []), (0, 0, [])), (11, 11, 0, (0, 0, []), (0, 0, [])), (0, 11, 0, (0, 0, []), (0, 0, []))], []), [(0, 1, (0, 0, [])), ((-1), 2147483648, (3, 3, []))])]) cm_ms_ok cm_ms_rc hNP (fun _ h => absurd h List.not_mem_nil) (by decide +kernel) (by decide +kernel)
/-- Model.copy@131,129 (18 steps) -/
def ct_236 : ab_Ct := (170, [(1, 0, [131]), (3, 0, []), (1, 0, [129]), (3, 1, []), (3, 2, [])], [(0, 22, 0, (0, 0, []), (0, 0, [])), (0, 0, 0, (0, 0, []), (0, 0, [])), (11, 11, 0, (0, 0, []), (0, 0, []))], [], [(129, [])], [([], [(0, 22, 0, (0, 0, []), (0, 0, [])), (0, 0, 0, (0, 0, []), (0, 0, [])), (11, 11, 0, (0, 0, []), (0, 0, []))], [])])
set_option maxRecDepth 1000000 in
theorem ck_236 : ab_CT cm_ms hp hN 1 ct_236 := ab_chk_ok (us := []) (inl := inl0) (d := 0) (dd := 0) (n := 20000) (tms := [((3, [(0, (1, 0, [131])), (1, (3, 0, [])), (2, (1, 0, [129])), (3, (3, 1, [])), (4, (3, 2, [])), (5, (3, 3, []))], [], [(0, 22, 0, (0, 0, []), (0, 0, [])), (0, 0, 0, (0, 0, []), (0, 0, [])), (11, 11, 0, (0, 0, []), (0, 0, [])), (0, 11, 0, (0, 0, []), (0, 0, []))], []), [(0, 1, (0, 0, [])), ((-1), 2147483648, (3, 3, []))])]) cm_ms_ok cm_ms_rc hNP (fun _ h => absurd h List.not_mem_nil) (by decide +kernel) (by decide +kernel)
/-- Model.copy@133,134 (18 steps) -/
def ct_237 : ab_Ct := (170, [(1, 0, [133]), (3, 0, []), (1, 0, [134]), (3, 1, []), (3, 2, [])], [(0, 0, 0, (0, 0, []), (0, 0, [])), (0, 0, 0, (0, 0, []), (0, 0, [])), (5, 5, 0, (0, 0, []), (0, 0, []))], [], [(134, [])], [([], [(0, 0, 0, (0, 0, []), (0, 0, [])), (0, 0, 0, (0, 0, []), (0, 0, [])), (5, 5, 0, (0, 0, []), (0, 0, []))], [])])
set_option maxRecDepth 1000000 in
theorem ck_237 : ab_CT cm_ms hp hN 1 ct_237 := ab_chk_ok (us := []) (inl := inl0) (d := 0) (dd := 0) (n := 20000) (tms := [((3, [(0, (1, 0, [133])), (1, (3, 0, [])), (2, (1, 0, [134])), (3, (3, 1, [])), (4, (3, 2, [])), (5, (3, 3, []))], [], [(0, 0, 0, (0, 0, []), (0, 0, [])), (0, 0, 0, (0, 0, []), (0, 0, [])), (5, 5, 0, (0, 0, []), (0, 0, [])), (0, 5, 0, (0, 0, []), (0, 0, []))], []), [(0, 1, (0, 0, [])), ((-1), 2147483648, (3, 3, []))])]) cm_ms_ok cm_ms_rc hNP (fun _ h => absurd h List.not_mem_nil) (by decide +kernel) (by decide +kernel)
/-- Model.feed (783 steps) -/
def ct_238 : ab_Ct := (172, [(1, 0, [124]), (3, 0, []), (3, 1, []), (3, 2, []), (3, 3, []), (3, 4, [])], [((-2147483648), 2147483647, 0, (0, 0, []), (0, 0, [])), ((-2147483648), 2147483647, 0, (0, 0, []), (0, 0, [])), ((-2147483648), 2147483647, 0, (0, 0, []), (0, 0, [])), ((-2147483648), 2147483647, 0, (0, 0, []), (0, 0, [])), ((-2147483648), 2147483647, 0, (0, 0, []), (0, 0, []))], [], [(124, [0, 2]), (125, [])], [([(3, 5, [])], [((-2147483648), 2147483647, 0, (0, 0, []), (0, 0, [])), ((-2147483648), 2147483647, 0, (0, 0, []), (0, 0, [])), ((-2147483648), 2147483647, 0, (0, 0, []), (0, 0, [])), ((-2147483648), 2147483647, 0, (0, 0, []), (0, 0, [])), ((-2147483648), 2147483647, 0, (0, 0, []), (0, 0, [])), ((-1), 900, 0, (0, 0, []), (0, 0, []))], [])])
set_option maxRecDepth 1000000 in
theorem ck_238 : ab_CT cm_ms hp hN 1 ct_238 := ab_chk_ok (us := []) (inl := inl0) (d := 0) (dd := 0) (n := 20000) (tms := []) cm_ms_ok cm_ms_rc hNP (fun _ h => absurd h List.not_mem_nil) (by decide +kernel) (by decide +kernel)
/-- Model.next BY HAND -/
def ct_239 : ab_Ct := (176, [(1, 0, [124])], [], [], [(124, [4, 5, 6, 7, 8]), (126, [])], [([], [], [])])
theorem ck_239 : ab_CT cm_ms hp hN 40 ct_239 := sorry
/-- Model.isWord@town (104 steps) -/
def ct_240 : ab_Ct := (178, [(1, 0, [124]), (1, 0, [1041])], [], [], [], [([(3, 0, [])], [(0, 1, 0, (0, 0, []), (0, 0, []))], [])])
set_option maxRecDepth 1000000 in
theorem ck_240 : ab_CT cm_ms hp hN 5 ct_240 := ab_chk_ok (us := []) (inl := inl0) (d := 0) (dd := 4) (n := 20000) (tms := [((32, [(0, (1, 0, [124])), (1, (1, 0, [1041])), (2, (3, 0, [])), (3, (3, 1, []))], [], [(0, 1, 0, (0, 0, []), (0, 0, [])), (0, 4, 0, (0, 0, []), (0, 0, []))], [(124, 6, (0, 2, [])), (124, 8, (0, 4, [])), (124, 13, (0, 0, []))]), [(0, 1, (0, 0, [])), ((-1), 2147483648, (3, 1, []))])]) cm_ms_ok cm_ms_rc hNP (fun _ h => absurd h List.not_mem_nil) (by decide +kernel) (by decide +kernel)
/-- Model.isWord@grows (104 steps) -/
def ct_241 : ab_Ct := (178, [(1, 0, [124]), (1, 0, [1043])], [], [], [], [([(3, 0, [])], [(0, 1, 0, (0, 0, []), (0, 0, []))], [])])
set_option maxRecDepth 1000000 in
theorem ck_241 : ab_CT cm_ms hp hN 5 ct_241 := ab_chk_ok (us := []) (inl := inl0) (d := 0) (dd := 4) (n := 20000) (tms := [((32, [(0, (1, 0, [124])), (1, (1, 0, [1043])), (2, (3, 0, [])), (3, (3, 1, []))], [], [(0, 1, 0, (0, 0, []), (0, 0, [])), (0, 5, 0, (0, 0, []), (0, 0, []))], [(124, 6, (0, 2, [])), (124, 8, (0, 5, [])), (124, 13, (0, 0, []))]), [(0, 1, (0, 0, [])), ((-1), 2147483648, (3, 1, []))])]) cm_ms_ok cm_ms_rc hNP (fun _ h => absurd h List.not_mem_nil) (by decide +kernel) (by decide +kernel)
/-- Model.isWord@bald (104 steps) -/
def ct_242 : ab_Ct := (178, [(1, 0, [124]), (1, 0, [1045])], [], [], [], [([(3, 0, [])], [(0, 1, 0, (0, 0, []), (0, 0, []))], [])])
set_option maxRecDepth 1000000 in
theorem ck_242 : ab_CT cm_ms hp hN 5 ct_242 := ab_chk_ok (us := []) (inl := inl0) (d := 0) (dd := 4) (n := 20000) (tms := [((32, [(0, (1, 0, [124])), (1, (1, 0, [1045])), (2, (3, 0, [])), (3, (3, 1, []))], [], [(0, 1, 0, (0, 0, []), (0, 0, [])), (0, 4, 0, (0, 0, []), (0, 0, []))], [(124, 6, (0, 2, [])), (124, 8, (0, 4, [])), (124, 13, (0, 0, []))]), [(0, 1, (0, 0, [])), ((-1), 2147483648, (3, 1, []))])]) cm_ms_ok cm_ms_rc hNP (fun _ h => absurd h List.not_mem_nil) (by decide +kernel) (by decide +kernel)
/-- Model.isWord@shave (104 steps) -/
def ct_243 : ab_Ct := (178, [(1, 0, [124]), (1, 0, [1047])], [], [], [], [([(3, 0, [])], [(0, 1, 0, (0, 0, []), (0, 0, []))], [])])
set_option maxRecDepth 1000000 in
theorem ck_243 : ab_CT cm_ms hp hN 5 ct_243 := ab_chk_ok (us := []) (inl := inl0) (d := 0) (dd := 4) (n := 20000) (tms := [((32, [(0, (1, 0, [124])), (1, (1, 0, [1047])), (2, (3, 0, [])), (3, (3, 1, []))], [], [(0, 1, 0, (0, 0, []), (0, 0, [])), (0, 5, 0, (0, 0, []), (0, 0, []))], [(124, 6, (0, 2, [])), (124, 8, (0, 5, [])), (124, 13, (0, 0, []))]), [(0, 1, (0, 0, [])), ((-1), 2147483648, (3, 1, []))])]) cm_ms_ok cm_ms_rc hNP (fun _ h => absurd h List.not_mem_nil) (by decide +kernel) (by decide +kernel)
/-- Model.isWord@man (104 steps) -/
def ct_244 : ab_Ct := (178, [(1, 0, [124]), (1, 0, [1049])], [], [], [], [([(3, 0, [])], [(0, 1, 0, (0, 0, []), (0, 0, []))], [])])
set_option maxRecDepth 1000000 in
theorem ck_244 : ab_CT cm_ms hp hN 5 ct_244 := ab_chk_ok (us := []) (inl := inl0) (d := 0) (dd := 4) (n := 20000) (tms := [((32, [(0, (1, 0, [124])), (1, (1, 0, [1049])), (2, (3, 0, [])), (3, (3, 1, []))], [], [(0, 1, 0, (0, 0, []), (0, 0, [])), (0, 3, 0, (0, 0, []), (0, 0, []))], [(124, 6, (0, 2, [])), (124, 8, (0, 3, [])), (124, 13, (0, 0, []))]), [(0, 1, (0, 0, [])), ((-1), 2147483648, (3, 1, []))])]) cm_ms_ok cm_ms_rc hNP (fun _ h => absurd h List.not_mem_nil) (by decide +kernel) (by decide +kernel)
/-- Model.isWord@motion (104 steps) -/
def ct_245 : ab_Ct := (178, [(1, 0, [124]), (1, 0, [1051])], [], [], [], [([(3, 0, [])], [(0, 1, 0, (0, 0, []), (0, 0, []))], [])])
set_option maxRecDepth 1000000 in
theorem ck_245 : ab_CT cm_ms hp hN 5 ct_245 := ab_chk_ok (us := []) (inl := inl0) (d := 0) (dd := 4) (n := 20000) (tms := [((32, [(0, (1, 0, [124])), (1, (1, 0, [1051])), (2, (3, 0, [])), (3, (3, 1, []))], [], [(0, 1, 0, (0, 0, []), (0, 0, [])), (0, 6, 0, (0, 0, []), (0, 0, []))], [(124, 6, (0, 2, [])), (124, 8, (0, 6, [])), (124, 13, (0, 0, []))]), [(0, 1, (0, 0, [])), ((-1), 2147483648, (3, 1, []))])]) cm_ms_ok cm_ms_rc hNP (fun _ h => absurd h List.not_mem_nil) (by decide +kernel) (by decide +kernel)
/-- Model.isWord@against (104 steps) -/
def ct_246 : ab_Ct := (178, [(1, 0, [124]), (1, 0, [1053])], [], [], [], [([(3, 0, [])], [(0, 1, 0, (0, 0, []), (0, 0, []))], [])])
set_option maxRecDepth 1000000 in
theorem ck_246 : ab_CT cm_ms hp hN 5 ct_246 := ab_chk_ok (us := []) (inl := inl0) (d := 0) (dd := 4) (n := 20000) (tms := [((32, [(0, (1, 0, [124])), (1, (1, 0, [1053])), (2, (3, 0, [])), (3, (3, 1, []))], [], [(0, 1, 0, (0, 0, []), (0, 0, [])), (0, 7, 0, (0, 0, []), (0, 0, []))], [(124, 6, (0, 2, [])), (124, 8, (0, 7, [])), (124, 13, (0, 0, []))]), [(0, 1, (0, 0, [])), ((-1), 2147483648, (3, 1, []))])]) cm_ms_ok cm_ms_rc hNP (fun _ h => absurd h List.not_mem_nil) (by decide +kernel) (by decide +kernel)
/-- Model.isWord@amends (104 steps) -/
def ct_247 : ab_Ct := (178, [(1, 0, [124]), (1, 0, [1055])], [], [], [], [([(3, 0, [])], [(0, 1, 0, (0, 0, []), (0, 0, []))], [])])
set_option maxRecDepth 1000000 in
theorem ck_247 : ab_CT cm_ms hp hN 5 ct_247 := ab_chk_ok (us := []) (inl := inl0) (d := 0) (dd := 4) (n := 20000) (tms := [((32, [(0, (1, 0, [124])), (1, (1, 0, [1055])), (2, (3, 0, [])), (3, (3, 1, []))], [], [(0, 1, 0, (0, 0, []), (0, 0, [])), (0, 6, 0, (0, 0, []), (0, 0, []))], [(124, 6, (0, 2, [])), (124, 8, (0, 6, [])), (124, 13, (0, 0, []))]), [(0, 1, (0, 0, [])), ((-1), 2147483648, (3, 1, []))])]) cm_ms_ok cm_ms_rc hNP (fun _ h => absurd h List.not_mem_nil) (by decide +kernel) (by decide +kernel)
/-- Model.isWord@quarrel (104 steps) -/
def ct_248 : ab_Ct := (178, [(1, 0, [124]), (1, 0, [1057])], [], [], [], [([(3, 0, [])], [(0, 1, 0, (0, 0, []), (0, 0, []))], [])])
set_option maxRecDepth 1000000 in
theorem ck_248 : ab_CT cm_ms hp hN 5 ct_248 := ab_chk_ok (us := []) (inl := inl0) (d := 0) (dd := 4) (n := 20000) (tms := [((32, [(0, (1, 0, [124])), (1, (1, 0, [1057])), (2, (3, 0, [])), (3, (3, 1, []))], [], [(0, 1, 0, (0, 0, []), (0, 0, [])), (0, 7, 0, (0, 0, []), (0, 0, []))], [(124, 6, (0, 2, [])), (124, 8, (0, 7, [])), (124, 13, (0, 0, []))]), [(0, 1, (0, 0, [])), ((-1), 2147483648, (3, 1, []))])]) cm_ms_ok cm_ms_rc hNP (fun _ h => absurd h List.not_mem_nil) (by decide +kernel) (by decide +kernel)
/-- Model.isWord@chair (104 steps) -/
def ct_249 : ab_Ct := (178, [(1, 0, [124]), (1, 0, [1059])], [], [], [], [([(3, 0, [])], [(0, 1, 0, (0, 0, []), (0, 0, []))], [])])
set_option maxRecDepth 1000000 in
theorem ck_249 : ab_CT cm_ms hp hN 5 ct_249 := ab_chk_ok (us := []) (inl := inl0) (d := 0) (dd := 4) (n := 20000) (tms := [((32, [(0, (1, 0, [124])), (1, (1, 0, [1059])), (2, (3, 0, [])), (3, (3, 1, []))], [], [(0, 1, 0, (0, 0, []), (0, 0, [])), (0, 5, 0, (0, 0, []), (0, 0, []))], [(124, 6, (0, 2, [])), (124, 8, (0, 5, [])), (124, 13, (0, 0, []))]), [(0, 1, (0, 0, [])), ((-1), 2147483648, (3, 1, []))])]) cm_ms_ok cm_ms_rc hNP (fun _ h => absurd h List.not_mem_nil) (by decide +kernel) (by decide +kernel)
/-- Model.isWord@heap (104 steps) -/
def ct_250 : ab_Ct := (178, [(1, 0, [124]), (1, 0, [1061])], [], [], [], [([(3, 0, [])], [(0, 1, 0, (0, 0, []), (0, 0, []))], [])])
set_option maxRecDepth 1000000 in
theorem ck_250 : ab_CT cm_ms hp hN 5 ct_250 := ab_chk_ok (us := []) (inl := inl0) (d := 0) (dd := 4) (n := 20000) (tms := [((32, [(0, (1, 0, [124])), (1, (1, 0, [1061])), (2, (3, 0, [])), (3, (3, 1, []))], [], [(0, 1, 0, (0, 0, []), (0, 0, [])), (0, 4, 0, (0, 0, []), (0, 0, []))], [(124, 6, (0, 2, [])), (124, 8, (0, 4, [])), (124, 13, (0, 0, []))]), [(0, 1, (0, 0, [])), ((-1), 2147483648, (3, 1, []))])]) cm_ms_ok cm_ms_rc hNP (fun _ h => absurd h List.not_mem_nil) (by decide +kernel) (by decide +kernel)
/-- Model.isWord@fair (104 steps) -/
def ct_251 : ab_Ct := (178, [(1, 0, [124]), (1, 0, [1063])], [], [], [], [([(3, 0, [])], [(0, 1, 0, (0, 0, []), (0, 0, []))], [])])
set_option maxRecDepth 1000000 in
theorem ck_251 : ab_CT cm_ms hp hN 5 ct_251 := ab_chk_ok (us := []) (inl := inl0) (d := 0) (dd := 4) (n := 20000) (tms := [((32, [(0, (1, 0, [124])), (1, (1, 0, [1063])), (2, (3, 0, [])), (3, (3, 1, []))], [], [(0, 1, 0, (0, 0, []), (0, 0, [])), (0, 4, 0, (0, 0, []), (0, 0, []))], [(124, 6, (0, 2, [])), (124, 8, (0, 4, [])), (124, 13, (0, 0, []))]), [(0, 1, (0, 0, [])), ((-1), 2147483648, (3, 1, []))])]) cm_ms_ok cm_ms_rc hNP (fun _ h => absurd h List.not_mem_nil) (by decide +kernel) (by decide +kernel)
/-- Model.isWord@dark (104 steps) -/
def ct_252 : ab_Ct := (178, [(1, 0, [124]), (1, 0, [1065])], [], [], [], [([(3, 0, [])], [(0, 1, 0, (0, 0, []), (0, 0, []))], [])])
set_option maxRecDepth 1000000 in
theorem ck_252 : ab_CT cm_ms hp hN 5 ct_252 := ab_chk_ok (us := []) (inl := inl0) (d := 0) (dd := 4) (n := 20000) (tms := [((32, [(0, (1, 0, [124])), (1, (1, 0, [1065])), (2, (3, 0, [])), (3, (3, 1, []))], [], [(0, 1, 0, (0, 0, []), (0, 0, [])), (0, 4, 0, (0, 0, []), (0, 0, []))], [(124, 6, (0, 2, [])), (124, 8, (0, 4, [])), (124, 13, (0, 0, []))]), [(0, 1, (0, 0, [])), ((-1), 2147483648, (3, 1, []))])]) cm_ms_ok cm_ms_rc hNP (fun _ h => absurd h List.not_mem_nil) (by decide +kernel) (by decide +kernel)
/-- Model.isWord@grey (104 steps) -/
def ct_253 : ab_Ct := (178, [(1, 0, [124]), (1, 0, [1067])], [], [], [], [([(3, 0, [])], [(0, 1, 0, (0, 0, []), (0, 0, []))], [])])
set_option maxRecDepth 1000000 in
theorem ck_253 : ab_CT cm_ms hp hN 5 ct_253 := ab_chk_ok (us := []) (inl := inl0) (d := 0) (dd := 4) (n := 20000) (tms := [((32, [(0, (1, 0, [124])), (1, (1, 0, [1067])), (2, (3, 0, [])), (3, (3, 1, []))], [], [(0, 1, 0, (0, 0, []), (0, 0, [])), (0, 4, 0, (0, 0, []), (0, 0, []))], [(124, 6, (0, 2, [])), (124, 8, (0, 4, [])), (124, 13, (0, 0, []))]), [(0, 1, (0, 0, [])), ((-1), 2147483648, (3, 1, []))])]) cm_ms_ok cm_ms_rc hNP (fun _ h => absurd h List.not_mem_nil) (by decide +kernel) (by decide +kernel)
/-- Model.isWord@long (104 steps) -/
def ct_254 : ab_Ct := (178, [(1, 0, [124]), (1, 0, [1069])], [], [], [], [([(3, 0, [])], [(0, 1, 0, (0, 0, []), (0, 0, []))], [])])
set_option maxRecDepth 1000000 in
theorem ck_254 : ab_CT cm_ms hp hN 5 ct_254 := ab_chk_ok (us := []) (inl := inl0) (d := 0) (dd := 4) (n := 20000) (tms := [((32, [(0, (1, 0, [124])), (1, (1, 0, [1069])), (2, (3, 0, [])), (3, (3, 1, []))], [], [(0, 1, 0, (0, 0, []), (0, 0, [])), (0, 4, 0, (0, 0, []), (0, 0, []))], [(124, 6, (0, 2, [])), (124, 8, (0, 4, [])), (124, 13, (0, 0, []))]), [(0, 1, (0, 0, [])), ((-1), 2147483648, (3, 1, []))])]) cm_ms_ok cm_ms_rc hNP (fun _ h => absurd h List.not_mem_nil) (by decide +kernel) (by decide +kernel)
/-- Model.isWord@votes (104 steps) -/
def ct_255 : ab_Ct := (178, [(1, 0, [124]), (1, 0, [1071])], [], [], [], [([(3, 0, [])], [(0, 1, 0, (0, 0, []), (0, 0, []))], [])])
set_option maxRecDepth 1000000 in
theorem ck_255 : ab_CT cm_ms hp hN 5 ct_255 := ab_chk_ok (us := []) (inl := inl0) (d := 0) (dd := 4) (n := 20000) (tms := [((32, [(0, (1, 0, [124])), (1, (1, 0, [1071])), (2, (3, 0, [])), (3, (3, 1, []))], [], [(0, 1, 0, (0, 0, []), (0, 0, [])), (0, 5, 0, (0, 0, []), (0, 0, []))], [(124, 6, (0, 2, [])), (124, 8, (0, 5, [])), (124, 13, (0, 0, []))]), [(0, 1, (0, 0, [])), ((-1), 2147483648, (3, 1, []))])]) cm_ms_ok cm_ms_rc hNP (fun _ h => absurd h List.not_mem_nil) (by decide +kernel) (by decide +kernel)
/-- Model.isWord@cuts (104 steps) -/
def ct_256 : ab_Ct := (178, [(1, 0, [124]), (1, 0, [1073])], [], [], [], [([(3, 0, [])], [(0, 1, 0, (0, 0, []), (0, 0, []))], [])])
set_option maxRecDepth 1000000 in
theorem ck_256 : ab_CT cm_ms hp hN 5 ct_256 := ab_chk_ok (us := []) (inl := inl0) (d := 0) (dd := 4) (n := 20000) (tms := [((32, [(0, (1, 0, [124])), (1, (1, 0, [1073])), (2, (3, 0, [])), (3, (3, 1, []))], [], [(0, 1, 0, (0, 0, []), (0, 0, [])), (0, 4, 0, (0, 0, []), (0, 0, []))], [(124, 6, (0, 2, [])), (124, 8, (0, 4, [])), (124, 13, (0, 0, []))]), [(0, 1, (0, 0, [])), ((-1), 2147483648, (3, 1, []))])]) cm_ms_ok cm_ms_rc hNP (fun _ h => absurd h List.not_mem_nil) (by decide +kernel) (by decide +kernel)
/-- Model.isWord@needs (104 steps) -/
def ct_257 : ab_Ct := (178, [(1, 0, [124]), (1, 0, [1075])], [], [], [], [([(3, 0, [])], [(0, 1, 0, (0, 0, []), (0, 0, []))], [])])
set_option maxRecDepth 1000000 in
theorem ck_257 : ab_CT cm_ms hp hN 5 ct_257 := ab_chk_ok (us := []) (inl := inl0) (d := 0) (dd := 4) (n := 20000) (tms := [((32, [(0, (1, 0, [124])), (1, (1, 0, [1075])), (2, (3, 0, [])), (3, (3, 1, []))], [], [(0, 1, 0, (0, 0, []), (0, 0, [])), (0, 5, 0, (0, 0, []), (0, 0, []))], [(124, 6, (0, 2, [])), (124, 8, (0, 5, [])), (124, 13, (0, 0, []))]), [(0, 1, (0, 0, [])), ((-1), 2147483648, (3, 1, []))])]) cm_ms_ok cm_ms_rc hNP (fun _ h => absurd h List.not_mem_nil) (by decide +kernel) (by decide +kernel)
/-- Model.isWord@worth (104 steps) -/
def ct_258 : ab_Ct := (178, [(1, 0, [124]), (1, 0, [1077])], [], [], [], [([(3, 0, [])], [(0, 1, 0, (0, 0, []), (0, 0, []))], [])])
set_option maxRecDepth 1000000 in
theorem ck_258 : ab_CT cm_ms hp hN 5 ct_258 := ab_chk_ok (us := []) (inl := inl0) (d := 0) (dd := 4) (n := 20000) (tms := [((32, [(0, (1, 0, [124])), (1, (1, 0, [1077])), (2, (3, 0, [])), (3, (3, 1, []))], [], [(0, 1, 0, (0, 0, []), (0, 0, [])), (0, 5, 0, (0, 0, []), (0, 0, []))], [(124, 6, (0, 2, [])), (124, 8, (0, 5, [])), (124, 13, (0, 0, []))]), [(0, 1, (0, 0, [])), ((-1), 2147483648, (3, 1, []))])]) cm_ms_ok cm_ms_rc hNP (fun _ h => absurd h List.not_mem_nil) (by decide +kernel) (by decide +kernel)
/-- Model.isWord@at (104 steps) -/
def ct_259 : ab_Ct := (178, [(1, 0, [124]), (1, 0, [1079])], [], [], [], [([(3, 0, [])], [(0, 1, 0, (0, 0, []), (0, 0, []))], [])])
set_option maxRecDepth 1000000 in
theorem ck_259 : ab_CT cm_ms hp hN 5 ct_259 := ab_chk_ok (us := []) (inl := inl0) (d := 0) (dd := 4) (n := 20000) (tms := [((32, [(0, (1, 0, [124])), (1, (1, 0, [1079])), (2, (3, 0, [])), (3, (3, 1, []))], [], [(0, 1, 0, (0, 0, []), (0, 0, [])), (0, 2, 0, (0, 0, []), (0, 0, []))], [(124, 6, (0, 2, [])), (124, 8, (0, 2, [])), (124, 13, (0, 0, []))]), [(0, 1, (0, 0, [])), ((-1), 2147483648, (3, 1, []))])]) cm_ms_ok cm_ms_rc hNP (fun _ h => absurd h List.not_mem_nil) (by decide +kernel) (by decide +kernel)
/-- Model.mustName (226 steps) -/
def ct_260 : ab_Ct := (181, [(1, 0, [124])], [], [], [(124, [9, 10, 13])], [([], [(0, 1, 0, (0, 0, []), (0, 0, []))], [(124, 6, (0, 2, [])), (124, 13, (3, 0, []))]), ([], [((-2147483648), 2147483647, 0, (0, 0, []), (0, 0, []))], [(124, 6, (3, 0, [])), (124, 13, (0, 1, []))])])
set_option maxRecDepth 1000000 in
theorem ck_260 : ab_CT cm_ms hp hN 7 ct_260 := ab_chk_ok (us := [ct_240, ct_244, ct_245, ct_246, ct_247, ct_248, ct_249, ct_250]) (inl := inl0) (d := 5) (dd := 1) (n := 20000) (tms := []) cm_ms_ok cm_ms_rc hNP (List.forall_mem_cons.mpr ⟨ab_CT_up ck_240 (by decide), List.forall_mem_cons.mpr ⟨ab_CT_up ck_244 (by decide), List.forall_mem_cons.mpr ⟨ab_CT_up ck_245 (by decide), List.forall_mem_cons.mpr ⟨ab_CT_up ck_246 (by decide), List.forall_mem_cons.mpr ⟨ab_CT_up ck_247 (by decide), List.forall_mem_cons.mpr ⟨ab_CT_up ck_248 (by decide), List.forall_mem_cons.mpr ⟨ab_CT_up ck_249 (by decide), List.forall_mem_cons.mpr ⟨ab_CT_up ck_250 (by decide), fun _ h => absurd h List.not_mem_nil⟩⟩⟩⟩⟩⟩⟩⟩) (by decide +kernel) (by decide +kernel)
/-- Model.find (84 steps) -/
def ct_261 : ab_Ct := (182, [(1, 0, [124])], [], [], [], [([(3, 0, [])], [((-1), 15, 0, (0, 0, []), (0, 0, []))], [])])
set_option maxRecDepth 1000000 in
theorem ck_261 : ab_CT cm_ms hp hN 1 ct_261 := ab_chk_ok (us := []) (inl := inl0) (d := 0) (dd := 0) (n := 20000) (tms := [((2, [(0, (1, 0, [124])), (1, (3, 0, []))], [], [(0, 16, 0, (0, 0, []), (0, 0, []))], []), [(0, 1, (0, 0, [])), ((-1), 2147483648, (3, 0, [])), (0, 1000, (0, 0, [])), (0, 0, (0, 0, []))]), ((44, [(0, (1, 0, [124])), (1, (3, 0, [])), (2, (0, 0, [])), (3, (3, 1, []))], [], [(0, 15, 0, (0, 0, []), (0, 0, [])), (0, 8, 0, (0, 0, []), (0, 0, []))], []), [(0, 1, (0, 0, [])), ((-1), 2147483648, (3, 0, [])), (0, 1, (0, 0, [])), ((-1), 2147483648, (3, 1, []))]), ((44, [(0, (1, 0, [124])), (1, (3, 0, [])), (2, (0, 1, [])), (3, (3, 1, []))], [], [(0, 15, 0, (0, 0, []), (0, 0, [])), (0, 8, 0, (0, 0, []), (0, 0, [])), (0, 8, 0, (0, 0, []), (0, 0, []))], [(124, 8, (3, 2, []))]), [(0, 1, (0, 0, [])), ((-1), 2147483648, (3, 0, [])), (0, 1, (0, 0, [])), ((-1), 2147483648, (3, 1, []))])]) cm_ms_ok cm_ms_rc hNP (fun _ h => absurd h List.not_mem_nil) (by decide +kernel) (by decide +kernel)
/-- Model.newName (81 steps) -/
def ct_262 : ab_Ct := (183, [(1, 0, [124]), (3, 0, [])], [(0, 15, 0, (0, 0, []), (0, 0, []))], [], [(124, [4, 5, 6, 7, 8, 9, 10, 13]), (126, []), (128, [69, 70, 71, 72, 73, 74, 75, 76, 77, 78, 79, 80, 81, 82, 83, 84, 85, 86, 87, 88, 89, 90, 91, 92, 93, 94, 95, 96, 97, 98, 99, 100, 101, 102, 103, 104, 105, 106, 107, 108, 109, 110, 111, 112, 113, 114, 115, 116, 117, 118, 119, 120, 121, 122, 123, 124, 125, 126, 127, 128, 129, 130, 131, 132, 133, 134, 135, 136, 137, 138, 139, 140, 141, 142, 143, 144, 145, 146, 147, 148, 149, 150, 151, 152, 153, 154, 155, 156, 157, 158, 159, 160, 161, 162, 163, 164, 165, 166, 167, 168, 169, 170, 171, 172, 173, 174, 175, 176, 177, 178, 179, 180, 181, 182, 183, 184, 185, 186, 187, 188, 189, 190, 191, 192, 193, 194, 195, 196, 197, 198, 199, 200, 201, 202, 203, 204, 205, 206, 207, 208, 209, 210, 211, 212])], [([], [(0, 15, 0, (0, 0, []), (0, 0, []))], [])])
set_option maxRecDepth 1000000 in
theorem ck_262 : ab_CT cm_ms hp hN 42 ct_262 := ab_chk_ok (us := [ct_239, ct_260, ct_261]) (inl := inl0) (d := 40) (dd := 1) (n := 20000) (tms := [((45, [(0, (1, 0, [124])), (1, (3, 0, [])), (2, (3, 1, []))], [], [(0, 15, 0, (0, 0, []), (0, 0, [])), (0, 8, 0, (0, 0, []), (0, 0, []))], [(124, 6, (0, 2, [])), (124, 13, (0, 0, []))]), [(0, 1, (0, 0, [])), ((-1), 2147483648, (3, 1, []))])]) cm_ms_ok cm_ms_rc hNP (List.forall_mem_cons.mpr ⟨ab_CT_up ck_239 (by decide), List.forall_mem_cons.mpr ⟨ab_CT_up ck_260 (by decide), List.forall_mem_cons.mpr ⟨ab_CT_up ck_261 (by decide), fun _ h => absurd h List.not_mem_nil⟩⟩⟩) (by decide +kernel) (by decide +kernel)
/-- Model.after@grows (178 steps) -/
def ct_263 : ab_Ct := (189, [(1, 0, [124]), (1, 0, [1043]), (0, 0, []), (0, 9, [])], [], [], [(124, [4, 5, 6, 7, 8, 9, 10, 13]), (126, [])], [([(3, 0, [])], [(0, 9, 0, (0, 0, []), (0, 0, []))], [])])
set_option maxRecDepth 1000000 in
theorem ck_263 : ab_CT cm_ms hp hN 43 ct_263 := ab_chk_ok (us := [ct_239, ct_241]) (inl := inl0) (d := 40) (dd := 2) (n := 20000) (tms := []) cm_ms_ok cm_ms_rc hNP (List.forall_mem_cons.mpr ⟨ab_CT_up ck_239 (by decide), List.forall_mem_cons.mpr ⟨ab_CT_up ck_241 (by decide), fun _ h => absurd h List.not_mem_nil⟩⟩) (by decide +kernel) (by decide +kernel)
/-- Model.after@bald (178 steps) -/
def ct_264 : ab_Ct := (189, [(1, 0, [124]), (1, 0, [1045]), (0, 0, []), (0, 20, [])], [], [], [(124, [4, 5, 6, 7, 8, 9, 10, 13]), (126, [])], [([(3, 0, [])], [(0, 20, 0, (0, 0, []), (0, 0, []))], [])])
set_option maxRecDepth 1000000 in
theorem ck_264 : ab_CT cm_ms hp hN 43 ct_264 := ab_chk_ok (us := [ct_239, ct_242]) (inl := inl0) (d := 40) (dd := 2) (n := 20000) (tms := []) cm_ms_ok cm_ms_rc hNP (List.forall_mem_cons.mpr ⟨ab_CT_up ck_239 (by decide), List.forall_mem_cons.mpr ⟨ab_CT_up ck_242 (by decide), fun _ h => absurd h List.not_mem_nil⟩⟩) (by decide +kernel) (by decide +kernel)
/-- Model.after@shave (178 steps) -/
def ct_265 : ab_Ct := (189, [(1, 0, [124]), (1, 0, [1047]), (0, 0, []), (0, 100, [])], [], [], [(124, [4, 5, 6, 7, 8, 9, 10, 13]), (126, [])], [([(3, 0, [])], [(0, 100, 0, (0, 0, []), (0, 0, []))], [])])
set_option maxRecDepth 1000000 in
theorem ck_265 : ab_CT cm_ms hp hN 43 ct_265 := ab_chk_ok (us := [ct_239, ct_243]) (inl := inl0) (d := 40) (dd := 2) (n := 20000) (tms := []) cm_ms_ok cm_ms_rc hNP (List.forall_mem_cons.mpr ⟨ab_CT_up ck_239 (by decide), List.forall_mem_cons.mpr ⟨ab_CT_up ck_243 (by decide), fun _ h => absurd h List.not_mem_nil⟩⟩) (by decide +kernel) (by decide +kernel)
/-- Model.after@long (178 steps) -/
def ct_266 : ab_Ct := (189, [(1, 0, [124]), (1, 0, [1069]), (0, 0, []), (0, 99, [])], [], [], [(124, [4, 5, 6, 7, 8, 9, 10, 13]), (126, [])], [([(3, 0, [])], [(0, 99, 0, (0, 0, []), (0, 0, []))], [])])
set_option maxRecDepth 1000000 in
theorem ck_266 : ab_CT cm_ms hp hN 43 ct_266 := ab_chk_ok (us := [ct_239, ct_254]) (inl := inl0) (d := 40) (dd := 2) (n := 20000) (tms := []) cm_ms_ok cm_ms_rc hNP (List.forall_mem_cons.mpr ⟨ab_CT_up ck_239 (by decide), List.forall_mem_cons.mpr ⟨ab_CT_up ck_254 (by decide), fun _ h => absurd h List.not_mem_nil⟩⟩) (by decide +kernel) (by decide +kernel)
/-- Model.after@votes (178 steps) -/
def ct_267 : ab_Ct := (189, [(1, 0, [124]), (1, 0, [1071]), (0, 0, []), (0, 9, [])], [], [], [(124, [4, 5, 6, 7, 8, 9, 10, 13]), (126, [])], [([(3, 0, [])], [(0, 9, 0, (0, 0, []), (0, 0, []))], [])])
set_option maxRecDepth 1000000 in
theorem ck_267 : ab_CT cm_ms hp hN 43 ct_267 := ab_chk_ok (us := [ct_239, ct_255]) (inl := inl0) (d := 40) (dd := 2) (n := 20000) (tms := []) cm_ms_ok cm_ms_rc hNP (List.forall_mem_cons.mpr ⟨ab_CT_up ck_239 (by decide), List.forall_mem_cons.mpr ⟨ab_CT_up ck_255 (by decide), fun _ h => absurd h List.not_mem_nil⟩⟩) (by decide +kernel) (by decide +kernel)
/-- Model.after@cuts (178 steps) -/
def ct_268 : ab_Ct := (189, [(1, 0, [124]), (1, 0, [1073]), (0, 1, []), (0, 30, [])], [], [], [(124, [4, 5, 6, 7, 8, 9, 10, 13]), (126, [])], [([(3, 0, [])], [(1, 30, 0, (0, 0, []), (0, 0, []))], [])])
set_option maxRecDepth 1000000 in
theorem ck_268 : ab_CT cm_ms hp hN 43 ct_268 := ab_chk_ok (us := [ct_239, ct_256]) (inl := inl0) (d := 40) (dd := 2) (n := 20000) (tms := []) cm_ms_ok cm_ms_rc hNP (List.forall_mem_cons.mpr ⟨ab_CT_up ck_239 (by decide), List.forall_mem_cons.mpr ⟨ab_CT_up ck_256 (by decide), fun _ h => absurd h List.not_mem_nil⟩⟩) (by decide +kernel) (by decide +kernel)
/-- Model.after@needs (178 steps) -/
def ct_269 : ab_Ct := (189, [(1, 0, [124]), (1, 0, [1075]), (0, 0, []), (0, 54, [])], [], [], [(124, [4, 5, 6, 7, 8, 9, 10, 13]), (126, [])], [([(3, 0, [])], [(0, 54, 0, (0, 0, []), (0, 0, []))], [])])
set_option maxRecDepth 1000000 in
theorem ck_269 : ab_CT cm_ms hp hN 43 ct_269 := ab_chk_ok (us := [ct_239, ct_257]) (inl := inl0) (d := 40) (dd := 2) (n := 20000) (tms := []) cm_ms_ok cm_ms_rc hNP (List.forall_mem_cons.mpr ⟨ab_CT_up ck_239 (by decide), List.forall_mem_cons.mpr ⟨ab_CT_up ck_257 (by decide), fun _ h => absurd h List.not_mem_nil⟩⟩) (by decide +kernel) (by decide +kernel)
/-- Model.after@worth (178 steps) -/
def ct_270 : ab_Ct := (189, [(1, 0, [124]), (1, 0, [1077]), (0, 0, []), (0, 99, [])], [], [], [(124, [4, 5, 6, 7, 8, 9, 10, 13]), (126, [])], [([(3, 0, [])], [(0, 99, 0, (0, 0, []), (0, 0, []))], [])])
set_option maxRecDepth 1000000 in
theorem ck_270 : ab_CT cm_ms hp hN 43 ct_270 := ab_chk_ok (us := [ct_239, ct_258]) (inl := inl0) (d := 40) (dd := 2) (n := 20000) (tms := []) cm_ms_ok cm_ms_rc hNP (List.forall_mem_cons.mpr ⟨ab_CT_up ck_239 (by decide), List.forall_mem_cons.mpr ⟨ab_CT_up ck_258 (by decide), fun _ h => absurd h List.not_mem_nil⟩⟩) (by decide +kernel) (by decide +kernel)
/-- Model.after@at (178 steps) -/
def ct_271 : ab_Ct := (189, [(1, 0, [124]), (1, 0, [1079]), (0, 0, []), (0, 99, [])], [], [], [(124, [4, 5, 6, 7, 8, 9, 10, 13]), (126, [])], [([(3, 0, [])], [(0, 99, 0, (0, 0, []), (0, 0, []))], [])])
set_option maxRecDepth 1000000 in
theorem ck_271 : ab_CT cm_ms hp hN 43 ct_271 := ab_chk_ok (us := [ct_239, ct_259]) (inl := inl0) (d := 40) (dd := 2) (n := 20000) (tms := []) cm_ms_ok cm_ms_rc hNP (List.forall_mem_cons.mpr ⟨ab_CT_up ck_239 (by decide), List.forall_mem_cons.mpr ⟨ab_CT_up ck_259 (by decide), fun _ h => absurd h List.not_mem_nil⟩⟩) (by decide +kernel) (by decide +kernel)
/-- Model.colourHere (86 steps) -/
def ct_272 : ab_Ct := (190, [(1, 0, [124])], [], [], [(124, [9, 10, 13])], [([(3, 0, [])], [(0, 2, 0, (0, 0, []), (0, 0, []))], [])])
set_option maxRecDepth 1000000 in
theorem ck_272 : ab_CT cm_ms hp hN 7 ct_272 := ab_chk_ok (us := [ct_251, ct_252, ct_253]) (inl := inl0) (d := 5) (dd := 1) (n := 20000) (tms := []) cm_ms_ok cm_ms_rc hNP (List.forall_mem_cons.mpr ⟨ab_CT_up ck_251 (by decide), List.forall_mem_cons.mpr ⟨ab_CT_up ck_252 (by decide), List.forall_mem_cons.mpr ⟨ab_CT_up ck_253 (by decide), fun _ h => absurd h List.not_mem_nil⟩⟩⟩) (by decide +kernel) (by decide +kernel)
/-- Model.asTold (35 steps) -/
def ct_273 : ab_Ct := (192, [(1, 0, [124]), (1, 0, [129, 132])], [], [], [(129, []), (132, [])], [([], [], [])])
set_option maxRecDepth 1000000 in
theorem ck_273 : ab_CT cm_ms hp hN 1 ct_273 := ab_chk_ok (us := []) (inl := inl0) (d := 0) (dd := 0) (n := 20000) (tms := [((2, [(0, (1, 0, [124])), (1, (1, 0, [129, 132])), (2, (3, 0, []))], [], [(0, 11, 0, (0, 0, []), (0, 0, []))], []), [(0, 2, (0, 0, [])), ((-1), 2147483648, (3, 0, []))]), ((20, [(0, (1, 0, [124])), (1, (1, 0, [129, 132])), (2, (3, 0, []))], [], [(0, 6, 0, (0, 0, []), (0, 0, []))], []), [(0, 1, (0, 0, [])), ((-1), 2147483648, (3, 0, []))])]) cm_ms_ok cm_ms_rc hNP (fun _ h => absurd h List.not_mem_nil) (by decide +kernel) (by decide +kernel)
/-- Model.townLine@failed (22 steps) -/
def ct_274 : ab_Ct := (195, [(1, 0, [124])], [], [(124, 13, (0, 1, []))], [], [([], [], [])])
set_option maxRecDepth 1000000 in
theorem ck_274 : ab_CT cm_ms hp hN 2 ct_274 := ab_chk_ok (us := []) (inl := inl0) (d := 0) (dd := 1) (n := 20000) (tms := []) cm_ms_ok cm_ms_rc hNP (fun _ h => absurd h List.not_mem_nil) (by decide +kernel) (by decide +kernel)
/-- Model.townLine (75 steps) -/
def ct_275 : ab_Ct := (195, [(1, 0, [124])], [], [], [(124, [4, 5, 6, 7, 8, 9, 10, 13]), (126, []), (128, [0, 1, 2, 10])], [([], [], [])])
set_option maxRecDepth 1000000 in
theorem ck_275 : ab_CT cm_ms hp hN 45 ct_275 := ab_chk_ok (us := [ct_239, ct_263, ct_264, ct_265]) (inl := inl0) (d := 43) (dd := 1) (n := 20000) (tms := []) cm_ms_ok cm_ms_rc hNP (List.forall_mem_cons.mpr ⟨ab_CT_up ck_239 (by decide), List.forall_mem_cons.mpr ⟨ab_CT_up ck_263 (by decide), List.forall_mem_cons.mpr ⟨ab_CT_up ck_264 (by decide), List.forall_mem_cons.mpr ⟨ab_CT_up ck_265 (by decide), fun _ h => absurd h List.not_mem_nil⟩⟩⟩⟩) (by decide +kernel) (by decide +kernel)
