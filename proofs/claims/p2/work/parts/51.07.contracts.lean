/-! AB: contracts -/
/-- Model.fault (6 steps) -/
def ct_291 : ab_Ct := (203, [(1, 0, [124])], [], [], [(124, [0])], [([(3, 0, [])], [((-2147483648), 2147483647, 0, (0, 0, []), (0, 0, []))], [])])
set_option maxRecDepth 1000000 in
theorem ck_291 : ab_CT cm_ms hp hN 1 ct_291 := ab_chk_ok (us := []) (inl := inl0) (d := 0) (dd := 0) (n := 20000) (tms := []) cm_ms_ok cm_ms_rc hNP (fun _ h => absurd h List.not_mem_nil) (by decide +kernel) (by decide +kernel)
/-- Model.where (13 steps) -/
def ct_292 : ab_Ct := (204, [(1, 0, [124])], [], [], [(124, [0])], [([(3, 0, [])], [((-2147483648), 2147483647, 0, (0, 0, []), (0, 0, []))], [])])
set_option maxRecDepth 1000000 in
theorem ck_292 : ab_CT cm_ms hp hN 1 ct_292 := ab_chk_ok (us := []) (inl := inl0) (d := 0) (dd := 0) (n := 20000) (tms := []) cm_ms_ok cm_ms_rc hNP (fun _ h => absurd h List.not_mem_nil) (by decide +kernel) (by decide +kernel)
/-- Model.baldOf (45 steps) -/
def ct_293 : ab_Ct := (210, [(1, 0, [124]), (1, 0, [129, 132])], [], [], [], [([(3, 0, [])], [((-2147483648), 2147483647, 0, (0, 0, []), (0, 0, []))], [])])
set_option maxRecDepth 1000000 in
theorem ck_293 : ab_CT cm_ms hp hN 2 ct_293 := ab_chk_ok (us := []) (inl := inl0) (d := 0) (dd := 1) (n := 20000) (tms := [((4, [(0, (1, 0, [124])), (1, (1, 0, [129, 132])), (2, (3, 0, [])), (3, (3, 1, []))], [], [((-2147483648), 2147483647, 0, (0, 0, []), (0, 0, [])), (0, 6, 0, (0, 0, []), (0, 0, []))], []), [(0, 1, (0, 0, [])), ((-1), 2147483648, (3, 1, []))])]) cm_ms_ok cm_ms_rc hNP (fun _ h => absurd h List.not_mem_nil) (by decide +kernel) (by decide +kernel)
/-- Model.doesSay (62 steps) -/
def ct_294 : ab_Ct := (211, [(1, 0, [124]), (1, 0, [129, 132]), (3, 0, []), (3, 1, [])], [(0, 5, 0, (0, 0, []), (0, 0, [])), (0, 8, 0, (0, 0, []), (0, 0, []))], [], [], [([(3, 2, [])], [(0, 5, 0, (0, 0, []), (0, 0, [])), (0, 8, 0, (0, 0, []), (0, 0, [])), (0, 1, 0, (0, 0, []), (0, 0, []))], [])])
set_option maxRecDepth 1000000 in
theorem ck_294 : ab_CT cm_ms hp hN 2 ct_294 := ab_chk_ok (us := []) (inl := inl0) (d := 0) (dd := 1) (n := 20000) (tms := []) cm_ms_ok cm_ms_rc hNP (fun _ h => absurd h List.not_mem_nil) (by decide +kernel) (by decide +kernel)
/-- Model.sayersOf (32 steps) -/
def ct_295 : ab_Ct := (212, [(1, 0, [124]), (1, 0, [129, 132]), (3, 0, [])], [(0, 8, 0, (0, 0, []), (0, 0, []))], [], [], [([(3, 1, [])], [(0, 8, 0, (0, 0, []), (0, 0, [])), ((-2147483648), 2147483647, 0, (0, 0, []), (0, 0, []))], [])])
set_option maxRecDepth 1000000 in
theorem ck_295 : ab_CT cm_ms hp hN 3 ct_295 := ab_chk_ok (us := [ct_294]) (inl := inl0) (d := 2) (dd := 0) (n := 20000) (tms := [((5, [(0, (1, 0, [124])), (1, (1, 0, [129, 132])), (2, (3, 0, [])), (3, (3, 1, [])), (4, (3, 2, []))], [], [(0, 8, 0, (0, 0, []), (0, 0, [])), ((-2147483648), 2147483647, 0, (0, 0, []), (0, 0, [])), (0, 6, 0, (0, 0, []), (0, 0, []))], []), [(0, 1, (0, 0, [])), ((-1), 2147483648, (3, 2, []))])]) cm_ms_ok cm_ms_rc hNP (List.forall_mem_cons.mpr ⟨ab_CT_up ck_294 (by decide), fun _ h => absurd h List.not_mem_nil⟩) (by decide +kernel) (by decide +kernel)
/-- Model.votesOf (50 steps) -/
def ct_296 : ab_Ct := (213, [(1, 0, [124]), (3, 0, [])], [((-2147483648), 2147483647, 0, (0, 0, []), (0, 0, []))], [], [], [([(3, 1, [])], [((-2147483648), 2147483647, 0, (0, 0, []), (0, 0, [])), ((-2147483648), 2147483647, 0, (0, 0, []), (0, 0, []))], [])])
set_option maxRecDepth 1000000 in
theorem ck_296 : ab_CT cm_ms hp hN 2 ct_296 := ab_chk_ok (us := []) (inl := inl0) (d := 0) (dd := 1) (n := 20000) (tms := [((4, [(0, (1, 0, [124])), (1, (3, 0, [])), (2, (3, 1, [])), (3, (3, 2, []))], [], [((-2147483648), 2147483647, 0, (0, 0, []), (0, 0, [])), ((-2147483648), 2147483647, 0, (0, 0, []), (0, 0, [])), (0, 6, 0, (0, 0, []), (0, 0, []))], []), [(0, 1, (0, 0, [])), ((-1), 2147483648, (3, 2, []))])]) cm_ms_ok cm_ms_rc hNP (fun _ h => absurd h List.not_mem_nil) (by decide +kernel) (by decide +kernel)
/-- Model.yesOf (7 steps) -/
def ct_297 : ab_Ct := (214, [(1, 0, [124]), (1, 0, [129, 132]), (3, 0, [])], [(0, 8, 0, (0, 0, []), (0, 0, []))], [], [], [([(3, 1, [])], [(0, 8, 0, (0, 0, []), (0, 0, [])), ((-2147483648), 2147483647, 0, (0, 0, []), (0, 0, []))], [])])
set_option maxRecDepth 1000000 in
theorem ck_297 : ab_CT cm_ms hp hN 4 ct_297 := ab_chk_ok (us := [ct_295, ct_296]) (inl := inl0) (d := 3) (dd := 0) (n := 20000) (tms := []) cm_ms_ok cm_ms_rc hNP (List.forall_mem_cons.mpr ⟨ab_CT_up ck_295 (by decide), List.forall_mem_cons.mpr ⟨ab_CT_up ck_296 (by decide), fun _ h => absurd h List.not_mem_nil⟩⟩) (by decide +kernel) (by decide +kernel)
/-- Model.isEnough (20 steps) -/
def ct_298 : ab_Ct := (215, [(1, 0, [124]), (1, 0, [129, 132]), (3, 0, [])], [(0, 8, 0, (0, 0, []), (0, 0, []))], [], [], [([(3, 1, [])], [(0, 8, 0, (0, 0, []), (0, 0, [])), (0, 1, 0, (0, 0, []), (0, 0, []))], [])])
set_option maxRecDepth 1000000 in
theorem ck_298 : ab_CT cm_ms hp hN 5 ct_298 := ab_chk_ok (us := [ct_297]) (inl := inl0) (d := 4) (dd := 0) (n := 20000) (tms := []) cm_ms_ok cm_ms_rc hNP (List.forall_mem_cons.mpr ⟨ab_CT_up ck_297 (by decide), fun _ h => absurd h List.not_mem_nil⟩) (by decide +kernel) (by decide +kernel)
/-- Model.mayBePut (39 steps) -/
def ct_299 : ab_Ct := (216, [(1, 0, [124]), (1, 0, [129, 132]), (3, 0, [])], [(0, 8, 0, (0, 0, []), (0, 0, []))], [], [], [([(3, 1, [])], [(0, 8, 0, (0, 0, []), (0, 0, [])), (0, 1, 0, (0, 0, []), (0, 0, []))], [])])
set_option maxRecDepth 1000000 in
theorem ck_299 : ab_CT cm_ms hp hN 2 ct_299 := ab_chk_ok (us := []) (inl := inl0) (d := 0) (dd := 1) (n := 20000) (tms := []) cm_ms_ok cm_ms_rc hNP (fun _ h => absurd h List.not_mem_nil) (by decide +kernel) (by decide +kernel)
/-- Model.cutBy (73 steps) -/
def ct_300 : ab_Ct := (217, [(1, 0, [124]), (1, 0, [129, 132]), (3, 0, [])], [(0, 8, 0, (0, 0, []), (0, 0, []))], [], [(129, [0, 1, 2, 3, 4, 5, 6, 7, 8]), (132, [0, 1, 2, 3, 4, 5, 6, 7, 8])], [([], [(0, 8, 0, (0, 0, []), (0, 0, []))], [])])
set_option maxRecDepth 1000000 in
theorem ck_300 : ab_CT cm_ms hp hN 5 ct_300 := ab_chk_ok (us := [ct_295]) (inl := inl0) (d := 3) (dd := 1) (n := 20000) (tms := [((10, [(0, (1, 0, [124])), (1, (1, 0, [129, 132])), (2, (3, 0, [])), (3, (3, 1, [])), (4, (3, 2, []))], [], [(0, 8, 0, (0, 0, []), (0, 0, [])), ((-2147483648), 2147483647, 0, (0, 0, []), (0, 0, [])), (0, 6, 0, (0, 0, []), (0, 0, []))], []), [(0, 1, (0, 0, [])), ((-1), 2147483648, (3, 2, []))])]) cm_ms_ok cm_ms_rc hNP (List.forall_mem_cons.mpr ⟨ab_CT_up ck_295 (by decide), fun _ h => absurd h List.not_mem_nil⟩) (by decide +kernel) (by decide +kernel)
/-- Model.putOf (24 steps) -/
def ct_301 : ab_Ct := (218, [(1, 0, [124]), (1, 0, [129, 132]), (3, 0, [])], [(0, 8, 0, (0, 0, []), (0, 0, []))], [], [(129, [0, 1, 2, 3, 4, 5, 6, 7, 8, 9]), (132, [0, 1, 2, 3, 4, 5, 6, 7, 8, 9])], [([(3, 1, [])], [(0, 8, 0, (0, 0, []), (0, 0, [])), (0, 1, 0, (0, 0, []), (0, 0, []))], [])])
set_option maxRecDepth 1000000 in
theorem ck_301 : ab_CT cm_ms hp hN 6 ct_301 := ab_chk_ok (us := [ct_298, ct_300]) (inl := inl0) (d := 5) (dd := 0) (n := 20000) (tms := []) cm_ms_ok cm_ms_rc hNP (List.forall_mem_cons.mpr ⟨ab_CT_up ck_298 (by decide), List.forall_mem_cons.mpr ⟨ab_CT_up ck_300 (by decide), fun _ h => absurd h List.not_mem_nil⟩⟩) (by decide +kernel) (by decide +kernel)
/-- Model.weekOf (44 steps) -/
def ct_302 : ab_Ct := (219, [(1, 0, [124]), (1, 0, [129, 132])], [], [], [(129, [0, 1, 2, 3, 4, 5, 10]), (132, [0, 1, 2, 3, 4, 5, 10])], [([], [], [])])
set_option maxRecDepth 1000000 in
theorem ck_302 : ab_CT cm_ms hp hN 1 ct_302 := ab_chk_ok (us := []) (inl := inl0) (d := 0) (dd := 0) (n := 20000) (tms := [((2, [(0, (1, 0, [124])), (1, (1, 0, [129, 132])), (2, (3, 0, []))], [], [(0, 6, 0, (0, 0, []), (0, 0, []))], []), [(0, 1, (0, 0, [])), ((-1), 2147483648, (3, 0, []))])]) cm_ms_ok cm_ms_rc hNP (fun _ h => absurd h List.not_mem_nil) (by decide +kernel) (by decide +kernel)
/-- Model.goOver (20 steps) -/
def ct_303 : ab_Ct := (220, [(1, 0, [124]), (3, 0, [])], [((-2147483648), 2147483647, 0, (0, 0, []), (0, 0, []))], [], [(129, [0, 1, 2, 3, 4, 5, 10]), (132, [])], [([], [((-2147483648), 2147483647, 0, (0, 0, []), (0, 0, []))], [])])
set_option maxRecDepth 1000000 in
theorem ck_303 : ab_CT cm_ms hp hN 2 ct_303 := ab_chk_ok (us := [ct_232, ct_302]) (inl := inl0) (d := 1) (dd := 0) (n := 20000) (tms := [((17, [(0, (1, 0, [124])), (1, (3, 0, [])), (2, (3, 1, []))], [], [((-2147483648), 2147483647, 0, (0, 0, []), (0, 0, [])), (0, 2147483647, 0, (0, 0, []), (0, 0, []))], []), [(0, 1, (0, 0, [])), ((-1), 2147483648, (3, 1, []))])]) cm_ms_ok cm_ms_rc hNP (List.forall_mem_cons.mpr ⟨ab_CT_up ck_232 (by decide), List.forall_mem_cons.mpr ⟨ab_CT_up ck_302 (by decide), fun _ h => absurd h List.not_mem_nil⟩⟩) (by decide +kernel) (by decide +kernel)
/-- Model.saidBy (33 steps) -/
def ct_304 : ab_Ct := (222, [(1, 0, [124]), (3, 0, [])], [(0, 5, 0, (0, 0, []), (0, 0, []))], [], [], [([(3, 1, [])], [(0, 5, 0, (0, 0, []), (0, 0, [])), ((-2147483648), 2147483647, 0, (0, 0, []), (0, 0, []))], [])])
set_option maxRecDepth 1000000 in
theorem ck_304 : ab_CT cm_ms hp hN 3 ct_304 := ab_chk_ok (us := [ct_294]) (inl := inl0) (d := 2) (dd := 0) (n := 20000) (tms := [((4, [(0, (1, 0, [124])), (1, (3, 0, [])), (2, (3, 1, [])), (3, (3, 2, []))], [], [(0, 5, 0, (0, 0, []), (0, 0, [])), ((-2147483648), 2147483647, 0, (0, 0, []), (0, 0, [])), (0, 5, 0, (0, 0, []), (0, 0, []))], []), [(0, 1, (0, 0, [])), ((-1), 2147483648, (3, 2, []))])]) cm_ms_ok cm_ms_rc hNP (List.forall_mem_cons.mpr ⟨ab_CT_up ck_294 (by decide), fun _ h => absurd h List.not_mem_nil⟩) (by decide +kernel) (by decide +kernel)
/-- Model.man (188 steps) -/
def ct_305 : ab_Ct := (221, [(1, 0, [124]), (3, 0, []), (3, 1, [])], [((-2147483648), 2147483647, 0, (0, 0, []), (0, 0, [])), ((-2147483648), 2147483647, 0, (0, 0, []), (0, 0, []))], [], [(124, [0, 11])], [([(3, 2, [])], [((-2147483648), 2147483647, 0, (0, 0, []), (0, 0, [])), ((-2147483648), 2147483647, 0, (0, 0, []), (0, 0, [])), ((-2147483648), 2147483647, 0, (0, 0, []), (0, 0, []))], [])])
set_option maxRecDepth 1000000 in
theorem ck_305 : ab_CT cm_ms hp hN 6 ct_305 := ab_chk_ok (us := [ct_304]) (inl := inl0) (d := 3) (dd := 2) (n := 20000) (tms := []) cm_ms_ok cm_ms_rc hNP (List.forall_mem_cons.mpr ⟨ab_CT_up ck_304 (by decide), fun _ h => absurd h List.not_mem_nil⟩) (by decide +kernel) (by decide +kernel)
/-- Model.motion (192 steps) -/
def ct_306 : ab_Ct := (223, [(1, 0, [124]), (3, 0, []), (3, 1, [])], [((-2147483648), 2147483647, 0, (0, 0, []), (0, 0, [])), ((-2147483648), 2147483647, 0, (0, 0, []), (0, 0, []))], [], [(124, [0, 11])], [([(3, 2, [])], [((-2147483648), 2147483647, 0, (0, 0, []), (0, 0, [])), ((-2147483648), 2147483647, 0, (0, 0, []), (0, 0, [])), ((-2147483648), 2147483647, 0, (0, 0, []), (0, 0, []))], [])])
set_option maxRecDepth 1000000 in
theorem ck_306 : ab_CT cm_ms hp hN 7 ct_306 := ab_chk_ok (us := [ct_295, ct_297, ct_299]) (inl := inl0) (d := 4) (dd := 2) (n := 20000) (tms := []) cm_ms_ok cm_ms_rc hNP (List.forall_mem_cons.mpr ⟨ab_CT_up ck_295 (by decide), List.forall_mem_cons.mpr ⟨ab_CT_up ck_297 (by decide), List.forall_mem_cons.mpr ⟨ab_CT_up ck_299 (by decide), fun _ h => absurd h List.not_mem_nil⟩⟩⟩) (by decide +kernel) (by decide +kernel)
/-- Model.floor (67 steps) -/
def ct_307 : ab_Ct := (224, [(1, 0, [124]), (3, 0, [])], [((-2147483648), 2147483647, 0, (0, 0, []), (0, 0, []))], [], [(124, [0, 11])], [([(3, 1, [])], [((-2147483648), 2147483647, 0, (0, 0, []), (0, 0, [])), ((-2147483648), 2147483647, 0, (0, 0, []), (0, 0, []))], [])])
set_option maxRecDepth 1000000 in
theorem ck_307 : ab_CT cm_ms hp hN 2 ct_307 := ab_chk_ok (us := []) (inl := inl0) (d := 0) (dd := 1) (n := 20000) (tms := []) cm_ms_ok cm_ms_rc hNP (fun _ h => absurd h List.not_mem_nil) (by decide +kernel) (by decide +kernel)
/-- Model.bald (27 steps) -/
def ct_308 : ab_Ct := (225, [(1, 0, [124])], [], [], [(124, [0, 11])], [([(3, 0, [])], [((-2147483648), 2147483647, 0, (0, 0, []), (0, 0, []))], [])])
set_option maxRecDepth 1000000 in
theorem ck_308 : ab_CT cm_ms hp hN 4 ct_308 := ab_chk_ok (us := [ct_293]) (inl := inl0) (d := 2) (dd := 1) (n := 20000) (tms := []) cm_ms_ok cm_ms_rc hNP (List.forall_mem_cons.mpr ⟨ab_CT_up ck_293 (by decide), fun _ h => absurd h List.not_mem_nil⟩) (by decide +kernel) (by decide +kernel)
/-- Model.longest (48 steps) -/
def ct_309 : ab_Ct := (226, [(1, 0, [124])], [], [], [(124, [0, 11])], [([(3, 0, [])], [((-1), 5, 0, (0, 0, []), (0, 0, []))], [])])
set_option maxRecDepth 1000000 in
theorem ck_309 : ab_CT cm_ms hp hN 2 ct_309 := ab_chk_ok (us := []) (inl := inl0) (d := 0) (dd := 1) (n := 20000) (tms := [((21, [(0, (1, 0, [124])), (1, (3, 0, [])), (2, (3, 1, []))], [], [(0, 5, 0, (0, 0, []), (0, 0, [])), (1, 6, 0, (0, 0, []), (0, 0, []))], [(124, 0, (0, 0, [])), (124, 11, (0, 0, [])), (124, 14, (0, 1, []))]), [(0, 1, (0, 0, [])), ((-1), 2147483648, (3, 1, []))])]) cm_ms_ok cm_ms_rc hNP (fun _ h => absurd h List.not_mem_nil) (by decide +kernel) (by decide +kernel)
/-- Model.ready (64 steps) -/
def ct_310 : ab_Ct := (227, [(1, 0, [124])], [], [], [(124, [0, 11])], [([(3, 0, [])], [((-2147483648), 2147483647, 0, (0, 0, []), (0, 0, []))], [])])
set_option maxRecDepth 1000000 in
theorem ck_310 : ab_CT cm_ms hp hN 7 ct_310 := ab_chk_ok (us := [ct_298, ct_299]) (inl := inl0) (d := 5) (dd := 1) (n := 20000) (tms := [((21, [(0, (1, 0, [124])), (1, (3, 0, [])), (2, (3, 1, []))], [], [((-2147483648), 2147483647, 0, (0, 0, []), (0, 0, [])), (0, 5, 0, (0, 0, []), (0, 0, []))], [(124, 0, (0, 0, [])), (124, 11, (0, 0, [])), (124, 14, (0, 1, []))]), [(0, 1, (0, 0, [])), ((-1), 2147483648, (3, 1, []))])]) cm_ms_ok cm_ms_rc hNP (List.forall_mem_cons.mpr ⟨ab_CT_up ck_298 (by decide), List.forall_mem_cons.mpr ⟨ab_CT_up ck_299 (by decide), fun _ h => absurd h List.not_mem_nil⟩⟩) (by decide +kernel) (by decide +kernel)
/-- Model.hairy (19 steps) -/
def ct_311 : ab_Ct := (228, [(1, 0, [124])], [], [], [], [([(3, 0, [])], [(0, 63, 0, (0, 0, []), (0, 0, []))], [])])
set_option maxRecDepth 1000000 in
theorem ck_311 : ab_CT cm_ms hp hN 4 ct_311 := ab_chk_ok (us := [ct_293]) (inl := inl0) (d := 2) (dd := 1) (n := 20000) (tms := []) cm_ms_ok cm_ms_rc hNP (List.forall_mem_cons.mpr ⟨ab_CT_up ck_293 (by decide), fun _ h => absurd h List.not_mem_nil⟩) (by decide +kernel) (by decide +kernel)
/-- Model.quorum (27 steps) -/
def ct_312 : ab_Ct := (229, [(1, 0, [124])], [], [], [(124, [0, 11])], [([(3, 0, [])], [((-2147483648), 2147483647, 0, (0, 0, []), (0, 0, []))], [])])
set_option maxRecDepth 1000000 in
theorem ck_312 : ab_CT cm_ms hp hN 6 ct_312 := ab_chk_ok (us := [ct_296, ct_311]) (inl := inl0) (d := 4) (dd := 1) (n := 20000) (tms := []) cm_ms_ok cm_ms_rc hNP (List.forall_mem_cons.mpr ⟨ab_CT_up ck_296 (by decide), List.forall_mem_cons.mpr ⟨ab_CT_up ck_311 (by decide), fun _ h => absurd h List.not_mem_nil⟩⟩) (by decide +kernel) (by decide +kernel)
/-- Model.behind (121 steps) -/
def ct_313 : ab_Ct := (230, [(1, 0, [124]), (3, 0, [])], [((-2147483648), 2147483647, 0, (0, 0, []), (0, 0, []))], [], [(124, [0, 11])], [([(3, 1, [])], [((-2147483648), 2147483647, 0, (0, 0, []), (0, 0, [])), ((-2147483648), 2147483647, 0, (0, 0, []), (0, 0, []))], [])])
set_option maxRecDepth 1000000 in
theorem ck_313 : ab_CT cm_ms hp hN 3 ct_313 := ab_chk_ok (us := []) (inl := inl0) (d := 0) (dd := 2) (n := 20000) (tms := [((24, [(0, (1, 0, [124])), (1, (3, 0, [])), (2, (3, 1, [])), (3, (3, 2, []))], [], [(0, 4, 0, (0, 0, []), (0, 0, [])), ((-2147483648), 2147483647, 0, (0, 0, []), (0, 0, [])), (1, 5, 0, (0, 0, []), (0, 0, [])), (1, 5, 0, (0, 0, []), (0, 0, []))], [(124, 0, (0, 0, [])), (124, 11, (0, 0, [])), (124, 14, (0, 1, [])), (127, 4, (3, 3, []))]), [(0, 1, (0, 0, [])), ((-1), 2147483648, (3, 2, []))])]) cm_ms_ok cm_ms_rc hNP (fun _ h => absurd h List.not_mem_nil) (by decide +kernel) (by decide +kernel)
/-- Model.depthOf@0 (11 steps) -/
def ct_314 : ab_Ct := (231, [(1, 0, [124]), (3, 0, [])], [(0, 0, 0, (0, 0, []), (0, 0, []))], [], [], [([(0, 1, [])], [(0, 0, 0, (0, 0, []), (0, 0, []))], [])])
set_option maxRecDepth 1000000 in
theorem ck_314 : ab_CT cm_ms hp hN 1 ct_314 := ab_chk_ok (us := []) (inl := inl0) (d := 0) (dd := 0) (n := 20000) (tms := [((4, [(0, (1, 0, [124])), (1, (3, 0, [])), (2, (0, 0, [])), (3, (0, 0, []))], [], [(0, 0, 0, (0, 0, []), (0, 0, []))], []), [(0, 1, (0, 0, [])), (0, 0, (0, 0, []))])]) cm_ms_ok cm_ms_rc hNP (fun _ h => absurd h List.not_mem_nil) (by decide +kernel) (by decide +kernel)
/-- Model.depthOf@1 (51 steps) -/
def ct_315 : ab_Ct := (231, [(1, 0, [124]), (3, 0, [])], [(0, 1, 0, (0, 0, []), (0, 0, []))], [], [], [([(3, 1, [])], [(0, 1, 0, (0, 0, []), (0, 0, [])), (1, 2, 0, (0, 0, []), (0, 0, []))], [])])
set_option maxRecDepth 1000000 in
theorem ck_315 : ab_CT cm_ms hp hN 3 ct_315 := ab_chk_ok (us := [ct_314]) (inl := inl0) (d := 1) (dd := 1) (n := 20000) (tms := [((4, [(0, (1, 0, [124])), (1, (3, 0, [])), (2, (3, 1, [])), (3, (3, 2, []))], [], [(0, 1, 0, (0, 0, []), (0, 0, [])), (0, 1, 0, (0, 0, []), (0, 0, [])), (0, 1, 0, (0, 0, []), (0, 0, []))], []), [(0, 1, (0, 0, [])), ((-1), 2147483648, (3, 2, []))])]) cm_ms_ok cm_ms_rc hNP (List.forall_mem_cons.mpr ⟨ab_CT_up ck_314 (by decide), fun _ h => absurd h List.not_mem_nil⟩) (by decide +kernel) (by decide +kernel)
/-- Model.depthOf@2 (51 steps) -/
def ct_316 : ab_Ct := (231, [(1, 0, [124]), (3, 0, [])], [(0, 2, 0, (0, 0, []), (0, 0, []))], [], [], [([(3, 1, [])], [(0, 2, 0, (0, 0, []), (0, 0, [])), (1, 3, 0, (0, 0, []), (0, 0, []))], [])])
set_option maxRecDepth 1000000 in
theorem ck_316 : ab_CT cm_ms hp hN 5 ct_316 := ab_chk_ok (us := [ct_314, ct_315]) (inl := inl0) (d := 3) (dd := 1) (n := 20000) (tms := [((4, [(0, (1, 0, [124])), (1, (3, 0, [])), (2, (3, 1, [])), (3, (3, 2, []))], [], [(0, 2, 0, (0, 0, []), (0, 0, [])), (0, 2, 0, (0, 0, []), (0, 0, [])), (0, 2, 0, (0, 0, []), (0, 0, []))], []), [(0, 1, (0, 0, [])), ((-1), 2147483648, (3, 2, []))])]) cm_ms_ok cm_ms_rc hNP (List.forall_mem_cons.mpr ⟨ab_CT_up ck_314 (by decide), List.forall_mem_cons.mpr ⟨ab_CT_up ck_315 (by decide), fun _ h => absurd h List.not_mem_nil⟩⟩) (by decide +kernel) (by decide +kernel)
/-- Model.depthOf@3 (51 steps) -/
def ct_317 : ab_Ct := (231, [(1, 0, [124]), (3, 0, [])], [(0, 3, 0, (0, 0, []), (0, 0, []))], [], [], [([(3, 1, [])], [(0, 3, 0, (0, 0, []), (0, 0, [])), (1, 4, 0, (0, 0, []), (0, 0, []))], [])])
set_option maxRecDepth 1000000 in
theorem ck_317 : ab_CT cm_ms hp hN 7 ct_317 := ab_chk_ok (us := [ct_314, ct_315, ct_316]) (inl := inl0) (d := 5) (dd := 1) (n := 20000) (tms := [((4, [(0, (1, 0, [124])), (1, (3, 0, [])), (2, (3, 1, [])), (3, (3, 2, []))], [], [(0, 3, 0, (0, 0, []), (0, 0, [])), (0, 3, 0, (0, 0, []), (0, 0, [])), (0, 3, 0, (0, 0, []), (0, 0, []))], []), [(0, 1, (0, 0, [])), ((-1), 2147483648, (3, 2, []))])]) cm_ms_ok cm_ms_rc hNP (List.forall_mem_cons.mpr ⟨ab_CT_up ck_314 (by decide), List.forall_mem_cons.mpr ⟨ab_CT_up ck_315 (by decide), List.forall_mem_cons.mpr ⟨ab_CT_up ck_316 (by decide), fun _ h => absurd h List.not_mem_nil⟩⟩⟩) (by decide +kernel) (by decide +kernel)
/-- Model.depthOf@4 (51 steps) -/
def ct_318 : ab_Ct := (231, [(1, 0, [124]), (3, 0, [])], [(0, 4, 0, (0, 0, []), (0, 0, []))], [], [], [([(3, 1, [])], [(0, 4, 0, (0, 0, []), (0, 0, [])), (1, 5, 0, (0, 0, []), (0, 0, []))], [])])
set_option maxRecDepth 1000000 in
theorem ck_318 : ab_CT cm_ms hp hN 9 ct_318 := ab_chk_ok (us := [ct_314, ct_315, ct_316, ct_317]) (inl := inl0) (d := 7) (dd := 1) (n := 20000) (tms := [((4, [(0, (1, 0, [124])), (1, (3, 0, [])), (2, (3, 1, [])), (3, (3, 2, []))], [], [(0, 4, 0, (0, 0, []), (0, 0, [])), (0, 4, 0, (0, 0, []), (0, 0, [])), (0, 4, 0, (0, 0, []), (0, 0, []))], []), [(0, 1, (0, 0, [])), ((-1), 2147483648, (3, 2, []))])]) cm_ms_ok cm_ms_rc hNP (List.forall_mem_cons.mpr ⟨ab_CT_up ck_314 (by decide), List.forall_mem_cons.mpr ⟨ab_CT_up ck_315 (by decide), List.forall_mem_cons.mpr ⟨ab_CT_up ck_316 (by decide), List.forall_mem_cons.mpr ⟨ab_CT_up ck_317 (by decide), fun _ h => absurd h List.not_mem_nil⟩⟩⟩⟩) (by decide +kernel) (by decide +kernel)
/-- Model.depth (85 steps) -/
def ct_319 : ab_Ct := (232, [(1, 0, [124]), (3, 0, [])], [((-2147483648), 2147483647, 0, (0, 0, []), (0, 0, []))], [], [(124, [0, 11])], [([(3, 1, [])], [((-2147483648), 2147483647, 0, (0, 0, []), (0, 0, [])), ((-1), 5, 0, (0, 0, []), (0, 0, []))], [])])
set_option maxRecDepth 1000000 in
theorem ck_319 : ab_CT cm_ms hp hN 12 ct_319 := ab_chk_ok (us := [ct_318]) (inl := inl0) (d := 9) (dd := 2) (n := 20000) (tms := []) cm_ms_ok cm_ms_rc hNP (List.forall_mem_cons.mpr ⟨ab_CT_up ck_318 (by decide), fun _ h => absurd h List.not_mem_nil⟩) (by decide +kernel) (by decide +kernel)
/-- Model.longIn (337 steps) -/
def ct_320 : ab_Ct := (234, [(1, 0, [124]), (3, 0, []), (3, 1, [])], [((-2147483648), 2147483647, 0, (0, 0, []), (0, 0, [])), ((-2147483648), 2147483647, 0, (0, 0, []), (0, 0, []))], [], [(124, [0, 11]), (129, [0, 1, 2, 3, 4, 5, 10]), (132, [])], [([(3, 2, [])], [((-2147483648), 2147483647, 0, (0, 0, []), (0, 0, [])), ((-2147483648), 2147483647, 0, (0, 0, []), (0, 0, [])), ((-2147483648), 2147483647, 0, (0, 0, []), (0, 0, []))], [])])
set_option maxRecDepth 1000000 in
theorem ck_320 : ab_CT cm_ms hp hN 5 ct_320 := ab_chk_ok (us := [ct_303]) (inl := inl0) (d := 2) (dd := 2) (n := 20000) (tms := []) cm_ms_ok cm_ms_rc hNP (List.forall_mem_cons.mpr ⟨ab_CT_up ck_303 (by decide), fun _ h => absurd h List.not_mem_nil⟩) (by decide +kernel) (by decide +kernel)
/-- Model.yesIn (338 steps) -/
def ct_321 : ab_Ct := (235, [(1, 0, [124]), (3, 0, []), (3, 1, [])], [((-2147483648), 2147483647, 0, (0, 0, []), (0, 0, [])), ((-2147483648), 2147483647, 0, (0, 0, []), (0, 0, []))], [], [(124, [0, 11]), (129, [0, 1, 2, 3, 4, 5, 10]), (132, [])], [([(3, 2, [])], [((-2147483648), 2147483647, 0, (0, 0, []), (0, 0, [])), ((-2147483648), 2147483647, 0, (0, 0, []), (0, 0, [])), ((-2147483648), 2147483647, 0, (0, 0, []), (0, 0, []))], [])])
set_option maxRecDepth 1000000 in
theorem ck_321 : ab_CT cm_ms hp hN 7 ct_321 := ab_chk_ok (us := [ct_297, ct_303]) (inl := inl0) (d := 4) (dd := 2) (n := 20000) (tms := []) cm_ms_ok cm_ms_rc hNP (List.forall_mem_cons.mpr ⟨ab_CT_up ck_297 (by decide), List.forall_mem_cons.mpr ⟨ab_CT_up ck_303 (by decide), fun _ h => absurd h List.not_mem_nil⟩⟩) (by decide +kernel) (by decide +kernel)
/-- Model.carryOf (24 steps) -/
def ct_322 : ab_Ct := (236, [(1, 0, [124]), (3, 0, [])], [(0, 4, 0, (0, 0, []), (0, 0, []))], [], [(129, [0, 1, 2, 3, 4, 5, 10]), (132, [])], [([(3, 1, [])], [(0, 4, 0, (0, 0, []), (0, 0, [])), ((-2), 60, 0, (0, 0, []), (0, 0, []))], [])])
set_option maxRecDepth 1000000 in
theorem ck_322 : ab_CT cm_ms hp hN 6 ct_322 := ab_chk_ok (us := [ct_298, ct_302, ct_303]) (inl := inl0) (d := 5) (dd := 0) (n := 20000) (tms := [((7, [(0, (1, 0, [124])), (1, (3, 0, [])), (2, (3, 1, []))], [], [(0, 4, 0, (0, 0, []), (0, 0, [])), (0, 61, 0, (0, 0, []), (0, 0, []))], []), [(0, 1, (0, 0, [])), ((-1), 2147483648, (3, 1, []))])]) cm_ms_ok cm_ms_rc hNP (List.forall_mem_cons.mpr ⟨ab_CT_up ck_298 (by decide), List.forall_mem_cons.mpr ⟨ab_CT_up ck_302 (by decide), List.forall_mem_cons.mpr ⟨ab_CT_up ck_303 (by decide), fun _ h => absurd h List.not_mem_nil⟩⟩⟩) (by decide +kernel) (by decide +kernel)
/-- Model.carryIn (85 steps) -/
def ct_323 : ab_Ct := (237, [(1, 0, [124]), (3, 0, [])], [((-2147483648), 2147483647, 0, (0, 0, []), (0, 0, []))], [], [(124, [0, 11]), (129, [0, 1, 2, 3, 4, 5, 10]), (132, [])], [([(3, 1, [])], [((-2147483648), 2147483647, 0, (0, 0, []), (0, 0, [])), ((-2), 60, 0, (0, 0, []), (0, 0, []))], [])])
set_option maxRecDepth 1000000 in
theorem ck_323 : ab_CT cm_ms hp hN 9 ct_323 := ab_chk_ok (us := [ct_322]) (inl := inl0) (d := 6) (dd := 2) (n := 20000) (tms := []) cm_ms_ok cm_ms_rc hNP (List.forall_mem_cons.mpr ⟨ab_CT_up ck_322 (by decide), fun _ h => absurd h List.not_mem_nil⟩) (by decide +kernel) (by decide +kernel)
/-- Model.hairyIn (44 steps) -/
def ct_324 : ab_Ct := (238, [(1, 0, [124])], [], [], [(124, [0, 11]), (129, [0, 1, 2, 3, 4, 5, 10]), (132, [])], [([(3, 0, [])], [((-2), 60, 0, (0, 0, []), (0, 0, []))], [])])
set_option maxRecDepth 1000000 in
theorem ck_324 : ab_CT cm_ms hp hN 4 ct_324 := ab_chk_ok (us := [ct_293, ct_302, ct_303]) (inl := inl0) (d := 2) (dd := 1) (n := 20000) (tms := [((24, [(0, (1, 0, [124])), (1, (3, 0, []))], [], [(0, 61, 0, (0, 0, []), (0, 0, []))], [(124, 0, (0, 0, [])), (124, 11, (0, 0, [])), (124, 14, (0, 1, []))]), [(0, 1, (0, 0, [])), ((-1), 2147483648, (3, 0, []))])]) cm_ms_ok cm_ms_rc hNP (List.forall_mem_cons.mpr ⟨ab_CT_up ck_293 (by decide), List.forall_mem_cons.mpr ⟨ab_CT_up ck_302 (by decide), List.forall_mem_cons.mpr ⟨ab_CT_up ck_303 (by decide), fun _ h => absurd h List.not_mem_nil⟩⟩⟩) (by decide +kernel) (by decide +kernel)
/-- Model.soonest (71 steps) -/
def ct_325 : ab_Ct := (239, [(1, 0, [124])], [], [], [(124, [0, 11]), (129, [0, 1, 2, 3, 4, 5, 10]), (132, [])], [([(3, 0, [])], [((-2), 4, 0, (0, 0, []), (0, 0, []))], [])])
set_option maxRecDepth 1000000 in
theorem ck_325 : ab_CT cm_ms hp hN 8 ct_325 := ab_chk_ok (us := [ct_299, ct_322]) (inl := inl0) (d := 6) (dd := 1) (n := 20000) (tms := [((22, [(0, (1, 0, [124])), (1, (3, 0, [])), (2, (3, 1, []))], [], [((-2), 4, 0, (0, 0, []), (0, 0, [])), (0, 5, 0, (0, 0, []), (0, 0, []))], [(124, 0, (0, 0, [])), (124, 11, (0, 0, [])), (124, 14, (0, 1, []))]), [(0, 1, (0, 0, [])), ((-1), 2147483648, (3, 1, []))])]) cm_ms_ok cm_ms_rc hNP (List.forall_mem_cons.mpr ⟨ab_CT_up ck_299 (by decide), List.forall_mem_cons.mpr ⟨ab_CT_up ck_322 (by decide), fun _ h => absurd h List.not_mem_nil⟩⟩) (by decide +kernel) (by decide +kernel)
/-- Model.goBy (4069 steps) -/
def ct_326 : ab_Ct := (240, [(1, 0, [124]), (3, 0, []), (3, 1, [])], [(0, 2147483647, 0, (0, 0, []), (0, 0, [])), (1, 4, 0, (0, 0, []), (0, 0, []))], [], [(129, []), (132, [])], [([(3, 2, [])], [(0, 2147483647, 0, (0, 0, []), (0, 0, [])), (1, 4, 0, (0, 0, []), (0, 0, [])), ((-2147483648), 2147483647, 0, (0, 0, []), (0, 0, []))], [])])
set_option maxRecDepth 1000000 in
theorem ck_326 : ab_CT cm_ms hp hN 7 ct_326 := ab_chk_ok (us := [ct_299, ct_301, ct_302, ct_303]) (inl := inl0) (d := 6) (dd := 0) (n := 20000) (tms := []) cm_ms_ok cm_ms_rc hNP (List.forall_mem_cons.mpr ⟨ab_CT_up ck_299 (by decide), List.forall_mem_cons.mpr ⟨ab_CT_up ck_301 (by decide), List.forall_mem_cons.mpr ⟨ab_CT_up ck_302 (by decide), List.forall_mem_cons.mpr ⟨ab_CT_up ck_303 (by decide), fun _ h => absurd h List.not_mem_nil⟩⟩⟩⟩) (by decide +kernel) (by decide +kernel)
