/-! AB: contracts -/
/-- Model.sayersOf (32 steps) -/
def ct_347 : ab_Ct := (212, [(1, 0, [124]), (1, 0, [129, 132]), (3, 0, [])], [(0, 8, 0, (0, 0, []), (0, 0, []))], [], [], [([(3, 1, [])], [(0, 8, 0, (0, 0, []), (0, 0, [])), ((-2147483648), 2147483647, 0, (0, 0, []), (0, 0, []))], [])])
set_option maxRecDepth 1000000 in
theorem ck_347 : ab_CT cm_ms hp hN 3 ct_347 := ab_chk_ok (us := [ct_346]) (inl := inl0) (d := 2) (dd := 0) (n := 20000) (tms := [((5, [(0, (1, 0, [124])), (1, (1, 0, [129, 132])), (2, (3, 0, [])), (3, (3, 1, [])), (4, (3, 2, []))], [], [(0, 8, 0, (0, 0, []), (0, 0, [])), ((-2147483648), 2147483647, 0, (0, 0, []), (0, 0, [])), (0, 6, 0, (0, 0, []), (0, 0, []))], []), [(0, 1, (0, 0, [])), ((-1), 2147483648, (3, 2, []))])]) cm_ms_ok cm_ms_rc hNP (List.forall_mem_cons.mpr ⟨ab_CT_up ck_346 (by decide), fun _ h => absurd h List.not_mem_nil⟩) (by decide +kernel) (by decide +kernel)
/-- Model.votesOf (50 steps) -/
def ct_348 : ab_Ct := (213, [(1, 0, [124]), (3, 0, [])], [((-2147483648), 2147483647, 0, (0, 0, []), (0, 0, []))], [], [], [([(3, 1, [])], [((-2147483648), 2147483647, 0, (0, 0, []), (0, 0, [])), ((-2147483648), 2147483647, 0, (0, 0, []), (0, 0, []))], [])])
set_option maxRecDepth 1000000 in
theorem ck_348 : ab_CT cm_ms hp hN 2 ct_348 := ab_chk_ok (us := []) (inl := inl0) (d := 0) (dd := 1) (n := 20000) (tms := [((4, [(0, (1, 0, [124])), (1, (3, 0, [])), (2, (3, 1, [])), (3, (3, 2, []))], [], [((-2147483648), 2147483647, 0, (0, 0, []), (0, 0, [])), ((-2147483648), 2147483647, 0, (0, 0, []), (0, 0, [])), (0, 6, 0, (0, 0, []), (0, 0, []))], []), [(0, 1, (0, 0, [])), ((-1), 2147483648, (3, 2, []))])]) cm_ms_ok cm_ms_rc hNP (fun _ h => absurd h List.not_mem_nil) (by decide +kernel) (by decide +kernel)
/-- Model.yesOf (7 steps) -/
def ct_349 : ab_Ct := (214, [(1, 0, [124]), (1, 0, [129, 132]), (3, 0, [])], [(0, 8, 0, (0, 0, []), (0, 0, []))], [], [], [([(3, 1, [])], [(0, 8, 0, (0, 0, []), (0, 0, [])), ((-2147483648), 2147483647, 0, (0, 0, []), (0, 0, []))], [])])
set_option maxRecDepth 1000000 in
theorem ck_349 : ab_CT cm_ms hp hN 4 ct_349 := ab_chk_ok (us := [ct_347, ct_348]) (inl := inl0) (d := 3) (dd := 0) (n := 20000) (tms := []) cm_ms_ok cm_ms_rc hNP (List.forall_mem_cons.mpr ⟨ab_CT_up ck_347 (by decide), List.forall_mem_cons.mpr ⟨ab_CT_up ck_348 (by decide), fun _ h => absurd h List.not_mem_nil⟩⟩) (by decide +kernel) (by decide +kernel)
/-- Model.isEnough (20 steps) -/
def ct_350 : ab_Ct := (215, [(1, 0, [124]), (1, 0, [129, 132]), (3, 0, [])], [(0, 8, 0, (0, 0, []), (0, 0, []))], [], [], [([(3, 1, [])], [(0, 8, 0, (0, 0, []), (0, 0, [])), (0, 1, 0, (0, 0, []), (0, 0, []))], [])])
set_option maxRecDepth 1000000 in
theorem ck_350 : ab_CT cm_ms hp hN 5 ct_350 := ab_chk_ok (us := [ct_349]) (inl := inl0) (d := 4) (dd := 0) (n := 20000) (tms := []) cm_ms_ok cm_ms_rc hNP (List.forall_mem_cons.mpr ⟨ab_CT_up ck_349 (by decide), fun _ h => absurd h List.not_mem_nil⟩) (by decide +kernel) (by decide +kernel)
/-- Model.mayBePut (39 steps) -/
def ct_351 : ab_Ct := (216, [(1, 0, [124]), (1, 0, [129, 132]), (3, 0, [])], [(0, 8, 0, (0, 0, []), (0, 0, []))], [], [], [([(3, 1, [])], [(0, 8, 0, (0, 0, []), (0, 0, [])), (0, 1, 0, (0, 0, []), (0, 0, []))], [])])
set_option maxRecDepth 1000000 in
theorem ck_351 : ab_CT cm_ms hp hN 2 ct_351 := ab_chk_ok (us := []) (inl := inl0) (d := 0) (dd := 1) (n := 20000) (tms := []) cm_ms_ok cm_ms_rc hNP (fun _ h => absurd h List.not_mem_nil) (by decide +kernel) (by decide +kernel)
/-- Model.cutBy (73 steps) -/
def ct_352 : ab_Ct := (217, [(1, 0, [124]), (1, 0, [129, 132]), (3, 0, [])], [(0, 8, 0, (0, 0, []), (0, 0, []))], [], [(129, [0, 1, 2, 3, 4, 5, 6, 7, 8]), (132, [0, 1, 2, 3, 4, 5, 6, 7, 8])], [([], [(0, 8, 0, (0, 0, []), (0, 0, []))], [])])
set_option maxRecDepth 1000000 in
theorem ck_352 : ab_CT cm_ms hp hN 5 ct_352 := ab_chk_ok (us := [ct_347]) (inl := inl0) (d := 3) (dd := 1) (n := 20000) (tms := [((10, [(0, (1, 0, [124])), (1, (1, 0, [129, 132])), (2, (3, 0, [])), (3, (3, 1, [])), (4, (3, 2, []))], [], [(0, 8, 0, (0, 0, []), (0, 0, [])), ((-2147483648), 2147483647, 0, (0, 0, []), (0, 0, [])), (0, 6, 0, (0, 0, []), (0, 0, []))], []), [(0, 1, (0, 0, [])), ((-1), 2147483648, (3, 2, []))])]) cm_ms_ok cm_ms_rc hNP (List.forall_mem_cons.mpr ⟨ab_CT_up ck_347 (by decide), fun _ h => absurd h List.not_mem_nil⟩) (by decide +kernel) (by decide +kernel)
/-- Model.putOf (24 steps) -/
def ct_353 : ab_Ct := (218, [(1, 0, [124]), (1, 0, [129, 132]), (3, 0, [])], [(0, 8, 0, (0, 0, []), (0, 0, []))], [], [(129, [0, 1, 2, 3, 4, 5, 6, 7, 8, 9]), (132, [0, 1, 2, 3, 4, 5, 6, 7, 8, 9])], [([(3, 1, [])], [(0, 8, 0, (0, 0, []), (0, 0, [])), (0, 1, 0, (0, 0, []), (0, 0, []))], [])])
set_option maxRecDepth 1000000 in
theorem ck_353 : ab_CT cm_ms hp hN 6 ct_353 := ab_chk_ok (us := [ct_350, ct_352]) (inl := inl0) (d := 5) (dd := 0) (n := 20000) (tms := []) cm_ms_ok cm_ms_rc hNP (List.forall_mem_cons.mpr ⟨ab_CT_up ck_350 (by decide), List.forall_mem_cons.mpr ⟨ab_CT_up ck_352 (by decide), fun _ h => absurd h List.not_mem_nil⟩⟩) (by decide +kernel) (by decide +kernel)
/-- Model.weekOf (44 steps) -/
def ct_354 : ab_Ct := (219, [(1, 0, [124]), (1, 0, [129, 132])], [], [], [(129, [0, 1, 2, 3, 4, 5, 10]), (132, [0, 1, 2, 3, 4, 5, 10])], [([], [], [])])
set_option maxRecDepth 1000000 in
theorem ck_354 : ab_CT cm_ms hp hN 1 ct_354 := ab_chk_ok (us := []) (inl := inl0) (d := 0) (dd := 0) (n := 20000) (tms := [((2, [(0, (1, 0, [124])), (1, (1, 0, [129, 132])), (2, (3, 0, []))], [], [(0, 6, 0, (0, 0, []), (0, 0, []))], []), [(0, 1, (0, 0, [])), ((-1), 2147483648, (3, 0, []))])]) cm_ms_ok cm_ms_rc hNP (fun _ h => absurd h List.not_mem_nil) (by decide +kernel) (by decide +kernel)
/-- Model.goOver (20 steps) -/
def ct_355 : ab_Ct := (220, [(1, 0, [124]), (3, 0, [])], [((-2147483648), 2147483647, 0, (0, 0, []), (0, 0, []))], [], [(129, [0, 1, 2, 3, 4, 5, 10]), (132, [])], [([], [((-2147483648), 2147483647, 0, (0, 0, []), (0, 0, []))], [])])
set_option maxRecDepth 1000000 in
theorem ck_355 : ab_CT cm_ms hp hN 2 ct_355 := ab_chk_ok (us := [ct_283, ct_354]) (inl := inl0) (d := 1) (dd := 0) (n := 20000) (tms := [((17, [(0, (1, 0, [124])), (1, (3, 0, [])), (2, (3, 1, []))], [], [((-2147483648), 2147483647, 0, (0, 0, []), (0, 0, [])), (0, 2147483647, 0, (0, 0, []), (0, 0, []))], []), [(0, 1, (0, 0, [])), ((-1), 2147483648, (3, 1, []))])]) cm_ms_ok cm_ms_rc hNP (List.forall_mem_cons.mpr ⟨ab_CT_up ck_283 (by decide), List.forall_mem_cons.mpr ⟨ab_CT_up ck_354 (by decide), fun _ h => absurd h List.not_mem_nil⟩⟩) (by decide +kernel) (by decide +kernel)
/-- Model.saidBy (33 steps) -/
def ct_356 : ab_Ct := (222, [(1, 0, [124]), (3, 0, [])], [(0, 5, 0, (0, 0, []), (0, 0, []))], [], [], [([(3, 1, [])], [(0, 5, 0, (0, 0, []), (0, 0, [])), ((-2147483648), 2147483647, 0, (0, 0, []), (0, 0, []))], [])])
set_option maxRecDepth 1000000 in
theorem ck_356 : ab_CT cm_ms hp hN 3 ct_356 := ab_chk_ok (us := [ct_346]) (inl := inl0) (d := 2) (dd := 0) (n := 20000) (tms := [((4, [(0, (1, 0, [124])), (1, (3, 0, [])), (2, (3, 1, [])), (3, (3, 2, []))], [], [(0, 5, 0, (0, 0, []), (0, 0, [])), ((-2147483648), 2147483647, 0, (0, 0, []), (0, 0, [])), (0, 5, 0, (0, 0, []), (0, 0, []))], []), [(0, 1, (0, 0, [])), ((-1), 2147483648, (3, 2, []))])]) cm_ms_ok cm_ms_rc hNP (List.forall_mem_cons.mpr ⟨ab_CT_up ck_346 (by decide), fun _ h => absurd h List.not_mem_nil⟩) (by decide +kernel) (by decide +kernel)
/-- Model.man (188 steps) -/
def ct_357 : ab_Ct := (221, [(1, 0, [124]), (3, 0, []), (3, 1, [])], [((-2147483648), 2147483647, 0, (0, 0, []), (0, 0, [])), ((-2147483648), 2147483647, 0, (0, 0, []), (0, 0, []))], [], [(124, [0, 11])], [([(3, 2, [])], [((-2147483648), 2147483647, 0, (0, 0, []), (0, 0, [])), ((-2147483648), 2147483647, 0, (0, 0, []), (0, 0, [])), ((-2147483648), 2147483647, 0, (0, 0, []), (0, 0, []))], [])])
set_option maxRecDepth 1000000 in
theorem ck_357 : ab_CT cm_ms hp hN 6 ct_357 := ab_chk_ok (us := [ct_356]) (inl := inl0) (d := 3) (dd := 2) (n := 20000) (tms := []) cm_ms_ok cm_ms_rc hNP (List.forall_mem_cons.mpr ⟨ab_CT_up ck_356 (by decide), fun _ h => absurd h List.not_mem_nil⟩) (by decide +kernel) (by decide +kernel)
/-- Model.motion (192 steps) -/
def ct_358 : ab_Ct := (223, [(1, 0, [124]), (3, 0, []), (3, 1, [])], [((-2147483648), 2147483647, 0, (0, 0, []), (0, 0, [])), ((-2147483648), 2147483647, 0, (0, 0, []), (0, 0, []))], [], [(124, [0, 11])], [([(3, 2, [])], [((-2147483648), 2147483647, 0, (0, 0, []), (0, 0, [])), ((-2147483648), 2147483647, 0, (0, 0, []), (0, 0, [])), ((-2147483648), 2147483647, 0, (0, 0, []), (0, 0, []))], [])])
set_option maxRecDepth 1000000 in
theorem ck_358 : ab_CT cm_ms hp hN 7 ct_358 := ab_chk_ok (us := [ct_347, ct_349, ct_351]) (inl := inl0) (d := 4) (dd := 2) (n := 20000) (tms := []) cm_ms_ok cm_ms_rc hNP (List.forall_mem_cons.mpr ⟨ab_CT_up ck_347 (by decide), List.forall_mem_cons.mpr ⟨ab_CT_up ck_349 (by decide), List.forall_mem_cons.mpr ⟨ab_CT_up ck_351 (by decide), fun _ h => absurd h List.not_mem_nil⟩⟩⟩) (by decide +kernel) (by decide +kernel)
/-- Model.floor (67 steps) -/
def ct_359 : ab_Ct := (224, [(1, 0, [124]), (3, 0, [])], [((-2147483648), 2147483647, 0, (0, 0, []), (0, 0, []))], [], [(124, [0, 11])], [([(3, 1, [])], [((-2147483648), 2147483647, 0, (0, 0, []), (0, 0, [])), ((-2147483648), 2147483647, 0, (0, 0, []), (0, 0, []))], [])])
set_option maxRecDepth 1000000 in
theorem ck_359 : ab_CT cm_ms hp hN 2 ct_359 := ab_chk_ok (us := []) (inl := inl0) (d := 0) (dd := 1) (n := 20000) (tms := []) cm_ms_ok cm_ms_rc hNP (fun _ h => absurd h List.not_mem_nil) (by decide +kernel) (by decide +kernel)
/-- Model.bald (27 steps) -/
def ct_360 : ab_Ct := (225, [(1, 0, [124])], [], [], [(124, [0, 11])], [([(3, 0, [])], [((-2147483648), 2147483647, 0, (0, 0, []), (0, 0, []))], [])])
set_option maxRecDepth 1000000 in
theorem ck_360 : ab_CT cm_ms hp hN 4 ct_360 := ab_chk_ok (us := [ct_345]) (inl := inl0) (d := 2) (dd := 1) (n := 20000) (tms := []) cm_ms_ok cm_ms_rc hNP (List.forall_mem_cons.mpr ⟨ab_CT_up ck_345 (by decide), fun _ h => absurd h List.not_mem_nil⟩) (by decide +kernel) (by decide +kernel)
/-- Model.longest (48 steps) -/
def ct_361 : ab_Ct := (226, [(1, 0, [124])], [], [], [(124, [0, 11])], [([(3, 0, [])], [((-1), 5, 0, (0, 0, []), (0, 0, []))], [])])
set_option maxRecDepth 1000000 in
theorem ck_361 : ab_CT cm_ms hp hN 2 ct_361 := ab_chk_ok (us := []) (inl := inl0) (d := 0) (dd := 1) (n := 20000) (tms := [((21, [(0, (1, 0, [124])), (1, (3, 0, [])), (2, (3, 1, []))], [], [(0, 5, 0, (0, 0, []), (0, 0, [])), (1, 6, 0, (0, 0, []), (0, 0, []))], [(124, 0, (0, 0, [])), (124, 11, (0, 0, [])), (124, 14, (0, 1, []))]), [(0, 1, (0, 0, [])), ((-1), 2147483648, (3, 1, []))])]) cm_ms_ok cm_ms_rc hNP (fun _ h => absurd h List.not_mem_nil) (by decide +kernel) (by decide +kernel)
/-- Model.ready (64 steps) -/
def ct_362 : ab_Ct := (227, [(1, 0, [124])], [], [], [(124, [0, 11])], [([(3, 0, [])], [((-2147483648), 2147483647, 0, (0, 0, []), (0, 0, []))], [])])
set_option maxRecDepth 1000000 in
theorem ck_362 : ab_CT cm_ms hp hN 7 ct_362 := ab_chk_ok (us := [ct_350, ct_351]) (inl := inl0) (d := 5) (dd := 1) (n := 20000) (tms := [((21, [(0, (1, 0, [124])), (1, (3, 0, [])), (2, (3, 1, []))], [], [((-2147483648), 2147483647, 0, (0, 0, []), (0, 0, [])), (0, 5, 0, (0, 0, []), (0, 0, []))], [(124, 0, (0, 0, [])), (124, 11, (0, 0, [])), (124, 14, (0, 1, []))]), [(0, 1, (0, 0, [])), ((-1), 2147483648, (3, 1, []))])]) cm_ms_ok cm_ms_rc hNP (List.forall_mem_cons.mpr ⟨ab_CT_up ck_350 (by decide), List.forall_mem_cons.mpr ⟨ab_CT_up ck_351 (by decide), fun _ h => absurd h List.not_mem_nil⟩⟩) (by decide +kernel) (by decide +kernel)
/-- Model.hairy (19 steps) -/
def ct_363 : ab_Ct := (228, [(1, 0, [124])], [], [], [], [([(3, 0, [])], [(0, 63, 0, (0, 0, []), (0, 0, []))], [])])
set_option maxRecDepth 1000000 in
theorem ck_363 : ab_CT cm_ms hp hN 4 ct_363 := ab_chk_ok (us := [ct_345]) (inl := inl0) (d := 2) (dd := 1) (n := 20000) (tms := []) cm_ms_ok cm_ms_rc hNP (List.forall_mem_cons.mpr ⟨ab_CT_up ck_345 (by decide), fun _ h => absurd h List.not_mem_nil⟩) (by decide +kernel) (by decide +kernel)
/-- Model.quorum (27 steps) -/
def ct_364 : ab_Ct := (229, [(1, 0, [124])], [], [], [(124, [0, 11])], [([(3, 0, [])], [((-2147483648), 2147483647, 0, (0, 0, []), (0, 0, []))], [])])
set_option maxRecDepth 1000000 in
theorem ck_364 : ab_CT cm_ms hp hN 6 ct_364 := ab_chk_ok (us := [ct_348, ct_363]) (inl := inl0) (d := 4) (dd := 1) (n := 20000) (tms := []) cm_ms_ok cm_ms_rc hNP (List.forall_mem_cons.mpr ⟨ab_CT_up ck_348 (by decide), List.forall_mem_cons.mpr ⟨ab_CT_up ck_363 (by decide), fun _ h => absurd h List.not_mem_nil⟩⟩) (by decide +kernel) (by decide +kernel)
/-- Model.behind (121 steps) -/
def ct_365 : ab_Ct := (230, [(1, 0, [124]), (3, 0, [])], [((-2147483648), 2147483647, 0, (0, 0, []), (0, 0, []))], [], [(124, [0, 11])], [([(3, 1, [])], [((-2147483648), 2147483647, 0, (0, 0, []), (0, 0, [])), ((-2147483648), 2147483647, 0, (0, 0, []), (0, 0, []))], [])])
set_option maxRecDepth 1000000 in
theorem ck_365 : ab_CT cm_ms hp hN 3 ct_365 := ab_chk_ok (us := []) (inl := inl0) (d := 0) (dd := 2) (n := 20000) (tms := [((24, [(0, (1, 0, [124])), (1, (3, 0, [])), (2, (3, 1, [])), (3, (3, 2, []))], [], [(0, 4, 0, (0, 0, []), (0, 0, [])), ((-2147483648), 2147483647, 0, (0, 0, []), (0, 0, [])), (1, 5, 0, (0, 0, []), (0, 0, [])), (1, 5, 0, (0, 0, []), (0, 0, []))], [(124, 0, (0, 0, [])), (124, 11, (0, 0, [])), (124, 14, (0, 1, [])), (127, 4, (3, 3, []))]), [(0, 1, (0, 0, [])), ((-1), 2147483648, (3, 2, []))])]) cm_ms_ok cm_ms_rc hNP (fun _ h => absurd h List.not_mem_nil) (by decide +kernel) (by decide +kernel)
/-- Model.depthOf@0 (11 steps) -/
def ct_366 : ab_Ct := (231, [(1, 0, [124]), (3, 0, [])], [(0, 0, 0, (0, 0, []), (0, 0, []))], [], [], [([(0, 1, [])], [(0, 0, 0, (0, 0, []), (0, 0, []))], [])])
set_option maxRecDepth 1000000 in
theorem ck_366 : ab_CT cm_ms hp hN 1 ct_366 := ab_chk_ok (us := []) (inl := inl0) (d := 0) (dd := 0) (n := 20000) (tms := [((4, [(0, (1, 0, [124])), (1, (3, 0, [])), (2, (0, 0, [])), (3, (0, 0, []))], [], [(0, 0, 0, (0, 0, []), (0, 0, []))], []), [(0, 1, (0, 0, [])), (0, 0, (0, 0, []))])]) cm_ms_ok cm_ms_rc hNP (fun _ h => absurd h List.not_mem_nil) (by decide +kernel) (by decide +kernel)
/-- Model.depthOf@1 (51 steps) -/
def ct_367 : ab_Ct := (231, [(1, 0, [124]), (3, 0, [])], [(0, 1, 0, (0, 0, []), (0, 0, []))], [], [], [([(3, 1, [])], [(0, 1, 0, (0, 0, []), (0, 0, [])), (1, 2, 0, (0, 0, []), (0, 0, []))], [])])
set_option maxRecDepth 1000000 in
theorem ck_367 : ab_CT cm_ms hp hN 3 ct_367 := ab_chk_ok (us := [ct_366]) (inl := inl0) (d := 1) (dd := 1) (n := 20000) (tms := [((4, [(0, (1, 0, [124])), (1, (3, 0, [])), (2, (3, 1, [])), (3, (3, 2, []))], [], [(0, 1, 0, (0, 0, []), (0, 0, [])), (0, 1, 0, (0, 0, []), (0, 0, [])), (0, 1, 0, (0, 0, []), (0, 0, []))], []), [(0, 1, (0, 0, [])), ((-1), 2147483648, (3, 2, []))])]) cm_ms_ok cm_ms_rc hNP (List.forall_mem_cons.mpr ⟨ab_CT_up ck_366 (by decide), fun _ h => absurd h List.not_mem_nil⟩) (by decide +kernel) (by decide +kernel)
/-- Model.depthOf@2 (51 steps) -/
def ct_368 : ab_Ct := (231, [(1, 0, [124]), (3, 0, [])], [(0, 2, 0, (0, 0, []), (0, 0, []))], [], [], [([(3, 1, [])], [(0, 2, 0, (0, 0, []), (0, 0, [])), (1, 3, 0, (0, 0, []), (0, 0, []))], [])])
set_option maxRecDepth 1000000 in
theorem ck_368 : ab_CT cm_ms hp hN 5 ct_368 := ab_chk_ok (us := [ct_366, ct_367]) (inl := inl0) (d := 3) (dd := 1) (n := 20000) (tms := [((4, [(0, (1, 0, [124])), (1, (3, 0, [])), (2, (3, 1, [])), (3, (3, 2, []))], [], [(0, 2, 0, (0, 0, []), (0, 0, [])), (0, 2, 0, (0, 0, []), (0, 0, [])), (0, 2, 0, (0, 0, []), (0, 0, []))], []), [(0, 1, (0, 0, [])), ((-1), 2147483648, (3, 2, []))])]) cm_ms_ok cm_ms_rc hNP (List.forall_mem_cons.mpr ⟨ab_CT_up ck_366 (by decide), List.forall_mem_cons.mpr ⟨ab_CT_up ck_367 (by decide), fun _ h => absurd h List.not_mem_nil⟩⟩) (by decide +kernel) (by decide +kernel)
/-- Model.depthOf@3 (51 steps) -/
def ct_369 : ab_Ct := (231, [(1, 0, [124]), (3, 0, [])], [(0, 3, 0, (0, 0, []), (0, 0, []))], [], [], [([(3, 1, [])], [(0, 3, 0, (0, 0, []), (0, 0, [])), (1, 4, 0, (0, 0, []), (0, 0, []))], [])])
set_option maxRecDepth 1000000 in
theorem ck_369 : ab_CT cm_ms hp hN 7 ct_369 := ab_chk_ok (us := [ct_366, ct_367, ct_368]) (inl := inl0) (d := 5) (dd := 1) (n := 20000) (tms := [((4, [(0, (1, 0, [124])), (1, (3, 0, [])), (2, (3, 1, [])), (3, (3, 2, []))], [], [(0, 3, 0, (0, 0, []), (0, 0, [])), (0, 3, 0, (0, 0, []), (0, 0, [])), (0, 3, 0, (0, 0, []), (0, 0, []))], []), [(0, 1, (0, 0, [])), ((-1), 2147483648, (3, 2, []))])]) cm_ms_ok cm_ms_rc hNP (List.forall_mem_cons.mpr ⟨ab_CT_up ck_366 (by decide), List.forall_mem_cons.mpr ⟨ab_CT_up ck_367 (by decide), List.forall_mem_cons.mpr ⟨ab_CT_up ck_368 (by decide), fun _ h => absurd h List.not_mem_nil⟩⟩⟩) (by decide +kernel) (by decide +kernel)
/-- Model.depthOf@4 (51 steps) -/
def ct_370 : ab_Ct := (231, [(1, 0, [124]), (3, 0, [])], [(0, 4, 0, (0, 0, []), (0, 0, []))], [], [], [([(3, 1, [])], [(0, 4, 0, (0, 0, []), (0, 0, [])), (1, 5, 0, (0, 0, []), (0, 0, []))], [])])
set_option maxRecDepth 1000000 in
theorem ck_370 : ab_CT cm_ms hp hN 9 ct_370 := ab_chk_ok (us := [ct_366, ct_367, ct_368, ct_369]) (inl := inl0) (d := 7) (dd := 1) (n := 20000) (tms := [((4, [(0, (1, 0, [124])), (1, (3, 0, [])), (2, (3, 1, [])), (3, (3, 2, []))], [], [(0, 4, 0, (0, 0, []), (0, 0, [])), (0, 4, 0, (0, 0, []), (0, 0, [])), (0, 4, 0, (0, 0, []), (0, 0, []))], []), [(0, 1, (0, 0, [])), ((-1), 2147483648, (3, 2, []))])]) cm_ms_ok cm_ms_rc hNP (List.forall_mem_cons.mpr ⟨ab_CT_up ck_366 (by decide), List.forall_mem_cons.mpr ⟨ab_CT_up ck_367 (by decide), List.forall_mem_cons.mpr ⟨ab_CT_up ck_368 (by decide), List.forall_mem_cons.mpr ⟨ab_CT_up ck_369 (by decide), fun _ h => absurd h List.not_mem_nil⟩⟩⟩⟩) (by decide +kernel) (by decide +kernel)
/-- Model.depth (85 steps) -/
def ct_371 : ab_Ct := (232, [(1, 0, [124]), (3, 0, [])], [((-2147483648), 2147483647, 0, (0, 0, []), (0, 0, []))], [], [(124, [0, 11])], [([(3, 1, [])], [((-2147483648), 2147483647, 0, (0, 0, []), (0, 0, [])), ((-1), 5, 0, (0, 0, []), (0, 0, []))], [])])
set_option maxRecDepth 1000000 in
theorem ck_371 : ab_CT cm_ms hp hN 12 ct_371 := ab_chk_ok (us := [ct_370]) (inl := inl0) (d := 9) (dd := 2) (n := 20000) (tms := []) cm_ms_ok cm_ms_rc hNP (List.forall_mem_cons.mpr ⟨ab_CT_up ck_370 (by decide), fun _ h => absurd h List.not_mem_nil⟩) (by decide +kernel) (by decide +kernel)
/-- Model.longIn (337 steps) -/
def ct_372 : ab_Ct := (234, [(1, 0, [124]), (3, 0, []), (3, 1, [])], [((-2147483648), 2147483647, 0, (0, 0, []), (0, 0, [])), ((-2147483648), 2147483647, 0, (0, 0, []), (0, 0, []))], [], [(124, [0, 11]), (129, [0, 1, 2, 3, 4, 5, 10]), (132, [])], [([(3, 2, [])], [((-2147483648), 2147483647, 0, (0, 0, []), (0, 0, [])), ((-2147483648), 2147483647, 0, (0, 0, []), (0, 0, [])), ((-2147483648), 2147483647, 0, (0, 0, []), (0, 0, []))], [])])
set_option maxRecDepth 1000000 in
theorem ck_372 : ab_CT cm_ms hp hN 5 ct_372 := ab_chk_ok (us := [ct_355]) (inl := inl0) (d := 2) (dd := 2) (n := 20000) (tms := []) cm_ms_ok cm_ms_rc hNP (List.forall_mem_cons.mpr ⟨ab_CT_up ck_355 (by decide), fun _ h => absurd h List.not_mem_nil⟩) (by decide +kernel) (by decide +kernel)
/-- Model.yesIn (338 steps) -/
def ct_373 : ab_Ct := (235, [(1, 0, [124]), (3, 0, []), (3, 1, [])], [((-2147483648), 2147483647, 0, (0, 0, []), (0, 0, [])), ((-2147483648), 2147483647, 0, (0, 0, []), (0, 0, []))], [], [(124, [0, 11]), (129, [0, 1, 2, 3, 4, 5, 10]), (132, [])], [([(3, 2, [])], [((-2147483648), 2147483647, 0, (0, 0, []), (0, 0, [])), ((-2147483648), 2147483647, 0, (0, 0, []), (0, 0, [])), ((-2147483648), 2147483647, 0, (0, 0, []), (0, 0, []))], [])])
set_option maxRecDepth 1000000 in
theorem ck_373 : ab_CT cm_ms hp hN 7 ct_373 := ab_chk_ok (us := [ct_349, ct_355]) (inl := inl0) (d := 4) (dd := 2) (n := 20000) (tms := []) cm_ms_ok cm_ms_rc hNP (List.forall_mem_cons.mpr ⟨ab_CT_up ck_349 (by decide), List.forall_mem_cons.mpr ⟨ab_CT_up ck_355 (by decide), fun _ h => absurd h List.not_mem_nil⟩⟩) (by decide +kernel) (by decide +kernel)
/-- Model.carryOf (24 steps) -/
def ct_374 : ab_Ct := (236, [(1, 0, [124]), (3, 0, [])], [(0, 4, 0, (0, 0, []), (0, 0, []))], [], [(129, [0, 1, 2, 3, 4, 5, 10]), (132, [])], [([(3, 1, [])], [(0, 4, 0, (0, 0, []), (0, 0, [])), ((-2), 60, 0, (0, 0, []), (0, 0, []))], [])])
set_option maxRecDepth 1000000 in
theorem ck_374 : ab_CT cm_ms hp hN 6 ct_374 := ab_chk_ok (us := [ct_350, ct_354, ct_355]) (inl := inl0) (d := 5) (dd := 0) (n := 20000) (tms := [((7, [(0, (1, 0, [124])), (1, (3, 0, [])), (2, (3, 1, []))], [], [(0, 4, 0, (0, 0, []), (0, 0, [])), (0, 61, 0, (0, 0, []), (0, 0, []))], []), [(0, 1, (0, 0, [])), ((-1), 2147483648, (3, 1, []))])]) cm_ms_ok cm_ms_rc hNP (List.forall_mem_cons.mpr ⟨ab_CT_up ck_350 (by decide), List.forall_mem_cons.mpr ⟨ab_CT_up ck_354 (by decide), List.forall_mem_cons.mpr ⟨ab_CT_up ck_355 (by decide), fun _ h => absurd h List.not_mem_nil⟩⟩⟩) (by decide +kernel) (by decide +kernel)
/-- Model.carryIn (85 steps) -/
def ct_375 : ab_Ct := (237, [(1, 0, [124]), (3, 0, [])], [((-2147483648), 2147483647, 0, (0, 0, []), (0, 0, []))], [], [(124, [0, 11]), (129, [0, 1, 2, 3, 4, 5, 10]), (132, [])], [([(3, 1, [])], [((-2147483648), 2147483647, 0, (0, 0, []), (0, 0, [])), ((-2), 60, 0, (0, 0, []), (0, 0, []))], [])])
set_option maxRecDepth 1000000 in
theorem ck_375 : ab_CT cm_ms hp hN 9 ct_375 := ab_chk_ok (us := [ct_374]) (inl := inl0) (d := 6) (dd := 2) (n := 20000) (tms := []) cm_ms_ok cm_ms_rc hNP (List.forall_mem_cons.mpr ⟨ab_CT_up ck_374 (by decide), fun _ h => absurd h List.not_mem_nil⟩) (by decide +kernel) (by decide +kernel)
/-- Model.hairyIn (44 steps) -/
def ct_376 : ab_Ct := (238, [(1, 0, [124])], [], [], [(124, [0, 11]), (129, [0, 1, 2, 3, 4, 5, 10]), (132, [])], [([(3, 0, [])], [((-2), 60, 0, (0, 0, []), (0, 0, []))], [])])
set_option maxRecDepth 1000000 in
theorem ck_376 : ab_CT cm_ms hp hN 4 ct_376 := ab_chk_ok (us := [ct_345, ct_354, ct_355]) (inl := inl0) (d := 2) (dd := 1) (n := 20000) (tms := [((24, [(0, (1, 0, [124])), (1, (3, 0, []))], [], [(0, 61, 0, (0, 0, []), (0, 0, []))], [(124, 0, (0, 0, [])), (124, 11, (0, 0, [])), (124, 14, (0, 1, []))]), [(0, 1, (0, 0, [])), ((-1), 2147483648, (3, 0, []))])]) cm_ms_ok cm_ms_rc hNP (List.forall_mem_cons.mpr ⟨ab_CT_up ck_345 (by decide), List.forall_mem_cons.mpr ⟨ab_CT_up ck_354 (by decide), List.forall_mem_cons.mpr ⟨ab_CT_up ck_355 (by decide), fun _ h => absurd h List.not_mem_nil⟩⟩⟩) (by decide +kernel) (by decide +kernel)
/-- Model.soonest (71 steps) -/
def ct_377 : ab_Ct := (239, [(1, 0, [124])], [], [], [(124, [0, 11]), (129, [0, 1, 2, 3, 4, 5, 10]), (132, [])], [([(3, 0, [])], [((-2), 4, 0, (0, 0, []), (0, 0, []))], [])])
set_option maxRecDepth 1000000 in
theorem ck_377 : ab_CT cm_ms hp hN 8 ct_377 := ab_chk_ok (us := [ct_351, ct_374]) (inl := inl0) (d := 6) (dd := 1) (n := 20000) (tms := [((22, [(0, (1, 0, [124])), (1, (3, 0, [])), (2, (3, 1, []))], [], [((-2), 4, 0, (0, 0, []), (0, 0, [])), (0, 5, 0, (0, 0, []), (0, 0, []))], [(124, 0, (0, 0, [])), (124, 11, (0, 0, [])), (124, 14, (0, 1, []))]), [(0, 1, (0, 0, [])), ((-1), 2147483648, (3, 1, []))])]) cm_ms_ok cm_ms_rc hNP (List.forall_mem_cons.mpr ⟨ab_CT_up ck_351 (by decide), List.forall_mem_cons.mpr ⟨ab_CT_up ck_374 (by decide), fun _ h => absurd h List.not_mem_nil⟩⟩) (by decide +kernel) (by decide +kernel)
/-- Model.goBy (4069 steps) -/
def ct_378 : ab_Ct := (240, [(1, 0, [124]), (3, 0, []), (3, 1, [])], [(0, 2147483647, 0, (0, 0, []), (0, 0, [])), (1, 4, 0, (0, 0, []), (0, 0, []))], [], [(129, []), (132, [])], [([(3, 2, [])], [(0, 2147483647, 0, (0, 0, []), (0, 0, [])), (1, 4, 0, (0, 0, []), (0, 0, [])), ((-2147483648), 2147483647, 0, (0, 0, []), (0, 0, []))], [])])
set_option maxRecDepth 1000000 in
theorem ck_378 : ab_CT cm_ms hp hN 7 ct_378 := ab_chk_ok (us := [ct_351, ct_353, ct_354, ct_355]) (inl := inl0) (d := 6) (dd := 0) (n := 20000) (tms := []) cm_ms_ok cm_ms_rc hNP (List.forall_mem_cons.mpr ⟨ab_CT_up ck_351 (by decide), List.forall_mem_cons.mpr ⟨ab_CT_up ck_353 (by decide), List.forall_mem_cons.mpr ⟨ab_CT_up ck_354 (by decide), List.forall_mem_cons.mpr ⟨ab_CT_up ck_355 (by decide), fun _ h => absurd h List.not_mem_nil⟩⟩⟩⟩) (by decide +kernel) (by decide +kernel)
