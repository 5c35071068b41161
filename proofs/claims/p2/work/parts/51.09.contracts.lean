/-! AB: contracts -/
/-- Model.roundAt@1 (87 steps) -/
def ct_373 : ab_Ct := (264, [(1, 0, [124]), (3, 0, [])], [((-2147483648), 2147483647, 0, (0, 0, []), (0, 0, []))], [(127, 8, (0, 1, []))], [(124, [0, 11, 25]), (133, [0]), (134, [])], [([(3, 1, [])], [((-2147483648), 2147483647, 0, (0, 0, []), (0, 0, [])), ((-2147483648), 2147483647, 0, (0, 0, []), (0, 0, []))], [])])
set_option maxRecDepth 1000000 in
theorem ck_373 : ab_CT cm_ms hp hN 6 ct_373 := ab_chk_ok (us := [ct_361]) (inl := inl0) (d := 3) (dd := 2) (n := 20000) (tms := []) cm_ms_ok cm_ms_rc hNP (List.forall_mem_cons.mpr ⟨ab_CT_up ck_361 (by decide), fun _ h => absurd h List.not_mem_nil⟩) (by decide +kernel) (by decide +kernel)
/-- Model.roundAt@2 (87 steps) -/
def ct_374 : ab_Ct := (264, [(1, 0, [124]), (3, 0, [])], [((-2147483648), 2147483647, 0, (0, 0, []), (0, 0, []))], [(127, 8, (0, 2, []))], [(124, [0, 11, 25]), (133, [0, 1]), (134, [])], [([(3, 1, [])], [((-2147483648), 2147483647, 0, (0, 0, []), (0, 0, [])), ((-2147483648), 2147483647, 0, (0, 0, []), (0, 0, []))], [])])
set_option maxRecDepth 1000000 in
theorem ck_374 : ab_CT cm_ms hp hN 8 ct_374 := ab_chk_ok (us := [ct_362]) (inl := inl0) (d := 5) (dd := 2) (n := 20000) (tms := []) cm_ms_ok cm_ms_rc hNP (List.forall_mem_cons.mpr ⟨ab_CT_up ck_362 (by decide), fun _ h => absurd h List.not_mem_nil⟩) (by decide +kernel) (by decide +kernel)
/-- Model.roundAt@3 (87 steps) -/
def ct_375 : ab_Ct := (264, [(1, 0, [124]), (3, 0, [])], [((-2147483648), 2147483647, 0, (0, 0, []), (0, 0, []))], [(127, 8, (0, 3, []))], [(124, [0, 11, 25]), (133, [0, 1, 2]), (134, [])], [([(3, 1, [])], [((-2147483648), 2147483647, 0, (0, 0, []), (0, 0, [])), ((-2147483648), 2147483647, 0, (0, 0, []), (0, 0, []))], [])])
set_option maxRecDepth 1000000 in
theorem ck_375 : ab_CT cm_ms hp hN 10 ct_375 := ab_chk_ok (us := [ct_363]) (inl := inl0) (d := 7) (dd := 2) (n := 20000) (tms := []) cm_ms_ok cm_ms_rc hNP (List.forall_mem_cons.mpr ⟨ab_CT_up ck_363 (by decide), fun _ h => absurd h List.not_mem_nil⟩) (by decide +kernel) (by decide +kernel)
/-- Model.roundAt@4 (87 steps) -/
def ct_376 : ab_Ct := (264, [(1, 0, [124]), (3, 0, [])], [((-2147483648), 2147483647, 0, (0, 0, []), (0, 0, []))], [(127, 8, (0, 4, []))], [(124, [0, 11, 25]), (133, [0, 1, 2, 3]), (134, [])], [([(3, 1, [])], [((-2147483648), 2147483647, 0, (0, 0, []), (0, 0, [])), ((-2147483648), 2147483647, 0, (0, 0, []), (0, 0, []))], [])])
set_option maxRecDepth 1000000 in
theorem ck_376 : ab_CT cm_ms hp hN 12 ct_376 := ab_chk_ok (us := [ct_364]) (inl := inl0) (d := 9) (dd := 2) (n := 20000) (tms := []) cm_ms_ok cm_ms_rc hNP (List.forall_mem_cons.mpr ⟨ab_CT_up ck_364 (by decide), fun _ h => absurd h List.not_mem_nil⟩) (by decide +kernel) (by decide +kernel)
/-- Model.roundAt@5 (87 steps) -/
def ct_377 : ab_Ct := (264, [(1, 0, [124]), (3, 0, [])], [((-2147483648), 2147483647, 0, (0, 0, []), (0, 0, []))], [(127, 8, (0, 5, []))], [(124, [0, 11, 25]), (133, []), (134, [])], [([(3, 1, [])], [((-2147483648), 2147483647, 0, (0, 0, []), (0, 0, [])), ((-2147483648), 2147483647, 0, (0, 0, []), (0, 0, []))], [])])
set_option maxRecDepth 1000000 in
theorem ck_377 : ab_CT cm_ms hp hN 14 ct_377 := ab_chk_ok (us := [ct_365]) (inl := inl0) (d := 11) (dd := 2) (n := 20000) (tms := []) cm_ms_ok cm_ms_rc hNP (List.forall_mem_cons.mpr ⟨ab_CT_up ck_365 (by decide), fun _ h => absurd h List.not_mem_nil⟩) (by decide +kernel) (by decide +kernel)
/-- Model.doesFit (89 steps) -/
def ct_378 : ab_Ct := (265, [(1, 0, [124]), (3, 0, [])], [((-2147483648), 2147483647, 0, (0, 0, []), (0, 0, []))], [], [(129, []), (132, [])], [([(3, 1, [])], [((-2147483648), 2147483647, 0, (0, 0, []), (0, 0, [])), (0, 1, 0, (0, 0, []), (0, 0, []))], [])])
set_option maxRecDepth 1000000 in
theorem ck_378 : ab_CT cm_ms hp hN 7 ct_378 := ab_chk_ok (us := [ct_273, ct_300]) (inl := inl0) (d := 5) (dd := 1) (n := 20000) (tms := [((10, [(0, (1, 0, [124])), (1, (3, 0, [])), (2, (3, 1, []))], [], [((-2147483648), 2147483647, 0, (0, 0, []), (0, 0, [])), (0, 5, 0, (0, 0, []), (0, 0, []))], []), [(0, 2, (0, 0, [])), ((-1), 2147483648, (3, 1, []))]), ((47, [(0, (1, 0, [124])), (2, (3, 1, [])), (3, (3, 2, []))], [], [((-2147483648), 2147483647, 0, (0, 0, []), (0, 0, [])), (0, 1, 0, (0, 0, []), (0, 0, [])), (0, 3, 0, (0, 0, []), (0, 0, [])), (0, 5, 0, (0, 0, []), (0, 0, []))], [(127, 4, (3, 3, []))]), [(0, 1, (0, 0, [])), ((-1), 2147483648, (3, 2, []))])]) cm_ms_ok cm_ms_rc hNP (List.forall_mem_cons.mpr ⟨ab_CT_up ck_273 (by decide), List.forall_mem_cons.mpr ⟨ab_CT_up ck_300 (by decide), fun _ h => absurd h List.not_mem_nil⟩⟩) (by decide +kernel) (by decide +kernel)
/-- Model.seekSets (125 steps) -/
def ct_379 : ab_Ct := (266, [(1, 0, [124]), (3, 0, [])], [((-2147483648), 2147483647, 0, (0, 0, []), (0, 0, []))], [], [(124, [27, 28, 29]), (129, []), (132, []), (135, [])], [([(3, 1, [])], [((-2147483648), 2147483647, 0, (0, 0, []), (0, 0, [])), ((-1), 31, 0, (0, 0, []), (0, 0, []))], [])])
set_option maxRecDepth 1000000 in
theorem ck_379 : ab_CT cm_ms hp hN 8 ct_379 := ab_chk_ok (us := [ct_378]) (inl := inl0) (d := 7) (dd := 0) (n := 20000) (tms := [((28, [(0, (1, 0, [124])), (1, (3, 0, [])), (2, (0, (-1), [])), (3, (3, 1, []))], [], [((-2147483648), 2147483647, 0, (0, 0, []), (0, 0, [])), (0, 5, 0, (0, 0, []), (0, 0, [])), (0, 31, 0, (0, 0, []), (0, 0, [])), (0, 5, 0, (0, 0, []), (0, 0, []))], [(124, 27, (0, 0, [])), (124, 28, (0, 0, [])), (124, 29, (3, 2, [])), (127, 4, (3, 3, []))]), [(0, 2, (0, 0, [])), ((-1), 2147483648, (3, 1, [])), (0, 1000, (0, 0, [])), (0, 0, (0, 0, []))]), ((48, [(0, (1, 0, [124])), (1, (3, 0, [])), (2, (3, 1, [])), (3, (3, 2, []))], [], [((-2147483648), 2147483647, 0, (0, 0, []), (0, 0, [])), ((-1), 31, 0, (0, 0, []), (0, 0, [])), (0, 32, 0, (0, 0, []), (0, 0, [])), ((-2147483648), 2147483647, 0, (0, 0, []), (0, 0, [])), ((-2147483648), 2147483647, 0, (0, 0, []), (0, 0, [])), (0, 31, 0, (0, 0, []), (0, 0, [])), (0, 5, 0, (0, 0, []), (0, 0, []))], [(124, 27, (3, 3, [])), (124, 28, (3, 4, [])), (124, 29, (3, 5, [])), (127, 4, (3, 6, []))]), [(0, 1, (0, 0, [])), ((-1), 2147483648, (3, 2, [])), (0, 1000, (0, 0, [])), (0, 0, (0, 0, []))]), ((114, [(0, (1, 0, [124])), (1, (3, 0, [])), (2, (3, 1, [])), (3, (3, 2, [])), (4, (3, 3, []))], [], [((-2147483648), 2147483647, 0, (0, 0, []), (0, 0, [])), ((-1), 31, 0, (0, 0, []), (0, 0, [])), (0, 31, 0, (0, 0, []), (0, 0, [])), (0, 5, 0, (0, 0, []), (0, 0, [])), ((-2147483648), 2147483647, 0, (0, 0, []), (0, 0, [])), ((-2147483648), 2147483647, 0, (0, 0, []), (0, 0, [])), (0, 31, 0, (0, 0, []), (0, 0, [])), (0, 5, 0, (0, 0, []), (0, 0, []))], [(124, 27, (3, 4, [])), (124, 28, (3, 5, [])), (124, 29, (3, 6, [])), (127, 4, (3, 7, []))]), [(0, 1, (0, 0, [])), ((-1), 2147483648, (3, 2, [])), (0, 1, (0, 0, [])), ((-1), 2147483648, (3, 3, []))])]) cm_ms_ok cm_ms_rc hNP (List.forall_mem_cons.mpr ⟨ab_CT_up ck_378 (by decide), fun _ h => absurd h List.not_mem_nil⟩) (by decide +kernel) (by decide +kernel)
/-- Model.fits (28 steps) -/
def ct_380 : ab_Ct := (267, [(1, 0, [124])], [], [], [(124, [0, 11, 27, 28, 29]), (129, []), (132, []), (135, [])], [([(3, 0, [])], [((-2147483648), 2147483647, 0, (0, 0, []), (0, 0, []))], [])])
set_option maxRecDepth 1000000 in
theorem ck_380 : ab_CT cm_ms hp hN 10 ct_380 := ab_chk_ok (us := [ct_379]) (inl := inl0) (d := 8) (dd := 1) (n := 20000) (tms := []) cm_ms_ok cm_ms_rc hNP (List.forall_mem_cons.mpr ⟨ab_CT_up ck_379 (by decide), fun _ h => absurd h List.not_mem_nil⟩) (by decide +kernel) (by decide +kernel)
/-- Model.fitAt (50 steps) -/
def ct_381 : ab_Ct := (268, [(1, 0, [124]), (3, 0, [])], [((-2147483648), 2147483647, 0, (0, 0, []), (0, 0, []))], [], [(124, [0, 11, 27, 28, 29]), (129, []), (132, []), (135, [])], [([(3, 1, [])], [((-2147483648), 2147483647, 0, (0, 0, []), (0, 0, [])), ((-1), 31, 0, (0, 0, []), (0, 0, []))], [])])
set_option maxRecDepth 1000000 in
theorem ck_381 : ab_CT cm_ms hp hN 10 ct_381 := ab_chk_ok (us := [ct_379]) (inl := inl0) (d := 8) (dd := 1) (n := 20000) (tms := []) cm_ms_ok cm_ms_rc hNP (List.forall_mem_cons.mpr ⟨ab_CT_up ck_379 (by decide), fun _ h => absurd h List.not_mem_nil⟩) (by decide +kernel) (by decide +kernel)
/-- Model.could (28 steps) -/
def ct_382 : ab_Ct := (269, [(1, 0, [124])], [], [], [(124, [0, 11, 27, 28, 29]), (129, []), (132, []), (135, [])], [([(3, 0, [])], [((-2147483648), 2147483647, 0, (0, 0, []), (0, 0, []))], [])])
set_option maxRecDepth 1000000 in
theorem ck_382 : ab_CT cm_ms hp hN 10 ct_382 := ab_chk_ok (us := [ct_379]) (inl := inl0) (d := 8) (dd := 1) (n := 20000) (tms := []) cm_ms_ok cm_ms_rc hNP (List.forall_mem_cons.mpr ⟨ab_CT_up ck_379 (by decide), fun _ h => absurd h List.not_mem_nil⟩) (by decide +kernel) (by decide +kernel)
/-- Model.surely (28 steps) -/
def ct_383 : ab_Ct := (270, [(1, 0, [124])], [], [], [(124, [0, 11, 27, 28, 29]), (129, []), (132, []), (135, [])], [([(3, 0, [])], [((-2147483648), 2147483647, 0, (0, 0, []), (0, 0, []))], [])])
set_option maxRecDepth 1000000 in
theorem ck_383 : ab_CT cm_ms hp hN 10 ct_383 := ab_chk_ok (us := [ct_379]) (inl := inl0) (d := 8) (dd := 1) (n := 20000) (tms := []) cm_ms_ok cm_ms_rc hNP (List.forall_mem_cons.mpr ⟨ab_CT_up ck_379 (by decide), fun _ h => absurd h List.not_mem_nil⟩) (by decide +kernel) (by decide +kernel)
/-- Model.leavesOf (26 steps) -/
def ct_384 : ab_Ct := (271, [(1, 0, [124]), (3, 0, [])], [(0, 4, 0, (0, 0, []), (0, 0, []))], [], [], [([(3, 1, [])], [(0, 4, 0, (0, 0, []), (0, 0, [])), ((-2147483648), 2147483647, 0, (0, 0, []), (0, 0, []))], [])])
set_option maxRecDepth 1000000 in
theorem ck_384 : ab_CT cm_ms hp hN 1 ct_384 := ab_chk_ok (us := []) (inl := inl0) (d := 0) (dd := 0) (n := 20000) (tms := []) cm_ms_ok cm_ms_rc hNP (fun _ h => absurd h List.not_mem_nil) (by decide +kernel) (by decide +kernel)
/-- Model.askOf (40 steps) -/
def ct_385 : ab_Ct := (272, [(1, 0, [124])], [], [], [(124, [27, 28, 29]), (129, []), (132, []), (135, [])], [([(3, 0, [])], [((-2), 4, 0, (0, 0, []), (0, 0, []))], [])])
set_option maxRecDepth 1000000 in
theorem ck_385 : ab_CT cm_ms hp hN 9 ct_385 := ab_chk_ok (us := [ct_379, ct_384]) (inl := inl0) (d := 8) (dd := 0) (n := 20000) (tms := [((11, [(0, (1, 0, [124])), (1, (3, 0, [])), (2, (3, 1, []))], [], [((-2), 4, 0, (0, 0, []), (0, 0, [])), (0, 5, 0, (0, 0, []), (0, 0, []))], []), [(0, 1, (0, 0, [])), ((-1), 2147483648, (3, 1, []))])]) cm_ms_ok cm_ms_rc hNP (List.forall_mem_cons.mpr ⟨ab_CT_up ck_379 (by decide), List.forall_mem_cons.mpr ⟨ab_CT_up ck_384 (by decide), fun _ h => absurd h List.not_mem_nil⟩⟩) (by decide +kernel) (by decide +kernel)
/-- Model.ask (25 steps) -/
def ct_386 : ab_Ct := (273, [(1, 0, [124])], [], [], [(124, [0, 11, 27, 28, 29]), (129, []), (132, []), (135, [])], [([(3, 0, [])], [((-2), 4, 0, (0, 0, []), (0, 0, []))], [])])
set_option maxRecDepth 1000000 in
theorem ck_386 : ab_CT cm_ms hp hN 11 ct_386 := ab_chk_ok (us := [ct_385]) (inl := inl0) (d := 9) (dd := 1) (n := 20000) (tms := []) cm_ms_ok cm_ms_rc hNP (List.forall_mem_cons.mpr ⟨ab_CT_up ck_385 (by decide), fun _ h => absurd h List.not_mem_nil⟩) (by decide +kernel) (by decide +kernel)
/-- Model.askLeaves (33 steps) -/
def ct_387 : ab_Ct := (274, [(1, 0, [124])], [], [], [(124, [0, 11, 27, 28, 29]), (129, []), (132, []), (135, [])], [([(3, 0, [])], [((-2147483648), 2147483647, 0, (0, 0, []), (0, 0, []))], [])])
set_option maxRecDepth 1000000 in
theorem ck_387 : ab_CT cm_ms hp hN 11 ct_387 := ab_chk_ok (us := [ct_384, ct_385]) (inl := inl0) (d := 9) (dd := 1) (n := 20000) (tms := []) cm_ms_ok cm_ms_rc hNP (List.forall_mem_cons.mpr ⟨ab_CT_up ck_384 (by decide), List.forall_mem_cons.mpr ⟨ab_CT_up ck_385 (by decide), fun _ h => absurd h List.not_mem_nil⟩⟩) (by decide +kernel) (by decide +kernel)
/-- Model.talk (161 steps) -/
def ct_388 : ab_Ct := (276, [(1, 0, [124]), (3, 0, []), (3, 1, []), (3, 2, []), (3, 3, [])], [((-2147483648), 2147483647, 0, (0, 0, []), (0, 0, [])), (0, 1, 0, (0, 0, []), (0, 0, [])), (0, 1, 0, (0, 0, []), (0, 0, [])), (0, 1, 0, (0, 0, []), (0, 0, []))], [], [(124, [0, 11])], [([(3, 4, [])], [((-2147483648), 2147483647, 0, (0, 0, []), (0, 0, [])), (0, 1, 0, (0, 0, []), (0, 0, [])), (0, 1, 0, (0, 0, []), (0, 0, [])), (0, 1, 0, (0, 0, []), (0, 0, [])), ((-2147483648), 2147483647, 0, (0, 0, []), (0, 0, []))], [])])
set_option maxRecDepth 1000000 in
theorem ck_388 : ab_CT cm_ms hp hN 2 ct_388 := ab_chk_ok (us := []) (inl := inl0) (d := 0) (dd := 1) (n := 20000) (tms := []) cm_ms_ok cm_ms_rc hNP (fun _ h => absurd h List.not_mem_nil) (by decide +kernel) (by decide +kernel)
/-- Model.isRest (174 steps) -/
def ct_389 : ab_Ct := (277, [(3, 0, []), (3, 1, []), (3, 2, [])], [((-2147483648), 2147483647, 0, (0, 0, []), (0, 0, [])), (0, 1, 0, (0, 0, []), (0, 0, [])), (0, 1, 0, (0, 0, []), (0, 0, []))], [], [], [([(3, 3, [])], [((-2147483648), 2147483647, 0, (0, 0, []), (0, 0, [])), (0, 1, 0, (0, 0, []), (0, 0, [])), (0, 1, 0, (0, 0, []), (0, 0, [])), (0, 1, 0, (0, 0, []), (0, 0, []))], [])])
set_option maxRecDepth 1000000 in
theorem ck_389 : ab_CT cm_ms hp hN 2 ct_389 := ab_chk_ok (us := []) (inl := inl0) (d := 0) (dd := 1) (n := 20000) (tms := []) cm_ms_ok cm_ms_rc hNP (fun _ h => absurd h List.not_mem_nil) (by decide +kernel) (by decide +kernel)
/-- Model.seekRests (131 steps) -/
def ct_390 : ab_Ct := (278, [(1, 0, [124]), (3, 0, [])], [((-2147483648), 2147483647, 0, (0, 0, []), (0, 0, []))], [], [(124, [30])], [([(3, 1, [])], [((-2147483648), 2147483647, 0, (0, 0, []), (0, 0, [])), ((-2147483648), 2147483647, 0, (0, 0, []), (0, 0, []))], [])])
set_option maxRecDepth 1000000 in
theorem ck_390 : ab_CT cm_ms hp hN 3 ct_390 := ab_chk_ok (us := [ct_389]) (inl := inl0) (d := 2) (dd := 0) (n := 20000) (tms := [((10, [(0, (1, 0, [124])), (1, (3, 0, [])), (2, (3, 1, [])), (3, (3, 2, []))], [], [((-2147483648), 2147483647, 0, (0, 0, []), (0, 0, [])), ((-2147483648), 2147483647, 0, (0, 0, []), (0, 0, [])), (0, 4, 0, (0, 0, []), (0, 0, [])), ((-2), 31, 0, (0, 0, []), (0, 0, []))], [(124, 30, (3, 3, []))]), [(0, 1, (0, 0, [])), ((-1), 2147483648, (3, 2, []))])]) cm_ms_ok cm_ms_rc hNP (List.forall_mem_cons.mpr ⟨ab_CT_up ck_389 (by decide), fun _ h => absurd h List.not_mem_nil⟩) (by decide +kernel) (by decide +kernel)
/-- Model.rests (132 steps) -/
def ct_391 : ab_Ct := (279, [(1, 0, [124]), (3, 0, [])], [((-2147483648), 2147483647, 0, (0, 0, []), (0, 0, []))], [], [(124, [0, 11, 30])], [([(3, 1, [])], [((-2147483648), 2147483647, 0, (0, 0, []), (0, 0, [])), ((-2147483648), 2147483647, 0, (0, 0, []), (0, 0, []))], [])])
set_option maxRecDepth 1000000 in
theorem ck_391 : ab_CT cm_ms hp hN 5 ct_391 := ab_chk_ok (us := [ct_390]) (inl := inl0) (d := 3) (dd := 1) (n := 20000) (tms := []) cm_ms_ok cm_ms_rc hNP (List.forall_mem_cons.mpr ⟨ab_CT_up ck_390 (by decide), fun _ h => absurd h List.not_mem_nil⟩) (by decide +kernel) (by decide +kernel)
/-- Model.rest (130 steps) -/
def ct_392 : ab_Ct := (280, [(1, 0, [124]), (3, 0, [])], [((-2147483648), 2147483647, 0, (0, 0, []), (0, 0, []))], [], [(124, [0, 11, 30])], [([(3, 1, [])], [((-2147483648), 2147483647, 0, (0, 0, []), (0, 0, [])), ((-2147483648), 2147483647, 0, (0, 0, []), (0, 0, []))], [])])
set_option maxRecDepth 1000000 in
theorem ck_392 : ab_CT cm_ms hp hN 5 ct_392 := ab_chk_ok (us := [ct_390]) (inl := inl0) (d := 3) (dd := 1) (n := 20000) (tms := []) cm_ms_ok cm_ms_rc hNP (List.forall_mem_cons.mpr ⟨ab_CT_up ck_390 (by decide), fun _ h => absurd h List.not_mem_nil⟩) (by decide +kernel) (by decide +kernel)
/-- Model.odds BY HAND -/
def ct_393 : ab_Ct := (282, [(1, 0, [124]), (3, 0, []), (3, 1, [])], [((-2147483648), 2147483647, 0, (0, 0, []), (0, 0, [])), (0, 1, 0, (0, 0, []), (0, 0, []))], [], [(124, [0, 11, 31, 32, 33]), (132, [])], [([(6, 0, [])], [((-2147483648), 2147483647, 0, (0, 0, []), (0, 0, [])), (0, 1, 0, (0, 0, []), (0, 0, []))], [])])
theorem ck_393 : ab_CT cm_ms hp hN 40 ct_393 := sorry
/-- Model.mean BY HAND -/
def ct_394 : ab_Ct := (283, [(1, 0, [124]), (3, 0, []), (3, 1, [])], [((-2147483648), 2147483647, 0, (0, 0, []), (0, 0, [])), (0, 1, 0, (0, 0, []), (0, 0, []))], [], [(124, [0, 11, 31, 32, 33]), (132, [])], [([(6, 0, [])], [((-2147483648), 2147483647, 0, (0, 0, []), (0, 0, [])), (0, 1, 0, (0, 0, []), (0, 0, []))], [])])
theorem ck_394 : ab_CT cm_ms hp hN 40 ct_394 := sorry
/-- Model.shavesWhy@no (4 steps) -/
def ct_395 : ab_Ct := (284, [(1, 0, [124]), (0, 0, []), (3, 0, []), (3, 1, []), (3, 2, [])], [((-2147483648), 2147483647, 0, (0, 0, []), (0, 0, [])), ((-2147483648), 2147483647, 0, (0, 0, []), (0, 0, [])), ((-2147483648), 2147483647, 0, (0, 0, []), (0, 0, []))], [], [], [([(0, 1, [])], [((-2147483648), 2147483647, 0, (0, 0, []), (0, 0, [])), ((-2147483648), 2147483647, 0, (0, 0, []), (0, 0, [])), ((-2147483648), 2147483647, 0, (0, 0, []), (0, 0, []))], [])])
set_option maxRecDepth 1000000 in
theorem ck_395 : ab_CT cm_ms hp hN 1 ct_395 := ab_chk_ok (us := []) (inl := inl0) (d := 0) (dd := 0) (n := 20000) (tms := []) cm_ms_ok cm_ms_rc hNP (fun _ h => absurd h List.not_mem_nil) (by decide +kernel) (by decide +kernel)
/-- Model.shavesWhy@yes (124 steps) -/
def ct_396 : ab_Ct := (284, [(1, 0, [124]), (0, 1, []), (3, 0, []), (3, 1, []), (3, 2, [])], [((-1), 4, 0, (0, 0, []), (0, 0, [])), ((-2147483648), 2147483647, 0, (0, 0, []), (0, 0, [])), ((-2147483648), 2147483647, 0, (0, 0, []), (0, 0, []))], [], [(124, [34]), (129, [0, 1, 2, 3, 4, 5, 10]), (132, [])], [([(3, 3, [])], [((-1), 4, 0, (0, 0, []), (0, 0, [])), ((-2147483648), 2147483647, 0, (0, 0, []), (0, 0, [])), ((-2147483648), 2147483647, 0, (0, 0, []), (0, 0, [])), (0, 2, 0, (0, 0, []), (0, 0, []))], [])])
set_option maxRecDepth 1000000 in
theorem ck_396 : ab_CT cm_ms hp hN 7 ct_396 := ab_chk_ok (us := [ct_298, ct_302, ct_303]) (inl := inl0) (d := 5) (dd := 1) (n := 20000) (tms := [((46, [(0, (1, 0, [124])), (2, (3, 0, [])), (4, (3, 2, [])), (5, (3, 3, [])), (6, (3, 4, []))], [], [((-1), 4, 0, (0, 0, []), (0, 0, [])), (0, 65536, 0, (0, 0, []), (0, 0, [])), (0, 60, 0, (0, 0, []), (0, 0, [])), (0, 65536, 0, (0, 0, []), (0, 0, [])), (1, 61, 0, (0, 0, []), (0, 0, [])), (0, 60, 0, (0, 0, []), (0, 0, []))], [(124, 34, (3, 5, []))]), [(0, 1, (0, 0, [])), ((-1), 2147483648, (3, 4, [])), (0, 1000, (0, 0, [])), (0, 0, (0, 0, []))]), ((64, [(0, (1, 0, [124])), (2, (3, 0, [])), (4, (3, 2, [])), (5, (3, 3, [])), (6, (3, 4, [])), (7, (3, 5, []))], [], [((-1), 4, 0, (0, 0, []), (0, 0, [])), (0, 65536, 0, (0, 0, []), (0, 0, [])), (1, 60, 0, (0, 0, []), (0, 0, [])), (0, 65536, 0, (0, 0, []), (0, 0, [])), (1, 60, 0, (0, 0, []), (0, 0, [])), (0, 6, 0, (0, 0, []), (0, 0, [])), (0, 60, 0, (0, 0, []), (0, 0, []))], [(124, 34, (3, 6, []))]), [(0, 1, (0, 0, [])), ((-1), 2147483648, (3, 4, [])), (0, 1, (0, 0, [])), ((-1), 2147483648, (3, 5, []))])]) cm_ms_ok cm_ms_rc hNP (List.forall_mem_cons.mpr ⟨ab_CT_up ck_298 (by decide), List.forall_mem_cons.mpr ⟨ab_CT_up ck_302 (by decide), List.forall_mem_cons.mpr ⟨ab_CT_up ck_303 (by decide), fun _ h => absurd h List.not_mem_nil⟩⟩⟩) (by decide +kernel) (by decide +kernel)
/-- Model.shaves (123 steps) -/
def ct_397 : ab_Ct := (285, [(1, 0, [124]), (3, 0, []), (3, 1, []), (3, 2, [])], [((-2147483648), 2147483647, 0, (0, 0, []), (0, 0, [])), ((-2147483648), 2147483647, 0, (0, 0, []), (0, 0, [])), ((-2147483648), 2147483647, 0, (0, 0, []), (0, 0, []))], [], [(124, [0, 11, 34]), (129, [0, 1, 2, 3, 4, 5, 10]), (132, [])], [([(3, 3, [])], [((-2147483648), 2147483647, 0, (0, 0, []), (0, 0, [])), ((-2147483648), 2147483647, 0, (0, 0, []), (0, 0, [])), ((-2147483648), 2147483647, 0, (0, 0, []), (0, 0, [])), ((-2147483648), 2147483647, 0, (0, 0, []), (0, 0, []))], [])])
set_option maxRecDepth 1000000 in
theorem ck_397 : ab_CT cm_ms hp hN 10 ct_397 := ab_chk_ok (us := [ct_395, ct_396]) (inl := inl0) (d := 7) (dd := 2) (n := 20000) (tms := []) cm_ms_ok cm_ms_rc hNP (List.forall_mem_cons.mpr ⟨ab_CT_up ck_395 (by decide), List.forall_mem_cons.mpr ⟨ab_CT_up ck_396 (by decide), fun _ h => absurd h List.not_mem_nil⟩⟩) (by decide +kernel) (by decide +kernel)
/-- Model.carries (121 steps) -/
def ct_398 : ab_Ct := (286, [(1, 0, [124]), (3, 0, []), (3, 1, []), (3, 2, [])], [((-2147483648), 2147483647, 0, (0, 0, []), (0, 0, [])), ((-2147483648), 2147483647, 0, (0, 0, []), (0, 0, [])), ((-2147483648), 2147483647, 0, (0, 0, []), (0, 0, []))], [], [(124, [0, 11, 34]), (129, [0, 1, 2, 3, 4, 5, 10]), (132, [])], [([(3, 3, [])], [((-2147483648), 2147483647, 0, (0, 0, []), (0, 0, [])), ((-2147483648), 2147483647, 0, (0, 0, []), (0, 0, [])), ((-2147483648), 2147483647, 0, (0, 0, []), (0, 0, [])), ((-2147483648), 2147483647, 0, (0, 0, []), (0, 0, []))], [])])
set_option maxRecDepth 1000000 in
theorem ck_398 : ab_CT cm_ms hp hN 10 ct_398 := ab_chk_ok (us := [ct_395, ct_396]) (inl := inl0) (d := 7) (dd := 2) (n := 20000) (tms := []) cm_ms_ok cm_ms_rc hNP (List.forall_mem_cons.mpr ⟨ab_CT_up ck_395 (by decide), List.forall_mem_cons.mpr ⟨ab_CT_up ck_396 (by decide), fun _ h => absurd h List.not_mem_nil⟩⟩) (by decide +kernel) (by decide +kernel)
/-- Model.note (63 steps) -/
def ct_399 : ab_Ct := (287, [(1, 0, [124])], [], [], [(124, [20]), (130, [])], [([], [], [])])
set_option maxRecDepth 1000000 in
theorem ck_399 : ab_CT cm_ms hp hN 2 ct_399 := ab_chk_ok (us := [ct_233]) (inl := inl0) (d := 1) (dd := 0) (n := 20000) (tms := [((11, [(0, (1, 0, [124])), (1, (3, 0, []))], [], [(0, 165, 0, (0, 0, []), (0, 0, []))], [(124, 20, (0, 16, []))]), [(0, 1, (0, 0, [])), ((-1), 2147483648, (3, 0, []))])]) cm_ms_ok cm_ms_rc hNP (List.forall_mem_cons.mpr ⟨ab_CT_up ck_233 (by decide), fun _ h => absurd h List.not_mem_nil⟩) (by decide +kernel) (by decide +kernel)
/-- Model.put (108 steps) -/
def ct_400 : ab_Ct := (288, [(1, 0, [124]), (3, 0, [])], [((-2147483648), 2147483647, 0, (0, 0, []), (0, 0, []))], [], [(124, [0, 11, 20]), (129, [0, 1, 2, 3, 4, 5, 6, 7, 8, 9]), (130, []), (132, [0, 1, 2, 3, 4, 5, 6, 7, 8, 9])], [([(3, 1, [])], [((-2147483648), 2147483647, 0, (0, 0, []), (0, 0, [])), ((-1), 1, 0, (0, 0, []), (0, 0, []))], [])])
set_option maxRecDepth 1000000 in
theorem ck_400 : ab_CT cm_ms hp hN 9 ct_400 := ab_chk_ok (us := [ct_299, ct_301, ct_399]) (inl := inl0) (d := 6) (dd := 2) (n := 20000) (tms := []) cm_ms_ok cm_ms_rc hNP (List.forall_mem_cons.mpr ⟨ab_CT_up ck_299 (by decide), List.forall_mem_cons.mpr ⟨ab_CT_up ck_301 (by decide), List.forall_mem_cons.mpr ⟨ab_CT_up ck_399 (by decide), fun _ h => absurd h List.not_mem_nil⟩⟩⟩) (by decide +kernel) (by decide +kernel)
/-- Model.week (47 steps) -/
def ct_401 : ab_Ct := (289, [(1, 0, [124])], [], [], [(124, [0, 11, 20]), (129, [0, 1, 2, 3, 4, 5, 10]), (130, []), (132, [0, 1, 2, 3, 4, 5, 10])], [([(3, 0, [])], [((-2147483648), 2147483647, 0, (0, 0, []), (0, 0, []))], [])])
set_option maxRecDepth 1000000 in
theorem ck_401 : ab_CT cm_ms hp hN 4 ct_401 := ab_chk_ok (us := [ct_293, ct_302, ct_399]) (inl := inl0) (d := 2) (dd := 1) (n := 20000) (tms := []) cm_ms_ok cm_ms_rc hNP (List.forall_mem_cons.mpr ⟨ab_CT_up ck_293 (by decide), List.forall_mem_cons.mpr ⟨ab_CT_up ck_302 (by decide), List.forall_mem_cons.mpr ⟨ab_CT_up ck_399 (by decide), fun _ h => absurd h List.not_mem_nil⟩⟩⟩) (by decide +kernel) (by decide +kernel)
/-- Model.shave (125 steps) -/
def ct_402 : ab_Ct := (290, [(1, 0, [124]), (3, 0, [])], [((-2147483648), 2147483647, 0, (0, 0, []), (0, 0, []))], [], [(124, [0, 11, 20]), (129, [0, 1, 2, 3, 4, 5, 6, 7, 8]), (130, [])], [([(3, 1, [])], [((-2147483648), 2147483647, 0, (0, 0, []), (0, 0, [])), ((-2147483648), 2147483647, 0, (0, 0, []), (0, 0, []))], [])])
set_option maxRecDepth 1000000 in
theorem ck_402 : ab_CT cm_ms hp hN 5 ct_402 := ab_chk_ok (us := [ct_399]) (inl := inl0) (d := 2) (dd := 2) (n := 20000) (tms := []) cm_ms_ok cm_ms_rc hNP (List.forall_mem_cons.mpr ⟨ab_CT_up ck_399 (by decide), fun _ h => absurd h List.not_mem_nil⟩) (by decide +kernel) (by decide +kernel)
/-- Model.undo (40 steps) -/
def ct_403 : ab_Ct := (291, [(1, 0, [124])], [], [], [(124, [0, 11, 20]), (129, [])], [([(3, 0, [])], [(0, 1, 0, (0, 0, []), (0, 0, []))], [])])
set_option maxRecDepth 1000000 in
theorem ck_403 : ab_CT cm_ms hp hN 3 ct_403 := ab_chk_ok (us := [ct_234]) (inl := inl0) (d := 1) (dd := 1) (n := 20000) (tms := []) cm_ms_ok cm_ms_rc hNP (List.forall_mem_cons.mpr ⟨ab_CT_up ck_234 (by decide), fun _ h => absurd h List.not_mem_nil⟩) (by decide +kernel) (by decide +kernel)
/-- Model.image (56 steps) -/
def ct_404 : ab_Ct := (292, [(1, 0, [124])], [], [], [(124, [0, 11, 21]), (131, [])], [([(3, 0, [])], [((-1), 2, 0, (0, 0, []), (0, 0, []))], [])])
set_option maxRecDepth 1000000 in
theorem ck_404 : ab_CT cm_ms hp hN 3 ct_404 := ab_chk_ok (us := [ct_235]) (inl := inl0) (d := 1) (dd := 1) (n := 20000) (tms := []) cm_ms_ok cm_ms_rc hNP (List.forall_mem_cons.mpr ⟨ab_CT_up ck_235 (by decide), fun _ h => absurd h List.not_mem_nil⟩) (by decide +kernel) (by decide +kernel)
/-- Model.back (65 steps) -/
def ct_405 : ab_Ct := (293, [(1, 0, [124]), (3, 0, [])], [((-2147483648), 2147483647, 0, (0, 0, []), (0, 0, []))], [], [(124, [0, 11, 20]), (129, [])], [([(3, 1, [])], [((-2147483648), 2147483647, 0, (0, 0, []), (0, 0, [])), (0, 1, 0, (0, 0, []), (0, 0, []))], [])])
set_option maxRecDepth 1000000 in
theorem ck_405 : ab_CT cm_ms hp hN 3 ct_405 := ab_chk_ok (us := [ct_236]) (inl := inl0) (d := 1) (dd := 1) (n := 20000) (tms := []) cm_ms_ok cm_ms_rc hNP (List.forall_mem_cons.mpr ⟨ab_CT_up ck_236 (by decide), fun _ h => absurd h List.not_mem_nil⟩) (by decide +kernel) (by decide +kernel)
/-- Model.led (57 steps) -/
def ct_406 : ab_Ct := (294, [(1, 0, [124]), (3, 0, [])], [((-2147483648), 2147483647, 0, (0, 0, []), (0, 0, []))], [], [(124, [0])], [([(3, 1, [])], [((-2147483648), 2147483647, 0, (0, 0, []), (0, 0, [])), (0, 4, 0, (0, 0, []), (0, 0, []))], [])])
set_option maxRecDepth 1000000 in
theorem ck_406 : ab_CT cm_ms hp hN 2 ct_406 := ab_chk_ok (us := []) (inl := inl0) (d := 0) (dd := 1) (n := 20000) (tms := [((4, [(0, (1, 0, [124])), (1, (3, 0, [])), (2, (3, 1, [])), (3, (3, 2, []))], [], [((-2147483648), 2147483647, 0, (0, 0, []), (0, 0, [])), ((-2147483648), 2147483647, 0, (0, 0, []), (0, 0, [])), (0, 5, 0, (0, 0, []), (0, 0, []))], []), [(0, 1, (0, 0, [])), ((-1), 2147483648, (3, 2, []))])]) cm_ms_ok cm_ms_rc hNP (fun _ h => absurd h List.not_mem_nil) (by decide +kernel) (by decide +kernel)
/-- Model.size (100 steps) -/
def ct_407 : ab_Ct := (295, [(1, 0, [124]), (3, 0, [])], [((-2147483648), 2147483647, 0, (0, 0, []), (0, 0, []))], [], [(124, [0])], [([(3, 1, [])], [((-2147483648), 2147483647, 0, (0, 0, []), (0, 0, [])), ((-2147483648), 2147483647, 0, (0, 0, []), (0, 0, []))], [])])
set_option maxRecDepth 1000000 in
theorem ck_407 : ab_CT cm_ms hp hN 2 ct_407 := ab_chk_ok (us := []) (inl := inl0) (d := 0) (dd := 1) (n := 20000) (tms := []) cm_ms_ok cm_ms_rc hNP (fun _ h => absurd h List.not_mem_nil) (by decide +kernel) (by decide +kernel)
/-- Model.trouble (6 steps) -/
def ct_408 : ab_Ct := (296, [(1, 0, [124])], [], [], [(124, [0])], [([(3, 0, [])], [((-2147483648), 2147483647, 0, (0, 0, []), (0, 0, []))], [])])
set_option maxRecDepth 1000000 in
theorem ck_408 : ab_CT cm_ms hp hN 1 ct_408 := ab_chk_ok (us := []) (inl := inl0) (d := 0) (dd := 0) (n := 20000) (tms := []) cm_ms_ok cm_ms_rc hNP (fun _ h => absurd h List.not_mem_nil) (by decide +kernel) (by decide +kernel)
