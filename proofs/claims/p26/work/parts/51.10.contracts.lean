/-- Model.round@4 (32 steps) -/
noncomputable def ct_435 : ab_Ct := (263, [(1, 0, [124])], [], [(127, 8, (0, 4, []))], [(124, [0, 11, 25]), (133, [0, 1, 2, 3]), (134, [])], [([(3, 0, [])], [((-2147483648), 2147483647, 0, (0, 0, []), (0, 0, []))], [])])
set_option maxRecDepth 1000000 in
theorem ck_435 : ab_CT cm_ms hp hN 11 ct_435 := ab_chk_ok (us := [ct_429]) (inl := inl0) (hin := inl0_ok) (d := 9) (dd := 1) (n := 20000) (tms := []) cm_ms_ok cm_ms_rc hNP (List.forall_mem_cons.mpr ⟨ab_CT_up ck_429 (by decide), fun _ h => absurd h List.not_mem_nil⟩) (by decide +kernel) (by decide +kernel)
/-- Model.round@5 (32 steps) -/
noncomputable def ct_436 : ab_Ct := (263, [(1, 0, [124])], [], [(127, 8, (0, 5, []))], [(124, [0, 11, 25]), (133, []), (134, [])], [([(3, 0, [])], [((-2147483648), 2147483647, 0, (0, 0, []), (0, 0, []))], [])])
set_option maxRecDepth 1000000 in
theorem ck_436 : ab_CT cm_ms hp hN 13 ct_436 := ab_chk_ok (us := [ct_430]) (inl := inl0) (hin := inl0_ok) (d := 11) (dd := 1) (n := 20000) (tms := []) cm_ms_ok cm_ms_rc hNP (List.forall_mem_cons.mpr ⟨ab_CT_up ck_430 (by decide), fun _ h => absurd h List.not_mem_nil⟩) (by decide +kernel) (by decide +kernel)
/-- Model.roundAt@0 (72 steps) -/
noncomputable def ct_437 : ab_Ct := (264, [(1, 0, [124]), (3, 0, [])], [((-2147483648), 2147483647, 0, (0, 0, []), (0, 0, []))], [(127, 8, (0, 0, []))], [(124, [0, 11])], [([(0, (-1), [])], [((-2147483648), 2147483647, 0, (0, 0, []), (0, 0, []))], [])])
set_option maxRecDepth 1000000 in
theorem ck_437 : ab_CT cm_ms hp hN 3 ct_437 := ab_chk_ok (us := []) (inl := inl0) (hin := inl0_ok) (d := 0) (dd := 2) (n := 20000) (tms := []) cm_ms_ok cm_ms_rc hNP (fun _ h => absurd h List.not_mem_nil) (by decide +kernel) (by decide +kernel)
/-- Model.roundAt@1 (87 steps) -/
noncomputable def ct_438 : ab_Ct := (264, [(1, 0, [124]), (3, 0, [])], [((-2147483648), 2147483647, 0, (0, 0, []), (0, 0, []))], [(127, 8, (0, 1, []))], [(124, [0, 11, 25]), (133, [0]), (134, [])], [([(3, 1, [])], [((-2147483648), 2147483647, 0, (0, 0, []), (0, 0, [])), ((-2147483648), 2147483647, 0, (0, 0, []), (0, 0, []))], [])])
set_option maxRecDepth 1000000 in
theorem ck_438 : ab_CT cm_ms hp hN 6 ct_438 := ab_chk_ok (us := [ct_426]) (inl := inl0) (hin := inl0_ok) (d := 3) (dd := 2) (n := 20000) (tms := []) cm_ms_ok cm_ms_rc hNP (List.forall_mem_cons.mpr ⟨ab_CT_up ck_426 (by decide), fun _ h => absurd h List.not_mem_nil⟩) (by decide +kernel) (by decide +kernel)
/-- Model.roundAt@2 (87 steps) -/
noncomputable def ct_439 : ab_Ct := (264, [(1, 0, [124]), (3, 0, [])], [((-2147483648), 2147483647, 0, (0, 0, []), (0, 0, []))], [(127, 8, (0, 2, []))], [(124, [0, 11, 25]), (133, [0, 1]), (134, [])], [([(3, 1, [])], [((-2147483648), 2147483647, 0, (0, 0, []), (0, 0, [])), ((-2147483648), 2147483647, 0, (0, 0, []), (0, 0, []))], [])])
set_option maxRecDepth 1000000 in
theorem ck_439 : ab_CT cm_ms hp hN 8 ct_439 := ab_chk_ok (us := [ct_427]) (inl := inl0) (hin := inl0_ok) (d := 5) (dd := 2) (n := 20000) (tms := []) cm_ms_ok cm_ms_rc hNP (List.forall_mem_cons.mpr ⟨ab_CT_up ck_427 (by decide), fun _ h => absurd h List.not_mem_nil⟩) (by decide +kernel) (by decide +kernel)
/-- Model.roundAt@3 (87 steps) -/
noncomputable def ct_440 : ab_Ct := (264, [(1, 0, [124]), (3, 0, [])], [((-2147483648), 2147483647, 0, (0, 0, []), (0, 0, []))], [(127, 8, (0, 3, []))], [(124, [0, 11, 25]), (133, [0, 1, 2]), (134, [])], [([(3, 1, [])], [((-2147483648), 2147483647, 0, (0, 0, []), (0, 0, [])), ((-2147483648), 2147483647, 0, (0, 0, []), (0, 0, []))], [])])
set_option maxRecDepth 1000000 in
theorem ck_440 : ab_CT cm_ms hp hN 10 ct_440 := ab_chk_ok (us := [ct_428]) (inl := inl0) (hin := inl0_ok) (d := 7) (dd := 2) (n := 20000) (tms := []) cm_ms_ok cm_ms_rc hNP (List.forall_mem_cons.mpr ⟨ab_CT_up ck_428 (by decide), fun _ h => absurd h List.not_mem_nil⟩) (by decide +kernel) (by decide +kernel)
/-- Model.roundAt@4 (87 steps) -/
noncomputable def ct_441 : ab_Ct := (264, [(1, 0, [124]), (3, 0, [])], [((-2147483648), 2147483647, 0, (0, 0, []), (0, 0, []))], [(127, 8, (0, 4, []))], [(124, [0, 11, 25]), (133, [0, 1, 2, 3]), (134, [])], [([(3, 1, [])], [((-2147483648), 2147483647, 0, (0, 0, []), (0, 0, [])), ((-2147483648), 2147483647, 0, (0, 0, []), (0, 0, []))], [])])
set_option maxRecDepth 1000000 in
theorem ck_441 : ab_CT cm_ms hp hN 12 ct_441 := ab_chk_ok (us := [ct_429]) (inl := inl0) (hin := inl0_ok) (d := 9) (dd := 2) (n := 20000) (tms := []) cm_ms_ok cm_ms_rc hNP (List.forall_mem_cons.mpr ⟨ab_CT_up ck_429 (by decide), fun _ h => absurd h List.not_mem_nil⟩) (by decide +kernel) (by decide +kernel)
/-- Model.roundAt@5 (87 steps) -/
noncomputable def ct_442 : ab_Ct := (264, [(1, 0, [124]), (3, 0, [])], [((-2147483648), 2147483647, 0, (0, 0, []), (0, 0, []))], [(127, 8, (0, 5, []))], [(124, [0, 11, 25]), (133, []), (134, [])], [([(3, 1, [])], [((-2147483648), 2147483647, 0, (0, 0, []), (0, 0, [])), ((-2147483648), 2147483647, 0, (0, 0, []), (0, 0, []))], [])])
set_option maxRecDepth 1000000 in
theorem ck_442 : ab_CT cm_ms hp hN 14 ct_442 := ab_chk_ok (us := [ct_430]) (inl := inl0) (hin := inl0_ok) (d := 11) (dd := 2) (n := 20000) (tms := []) cm_ms_ok cm_ms_rc hNP (List.forall_mem_cons.mpr ⟨ab_CT_up ck_430 (by decide), fun _ h => absurd h List.not_mem_nil⟩) (by decide +kernel) (by decide +kernel)
/-- Model.doesFit (89 steps) -/
noncomputable def ct_443 : ab_Ct := (265, [(1, 0, [124]), (3, 0, [])], [((-2147483648), 2147483647, 0, (0, 0, []), (0, 0, []))], [], [(132, [])], [([(3, 1, [])], [((-2147483648), 2147483647, 0, (0, 0, []), (0, 0, [])), (0, 1, 0, (0, 0, []), (0, 0, []))], [])])
set_option maxRecDepth 1000000 in
theorem ck_443 : ab_CT cm_ms hp hN 7 ct_443 := ab_chk_ok (us := [ct_334, ct_362]) (inl := inl0) (hin := inl0_ok) (d := 5) (dd := 1) (n := 20000) (tms := [((10, [(0, (1, 0, [124])), (1, (3, 0, [])), (2, (3, 1, []))], [], [((-2147483648), 2147483647, 0, (0, 0, []), (0, 0, [])), (0, 5, 0, (0, 0, []), (0, 0, []))], []), [(0, 2, (0, 0, [])), ((-1), 2147483648, (3, 1, []))]), ((47, [(0, (1, 0, [124])), (2, (3, 1, [])), (3, (3, 2, []))], [], [((-2147483648), 2147483647, 0, (0, 0, []), (0, 0, [])), (0, 1, 0, (0, 0, []), (0, 0, [])), (0, 3, 0, (0, 0, []), (0, 0, [])), (0, 5, 0, (0, 0, []), (0, 0, []))], [(127, 4, (3, 3, []))]), [(0, 1, (0, 0, [])), ((-1), 2147483648, (3, 2, []))])]) cm_ms_ok cm_ms_rc hNP (List.forall_mem_cons.mpr ⟨ab_CT_up ck_334 (by decide), List.forall_mem_cons.mpr ⟨ab_CT_up ck_362 (by decide), fun _ h => absurd h List.not_mem_nil⟩⟩) (by decide +kernel) (by decide +kernel)
/-- Model.seekSets (125 steps) -/
noncomputable def ct_444 : ab_Ct := (266, [(1, 0, [124]), (3, 0, [])], [((-2147483648), 2147483647, 0, (0, 0, []), (0, 0, []))], [], [(124, [27, 28, 29]), (132, []), (135, [])], [([(3, 1, [])], [((-2147483648), 2147483647, 0, (0, 0, []), (0, 0, [])), ((-1), 31, 0, (0, 0, []), (0, 0, []))], [])])
set_option maxRecDepth 1000000 in
theorem ck_444 : ab_CT cm_ms hp hN 8 ct_444 := ab_chk_ok (us := [ct_443]) (inl := inl0) (hin := inl0_ok) (d := 7) (dd := 0) (n := 20000) (tms := [((114, [(0, (1, 0, [124])), (1, (3, 0, [])), (2, (3, 1, [])), (3, (3, 2, [])), (4, (3, 3, []))], [], [((-2147483648), 2147483647, 0, (0, 0, []), (0, 0, [])), ((-1), 31, 0, (0, 0, []), (0, 0, [])), (0, 31, 0, (0, 0, []), (0, 0, [])), (0, 5, 0, (0, 0, []), (0, 0, [])), ((-2147483648), 2147483647, 0, (0, 0, []), (0, 0, [])), ((-2147483648), 2147483647, 0, (0, 0, []), (0, 0, [])), (0, 31, 0, (0, 0, []), (0, 0, [])), (0, 5, 0, (0, 0, []), (0, 0, []))], [(124, 27, (3, 4, [])), (124, 28, (3, 5, [])), (124, 29, (3, 6, [])), (127, 4, (3, 7, []))]), [(0, 1, (0, 0, [])), ((-1), 2147483648, (3, 2, [])), (0, 1, (0, 0, [])), ((-1), 2147483648, (3, 3, []))]), ((28, [(0, (1, 0, [124])), (1, (3, 0, [])), (2, (0, (-1), [])), (3, (3, 1, []))], [], [((-2147483648), 2147483647, 0, (0, 0, []), (0, 0, [])), (0, 5, 0, (0, 0, []), (0, 0, [])), (0, 31, 0, (0, 0, []), (0, 0, [])), (0, 5, 0, (0, 0, []), (0, 0, []))], [(124, 27, (0, 0, [])), (124, 28, (0, 0, [])), (124, 29, (3, 2, [])), (127, 4, (3, 3, []))]), [(0, 2, (0, 0, [])), ((-1), 2147483648, (3, 1, [])), (0, 1000, (0, 0, [])), (0, 0, (0, 0, []))]), ((48, [(0, (1, 0, [124])), (1, (3, 0, [])), (2, (3, 1, [])), (3, (3, 2, []))], [], [((-2147483648), 2147483647, 0, (0, 0, []), (0, 0, [])), ((-1), 31, 0, (0, 0, []), (0, 0, [])), (0, 32, 0, (0, 0, []), (0, 0, [])), ((-2147483648), 2147483647, 0, (0, 0, []), (0, 0, [])), ((-2147483648), 2147483647, 0, (0, 0, []), (0, 0, [])), (0, 31, 0, (0, 0, []), (0, 0, [])), (0, 5, 0, (0, 0, []), (0, 0, []))], [(124, 27, (3, 3, [])), (124, 28, (3, 4, [])), (124, 29, (3, 5, [])), (127, 4, (3, 6, []))]), [(0, 1, (0, 0, [])), ((-1), 2147483648, (3, 2, [])), (0, 1000, (0, 0, [])), (0, 0, (0, 0, []))])]) cm_ms_ok cm_ms_rc hNP (List.forall_mem_cons.mpr ⟨ab_CT_up ck_443 (by decide), fun _ h => absurd h List.not_mem_nil⟩) (by decide +kernel) (by decide +kernel)
/-- Model.fits (28 steps) -/
noncomputable def ct_445 : ab_Ct := (267, [(1, 0, [124])], [], [], [(124, [0, 11, 27, 28, 29]), (132, []), (135, [])], [([(3, 0, [])], [((-2147483648), 2147483647, 0, (0, 0, []), (0, 0, []))], [])])
set_option maxRecDepth 1000000 in
theorem ck_445 : ab_CT cm_ms hp hN 10 ct_445 := ab_chk_ok (us := [ct_444]) (inl := inl0) (hin := inl0_ok) (d := 8) (dd := 1) (n := 20000) (tms := []) cm_ms_ok cm_ms_rc hNP (List.forall_mem_cons.mpr ⟨ab_CT_up ck_444 (by decide), fun _ h => absurd h List.not_mem_nil⟩) (by decide +kernel) (by decide +kernel)
/-- Model.fitAt (50 steps) -/
noncomputable def ct_446 : ab_Ct := (268, [(1, 0, [124]), (3, 0, [])], [((-2147483648), 2147483647, 0, (0, 0, []), (0, 0, []))], [], [(124, [0, 11, 27, 28, 29]), (132, []), (135, [])], [([(3, 1, [])], [((-2147483648), 2147483647, 0, (0, 0, []), (0, 0, [])), ((-1), 31, 0, (0, 0, []), (0, 0, []))], [])])
set_option maxRecDepth 1000000 in
theorem ck_446 : ab_CT cm_ms hp hN 10 ct_446 := ab_chk_ok (us := [ct_444]) (inl := inl0) (hin := inl0_ok) (d := 8) (dd := 1) (n := 20000) (tms := []) cm_ms_ok cm_ms_rc hNP (List.forall_mem_cons.mpr ⟨ab_CT_up ck_444 (by decide), fun _ h => absurd h List.not_mem_nil⟩) (by decide +kernel) (by decide +kernel)
/-- Model.could (28 steps) -/
noncomputable def ct_447 : ab_Ct := (269, [(1, 0, [124])], [], [], [(124, [0, 11, 27, 28, 29]), (132, []), (135, [])], [([(3, 0, [])], [((-2147483648), 2147483647, 0, (0, 0, []), (0, 0, []))], [])])
set_option maxRecDepth 1000000 in
theorem ck_447 : ab_CT cm_ms hp hN 10 ct_447 := ab_chk_ok (us := [ct_444]) (inl := inl0) (hin := inl0_ok) (d := 8) (dd := 1) (n := 20000) (tms := []) cm_ms_ok cm_ms_rc hNP (List.forall_mem_cons.mpr ⟨ab_CT_up ck_444 (by decide), fun _ h => absurd h List.not_mem_nil⟩) (by decide +kernel) (by decide +kernel)
/-- Model.surely (28 steps) -/
noncomputable def ct_448 : ab_Ct := (270, [(1, 0, [124])], [], [], [(124, [0, 11, 27, 28, 29]), (132, []), (135, [])], [([(3, 0, [])], [((-2147483648), 2147483647, 0, (0, 0, []), (0, 0, []))], [])])
set_option maxRecDepth 1000000 in
theorem ck_448 : ab_CT cm_ms hp hN 10 ct_448 := ab_chk_ok (us := [ct_444]) (inl := inl0) (hin := inl0_ok) (d := 8) (dd := 1) (n := 20000) (tms := []) cm_ms_ok cm_ms_rc hNP (List.forall_mem_cons.mpr ⟨ab_CT_up ck_444 (by decide), fun _ h => absurd h List.not_mem_nil⟩) (by decide +kernel) (by decide +kernel)
/-- Model.leavesOf (26 steps) -/
noncomputable def ct_449 : ab_Ct := (271, [(1, 0, [124]), (3, 0, [])], [(0, 4, 0, (0, 0, []), (0, 0, []))], [], [], [([(3, 1, [])], [(0, 4, 0, (0, 0, []), (0, 0, [])), ((-2147483648), 2147483647, 0, (0, 0, []), (0, 0, []))], [])])
set_option maxRecDepth 1000000 in
theorem ck_449 : ab_CT cm_ms hp hN 1 ct_449 := ab_chk_ok (us := []) (inl := inl0) (hin := inl0_ok) (d := 0) (dd := 0) (n := 20000) (tms := []) cm_ms_ok cm_ms_rc hNP (fun _ h => absurd h List.not_mem_nil) (by decide +kernel) (by decide +kernel)
/-- Model.askOf (40 steps) -/
noncomputable def ct_450 : ab_Ct := (272, [(1, 0, [124])], [], [], [(124, [27, 28, 29]), (132, []), (135, [])], [([(3, 0, [])], [((-2), 4, 0, (0, 0, []), (0, 0, []))], [])])
set_option maxRecDepth 1000000 in
theorem ck_450 : ab_CT cm_ms hp hN 9 ct_450 := ab_chk_ok (us := [ct_444, ct_449]) (inl := inl0) (hin := inl0_ok) (d := 8) (dd := 0) (n := 20000) (tms := [((11, [(0, (1, 0, [124])), (1, (3, 0, [])), (2, (3, 1, []))], [], [((-2), 4, 0, (0, 0, []), (0, 0, [])), (0, 5, 0, (0, 0, []), (0, 0, []))], []), [(0, 1, (0, 0, [])), ((-1), 2147483648, (3, 1, []))])]) cm_ms_ok cm_ms_rc hNP (List.forall_mem_cons.mpr ⟨ab_CT_up ck_444 (by decide), List.forall_mem_cons.mpr ⟨ab_CT_up ck_449 (by decide), fun _ h => absurd h List.not_mem_nil⟩⟩) (by decide +kernel) (by decide +kernel)
/-- Model.ask (25 steps) -/
noncomputable def ct_451 : ab_Ct := (273, [(1, 0, [124])], [], [], [(124, [0, 11, 27, 28, 29]), (132, []), (135, [])], [([(3, 0, [])], [((-2), 4, 0, (0, 0, []), (0, 0, []))], [])])
set_option maxRecDepth 1000000 in
theorem ck_451 : ab_CT cm_ms hp hN 11 ct_451 := ab_chk_ok (us := [ct_450]) (inl := inl0) (hin := inl0_ok) (d := 9) (dd := 1) (n := 20000) (tms := []) cm_ms_ok cm_ms_rc hNP (List.forall_mem_cons.mpr ⟨ab_CT_up ck_450 (by decide), fun _ h => absurd h List.not_mem_nil⟩) (by decide +kernel) (by decide +kernel)
/-- Model.askLeaves (33 steps) -/
noncomputable def ct_452 : ab_Ct := (274, [(1, 0, [124])], [], [], [(124, [0, 11, 27, 28, 29]), (132, []), (135, [])], [([(3, 0, [])], [((-2147483648), 2147483647, 0, (0, 0, []), (0, 0, []))], [])])
set_option maxRecDepth 1000000 in
theorem ck_452 : ab_CT cm_ms hp hN 11 ct_452 := ab_chk_ok (us := [ct_449, ct_450]) (inl := inl0) (hin := inl0_ok) (d := 9) (dd := 1) (n := 20000) (tms := []) cm_ms_ok cm_ms_rc hNP (List.forall_mem_cons.mpr ⟨ab_CT_up ck_449 (by decide), List.forall_mem_cons.mpr ⟨ab_CT_up ck_450 (by decide), fun _ h => absurd h List.not_mem_nil⟩⟩) (by decide +kernel) (by decide +kernel)
/-- Model.talk (161 steps) -/
noncomputable def ct_453 : ab_Ct := (276, [(1, 0, [124]), (3, 0, []), (3, 1, []), (3, 2, []), (3, 3, [])], [((-2147483648), 2147483647, 0, (0, 0, []), (0, 0, [])), (0, 1, 0, (0, 0, []), (0, 0, [])), (0, 1, 0, (0, 0, []), (0, 0, [])), (0, 1, 0, (0, 0, []), (0, 0, []))], [], [(124, [0, 11])], [([(3, 4, [])], [((-2147483648), 2147483647, 0, (0, 0, []), (0, 0, [])), (0, 1, 0, (0, 0, []), (0, 0, [])), (0, 1, 0, (0, 0, []), (0, 0, [])), (0, 1, 0, (0, 0, []), (0, 0, [])), ((-2147483648), 2147483647, 0, (0, 0, []), (0, 0, []))], [])])
set_option maxRecDepth 1000000 in
theorem ck_453 : ab_CT cm_ms hp hN 2 ct_453 := ab_chk_ok (us := []) (inl := inl0) (hin := inl0_ok) (d := 0) (dd := 1) (n := 20000) (tms := []) cm_ms_ok cm_ms_rc hNP (fun _ h => absurd h List.not_mem_nil) (by decide +kernel) (by decide +kernel)
/-- Model.isRest (174 steps) -/
noncomputable def ct_454 : ab_Ct := (277, [(3, 0, []), (3, 1, []), (3, 2, [])], [((-2147483648), 2147483647, 0, (0, 0, []), (0, 0, [])), (0, 1, 0, (0, 0, []), (0, 0, [])), (0, 1, 0, (0, 0, []), (0, 0, []))], [], [], [([(3, 3, [])], [((-2147483648), 2147483647, 0, (0, 0, []), (0, 0, [])), (0, 1, 0, (0, 0, []), (0, 0, [])), (0, 1, 0, (0, 0, []), (0, 0, [])), (0, 1, 0, (0, 0, []), (0, 0, []))], [])])
set_option maxRecDepth 1000000 in
theorem ck_454 : ab_CT cm_ms hp hN 2 ct_454 := ab_chk_ok (us := []) (inl := inl0) (hin := inl0_ok) (d := 0) (dd := 1) (n := 20000) (tms := []) cm_ms_ok cm_ms_rc hNP (fun _ h => absurd h List.not_mem_nil) (by decide +kernel) (by decide +kernel)
/-- Model.seekRests (131 steps) -/
noncomputable def ct_455 : ab_Ct := (278, [(1, 0, [124]), (3, 0, [])], [((-2147483648), 2147483647, 0, (0, 0, []), (0, 0, []))], [], [(124, [30])], [([(3, 1, [])], [((-2147483648), 2147483647, 0, (0, 0, []), (0, 0, [])), ((-2147483648), 2147483647, 0, (0, 0, []), (0, 0, []))], [])])
set_option maxRecDepth 1000000 in
theorem ck_455 : ab_CT cm_ms hp hN 3 ct_455 := ab_chk_ok (us := [ct_454]) (inl := inl0) (hin := inl0_ok) (d := 2) (dd := 0) (n := 20000) (tms := [((10, [(0, (1, 0, [124])), (1, (3, 0, [])), (2, (3, 1, [])), (3, (3, 2, []))], [], [((-2147483648), 2147483647, 0, (0, 0, []), (0, 0, [])), ((-2147483648), 2147483647, 0, (0, 0, []), (0, 0, [])), (0, 4, 0, (0, 0, []), (0, 0, [])), ((-2), 31, 0, (0, 0, []), (0, 0, []))], [(124, 30, (3, 3, []))]), [(0, 1, (0, 0, [])), ((-1), 2147483648, (3, 2, []))])]) cm_ms_ok cm_ms_rc hNP (List.forall_mem_cons.mpr ⟨ab_CT_up ck_454 (by decide), fun _ h => absurd h List.not_mem_nil⟩) (by decide +kernel) (by decide +kernel)
/-- Model.rests (132 steps) -/
noncomputable def ct_456 : ab_Ct := (279, [(1, 0, [124]), (3, 0, [])], [((-2147483648), 2147483647, 0, (0, 0, []), (0, 0, []))], [], [(124, [0, 11, 30])], [([(3, 1, [])], [((-2147483648), 2147483647, 0, (0, 0, []), (0, 0, [])), ((-2147483648), 2147483647, 0, (0, 0, []), (0, 0, []))], [])])
set_option maxRecDepth 1000000 in
theorem ck_456 : ab_CT cm_ms hp hN 5 ct_456 := ab_chk_ok (us := [ct_455]) (inl := inl0) (hin := inl0_ok) (d := 3) (dd := 1) (n := 20000) (tms := []) cm_ms_ok cm_ms_rc hNP (List.forall_mem_cons.mpr ⟨ab_CT_up ck_455 (by decide), fun _ h => absurd h List.not_mem_nil⟩) (by decide +kernel) (by decide +kernel)
/-- Model.rest (130 steps) -/
noncomputable def ct_457 : ab_Ct := (280, [(1, 0, [124]), (3, 0, [])], [((-2147483648), 2147483647, 0, (0, 0, []), (0, 0, []))], [], [(124, [0, 11, 30])], [([(3, 1, [])], [((-2147483648), 2147483647, 0, (0, 0, []), (0, 0, [])), ((-2147483648), 2147483647, 0, (0, 0, []), (0, 0, []))], [])])
set_option maxRecDepth 1000000 in
theorem ck_457 : ab_CT cm_ms hp hN 5 ct_457 := ab_chk_ok (us := [ct_455]) (inl := inl0) (hin := inl0_ok) (d := 3) (dd := 1) (n := 20000) (tms := []) cm_ms_ok cm_ms_rc hNP (List.forall_mem_cons.mpr ⟨ab_CT_up ck_455 (by decide), fun _ h => absurd h List.not_mem_nil⟩) (by decide +kernel) (by decide +kernel)
/-- Model.odds BY HAND -/
noncomputable def ct_458 : ab_Ct := (282, [(1, 0, [124]), (3, 0, []), (3, 1, [])], [((-2147483648), 2147483647, 0, (0, 0, []), (0, 0, [])), (0, 1, 0, (0, 0, []), (0, 0, []))], [], [(124, [0, 11, 31, 32, 33]), (132, [])], [([(6, 0, [])], [((-2147483648), 2147483647, 0, (0, 0, []), (0, 0, [])), (0, 1, 0, (0, 0, []), (0, 0, []))], [])])
theorem ck_458 : ab_CT cm_ms hp hN 9 ct_458 := hd_od (d := 5) (by decide) (ab_CT_up ck_368 (by decide)) (ab_CT_up ck_359 (by decide)) (ab_CT_up ck_360 (by decide))
/-- Model.mean BY HAND -/
noncomputable def ct_459 : ab_Ct := (283, [(1, 0, [124]), (3, 0, []), (3, 1, [])], [((-2147483648), 2147483647, 0, (0, 0, []), (0, 0, [])), (0, 1, 0, (0, 0, []), (0, 0, []))], [], [(124, [0, 11, 31, 32, 33]), (132, [])], [([(6, 0, [])], [((-2147483648), 2147483647, 0, (0, 0, []), (0, 0, [])), (0, 1, 0, (0, 0, []), (0, 0, []))], [])])
theorem ck_459 : ab_CT cm_ms hp hN 9 ct_459 := hd_me (d := 5) (by decide) (ab_CT_up ck_368 (by decide)) (ab_CT_up ck_359 (by decide)) (ab_CT_up ck_360 (by decide))
/-- Model.shavesWhy@no (4 steps) -/
noncomputable def ct_460 : ab_Ct := (284, [(1, 0, [124]), (0, 0, []), (3, 0, []), (3, 1, []), (3, 2, [])], [((-2147483648), 2147483647, 0, (0, 0, []), (0, 0, [])), ((-2147483648), 2147483647, 0, (0, 0, []), (0, 0, [])), ((-2147483648), 2147483647, 0, (0, 0, []), (0, 0, []))], [], [], [([(0, 1, [])], [((-2147483648), 2147483647, 0, (0, 0, []), (0, 0, [])), ((-2147483648), 2147483647, 0, (0, 0, []), (0, 0, [])), ((-2147483648), 2147483647, 0, (0, 0, []), (0, 0, []))], [])])
set_option maxRecDepth 1000000 in
theorem ck_460 : ab_CT cm_ms hp hN 1 ct_460 := ab_chk_ok (us := []) (inl := inl0) (hin := inl0_ok) (d := 0) (dd := 0) (n := 20000) (tms := []) cm_ms_ok cm_ms_rc hNP (fun _ h => absurd h List.not_mem_nil) (by decide +kernel) (by decide +kernel)
/-- Model.shavesWhy@yes (124 steps) -/
noncomputable def ct_461 : ab_Ct := (284, [(1, 0, [124]), (0, 1, []), (3, 0, []), (3, 1, []), (3, 2, [])], [((-1), 4, 0, (0, 0, []), (0, 0, [])), ((-2147483648), 2147483647, 0, (0, 0, []), (0, 0, [])), ((-2147483648), 2147483647, 0, (0, 0, []), (0, 0, []))], [], [(124, [34]), (132, [])], [([(3, 3, [])], [((-1), 4, 0, (0, 0, []), (0, 0, [])), ((-2147483648), 2147483647, 0, (0, 0, []), (0, 0, [])), ((-2147483648), 2147483647, 0, (0, 0, []), (0, 0, [])), (0, 2, 0, (0, 0, []), (0, 0, []))], [])])
set_option maxRecDepth 1000000 in
theorem ck_461 : ab_CT cm_ms hp hN 7 ct_461 := ab_chk_ok (us := [ct_360, ct_366, ct_368]) (inl := inl0) (hin := inl0_ok) (d := 5) (dd := 1) (n := 20000) (tms := [((46, [(0, (1, 0, [124])), (2, (3, 0, [])), (4, (3, 2, [])), (5, (3, 3, [])), (6, (3, 4, []))], [], [((-1), 4, 0, (0, 0, []), (0, 0, [])), (0, 65536, 0, (0, 0, []), (0, 0, [])), (0, 60, 0, (0, 0, []), (0, 0, [])), (0, 65536, 0, (0, 0, []), (0, 0, [])), (1, 61, 0, (0, 0, []), (0, 0, [])), (0, 60, 0, (0, 0, []), (0, 0, []))], [(124, 34, (3, 5, []))]), [(0, 1, (0, 0, [])), ((-1), 2147483648, (3, 4, [])), (0, 1000, (0, 0, [])), (0, 0, (0, 0, []))]), ((64, [(0, (1, 0, [124])), (2, (3, 0, [])), (4, (3, 2, [])), (5, (3, 3, [])), (6, (3, 4, [])), (7, (3, 5, []))], [], [((-1), 4, 0, (0, 0, []), (0, 0, [])), (0, 65536, 0, (0, 0, []), (0, 0, [])), (1, 60, 0, (0, 0, []), (0, 0, [])), (0, 65536, 0, (0, 0, []), (0, 0, [])), (1, 60, 0, (0, 0, []), (0, 0, [])), (0, 6, 0, (0, 0, []), (0, 0, [])), (0, 60, 0, (0, 0, []), (0, 0, []))], [(124, 34, (3, 6, []))]), [(0, 1, (0, 0, [])), ((-1), 2147483648, (3, 4, [])), (0, 1, (0, 0, [])), ((-1), 2147483648, (3, 5, []))])]) cm_ms_ok cm_ms_rc hNP (List.forall_mem_cons.mpr ⟨ab_CT_up ck_360 (by decide), List.forall_mem_cons.mpr ⟨ab_CT_up ck_366 (by decide), List.forall_mem_cons.mpr ⟨ab_CT_up ck_368 (by decide), fun _ h => absurd h List.not_mem_nil⟩⟩⟩) (by decide +kernel) (by decide +kernel)
/-- Model.shaves (123 steps) -/
noncomputable def ct_462 : ab_Ct := (285, [(1, 0, [124]), (3, 0, []), (3, 1, []), (3, 2, [])], [((-2147483648), 2147483647, 0, (0, 0, []), (0, 0, [])), ((-2147483648), 2147483647, 0, (0, 0, []), (0, 0, [])), ((-2147483648), 2147483647, 0, (0, 0, []), (0, 0, []))], [], [(124, [0, 11, 34]), (132, [])], [([(3, 3, [])], [((-2147483648), 2147483647, 0, (0, 0, []), (0, 0, [])), ((-2147483648), 2147483647, 0, (0, 0, []), (0, 0, [])), ((-2147483648), 2147483647, 0, (0, 0, []), (0, 0, [])), ((-2147483648), 2147483647, 0, (0, 0, []), (0, 0, []))], [])])
set_option maxRecDepth 1000000 in
theorem ck_462 : ab_CT cm_ms hp hN 10 ct_462 := ab_chk_ok (us := [ct_460, ct_461]) (inl := inl0) (hin := inl0_ok) (d := 7) (dd := 2) (n := 20000) (tms := []) cm_ms_ok cm_ms_rc hNP (List.forall_mem_cons.mpr ⟨ab_CT_up ck_460 (by decide), List.forall_mem_cons.mpr ⟨ab_CT_up ck_461 (by decide), fun _ h => absurd h List.not_mem_nil⟩⟩) (by decide +kernel) (by decide +kernel)
/-- Model.carries (121 steps) -/
noncomputable def ct_463 : ab_Ct := (286, [(1, 0, [124]), (3, 0, []), (3, 1, []), (3, 2, [])], [((-2147483648), 2147483647, 0, (0, 0, []), (0, 0, [])), ((-2147483648), 2147483647, 0, (0, 0, []), (0, 0, [])), ((-2147483648), 2147483647, 0, (0, 0, []), (0, 0, []))], [], [(124, [0, 11, 34]), (132, [])], [([(3, 3, [])], [((-2147483648), 2147483647, 0, (0, 0, []), (0, 0, [])), ((-2147483648), 2147483647, 0, (0, 0, []), (0, 0, [])), ((-2147483648), 2147483647, 0, (0, 0, []), (0, 0, [])), ((-2147483648), 2147483647, 0, (0, 0, []), (0, 0, []))], [])])
set_option maxRecDepth 1000000 in
theorem ck_463 : ab_CT cm_ms hp hN 10 ct_463 := ab_chk_ok (us := [ct_460, ct_461]) (inl := inl0) (hin := inl0_ok) (d := 7) (dd := 2) (n := 20000) (tms := []) cm_ms_ok cm_ms_rc hNP (List.forall_mem_cons.mpr ⟨ab_CT_up ck_460 (by decide), List.forall_mem_cons.mpr ⟨ab_CT_up ck_461 (by decide), fun _ h => absurd h List.not_mem_nil⟩⟩) (by decide +kernel) (by decide +kernel)
/-- Model.note (63 steps) -/
noncomputable def ct_464 : ab_Ct := (287, [(1, 0, [124])], [], [], [(124, [20]), (130, [])], [([], [], [])])
set_option maxRecDepth 1000000 in
theorem ck_464 : ab_CT cm_ms hp hN 2 ct_464 := ab_chk_ok (us := [ct_291]) (inl := inl0) (hin := inl0_ok) (d := 1) (dd := 0) (n := 20000) (tms := [((11, [(0, (1, 0, [124])), (1, (3, 0, []))], [], [(0, 165, 0, (0, 0, []), (0, 0, []))], [(124, 20, (0, 16, []))]), [(0, 1, (0, 0, [])), ((-1), 2147483648, (3, 0, []))])]) cm_ms_ok cm_ms_rc hNP (List.forall_mem_cons.mpr ⟨ab_CT_up ck_291 (by decide), fun _ h => absurd h List.not_mem_nil⟩) (by decide +kernel) (by decide +kernel)
/-- Model.put (108 steps) -/
noncomputable def ct_465 : ab_Ct := (288, [(1, 0, [124]), (3, 0, [])], [((-2147483648), 2147483647, 0, (0, 0, []), (0, 0, []))], [], [(124, [0, 11, 20]), (129, [0, 1, 2, 3, 4, 5, 6, 7, 8, 9]), (130, []), (132, [0, 1, 2, 3, 4, 5, 6, 7, 8, 9])], [([(3, 1, [])], [((-2147483648), 2147483647, 0, (0, 0, []), (0, 0, [])), ((-1), 1, 0, (0, 0, []), (0, 0, []))], [])])
set_option maxRecDepth 1000000 in
theorem ck_465 : ab_CT cm_ms hp hN 9 ct_465 := ab_chk_ok (us := [ct_361, ct_365, ct_464]) (inl := inl0) (hin := inl0_ok) (d := 6) (dd := 2) (n := 20000) (tms := []) cm_ms_ok cm_ms_rc hNP (List.forall_mem_cons.mpr ⟨ab_CT_up ck_361 (by decide), List.forall_mem_cons.mpr ⟨ab_CT_up ck_365 (by decide), List.forall_mem_cons.mpr ⟨ab_CT_up ck_464 (by decide), fun _ h => absurd h List.not_mem_nil⟩⟩⟩) (by decide +kernel) (by decide +kernel)
/-- Model.week (47 steps) -/
noncomputable def ct_466 : ab_Ct := (289, [(1, 0, [124])], [], [], [(124, [0, 11, 20]), (129, [0, 1, 2, 3, 4, 5, 10]), (130, []), (132, [0, 1, 2, 3, 4, 5, 10])], [([(3, 0, [])], [((-2147483648), 2147483647, 0, (0, 0, []), (0, 0, []))], [])])
set_option maxRecDepth 1000000 in
theorem ck_466 : ab_CT cm_ms hp hN 4 ct_466 := ab_chk_ok (us := [ct_355, ct_367, ct_464]) (inl := inl0) (hin := inl0_ok) (d := 2) (dd := 1) (n := 20000) (tms := []) cm_ms_ok cm_ms_rc hNP (List.forall_mem_cons.mpr ⟨ab_CT_up ck_355 (by decide), List.forall_mem_cons.mpr ⟨ab_CT_up ck_367 (by decide), List.forall_mem_cons.mpr ⟨ab_CT_up ck_464 (by decide), fun _ h => absurd h List.not_mem_nil⟩⟩⟩) (by decide +kernel) (by decide +kernel)
/-- Model.shave (125 steps) -/
noncomputable def ct_467 : ab_Ct := (290, [(1, 0, [124]), (3, 0, [])], [((-2147483648), 2147483647, 0, (0, 0, []), (0, 0, []))], [], [(124, [0, 11, 20]), (129, [0, 1, 2, 3, 4, 5, 6, 7, 8]), (130, [])], [([(3, 1, [])], [((-2147483648), 2147483647, 0, (0, 0, []), (0, 0, [])), ((-2147483648), 2147483647, 0, (0, 0, []), (0, 0, []))], [])])
set_option maxRecDepth 1000000 in
theorem ck_467 : ab_CT cm_ms hp hN 5 ct_467 := ab_chk_ok (us := [ct_464]) (inl := inl0) (hin := inl0_ok) (d := 2) (dd := 2) (n := 20000) (tms := []) cm_ms_ok cm_ms_rc hNP (List.forall_mem_cons.mpr ⟨ab_CT_up ck_464 (by decide), fun _ h => absurd h List.not_mem_nil⟩) (by decide +kernel) (by decide +kernel)
/-- Model.undo (40 steps) -/
noncomputable def ct_468 : ab_Ct := (291, [(1, 0, [124])], [], [], [(124, [0, 11, 20]), (129, [])], [([(3, 0, [])], [(0, 1, 0, (0, 0, []), (0, 0, []))], [])])
set_option maxRecDepth 1000000 in
theorem ck_468 : ab_CT cm_ms hp hN 3 ct_468 := ab_chk_ok (us := [ct_292]) (inl := inl0) (hin := inl0_ok) (d := 1) (dd := 1) (n := 20000) (tms := []) cm_ms_ok cm_ms_rc hNP (List.forall_mem_cons.mpr ⟨ab_CT_up ck_292 (by decide), fun _ h => absurd h List.not_mem_nil⟩) (by decide +kernel) (by decide +kernel)
/-- Model.image (56 steps) -/
noncomputable def ct_469 : ab_Ct := (292, [(1, 0, [124])], [], [], [(124, [0, 11, 21]), (131, [])], [([(3, 0, [])], [((-1), 2, 0, (0, 0, []), (0, 0, []))], [])])
set_option maxRecDepth 1000000 in
theorem ck_469 : ab_CT cm_ms hp hN 3 ct_469 := ab_chk_ok (us := [ct_293]) (inl := inl0) (hin := inl0_ok) (d := 1) (dd := 1) (n := 20000) (tms := []) cm_ms_ok cm_ms_rc hNP (List.forall_mem_cons.mpr ⟨ab_CT_up ck_293 (by decide), fun _ h => absurd h List.not_mem_nil⟩) (by decide +kernel) (by decide +kernel)
/-- Model.back (65 steps) -/
noncomputable def ct_470 : ab_Ct := (293, [(1, 0, [124]), (3, 0, [])], [((-2147483648), 2147483647, 0, (0, 0, []), (0, 0, []))], [], [(124, [0, 11, 20]), (129, [])], [([(3, 1, [])], [((-2147483648), 2147483647, 0, (0, 0, []), (0, 0, [])), (0, 1, 0, (0, 0, []), (0, 0, []))], [])])
set_option maxRecDepth 1000000 in
theorem ck_470 : ab_CT cm_ms hp hN 3 ct_470 := ab_chk_ok (us := [ct_294]) (inl := inl0) (hin := inl0_ok) (d := 1) (dd := 1) (n := 20000) (tms := []) cm_ms_ok cm_ms_rc hNP (List.forall_mem_cons.mpr ⟨ab_CT_up ck_294 (by decide), fun _ h => absurd h List.not_mem_nil⟩) (by decide +kernel) (by decide +kernel)
/-- Model.led (57 steps) -/
noncomputable def ct_471 : ab_Ct := (294, [(1, 0, [124]), (3, 0, [])], [((-2147483648), 2147483647, 0, (0, 0, []), (0, 0, []))], [], [(124, [0])], [([(3, 1, [])], [((-2147483648), 2147483647, 0, (0, 0, []), (0, 0, [])), (0, 4, 0, (0, 0, []), (0, 0, []))], [])])
set_option maxRecDepth 1000000 in
theorem ck_471 : ab_CT cm_ms hp hN 2 ct_471 := ab_chk_ok (us := []) (inl := inl0) (hin := inl0_ok) (d := 0) (dd := 1) (n := 20000) (tms := [((4, [(0, (1, 0, [124])), (1, (3, 0, [])), (2, (3, 1, [])), (3, (3, 2, []))], [], [((-2147483648), 2147483647, 0, (0, 0, []), (0, 0, [])), ((-2147483648), 2147483647, 0, (0, 0, []), (0, 0, [])), (0, 5, 0, (0, 0, []), (0, 0, []))], []), [(0, 1, (0, 0, [])), ((-1), 2147483648, (3, 2, []))])]) cm_ms_ok cm_ms_rc hNP (fun _ h => absurd h List.not_mem_nil) (by decide +kernel) (by decide +kernel)
/-- Model.size (100 steps) -/
noncomputable def ct_472 : ab_Ct := (295, [(1, 0, [124]), (3, 0, [])], [((-2147483648), 2147483647, 0, (0, 0, []), (0, 0, []))], [], [(124, [0])], [([(3, 1, [])], [((-2147483648), 2147483647, 0, (0, 0, []), (0, 0, [])), ((-2147483648), 2147483647, 0, (0, 0, []), (0, 0, []))], [])])
set_option maxRecDepth 1000000 in
theorem ck_472 : ab_CT cm_ms hp hN 2 ct_472 := ab_chk_ok (us := []) (inl := inl0) (hin := inl0_ok) (d := 0) (dd := 1) (n := 20000) (tms := []) cm_ms_ok cm_ms_rc hNP (fun _ h => absurd h List.not_mem_nil) (by decide +kernel) (by decide +kernel)
/-- Model.trouble (6 steps) -/
noncomputable def ct_473 : ab_Ct := (296, [(1, 0, [124])], [], [], [(124, [0])], [([(3, 0, [])], [((-2147483648), 2147483647, 0, (0, 0, []), (0, 0, []))], [])])
set_option maxRecDepth 1000000 in
theorem ck_473 : ab_CT cm_ms hp hN 1 ct_473 := ab_chk_ok (us := []) (inl := inl0) (hin := inl0_ok) (d := 0) (dd := 0) (n := 20000) (tms := []) cm_ms_ok cm_ms_rc hNP (fun _ h => absurd h List.not_mem_nil) (by decide +kernel) (by decide +kernel)
noncomputable def nr_0 : ev_MI := (⟨"BarberMinutes", "<init>", "()V"⟩, prog_1_method_1_code, 1, none, 123, 1562, [(0, 9, 0, 0, 0, []), (1, 66, 1, 0, 0, []), (4, 9, 0, 0, 0, []), (5, 2, 900, 0, 0, []), (8, 59, 0, 0, 0, []), (10, 51, 8, 0, 9, []), (13, 9, 0, 0, 0, []), (14, 62, 4, 0, 13, []), (17, 31, 0, 0, 0, []), (18, 203, 2, 15, 0, []), (21, 51, 8, 2, 16, []), (24, 9, 0, 0, 0, []), (25, 62, 7, 0, 20, []), (28, 31, 0, 0, 0, []), (29, 203, 3, 22, 0, []), (32, 50, 8, 3, 23, []), (35, 9, 0, 0, 0, []), (36, 62, 7, 0, 20, []), (39, 31, 0, 0, 0, []), (40, 203, 3, 22, 0, []), (43, 50, 8, 4, 27, []), (46, 9, 0, 0, 0, []), (47, 62, 2, 0, 30, []), (50, 31, 0, 0, 0, []), (51, 203, 4, 32, 0, []), (54, 51, 8, 5, 33, []), (57, 9, 0, 0, 0, []), (58, 62, 2, 0, 30, []), (61, 31, 0, 0, 0, []), (62, 203, 4, 32, 0, []), (65, 51, 8, 6, 37, []), (68, 9, 0, 0, 0, []), (69, 62, 3, 0, 40, []), (72, 31, 0, 0, 0, []), (73, 202, 5, 42, 0, []), (76, 51, 8, 7, 43, []), (79, 9, 0, 0, 0, []), (80, 62, 0, 0, 47, []), (83, 31, 0, 0, 0, []), (84, 202, 6, 49, 0, []), (87, 51, 8, 8, 50, []), (90, 9, 0, 0, 0, []), (91, 62, 6, 0, 54, []), (94, 31, 0, 0, 0, []), (95, 203, 7, 56, 0, []), (98, 51, 8, 9, 57, []), (101, 9, 0, 0, 0, []), (102, 62, 5, 0, 61, []), (105, 31, 0, 0, 0, []), (106, 203, 8, 63, 0, []), (109, 51, 8, 10, 64, []), (112, 9, 0, 0, 0, []), (113, 62, 1, 0, 68, []), (116, 31, 0, 0, 0, []), (117, 203, 9, 70, 0, []), (120, 51, 8, 11, 71, []), (123, 213, 0, 0, 0, [])])
noncomputable def nr_1 : ev_MI := (⟨"BarberMinutesModel", "<init>", "()V"⟩, prog_11_method_1_code, 1, none, 11, 1580, [(0, 9, 0, 0, 0, []), (1, 66, 1, 0, 0, []), (4, 9, 0, 0, 0, []), (5, 2, 900, 0, 0, []), (8, 58, 0, 0, 0, []), (10, 51, 9, 1, 7, []), (13, 9, 0, 0, 0, []), (14, 0, (-1), 0, 0, []), (15, 50, 9, 10, 13, []), (18, 9, 0, 0, 0, []), (19, 1, 8, 0, 0, []), (21, 58, 0, 0, 0, []), (23, 51, 9, 12, 17, []), (26, 9, 0, 0, 0, []), (27, 2, 213, 0, 0, []), (30, 58, 0, 0, 0, []), (32, 51, 9, 15, 20, []), (35, 9, 0, 0, 0, []), (36, 2, 213, 0, 0, []), (39, 58, 0, 0, 0, []), (41, 51, 9, 16, 23, []), (44, 9, 0, 0, 0, []), (45, 1, 11, 0, 0, []), (47, 58, 0, 0, 0, []), (49, 51, 9, 17, 26, []), (52, 9, 0, 0, 0, []), (53, 2, 176, 0, 0, []), (56, 58, 0, 0, 0, []), (58, 51, 9, 18, 29, []), (61, 9, 0, 0, 0, []), (62, 1, 33, 0, 0, []), (64, 58, 0, 0, 0, []), (66, 51, 9, 19, 32, []), (69, 9, 0, 0, 0, []), (70, 1, 11, 0, 0, []), (72, 58, 0, 0, 0, []), (74, 51, 9, 22, 35, []), (77, 9, 0, 0, 0, []), (78, 0, 5, 0, 0, []), (79, 58, 0, 0, 0, []), (81, 51, 9, 23, 38, []), (84, 9, 0, 0, 0, []), (85, 0, 5, 0, 0, []), (86, 58, 0, 0, 0, []), (88, 51, 9, 24, 41, []), (91, 9, 0, 0, 0, []), (92, 0, 5, 0, 0, []), (93, 58, 0, 0, 0, []), (95, 51, 9, 26, 44, []), (98, 213, 0, 0, 0, [])])
noncomputable def nr_2 : ev_MI := (⟨"BarberMinutes$Reader", "<init>", "()V"⟩, prog_6_method_1_code, 1, none, 3, 48, [(0, 9, 0, 0, 0, []), (1, 66, 3, 0, 0, []), (4, 9, 0, 0, 0, []), (5, 1, 16, 0, 0, []), (7, 60, 0, 0, 0, []), (9, 51, 4, 11, 11, []), (12, 9, 0, 0, 0, []), (13, 1, 16, 0, 0, []), (15, 58, 0, 0, 0, []), (17, 51, 4, 12, 15, []), (20, 9, 0, 0, 0, []), (21, 1, 16, 0, 0, []), (23, 58, 0, 0, 0, []), (25, 51, 4, 13, 19, []), (28, 213, 0, 0, 0, [])])
noncomputable def nr_3 : ev_MI := (⟨"BarberMinutes$Town", "<init>", "()V"⟩, prog_9_method_1_code, 1, none, 12, 63, [(0, 9, 0, 0, 0, []), (1, 66, 3, 0, 0, []), (4, 9, 0, 0, 0, []), (5, 1, 6, 0, 0, []), (7, 58, 0, 0, 0, []), (9, 51, 7, 4, 9, []), (12, 9, 0, 0, 0, []), (13, 1, 6, 0, 0, []), (15, 58, 0, 0, 0, []), (17, 51, 7, 5, 15, []), (20, 9, 0, 0, 0, []), (21, 1, 6, 0, 0, []), (23, 58, 0, 0, 0, []), (25, 51, 7, 6, 18, []), (28, 9, 0, 0, 0, []), (29, 1, 6, 0, 0, []), (31, 58, 0, 0, 0, []), (33, 51, 7, 7, 21, []), (36, 9, 0, 0, 0, []), (37, 1, 6, 0, 0, []), (39, 58, 0, 0, 0, []), (41, 51, 7, 8, 24, []), (44, 9, 0, 0, 0, []), (45, 0, 5, 0, 0, []), (46, 58, 0, 0, 0, []), (48, 51, 7, 10, 27, []), (51, 9, 0, 0, 0, []), (52, 0, 5, 0, 0, []), (53, 58, 0, 0, 0, []), (55, 51, 7, 11, 30, []), (58, 9, 0, 0, 0, []), (59, 0, 5, 0, 0, []), (60, 58, 0, 0, 0, []), (62, 51, 7, 12, 33, []), (65, 9, 0, 0, 0, []), (66, 0, 5, 0, 0, []), (67, 58, 0, 0, 0, []), (69, 51, 7, 13, 36, []), (72, 9, 0, 0, 0, []), (73, 0, 5, 0, 0, []), (74, 58, 0, 0, 0, []), (76, 51, 7, 14, 39, []), (79, 9, 0, 0, 0, []), (80, 0, 5, 0, 0, []), (81, 58, 0, 0, 0, []), (83, 51, 7, 16, 42, []), (86, 9, 0, 0, 0, []), (87, 0, 3, 0, 0, []), (88, 58, 0, 0, 0, []), (90, 51, 7, 17, 45, []), (93, 213, 0, 0, 0, [])])
noncomputable def nr_4 : ev_MI := (⟨"BarberMinutes$Minutes", "<init>", "()V"⟩, prog_4_method_1_code, 1, none, 2, 9, [(0, 9, 0, 0, 0, []), (1, 66, 3, 0, 0, []), (4, 9, 0, 0, 0, []), (5, 1, 6, 0, 0, []), (7, 58, 0, 0, 0, []), (9, 51, 2, 0, 9, []), (12, 9, 0, 0, 0, []), (13, 0, 3, 0, 0, []), (14, 58, 0, 0, 0, []), (16, 51, 2, 1, 15, []), (19, 213, 0, 0, 0, [])])
noncomputable def nr_5 : ev_MI := (⟨"BarberMinutes$Past", "<init>", "()V"⟩, prog_5_method_1_code, 2, none, 59, 266, [(0, 9, 0, 0, 0, []), (1, 66, 3, 0, 0, []), (4, 9, 0, 0, 0, []), (5, 1, 16, 0, 0, []), (7, 61, 9, 0, 0, []), (10, 51, 3, 0, 11, []), (13, 9, 0, 0, 0, []), (14, 0, 3, 0, 0, []), (15, 61, 9, 0, 0, []), (18, 51, 3, 1, 17, []), (21, 0, 0, 0, 0, []), (22, 11, 1, 0, 0, []), (23, 5, 1, 0, 0, []), (24, 1, 16, 0, 0, []), (26, 38, 22, 0, 0, []), (29, 9, 0, 0, 0, []), (30, 49, 3, 0, 11, []), (33, 5, 1, 0, 0, []), (34, 62, 2, 0, 9, []), (37, 31, 0, 0, 0, []), (38, 203, 4, 20, 0, []), (41, 63, 0, 0, 0, []), (42, 34, 1, 1, 0, []), (45, 47, (-22), 0, 0, []), (48, 0, 0, 0, 0, []), (49, 11, 1, 0, 0, []), (50, 5, 1, 0, 0, []), (51, 0, 3, 0, 0, []), (52, 38, 22, 0, 0, []), (55, 9, 0, 0, 0, []), (56, 49, 3, 1, 17, []), (59, 5, 1, 0, 0, []), (60, 62, 2, 0, 9, []), (63, 31, 0, 0, 0, []), (64, 203, 4, 20, 0, []), (67, 63, 0, 0, 0, []), (68, 34, 1, 1, 0, []), (71, 47, (-21), 0, 0, []), (74, 213, 0, 0, 0, [])])
noncomputable def nr_6 : ev_MI := (⟨"BarberMinutes$Agenda", "<init>", "()V"⟩, prog_2_method_1_code, 2, none, 16, 70, [(0, 9, 0, 0, 0, []), (1, 66, 3, 0, 0, []), (4, 9, 0, 0, 0, []), (5, 0, 5, 0, 0, []), (6, 61, 9, 0, 0, []), (9, 51, 0, 0, 11, []), (12, 0, 0, 0, 0, []), (13, 11, 1, 0, 0, []), (14, 5, 1, 0, 0, []), (15, 0, 4, 0, 0, []), (16, 39, 22, 0, 0, []), (19, 9, 0, 0, 0, []), (20, 49, 0, 0, 11, []), (23, 5, 1, 0, 0, []), (24, 62, 2, 0, 9, []), (27, 31, 0, 0, 0, []), (28, 203, 4, 17, 0, []), (31, 63, 0, 0, 0, []), (32, 34, 1, 1, 0, []), (35, 47, (-21), 0, 0, []), (38, 213, 0, 0, 0, [])])
noncomputable def nr_7 : ev_MI := (⟨"BarberMinutes$Tour", "<init>", "()V"⟩, prog_8_method_1_code, 1, none, 2, 10, [(0, 9, 0, 0, 0, []), (1, 66, 3, 0, 0, []), (4, 9, 0, 0, 0, []), (5, 0, 5, 0, 0, []), (6, 58, 0, 0, 0, []), (8, 51, 6, 0, 9, []), (11, 9, 0, 0, 0, []), (12, 0, 5, 0, 0, []), (13, 58, 0, 0, 0, []), (15, 51, 6, 1, 15, []), (18, 213, 0, 0, 0, [])])
noncomputable def nr_8 : ev_MI := (⟨"BarberMinutes$Sweepings", "<init>", "()V"⟩, prog_7_method_1_code, 1, none, 4, 45, [(0, 9, 0, 0, 0, []), (1, 66, 3, 0, 0, []), (4, 9, 0, 0, 0, []), (5, 1, 32, 0, 0, []), (7, 58, 0, 0, 0, []), (9, 51, 5, 0, 9, []), (12, 9, 0, 0, 0, []), (13, 62, 2, 0, 15, []), (16, 31, 0, 0, 0, []), (17, 203, 4, 17, 0, []), (20, 51, 5, 2, 18, []), (23, 213, 0, 0, 0, [])])
noncomputable def nr_9 : ev_MI := (⟨"BarberMinutes$Chance", "<init>", "()V"⟩, prog_3_method_1_code, 1, none, 0, 0, [(0, 9, 0, 0, 0, []), (1, 66, 3, 0, 0, []), (4, 213, 0, 0, 0, [])])
noncomputable def ev_ms : List ev_MI := [nr_0, nr_1, nr_2, nr_3, nr_4, nr_5, nr_6, nr_7, nr_8, nr_9]
noncomputable def law_a : List (Nat × ev_Row) := [(0, 62, 8, 0, 8, []), (3, 31, 0, 0, 0, []), (4, 202, 0, 15, 0, []), (7, 15, 1, 0, 0, []), (8, 62, 9, 0, 16, []), (11, 31, 0, 0, 0, []), (12, 202, 1, 18, 0, []), (15, 15, 2, 0, 0, []), (16, 0, 1, 0, 0, []), (17, 60, 0, 0, 0, []), (19, 15, 3, 0, 0, []), (20, 0, 0, 0, 0, []), (21, 10, 4, 0, 0, [])]
noncomputable abbrev law_P (Ls : Nat) : ev_P := (601024, 7293034, false, "BarberMinutesLaw", 7, Ls)
noncomputable def ev_chk (ms : List ev_MI) (P : ev_P) (cc : ByteArray) (q : Nat × ev_Row) (ps : List Nat) : Bool := match ev_rowI ms P q.2 with
  | some (i, n, cs) => fd_at cc q.1 i n && (decide (cs.map some = ps.map lw_at) && cs.all goodWord)
  | none => false
noncomputable def ev_chkN (ms : List ev_MI) (P : ev_P) (q : Nat × ev_Row) (n : Nat) : Bool := if q.2.1 = 203 then (match ms[q.2.2.1.toNat]? with
  | some mi => decide (lw_at n = some (Cond.methodLinkNest P.2.2.2.1 q.2.2.2.1.toNat mi.1 "BarberMinutes"))
  | none => true) else true
noncomputable def ev_chkAll (ms : List ev_MI) (P : ev_P) (cc : ByteArray) : List (Nat × ev_Row) → List (List Nat × Nat) → Bool
  | [], [] => true
  | q :: rows, p :: ps => ev_chk ms P cc q p.1 && (ev_chkN ms P q p.2 && ev_chkAll ms P cc rows ps)
  | _, _ => false
theorem ev_chkAll_ok {ms : List ev_MI} {P : ev_P} {cc : ByteArray} : ∀ {rows : List (Nat × ev_Row)} {ps : List (List Nat × Nat)}, ev_chkAll ms P cc rows ps = true → ∀ q ∈ rows, ev_RowOK ms P cc q
  | [], [], _ => fun q hq => nomatch hq
  | [], _ :: _, h => by cases h
  | _ :: _, [], h => by cases h
  | q :: rows, p :: ps, h => by
    unfold ev_chkAll at h
    simp only [Bool.and_eq_true] at h
    obtain ⟨h1, h2, h3⟩ := h
    intro q' hq'
    rcases List.mem_cons.mp hq' with rfl | hq'
    · refine ⟨?_, fun h203 mi hmi => ?_⟩
      · unfold ev_chk at h1
        split at h1
        · rename_i i n cs hi
          simp only [Bool.and_eq_true, decide_eq_true_eq] at h1
          obtain ⟨a1, a2, a3⟩ := h1
          refine ⟨i, n, cs, hi, fd_at_ok a1, fun w hw => ?_⟩
          have hg := List.all_eq_true.mp a3 w hw
          have hm : some w ∈ p.1.map lw_at := by rw [← a2]; exact List.mem_map.mpr ⟨w, hw, rfl⟩
          obtain ⟨j, -, hj⟩ := List.mem_map.mp hm
          exact lw_good_at j (lw_at_ok hj) hg
        · cases h1
      · unfold ev_chkN at h2
        rw [if_pos h203, hmi] at h2
        have h2 := lw_at_ok (of_decide_eq_true h2)
        exact List.mem_filter.mpr ⟨List.mem_of_getElem? h2, rfl⟩
    · exact ev_chkAll_ok h3 q' hq'
noncomputable def ev_chkM (ms : List ev_MI) (mi : ev_MI) (j : Nat) (ps : List (List Nat × Nat)) : Bool :=
  plainName mi.1.cls && (decide (lw_tbl[j]? = some (Cond.code mi.1 mi.2.1 mi.2.2.1 mi.2.2.2.1)) && (decide (mi.2.2.1 ≤ 21) && (decide (mi.1.cls ≠ "java/lang/invoke/MethodHandle" ∧ mi.1.cls ≠ "java/lang/invoke/VarHandle") && ev_chkAll ms (mi.2.2.2.2.1, mi.2.2.2.2.2.1, decide (mi.1.name = "<init>"), mi.1.cls, mi.2.2.1, 0) mi.2.1 mi.2.2.2.2.2.2 ps)))
theorem ev_chkM_ok {ms : List ev_MI} {mi : ev_MI} {j : Nat} {ps : List (List Nat × Nat)} (h : ev_chkM ms mi j ps = true) : ev_MOK ms mi := by
  unfold ev_chkM at h
  simp only [Bool.and_eq_true, decide_eq_true_eq] at h
  obtain ⟨h1, h2, h3, h4, h5⟩ := h
  refine ⟨h1, lw_good_at j h2 ?_, h3, h4, ev_chkAll_ok h5⟩
  rfl
set_option maxRecDepth 1000000 in
theorem nk_0 : ev_MOK ev_ms nr_0 := ev_chkM_ok (j := 141) (ps := [([], 0), ([142, 143, 144], 0), ([], 0), ([], 0), ([194], 0), ([442], 0), ([], 0), ([145, 146, 117], 0), ([], 0), ([148, 117], 147), ([444], 0), ([], 0), ([197, 198, 118], 0), ([], 0), ([200, 118], 199), ([445], 0), ([], 0), ([197, 198, 118], 0), ([], 0), ([200, 118], 199), ([446], 0), ([], 0), ([306, 307, 119], 0), ([], 0), ([309, 119], 308), ([447], 0), ([], 0), ([306, 307, 119], 0), ([], 0), ([309, 119], 308), ([448], 0), ([], 0), ([331, 332, 120], 0), ([], 0), ([333, 334, 120], 0), ([449], 0), ([], 0), ([358, 359, 121], 0), ([], 0), ([360, 361, 121], 0), ([450], 0), ([], 0), ([385, 386, 122], 0), ([], 0), ([388, 122], 387), ([451], 0), ([], 0), ([403, 404, 123], 0), ([], 0), ([406, 123], 405), ([452], 0), ([], 0), ([423, 424, 124], 0), ([], 0), ([426, 124], 425), ([453], 0), ([], 0)]) (by decide +kernel)
set_option maxRecDepth 1000000 in
theorem nk_1 : ev_MOK ev_ms nr_1 := ev_chkM_ok (j := 1301) (ps := [([], 0), ([1302, 143, 144], 0), ([], 0), ([], 0), ([196], 0), ([1304], 0), ([], 0), ([], 0), ([1313], 0), ([], 0), ([], 0), ([196], 0), ([1315], 0), ([], 0), ([], 0), ([196], 0), ([1318], 0), ([], 0), ([], 0), ([196], 0), ([1319], 0), ([], 0), ([], 0), ([196], 0), ([1320], 0), ([], 0), ([], 0), ([196], 0), ([1321], 0), ([], 0), ([], 0), ([196], 0), ([1322], 0), ([], 0), ([], 0), ([196], 0), ([1325], 0), ([], 0), ([], 0), ([196], 0), ([1326], 0), ([], 0), ([], 0), ([196], 0), ([1327], 0), ([], 0), ([], 0), ([196], 0), ([1329], 0), ([], 0)]) (by decide +kernel)
set_option maxRecDepth 1000000 in
theorem nk_2 : ev_MOK ev_ms nr_2 := ev_chkM_ok (j := 149) (ps := [([], 0), ([150, 143, 144], 0), ([], 0), ([], 0), ([195], 0), ([162], 0), ([], 0), ([], 0), ([196], 0), ([163], 0), ([], 0), ([], 0), ([196], 0), ([164], 0), ([], 0)]) (by decide +kernel)
set_option maxRecDepth 1000000 in
theorem nk_3 : ev_MOK ev_ms nr_3 := ev_chkM_ok (j := 201) (ps := [([], 0), ([202, 143, 144], 0), ([], 0), ([], 0), ([196], 0), ([220], 0), ([], 0), ([], 0), ([196], 0), ([223], 0), ([], 0), ([], 0), ([196], 0), ([225], 0), ([], 0), ([], 0), ([196], 0), ([228], 0), ([], 0), ([], 0), ([196], 0), ([232], 0), ([], 0), ([], 0), ([196], 0), ([241], 0), ([], 0), ([], 0), ([196], 0), ([244], 0), ([], 0), ([], 0), ([196], 0), ([248], 0), ([], 0), ([], 0), ([196], 0), ([251], 0), ([], 0), ([], 0), ([196], 0), ([255], 0), ([], 0), ([], 0), ([196], 0), ([260], 0), ([], 0), ([], 0), ([196], 0), ([261], 0), ([], 0)]) (by decide +kernel)
set_option maxRecDepth 1000000 in
theorem nk_4 : ev_MOK ev_ms nr_4 := ev_chkM_ok (j := 310) (ps := [([], 0), ([311, 143, 144], 0), ([], 0), ([], 0), ([196], 0), ([312], 0), ([], 0), ([], 0), ([196], 0), ([315], 0), ([], 0)]) (by decide +kernel)
set_option maxRecDepth 1000000 in
theorem nk_5 : ev_MOK ev_ms nr_5 := ev_chkM_ok (j := 335) (ps := [([], 0), ([336, 143, 144], 0), ([], 0), ([], 0), ([337], 0), ([340], 0), ([], 0), ([], 0), ([337], 0), ([341], 0), ([], 0), ([], 0), ([], 0), ([], 0), ([], 0), ([], 0), ([340], 0), ([], 0), ([337, 307, 119], 0), ([], 0), ([309, 119], 339), ([], 0), ([], 0), ([], 0), ([], 0), ([], 0), ([], 0), ([], 0), ([], 0), ([], 0), ([341], 0), ([], 0), ([337, 307, 119], 0), ([], 0), ([309, 119], 339), ([], 0), ([], 0), ([], 0), ([], 0)]) (by decide +kernel)
set_option maxRecDepth 1000000 in
theorem nk_6 : ev_MOK ev_ms nr_6 := ev_chkM_ok (j := 362) (ps := [([], 0), ([363, 143, 144], 0), ([], 0), ([], 0), ([364], 0), ([366], 0), ([], 0), ([], 0), ([], 0), ([], 0), ([], 0), ([], 0), ([366], 0), ([], 0), ([364, 307, 119], 0), ([], 0), ([309, 119], 365), ([], 0), ([], 0), ([], 0), ([], 0)]) (by decide +kernel)
set_option maxRecDepth 1000000 in
theorem nk_7 : ev_MOK ev_ms nr_7 := ev_chkM_ok (j := 389) (ps := [([], 0), ([390, 143, 144], 0), ([], 0), ([], 0), ([196], 0), ([391], 0), ([], 0), ([], 0), ([196], 0), ([392], 0), ([], 0)]) (by decide +kernel)
set_option maxRecDepth 1000000 in
theorem nk_8 : ev_MOK ev_ms nr_8 := ev_chkM_ok (j := 407) (ps := [([], 0), ([408, 143, 144], 0), ([], 0), ([], 0), ([196], 0), ([411], 0), ([], 0), ([409, 307, 119], 0), ([], 0), ([309, 119], 410), ([415], 0), ([], 0)]) (by decide +kernel)
set_option maxRecDepth 1000000 in
theorem nk_9 : ev_MOK ev_ms nr_9 := ev_chkM_ok (j := 427) (ps := [([], 0), ([428, 143, 144], 0), ([], 0)]) (by decide +kernel)
set_option maxRecDepth 1000000 in
theorem law_a_ok : ∀ q ∈ law_a, ev_RowOK ev_ms (law_P 0) code q := ev_chkAll_ok (ps := [([137, 138, 116], 0), ([], 0), ([139, 140, 116], 0), ([], 0), ([1297, 1298, 125], 0), ([], 0), ([1299, 1300, 125], 0), ([], 0), ([], 0), ([195], 0), ([], 0), ([], 0), ([], 0)]) (by decide +kernel)
noncomputable def ns_0 : List ev_MI := [nr_0, nr_1, nr_2, nr_3, nr_4, nr_5, nr_6, nr_7, nr_8, nr_9]
theorem nb_0 : ∀ q ∈ ns_0, ev_MOK ev_ms q := List.forall_mem_cons.mpr ⟨nk_0, List.forall_mem_cons.mpr ⟨nk_1, List.forall_mem_cons.mpr ⟨nk_2, List.forall_mem_cons.mpr ⟨nk_3, List.forall_mem_cons.mpr ⟨nk_4, List.forall_mem_cons.mpr ⟨nk_5, List.forall_mem_cons.mpr ⟨nk_6, List.forall_mem_cons.mpr ⟨nk_7, List.forall_mem_cons.mpr ⟨nk_8, List.forall_mem_cons.mpr ⟨nk_9, fun _ h => absurd h List.not_mem_nil⟩⟩⟩⟩⟩⟩⟩⟩⟩⟩
set_option maxRecDepth 1000000 in
theorem ev_ms_eq : ev_ms = ns_0 := rfl
theorem ev_ms_ok : ∀ (k : Nat) (mi : ev_MI), ev_ms[k]? = some mi → ev_MOK ev_ms mi := fun k mi h => (by rw [ev_ms_eq]; exact nb_0 : ∀ q ∈ ev_ms, ev_MOK ev_ms q) mi (List.mem_of_getElem? h)
noncomputable def ev_eqS (a b : ev_S) : Bool := decide (a.1 = b.1) && (decide (a.2.1 = b.2.1) && (decide (a.2.2.1 = b.2.2.1) && (decide (a.2.2.2.1 = b.2.2.2.1) && (decide (a.2.2.2.2.1 = b.2.2.2.2.1) && (decide (a.2.2.2.2.2.1 = b.2.2.2.2.2.1) && decide (a.2.2.2.2.2.2 = b.2.2.2.2.2.2))))))
theorem ev_eqS_ok {a b : ev_S} (h : ev_eqS a b = true) : a = b := by
  obtain ⟨a1, a2, a3, a4, a5, a6, a7⟩ := a
  obtain ⟨b1, b2, b3, b4, b5, b6, b7⟩ := b
  simp only [ev_eqS, Bool.and_eq_true, decide_eq_true_eq] at h
  obtain ⟨rfl, rfl, rfl, rfl, rfl, rfl, rfl⟩ := h
  rfl
noncomputable def ev_eqL : List ev_S → List ev_S → Bool
  | [], [] => true
  | a :: l, b :: k => ev_eqS a b && ev_eqL l k
  | _, _ => false
theorem ev_eqL_ok : ∀ {l k : List ev_S}, ev_eqL l k = true → l = k
  | [], [], _ => rfl
  | [], _ :: _, h => by cases h
  | _ :: _, [], h => by cases h
  | a :: l, b :: k, h => by
    unfold ev_eqL at h
    simp only [Bool.and_eq_true] at h
    rw [ev_eqS_ok h.1, ev_eqL_ok h.2]
noncomputable def ev_eqO (o : Option (List ev_S)) (k : List ev_S) : Bool := match o with
  | some l => ev_eqL l k
  | none => false
theorem ev_eqO_ok {o : Option (List ev_S)} {k : List ev_S} (h : ev_eqO o k = true) : o = some k := by
  unfold ev_eqO at h
  split at h
  · rw [ev_eqL_ok h]
  · cases h
noncomputable def st_w : List ev_C := [(8, [(1, 1), (0, 0), (1, 2), (1, 6), (1, 19), (1, 32), (1, 35), (1, 38), (1, 98), (1, 115), (1, 118), (1, 123), (0, 0), (0, 0), (0, 0)]),
  (101, List.replicate 900 (0, 0)),
  (4, [(2, 0), (0, 0), (0, 0), (0, 0), (0, 0), (0, 0), (4, 0), (2, 0), (0, 0), (0, 0), (0, 0), (1, 3), (1, 4), (1, 5)]),
  (102, [(4, 0), (4, 0), (4, 0), (4, 0), (4, 0), (4, 0), (4, 0), (4, 0), (4, 0), (4, 0), (4, 0), (4, 0), (4, 0), (4, 0), (4, 0), (4, 0)]),
  (100, [(0, 0), (0, 0), (0, 0), (0, 0), (0, 0), (0, 0), (0, 0), (0, 0), (0, 0), (0, 0), (0, 0), (0, 0), (0, 0), (0, 0), (0, 0), (0, 0)]),
  (100, [(0, 0), (0, 0), (0, 0), (0, 0), (0, 0), (0, 0), (0, 0), (0, 0), (0, 0), (0, 0), (0, 0), (0, 0), (0, 0), (0, 0), (0, 0), (0, 0)]),
  (7, [(0, 0), (0, 0), (0, 0), (0, 0), (1, 7), (1, 8), (1, 9), (1, 10), (1, 11), (0, 0), (1, 12), (1, 13), (1, 14), (1, 15), (1, 16), (0, 0), (1, 17), (1, 18), (0, 0)]),
  (100, [(0, 0), (0, 0), (0, 0), (0, 0), (0, 0), (0, 0)]),
  (100, [(0, 0), (0, 0), (0, 0), (0, 0), (0, 0), (0, 0)]),
  (100, [(0, 0), (0, 0), (0, 0), (0, 0), (0, 0), (0, 0)]),
  (100, [(0, 0), (0, 0), (0, 0), (0, 0), (0, 0), (0, 0)]),
  (100, [(0, 0), (0, 0), (0, 0), (0, 0), (0, 0), (0, 0)]),
  (100, [(0, 0), (0, 0), (0, 0), (0, 0), (0, 0)]),
  (100, [(0, 0), (0, 0), (0, 0), (0, 0), (0, 0)]),
  (100, [(0, 0), (0, 0), (0, 0), (0, 0), (0, 0)]),
  (100, [(0, 0), (0, 0), (0, 0), (0, 0), (0, 0)]),
  (100, [(0, 0), (0, 0), (0, 0), (0, 0), (0, 0)]),
  (100, [(0, 0), (0, 0), (0, 0), (0, 0), (0, 0)]),
  (100, [(0, 0), (0, 0), (0, 0)]),
  (7, [(0, 0), (0, 0), (0, 0), (0, 0), (1, 20), (1, 21), (1, 22), (1, 23), (1, 24), (0, 0), (1, 25), (1, 26), (1, 27), (1, 28), (1, 29), (0, 0), (1, 30), (1, 31), (0, 0)]),
  (100, [(0, 0), (0, 0), (0, 0), (0, 0), (0, 0), (0, 0)]),
  (100, [(0, 0), (0, 0), (0, 0), (0, 0), (0, 0), (0, 0)]),
  (100, [(0, 0), (0, 0), (0, 0), (0, 0), (0, 0), (0, 0)]),
  (100, [(0, 0), (0, 0), (0, 0), (0, 0), (0, 0), (0, 0)]),
  (100, [(0, 0), (0, 0), (0, 0), (0, 0), (0, 0), (0, 0)]),
  (100, [(0, 0), (0, 0), (0, 0), (0, 0), (0, 0)]),
  (100, [(0, 0), (0, 0), (0, 0), (0, 0), (0, 0)]),
  (100, [(0, 0), (0, 0), (0, 0), (0, 0), (0, 0)]),
  (100, [(0, 0), (0, 0), (0, 0), (0, 0), (0, 0)]),
  (100, [(0, 0), (0, 0), (0, 0), (0, 0), (0, 0)]),
  (100, [(0, 0), (0, 0), (0, 0), (0, 0), (0, 0)]),
  (100, [(0, 0), (0, 0), (0, 0)]),
  (2, [(1, 33), (1, 34), (0, 0), (0, 0)]),
  (100, [(0, 0), (0, 0), (0, 0), (0, 0), (0, 0), (0, 0)]),
  (100, [(0, 0), (0, 0), (0, 0)]),
  (2, [(1, 36), (1, 37), (0, 0), (0, 0)]),
  (100, [(0, 0), (0, 0), (0, 0), (0, 0), (0, 0), (0, 0)]),
  (100, [(0, 0), (0, 0), (0, 0)]),
  (3, [(1, 39), (1, 40), (0, 0), (0, 0), (0, 0)]),
  (103, [(1, 41), (1, 44), (1, 47), (1, 50), (1, 53), (1, 56), (1, 59), (1, 62), (1, 65), (1, 68), (1, 71), (1, 74), (1, 77), (1, 80), (1, 83), (1, 86)]),
  (103, [(1, 89), (1, 92), (1, 95)]),
  (2, [(1, 42), (1, 43), (0, 0), (0, 0)]),
  (100, [(0, 0), (0, 0), (0, 0), (0, 0), (0, 0), (0, 0)]),
  (100, [(0, 0), (0, 0), (0, 0)]),
  (2, [(1, 45), (1, 46), (0, 0), (0, 0)]),
  (100, [(0, 0), (0, 0), (0, 0), (0, 0), (0, 0), (0, 0)]),
  (100, [(0, 0), (0, 0), (0, 0)]),
  (2, [(1, 48), (1, 49), (0, 0), (0, 0)]),
  (100, [(0, 0), (0, 0), (0, 0), (0, 0), (0, 0), (0, 0)]),
  (100, [(0, 0), (0, 0), (0, 0)]),
  (2, [(1, 51), (1, 52), (0, 0), (0, 0)]),
  (100, [(0, 0), (0, 0), (0, 0), (0, 0), (0, 0), (0, 0)]),
  (100, [(0, 0), (0, 0), (0, 0)]),
  (2, [(1, 54), (1, 55), (0, 0), (0, 0)]),
  (100, [(0, 0), (0, 0), (0, 0), (0, 0), (0, 0), (0, 0)]),
  (100, [(0, 0), (0, 0), (0, 0)]),
  (2, [(1, 57), (1, 58), (0, 0), (0, 0)]),
  (100, [(0, 0), (0, 0), (0, 0), (0, 0), (0, 0), (0, 0)]),
  (100, [(0, 0), (0, 0), (0, 0)]),
  (2, [(1, 60), (1, 61), (0, 0), (0, 0)]),
  (100, [(0, 0), (0, 0), (0, 0), (0, 0), (0, 0), (0, 0)]),
  (100, [(0, 0), (0, 0), (0, 0)]),
  (2, [(1, 63), (1, 64), (0, 0), (0, 0)]),
  (100, [(0, 0), (0, 0), (0, 0), (0, 0), (0, 0), (0, 0)]),
  (100, [(0, 0), (0, 0), (0, 0)]),
  (2, [(1, 66), (1, 67), (0, 0), (0, 0)]),
  (100, [(0, 0), (0, 0), (0, 0), (0, 0), (0, 0), (0, 0)]),
  (100, [(0, 0), (0, 0), (0, 0)]),
  (2, [(1, 69), (1, 70), (0, 0), (0, 0)]),
  (100, [(0, 0), (0, 0), (0, 0), (0, 0), (0, 0), (0, 0)]),
  (100, [(0, 0), (0, 0), (0, 0)]),
  (2, [(1, 72), (1, 73), (0, 0), (0, 0)]),
  (100, [(0, 0), (0, 0), (0, 0), (0, 0), (0, 0), (0, 0)]),
  (100, [(0, 0), (0, 0), (0, 0)]),
  (2, [(1, 75), (1, 76), (0, 0), (0, 0)]),
  (100, [(0, 0), (0, 0), (0, 0), (0, 0), (0, 0), (0, 0)]),
  (100, [(0, 0), (0, 0), (0, 0)]),
  (2, [(1, 78), (1, 79), (0, 0), (0, 0)]),
  (100, [(0, 0), (0, 0), (0, 0), (0, 0), (0, 0), (0, 0)]),
  (100, [(0, 0), (0, 0), (0, 0)]),
  (2, [(1, 81), (1, 82), (0, 0), (0, 0)]),
  (100, [(0, 0), (0, 0), (0, 0), (0, 0), (0, 0), (0, 0)]),
  (100, [(0, 0), (0, 0), (0, 0)]),
  (2, [(1, 84), (1, 85), (0, 0), (0, 0)]),
  (100, [(0, 0), (0, 0), (0, 0), (0, 0), (0, 0), (0, 0)]),
  (100, [(0, 0), (0, 0), (0, 0)]),
  (2, [(1, 87), (1, 88), (0, 0), (0, 0)]),
  (100, [(0, 0), (0, 0), (0, 0), (0, 0), (0, 0), (0, 0)]),
  (100, [(0, 0), (0, 0), (0, 0)]),
  (2, [(1, 90), (1, 91), (0, 0), (0, 0)]),
  (100, [(0, 0), (0, 0), (0, 0), (0, 0), (0, 0), (0, 0)]),
  (100, [(0, 0), (0, 0), (0, 0)]),
  (2, [(1, 93), (1, 94), (0, 0), (0, 0)]),
  (100, [(0, 0), (0, 0), (0, 0), (0, 0), (0, 0), (0, 0)]),
  (100, [(0, 0), (0, 0), (0, 0)]),
  (2, [(1, 96), (1, 97), (0, 0), (0, 0)]),
  (100, [(0, 0), (0, 0), (0, 0), (0, 0), (0, 0), (0, 0)]),
  (100, [(0, 0), (0, 0), (0, 0)]),
  (0, [(1, 99), (0, 0), (0, 0), (0, 0), (0, 0)]),
  (103, [(1, 100), (1, 103), (1, 106), (1, 109), (1, 112)]),
  (2, [(1, 101), (1, 102), (0, 0), (0, 0)]),
  (100, [(0, 0), (0, 0), (0, 0), (0, 0), (0, 0), (0, 0)]),
  (100, [(0, 0), (0, 0), (0, 0)]),
  (2, [(1, 104), (1, 105), (0, 0), (0, 0)]),
  (100, [(0, 0), (0, 0), (0, 0), (0, 0), (0, 0), (0, 0)]),
  (100, [(0, 0), (0, 0), (0, 0)]),
  (2, [(1, 107), (1, 108), (0, 0), (0, 0)]),
  (100, [(0, 0), (0, 0), (0, 0), (0, 0), (0, 0), (0, 0)]),
  (100, [(0, 0), (0, 0), (0, 0)]),
  (2, [(1, 110), (1, 111), (0, 0), (0, 0)]),
  (100, [(0, 0), (0, 0), (0, 0), (0, 0), (0, 0), (0, 0)]),
  (100, [(0, 0), (0, 0), (0, 0)]),
  (2, [(1, 113), (1, 114), (0, 0), (0, 0)]),
  (100, [(0, 0), (0, 0), (0, 0), (0, 0), (0, 0), (0, 0)]),
  (100, [(0, 0), (0, 0), (0, 0)]),
  (6, [(1, 116), (1, 117), (0, 0)]),
  (100, [(0, 0), (0, 0), (0, 0), (0, 0), (0, 0)]),
  (100, [(0, 0), (0, 0), (0, 0), (0, 0), (0, 0)]),
  (5, [(1, 119), (0, 0), (1, 120)]),
  (100, [(0, 0), (0, 0), (0, 0), (0, 0), (0, 0), (0, 0), (0, 0), (0, 0), (0, 0), (0, 0), (0, 0), (0, 0), (0, 0), (0, 0), (0, 0), (0, 0), (0, 0), (0, 0), (0, 0), (0, 0), (0, 0), (0, 0), (0, 0), (0, 0), (0, 0), (0, 0), (0, 0), (0, 0), (0, 0), (0, 0), (0, 0), (0, 0)]),
  (2, [(1, 121), (1, 122), (0, 0), (0, 0)]),
  (100, [(0, 0), (0, 0), (0, 0), (0, 0), (0, 0), (0, 0)]),
  (100, [(0, 0), (0, 0), (0, 0)]),
  (1, [(4, 0), (4, 0), (0, 0)]),
  (9, [(0, 0), (1, 125), (0, 0), (0, 0), (0, 0), (0, 0), (0, 0), (0, 0), (0, 0), (0, 0), (0, (-1)), (0, 0), (1, 126), (0, 0), (0, 0), (1, 127), (1, 128), (1, 129), (1, 130), (1, 131), (0, 0), (0, 0), (1, 132), (1, 133), (1, 134), (0, 0), (1, 135), (0, 0), (0, 0), (0, 0), (0, 0), (4, 0), (4, 0), (4, 0), (0, 0)]),
  (100, List.replicate 900 (0, 0)),
  (100, [(0, 0), (0, 0), (0, 0), (0, 0), (0, 0), (0, 0), (0, 0), (0, 0)]),
  (100, List.replicate 213 (0, 0)),
  (100, List.replicate 213 (0, 0)),
  (100, [(0, 0), (0, 0), (0, 0), (0, 0), (0, 0), (0, 0), (0, 0), (0, 0), (0, 0), (0, 0), (0, 0)]),
  (100, List.replicate 176 (0, 0)),
  (100, [(0, 0), (0, 0), (0, 0), (0, 0), (0, 0), (0, 0), (0, 0), (0, 0), (0, 0), (0, 0), (0, 0), (0, 0), (0, 0), (0, 0), (0, 0), (0, 0), (0, 0), (0, 0), (0, 0), (0, 0), (0, 0), (0, 0), (0, 0), (0, 0), (0, 0), (0, 0), (0, 0), (0, 0), (0, 0), (0, 0), (0, 0), (0, 0), (0, 0)]),
  (100, [(0, 0), (0, 0), (0, 0), (0, 0), (0, 0), (0, 0), (0, 0), (0, 0), (0, 0), (0, 0), (0, 0)]),
  (100, [(0, 0), (0, 0), (0, 0), (0, 0), (0, 0)]),
  (100, [(0, 0), (0, 0), (0, 0), (0, 0), (0, 0)]),
  (100, [(0, 0), (0, 0), (0, 0), (0, 0), (0, 0)]),
  (102, [(4, 0)])]
noncomputable def st_K : ev_K := [(-2147483648, 2147483647), (-2147483648, 2147483647), (-2147483648, 2147483647), (-2147483648, 2147483647), (-2147483648, 2147483647), (-2147483648, 2147483647)]
noncomputable def st_0 : ev_S := (23, [(4, (0, 0)), (3, (1, 136)), (2, (1, 124)), (1, (1, 0)), (0, (5, 0))], [], st_w, st_K, 137, 3193)
set_option maxRecDepth 1000000 in
theorem run_a : ev_run ev_ms (ev_exec ev_ms 12) (law_P 0) law_a [23] 2000 (0, [(0, (5, 0))], [], [], st_K, 0, 0) = some [st_0] := ev_eqO_ok (by decide +kernel)
noncomputable def law_flat : List Cond := flatC (Jvm.Cond.and given_1 narrow_1)
/-- what the Statement gives of a text constant -/
noncomputable def law_sc (r : String × Nat × String × List Int32) : List Cond :=
  [.exactly (.string r.1 r.2.1) "java/lang/String", .eq (.field (.string r.1 r.2.1) "java/lang/String" "coder" "B") (.int 0), .arrayOf (.field (.string r.1 r.2.1) "java/lang/String" "value" "[B") .byte, .eq (.length (.field (.string r.1 r.2.1) "java/lang/String" "value" "[B")) (.int (Int32.ofNat r.2.2.2.length))]
  ++ (List.range r.2.2.2.length).map (fun j => .eq (.elem (.field (.string r.1 r.2.1) "java/lang/String" "value" "[B") (.int (Int32.ofNat j))) (.int (r.2.2.2.getD j 0)))
set_option maxRecDepth 1000000 in
theorem law_sc_eq : ev_strs.flatMap law_sc = ([29, 30, 31, 32, 33, 34, 35, 36, 37, 38, 39, 40, 41, 42, 43, 44, 45, 46, 47, 48, 49, 50, 51, 52, 53, 54, 55, 56, 57, 58, 59, 60, 61, 62, 63, 64, 65, 66, 67, 68, 69, 70, 71, 72, 73, 74, 75, 76, 77, 78, 79, 80, 81, 82, 83, 84, 85, 86, 87, 88, 89, 90, 91, 92, 93, 94, 95, 96, 97, 98, 99, 100, 101, 102, 103, 104, 105, 106, 107, 108, 109, 110, 111, 112, 113, 114, 115, 116, 117, 118, 119, 120, 121, 122, 123, 124, 125, 126, 127, 128, 129, 130, 131, 132, 133, 134, 135, 136, 137, 138, 139, 140, 141, 142, 143, 144, 145, 146, 147, 148, 149, 150, 151, 152, 153, 154, 155, 156, 157, 158, 159, 160, 161, 162, 163, 164, 165, 166, 167, 168, 169, 170, 171, 172, 173, 174, 175, 176, 177, 178, 179, 180, 181, 182, 183, 184, 185, 186, 187, 188, 189, 190, 191, 192, 193, 194, 195, 196, 197, 198, 199, 200, 201, 202, 203, 204, 205, 206, 207, 208, 209, 211, 212, 213, 214, 215, 216, 217, 218, 219, 221, 222, 223, 224, 225, 226, 227, 228, 230, 231, 232, 233, 234, 235, 236, 237, 238, 240, 241, 242, 243, 244, 245, 246, 248, 249, 250, 251, 252, 253, 254, 255, 256, 257, 259, 260, 261, 262, 263, 264, 265, 266, 267, 268, 269, 271, 272, 273, 274, 275, 276, 277, 278, 279, 280, 282, 283, 284, 285, 286, 287, 288, 289, 290, 291, 292, 294, 295, 296, 297, 298, 299, 300, 301, 302, 304, 305, 306, 307, 308, 309, 310, 311, 313, 314, 315, 316, 317, 318, 319, 320, 322, 323, 324, 325, 326, 327, 328, 329, 331, 332, 333, 334, 335, 336, 337, 338, 340, 341, 342, 343, 344, 345, 346, 347, 349, 350, 351, 352, 353, 354, 355, 356, 357, 359, 360, 361, 362, 363, 364, 365, 366, 368, 369, 370, 371, 372, 373, 374, 375, 376, 378, 379, 380, 381, 382, 383, 384, 385, 386, 388, 389, 390, 391, 392, 393] : List Nat).filterMap (fun i => law_flat[i]?) := by decide +kernel
theorem law_sc_in {r : String × Nat × String × List Int32} (hr : r ∈ ev_strs) {w : Cond} (hw : w ∈ law_sc r) : w ∈ law_flat := by
  have h : w ∈ ev_strs.flatMap law_sc := List.mem_flatMap.mpr ⟨r, hr, hw⟩
  rw [law_sc_eq] at h
  obtain ⟨i, -, hi⟩ := List.mem_filterMap.mp h
  exact List.mem_of_getElem? hi
set_option maxRecDepth 1000000 in
theorem law_sr_eq : ev_strs.map (fun r => Cond.stringRef r.1 r.2.1 r.2.2.1) = ([549, 550, 551, 552, 553, 554, 555, 556, 638, 647, 648, 665, 666, 667, 668, 669, 678, 679, 680, 705, 1446, 1461, 1478, 1479, 1480, 1501, 1502, 1503, 1504, 1505, 1506, 1515, 1516, 1517, 1518, 1519, 1524, 1525, 1526, 1558] : List Nat).filterMap (fun i => lw_tbl[i]?) := by decide +kernel
theorem law_sr_in {r : String × Nat × String × List Int32} (hr : r ∈ ev_strs) : Cond.stringRef r.1 r.2.1 r.2.2.1 ∈ lw_tbl := by
  have h : Cond.stringRef r.1 r.2.1 r.2.2.1 ∈ ev_strs.map (fun r => Cond.stringRef r.1 r.2.1 r.2.2.1) := List.mem_map.mpr ⟨r, hr, rfl⟩
  rw [law_sr_eq] at h
  obtain ⟨i, -, hi⟩ := List.mem_filterMap.mp h
  exact List.mem_of_getElem? hi
set_option maxRecDepth 1000000 in
theorem law_in0 : Cond.instantiable RX0 5 ∈ lw_tbl := List.mem_of_getElem? (lw_at_ok (j := 359) (by decide +kernel))
set_option maxRecDepth 1000000 in
theorem law_in1 : Cond.instantiable RX1 3 ∈ lw_tbl := List.mem_of_getElem? (lw_at_ok (j := 424) (by decide +kernel))
set_option maxRecDepth 1000000 in
theorem law_in2 : Cond.instantiable RX2 4 ∈ lw_tbl := List.mem_of_getElem? (lw_at_ok (j := 307) (by decide +kernel))
set_option maxRecDepth 1000000 in
theorem law_in3 : Cond.instantiable RX3 5 ∈ lw_tbl := List.mem_of_getElem? (lw_at_ok (j := 332) (by decide +kernel))
set_option maxRecDepth 1000000 in
theorem law_in4 : Cond.instantiable RX4 14 ∈ lw_tbl := List.mem_of_getElem? (lw_at_ok (j := 146) (by decide +kernel))
set_option maxRecDepth 1000000 in
theorem law_in5 : Cond.instantiable RX5 3 ∈ lw_tbl := List.mem_of_getElem? (lw_at_ok (j := 404) (by decide +kernel))
set_option maxRecDepth 1000000 in
theorem law_in6 : Cond.instantiable RX6 3 ∈ lw_tbl := List.mem_of_getElem? (lw_at_ok (j := 386) (by decide +kernel))
set_option maxRecDepth 1000000 in
theorem law_in7 : Cond.instantiable RX7 19 ∈ lw_tbl := List.mem_of_getElem? (lw_at_ok (j := 198) (by decide +kernel))
set_option maxRecDepth 1000000 in
theorem law_in8 : Cond.instantiable RX8 15 ∈ lw_tbl := List.mem_of_getElem? (lw_at_ok (j := 138) (by decide +kernel))
set_option maxRecDepth 1000000 in
theorem law_in9 : Cond.instantiable RX9 35 ∈ lw_tbl := List.mem_of_getElem? (lw_at_ok (j := 1298) (by decide +kernel))
theorem law_inst : ∀ (ci : Nat) (r : vw_C), vwCl[ci]? = some r → Cond.instantiable r.1 r.2.2 ∈ lw_tbl
  | 0, r, h => by cases h; exact law_in0
  | 1, r, h => by cases h; exact law_in1
  | 2, r, h => by cases h; exact law_in2
  | 3, r, h => by cases h; exact law_in3
  | 4, r, h => by cases h; exact law_in4
  | 5, r, h => by cases h; exact law_in5
  | 6, r, h => by cases h; exact law_in6
  | 7, r, h => by cases h; exact law_in7
  | 8, r, h => by cases h; exact law_in8
  | 9, r, h => by cases h; exact law_in9
  | n + 10, r, h => by cases h
set_option maxRecDepth 1000000 in
theorem law_ao : Cond.arrayOver (.object "BarberMinutes$Minutes") ∈ lw_tbl := List.mem_of_getElem? (lw_at_ok (j := 338) (by decide +kernel))
set_option maxRecDepth 1000000 in
theorem law_z1 : Cond.laysStatic "java/lang/String" "COMPACT_STRINGS" "Z" ∈ lw_tbl := List.mem_of_getElem? (lw_at_ok (j := 570) (by decide +kernel))
set_option maxRecDepth 1000000 in
theorem law_z2 : Cond.initialized "java/lang/String" ∈ lw_tbl := List.mem_of_getElem? (lw_at_ok (j := 127) (by decide +kernel))
set_option maxRecDepth 1000000 in
theorem law_z3 : Cond.eq (.static "java/lang/String" "COMPACT_STRINGS" "Z") (.int 1) ∈ law_flat := List.mem_of_getElem? (i := 4) (by decide +kernel)
set_option maxRecDepth 1000000 in
theorem law_z4 : Cond.laysStatic "jdk/internal/util/Preconditions" "SIOOBE_FORMATTER" "Ljava/util/function/BiFunction;" ∈ lw_tbl := List.mem_of_getElem? (lw_at_ok (j := 586) (by decide +kernel))
set_option maxRecDepth 1000000 in
theorem law_z5 : Cond.initialized "jdk/internal/util/Preconditions" ∈ lw_tbl := List.mem_of_getElem? (lw_at_ok (j := 129) (by decide +kernel))
set_option maxRecDepth 1000000 in
theorem law_z6 : Cond.isRef (.static "jdk/internal/util/Preconditions" "SIOOBE_FORMATTER" "Ljava/util/function/BiFunction;") ∈ law_flat := List.mem_of_getElem? (i := 5) (by decide +kernel)
noncomputable def R_law : String := "BarberMinutesLaw"
noncomputable def lw_P (b : Addr) (xs : List Int32) (args : Array Value) (s : State) : Prop := args = #[.ref b] ∧ s.IntsAt b xs ∧ xs.length ≤ 3072 ∧ (Jvm.Cond.and given_1 narrow_1).before args s = true
noncomputable def lw_Q (_ : Array Value) (s : State) (o : Outcome) (t : State) : Prop := o = .returned (some (.int 1)) ∧ Framed s o t [] 601024 7293034
noncomputable def lw_Z (below : List Frame) (a : Array Value) (s : State) : State → Prop := fun t => ∃ o, t.status = .running ∧ Ended t below o ∧ lw_Q a s o t
/-- the law's own end, with 1 on the stack, nothing written that was there before, its room as the claim has it -/
theorem lw_ret {p : Program} {l : Launch} {e : Env} {s : State} {m : MethodId} {below : List Frame} {meth : Method} {c : Code} {b : Nat} (hx : p.tables.exec = Jvm.exec) (hb : c.code = code) (hr : meth.sig.returnType = ret) (hlocks : meth.locks = false) {pc : Nat} {H : Heap} {ls : Array Slot} (hdg : decode code pc = .ok (.ireturn, 1)) : W p l e room_1 s m #[Value.ref b] below meth c H [] 601024 7293034 (lw_Z below #[Value.ref b] s) (F0 m pc ls [.int 1]) := by
  intro T hT X
  obtain ⟨fs, hret, hrun, hended, hW, hframe⟩ := X.leave (v := some (.int 1)) (hlocks := hlocks) (fun h => by rw [hr] at h; cases h)
  have hmeth' : T.vm.method? m = some meth := X.method'
  refine ⟨T.setFrames fs, ?_, .returned (some (.int 1)), hrun, hended, rfl, ⟨_, rfl⟩, hW, hframe⟩
  jvm_step X.here [X.here.top, hx, hb, hdg, hmeth', hr, ret, narrow_b1]
  (try refine ⟨rfl, ?_⟩); (try refine ⟨rfl, ?_⟩)
  first | (intro acts; rw [hret _ acts rfl rfl rfl]) | rw [hret _ _ rfl rfl rfl]
  exact Steps.refl _
/-- what holds at the law's entry: the machine, the code, the tables' words (any of lw_tbl by 'hts w (by decide +kernel)'), the script of L ints xs at the cell b, what the Statement gives of the start (any of its parts by flat_of_before) -/
noncomputable def lw_At (p : Program) (s : State) (m : MethodId) (meth : Method) (c : Code) (b L : Nat) (xs : Nat → Int32) : Prop :=
  p.tables.exec = Jvm.exec ∧ c.code = code ∧ meth.sig.returnType = ret ∧ c.maxLocals = 7 ∧ s.vm.findClass R_law = some m.cls ∧ (∀ w ∈ lw_tbl, w.before #[Value.ref b] s = true) ∧ va_X b L xs s s.heap ∧ b < s.heap.size ∧ meth.locks = false ∧ (Jvm.Cond.and given_1 narrow_1).before #[Value.ref b] s = true
/-- the law's own cells are the new ones -/
noncomputable abbrev law_A (s : State) : Nat → Prop := fun q : Nat => s.heap.size ≤ q
/-- the picture's names at the law's start: the script is X 0, the texts and their bytes behind it (six numbers that are not used) -/
noncomputable def law_g (X : Nat → Nat) : ev_G := ([], X, (List.range 6).map (fun _ => Value.int 0))
theorem law_facts {p : Program} {s : State} {m : MethodId} {meth : Method} {c : Code} {b L : Nat} {xs : Nat → Int32} (C0 : lw_At p s m meth c b L xs) :
    ∃ (D : va_G) (X : Nat → Nat), X 0 = b ∧ ev_X p room_1 s m #[Value.ref b] meth c code 7 "BarberMinutesLaw" false D (law_A s) 601024 7293034 (law_g X) 0 := by
  obtain ⟨hx, hb, hr, hml, hown, hts, hX, hbl, hlocks, hgv⟩ := C0
  have hfl : ∀ w ∈ law_flat, w.before #[Value.ref b] s = true := flat_of_before _ hgv
  have hA : ∀ a : Nat, a < s.heap.size → ¬ law_A s a := fun a h => Nat.not_le.mpr h
  have hcl : ∀ ci : Nat, ∃ q : ClassId × (Nat → Nat), ∀ r : vw_C, vwCl[ci]? = some r → u_Kn s r.1 r.2.1 r.2.2 q.1 q.2 := by
    intro ci
    cases hz : vwCl[ci]? with
    | none => exact ⟨(0, fun _ => 0), fun r h => by cases h⟩
    | some r =>
      obtain ⟨ty, hty⟩ : ∃ ty, ev_tyl[ci]? = some ty := ⟨_, List.getElem?_eq_getElem (show ci < ev_tyl.length from (List.getElem?_eq_some_iff.mp hz).1)⟩
      obtain ⟨cC, iS, hk⟩ := u_known (N := r.2.2) (fun w h => hts w (lw_good_in h)) (ev_cls ci r ty hz hty).1 (hts _ (law_inst ci r hz))
      exact ⟨(cC, iS), fun r' h => by cases h; exact hk⟩
  obtain ⟨dq, hdq⟩ := Classical.axiomOfChoice hcl
  have hst : ∀ k : Nat, ∃ q : Nat × Nat, ∀ r : String × Nat × String × List Int32, ev_strs[k]? = some r → (Term.string r.1 r.2.1).eval #[Value.ref b] s none [] s = some (.ref q.1) ∧ va_O "java/lang/String" q.1 (law_A s) s s.heap ∧ va_OF "java/lang/String" "coder" "B" (.int 0) q.1 (law_A s) s s.heap ∧ va_OF "java/lang/String" "value" "[B" (.ref q.2) q.1 (law_A s) s s.heap ∧ va_T .byte q.2 r.2.2.2.length (fun j => .int (r.2.2.2.getD j 0)) (law_A s) s s.heap := by
    intro k
    cases hz : ev_strs[k]? with
    | none => exact ⟨(0, 0), fun r h => by cases h⟩
    | some r =>
      have hr := List.mem_of_getElem? hz
      have hlen : r.2.2.2.length < 2 ^ 31 := by
        have : ∀ r ∈ ev_strs, r.2.2.2.length < 2 ^ 31 := by decide +kernel
        exact this r hr
      have w1 := hfl _ (law_sc_in hr (w := .exactly (.string r.1 r.2.1) "java/lang/String") (by simp [law_sc]))
      have w2 := hfl _ (law_sc_in hr (w := .eq (.field (.string r.1 r.2.1) "java/lang/String" "coder" "B") (.int 0)) (by simp [law_sc]))
      have w3 := hfl _ (law_sc_in hr (w := .arrayOf (.field (.string r.1 r.2.1) "java/lang/String" "value" "[B") .byte) (by simp [law_sc]))
      have w4 := hfl _ (law_sc_in hr (w := .eq (.length (.field (.string r.1 r.2.1) "java/lang/String" "value" "[B")) (.int (Int32.ofNat r.2.2.2.length))) (by simp [law_sc]))
      have w5 : ∀ j : Nat, j < r.2.2.2.length → (Cond.eq (.elem (.field (.string r.1 r.2.1) "java/lang/String" "value" "[B") (.int (Int32.ofNat j))) (.int (r.2.2.2.getD j 0))).before #[Value.ref b] s = true := fun j hj => hfl _ (law_sc_in hr (List.mem_append_right _ (List.mem_map.mpr ⟨j, List.mem_range.mpr hj, rfl⟩)))
      obtain ⟨a, cc, cA, kA, q1, q2, q3, q4, q5, q6, -⟩ := Cond.exactly_spec (args := #[Value.ref b]) (first := s) (o := none) (s := s) (idx := []) (t := .string r.1 r.2.1) (cls := "java/lang/String") w1
      obtain ⟨t, ht, hT⟩ := va_Tof (f := fun j => .int (r.2.2.2.getD j 0)) (A := law_A s) hlen w3 (va_eqt w4) (fun j hj => va_eqt (w5 j hj)) hA
      refine ⟨(a, t), fun r' h => ?_⟩
      cases h
      exact ⟨q1, ⟨cA, q3, q5, by rw [q6]; exact q2, hA a (Array.getElem?_eq_some_iff.mp q3).1⟩, vk_OFof q1 (va_eqt w2) hA, vk_OFof q1 ht hA, hT⟩
  obtain ⟨ad, had⟩ := Classical.axiomOfChoice hst
  obtain ⟨X, hX0, hX1, hX2⟩ : ∃ X : Nat → Nat, X 0 = b ∧ (∀ k : Nat, X (1 + 2 * k) = (ad k).1) ∧ ∀ k : Nat, X (2 + 2 * k) = (ad k).2 := by
    refine ⟨fun j => if j = 0 then b else if j % 2 = 1 then (ad (j / 2)).1 else (ad (j / 2 - 1)).2, by simp, fun k => ?_, fun k => ?_⟩
    · dsimp only
      rw [if_neg (by omega), if_pos (by omega), show (1 + 2 * k) / 2 = k by omega]
    · dsimp only
      rw [if_neg (by omega), if_neg (by omega), show (2 + 2 * k) / 2 - 1 = k by omega]
  refine ⟨(fun ci => (dq ci).1, fun ci => (dq ci).2), X, hX0, ⟨hx, hb, hml, hown, fun w h => hts w (lw_good_in h), ⟨fun ci q h => hdq ci q h, fun k q h => by cases h⟩, fun q h => h, ⟨⟨fun w hw => va_Nw.of (ev_N_on hw) (hts w (List.mem_filter.mp hw).1), va_AO.of (hts _ law_ao)⟩, fun k r hr => ?_, fun k r hr => ?_, ?_, ?_⟩, fun h => (by cases h), rfl, rfl, by decide, by decide, fun L' h => by cases h⟩⟩
  · show vk_R r.1 r.2.1 r.2.2.1 (X (1 + 2 * k)) s
    rw [hX1]
    exact vk_R.of (hts _ (law_sr_in (List.mem_of_getElem? hr))) (had k r hr).1
  · show va_O "java/lang/String" (X (1 + 2 * k)) _ _ _ ∧ va_OF "java/lang/String" "coder" "B" (.int 0) (X (1 + 2 * k)) _ _ _ ∧ va_OF "java/lang/String" "value" "[B" (.ref (X (2 + 2 * k))) (X (1 + 2 * k)) _ _ _ ∧ va_T .byte (X (2 + 2 * k)) r.2.2.2.length (fun j => .int (r.2.2.2.getD j 0)) _ _ _
    rw [hX1, hX2]
    exact (had k r hr).2
  · exact va_Zof (hts _ law_z1) (hts _ law_z2) (va_eqi (hfl _ law_z3)) hA
  · exact va_Zqof (hts _ law_z4) (hts _ law_z5) (hfl _ law_z6) hA
set_option maxRecDepth 1000000 in
theorem law_t1 : Cond.laysStatic "BarberMinutes" "TENS" "[I" ∈ lw_tbl := List.mem_of_getElem? (lw_at_ok (j := 900) (by decide +kernel))
set_option maxRecDepth 1000000 in
theorem law_t2 : Cond.initialized "BarberMinutes" ∈ lw_tbl := List.mem_of_getElem? (lw_at_ok (j := 116) (by decide +kernel))
set_option maxRecDepth 1000000 in
theorem law_t3 : Cond.arrayOf (.static "BarberMinutes" "TENS" "[I") .int ∈ law_flat := List.mem_of_getElem? (i := 10) (by decide +kernel)
set_option maxRecDepth 1000000 in
theorem law_t4 : Cond.eq (.length (.static "BarberMinutes" "TENS" "[I")) (.int 5) ∈ law_flat := List.mem_of_getElem? (i := 11) (by decide +kernel)
set_option maxRecDepth 1000000 in
theorem law_t50 : Cond.eq (.elem (.static "BarberMinutes" "TENS" "[I") (.int 0)) (.int 1) ∈ law_flat := List.mem_of_getElem? (i := 12) (by decide +kernel)
set_option maxRecDepth 1000000 in
theorem law_t51 : Cond.eq (.elem (.static "BarberMinutes" "TENS" "[I") (.int 1)) (.int 10) ∈ law_flat := List.mem_of_getElem? (i := 13) (by decide +kernel)
set_option maxRecDepth 1000000 in
theorem law_t52 : Cond.eq (.elem (.static "BarberMinutes" "TENS" "[I") (.int 2)) (.int 100) ∈ law_flat := List.mem_of_getElem? (i := 14) (by decide +kernel)
set_option maxRecDepth 1000000 in
theorem law_t53 : Cond.eq (.elem (.static "BarberMinutes" "TENS" "[I") (.int 3)) (.int 1000) ∈ law_flat := List.mem_of_getElem? (i := 15) (by decide +kernel)
set_option maxRecDepth 1000000 in
theorem law_t54 : Cond.eq (.elem (.static "BarberMinutes" "TENS" "[I") (.int 4)) (.int 10000) ∈ law_flat := List.mem_of_getElem? (i := 16) (by decide +kernel)
noncomputable def tc_i (a : ev_A) : Int32 := Int32.ofInt a.2
noncomputable def tc_l (a : ev_A) : Int64 := Int64.ofInt a.2
noncomputable def tc_r (a : ev_A) : Option Nat := if a.1 = 1 then some a.2.toNat else none
noncomputable def tc_at (w : List ev_C) (c j : Nat) : ev_A := match w[c]? with
  | some q => (match q.2[j]? with
    | some a => a
    | none => (0, 0))
  | none => (0, 0)
noncomputable def tc_M (w : List ev_C) : cm_M := (fun c j => tc_i (tc_at w c j), fun c j => tc_l (tc_at w c j), fun c j => tc_r (tc_at w c j))
noncomputable def tc_ok1 (ft : Nat) (a : ev_A) : Bool := match a.1 with
  | 0 => ft == 0
  | 1 => ft == 3 && decide (a.2.toNat < 137)
  | 2 => ft == 3
  | 4 => ft == 2
  | _ => false
theorem tc_v {g : ev_G} {adr : Nat → Nat} {a : ev_A} {v : Value} {ft : Nat} {M : cm_M} {k j : Nat} (hok : tc_ok1 ft a = true) (h : ev_v g a = some v) (hadr : ∀ k, k < 137 → ∀ x, g.1[k]? = some x → adr k = x) (h1 : M.1 k j = tc_i a) (h2 : M.2.1 k j = tc_l a) (h3 : M.2.2 k j = tc_r a) : v = cm_v adr (cm_rd M ft k j) := by
  obtain ⟨t, z⟩ := a
  unfold tc_ok1 at hok
  split at hok
  · rename_i e
    dsimp only at e
    subst e
    have e2 := beq_iff_eq.mp hok
    subst e2
    show v = .int (M.1 k j)
    rw [h1]
    exact (Option.some.inj h).symm
  · rename_i e
    dsimp only at e
    subst e
    simp only [Bool.and_eq_true, decide_eq_true_eq] at hok
    have e2 := beq_iff_eq.mp hok.1
    subst e2
    have h : (g.1[z.toNat]?).map Value.ref = some v := h
    show v = cm_v adr (cm_rq (M.2.2 k j))
    rw [h3]
    cases hg : g.1[z.toNat]? with
    | none => rw [hg] at h; cases h
    | some x =>
      rw [hg] at h
      have := hadr _ hok.2 x hg
      show v = .ref (adr z.toNat)
      rw [this]
      exact (Option.some.inj h).symm
  · rename_i e
    dsimp only at e
    subst e
    have e2 := beq_iff_eq.mp hok
    subst e2
    show v = cm_v adr (cm_rq (M.2.2 k j))
    rw [h3]
    exact (Option.some.inj h).symm
  · rename_i e
    dsimp only at e
    subst e
    have e2 := beq_iff_eq.mp hok
    subst e2
    show v = .long (M.2.1 k j)
    rw [h2]
    exact (Option.some.inj h).symm
  · cases hok
noncomputable def tc_ft (c j : Nat) : Nat := if c < 100 then cm_ft c j else if c = 102 then 2 else if c = 103 then 3 else 0
noncomputable def tc_okL (c : Nat) : Nat → List ev_A → Bool
  | _, [] => true
  | j, a :: l => tc_ok1 (tc_ft c j) a && tc_okL c (j + 1) l
theorem tc_okL_at {c : Nat} : ∀ {l : List ev_A} {i j : Nat} {a : ev_A}, tc_okL c i l = true → l[j]? = some a → tc_ok1 (tc_ft c (i + j)) a = true
  | [], i, j, a, _, h => by cases h
  | b :: l, i, 0, a, h, h1 => by
    unfold tc_okL at h
    simp only [Bool.and_eq_true] at h
    cases h1
    exact h.1
  | b :: l, i, j + 1, a, h, h1 => by
    unfold tc_okL at h
    simp only [Bool.and_eq_true] at h
    have := tc_okL_at (i := i + 1) (j := j) h.2 (by simpa using h1)
    rw [show i + (j + 1) = i + 1 + j by omega]
    exact this
noncomputable def tc_okW : List ev_C → List (Nat × Nat) → Bool
  | [], [] => true
  | q :: w, c :: l => decide (q.1 = c.1) && (decide (q.2.length = c.2) && (tc_okL c.1 0 q.2 && tc_okW w l))
  | _, _ => false
theorem tc_okW_len : ∀ {w : List ev_C} {l : List (Nat × Nat)}, tc_okW w l = true → w.length = l.length
  | [], [], _ => rfl
  | [], _ :: _, h => by cases h
  | _ :: _, [], h => by cases h
  | q :: w, c :: l, h => by
    unfold tc_okW at h
    simp only [Bool.and_eq_true] at h
    simp [tc_okW_len h.2.2.2]
theorem tc_okW_at : ∀ {w : List ev_C} {l : List (Nat × Nat)} {k : Nat} {q : ev_C} {c : Nat × Nat}, tc_okW w l = true → w[k]? = some q → l[k]? = some c → q.1 = c.1 ∧ q.2.length = c.2 ∧ tc_okL c.1 0 q.2 = true
  | [], _, k, q, c, _, h, _ => by cases h
  | _ :: _, [], k, q, c, _, _, h => by cases h
  | q0 :: w, c0 :: l, 0, q, c, h, h1, h2 => by
    unfold tc_okW at h
    simp only [Bool.and_eq_true, decide_eq_true_eq] at h
    cases h1
    cases h2
    exact ⟨h.1, h.2.1, h.2.2.1⟩
  | q0 :: w, c0 :: l, k + 1, q, c, h, h1, h2 => by
    unfold tc_okW at h
    simp only [Bool.and_eq_true] at h
    exact tc_okW_at (k := k) h.2.2.2 (by simpa using h1) (by simpa using h2)
theorem tc_c {s : State} {g : ev_G} {adr : Nat → Nat} {w : List ev_C} {k : Nat} {q : ev_C} {c : Nat × Nat} {x : va_E} (hadr : ∀ k, k < 137 → ∀ x, g.1[k]? = some x → adr k = x) (hq : w[k]? = some q) (h1 : q.1 = c.1) (h2 : q.2.length = c.2) (h3 : tc_okL c.1 0 q.2 = true) (hx : ev_c s g q x) : cm_c s adr (tc_M w) k c x := by
  have hat : ∀ j a, q.2[j]? = some a → tc_at w k j = a := by
    intro j a ha
    unfold tc_at
    rw [hq]
    dsimp only
    rw [ha]
  have hv : ∀ j a v, q.2[j]? = some a → ev_v g a = some v → v = cm_v adr (cm_rd (tc_M w) (tc_ft c.1 j) k j) := by
    intro j a v ha hv
    have h5 := tc_okL_at h3 ha
    rw [Nat.zero_add] at h5
    exact tc_v h5 hv hadr (by show tc_i _ = _; rw [hat j a ha]) (by show tc_l _ = _; rw [hat j a ha]) (by show tc_r _ = _; rw [hat j a ha])
  cases x with
  | inr o =>
    obtain ⟨a1, a2, a3, a4⟩ := hx
    refine ⟨by rw [← h1, a1], by rw [← h1]; exact a2, by rw [a3, h2], fun j hj => ?_⟩
    have hj' : j < q.2.length := by rw [h2]; exact hj
    obtain ⟨v, b1, b2⟩ := a4 j _ (List.getElem?_eq_getElem hj')
    rw [b2]
    have := hv j _ v (List.getElem?_eq_getElem hj') b1
    unfold tc_ft at this
    rw [if_pos (by rw [← h1]; exact a2)] at this
    rw [this]
  | inl a =>
    obtain ⟨t, a1, a2, a3, a4, a5, a6⟩ := hx
    have ec : c.1 = 100 + t := by rw [← h1]; exact a2
    refine ⟨t, a1, ec, by rw [a3, h2], a4, a5, ?_⟩
    obtain ⟨a1', a2', arr⟩ := a
    have hf : ∀ j, tc_ft c.1 j = if t = 2 then 2 else if t = 3 then 3 else 0 := by
      intro j
      unfold tc_ft
      rw [if_neg (by omega)]
      rcases (by omega : t = 0 ∨ t = 1 ∨ t = 2 ∨ t = 3) with rfl | rfl | rfl | rfl <;> rw [ec] <;> rfl
    have hv2 : ∀ j, j < c.2 → ∀ v, (∀ a, q.2[j]? = some a → ev_v g a = some v) → v = cm_v adr (cm_rd (tc_M w) (if t = 2 then 2 else if t = 3 then 3 else 0) k j) := by
      intro j hj v h
      have hj' : j < q.2.length := by rw [h2]; exact hj
      rw [← hf j]
      exact hv j _ v (List.getElem?_eq_getElem hj') (h _ (List.getElem?_eq_getElem hj'))
    rcases arr with f | f | f | f | f
    · refine ⟨a6.1, fun j hj => ?_⟩
      have h7 := hv2 j hj (.int (f j)) (fun a ha => a6.2 j a ha)
      rw [if_neg (by have := a6.1; omega), if_neg (by have := a6.1; omega)] at h7
      exact Value.int.inj h7
    · refine ⟨a6.1, fun j hj => ?_⟩
      have h7 := hv2 j hj (.long (f j)) (fun a ha => a6.2 j a ha)
      rw [if_pos a6.1] at h7
      exact Value.long.inj h7
    · exact a6
    · exact a6
    · refine ⟨a6.1, fun j hj => ?_⟩
      have h7 := hv2 j hj (va_rf (f j)) (fun a ha => a6.2 j a ha)
      rw [if_neg (by have := a6.1; omega), if_pos a6.1] at h7
      have h7 : va_rf (f j) = cm_v adr (cm_rq ((tc_M w).2.2 k j)) := h7
      cases hm : (tc_M w).2.2 k j with
      | none =>
        rw [hm] at h7
        cases hfj : f j with
        | none => rfl
        | some y => rw [hfj] at h7; exact Value.noConfusion h7
      | some z =>
        rw [hm] at h7
        cases hfj : f j with
        | none => rw [hfj] at h7; exact Value.noConfusion h7
        | some y =>
          rw [hfj] at h7
          exact congrArg some (Value.ref.inj h7)
set_option maxRecDepth 1000000 in
theorem tc_okSt : tc_okW st_w cm_lay = true := by decide +kernel
set_option maxRecDepth 1000000 in
theorem tc_lay : cm_lay.length = 137 := by decide +kernel
theorem tc_w {s : State} {g : ev_G} {adr : Nat → Nat} {ws : va_W} (hadr : ∀ k, k < 137 → ∀ x, g.1[k]? = some x → adr k = x) (h : ev_w s g st_w ws) : cm_w s adr (tc_M st_w) ws := by
  obtain ⟨e1, e2, e3⟩ := h
  have hl := tc_okW_len tc_okSt
  refine ⟨by rw [← e2, hl], fun k c q h1 h2 => ?_⟩
  have hk : k < st_w.length := by rw [hl]; exact (List.getElem?_eq_some_iff.mp h1).1
  have h3 := List.getElem?_eq_getElem hk
  obtain ⟨b1, b2, b3⟩ := tc_okW_at tc_okSt h3 h1
  refine ⟨?_, tc_c hadr h3 b1 b2 b3 (e3 k _ q h3 h2)⟩
  have h4 : g.1[k]? = some q.1 := by rw [e1, List.getElem?_map, h2]; rfl
  exact (hadr k (by rw [← tc_lay, ← hl]; exact hk) _ h4).symm
/-- the law's locals at the loop's head -/
noncomputable def law_L (i : Int32) : List (Nat × Value) := [(4, .int i), (3, .ref 136), (2, .ref 124), (1, .ref 0), (0, .ref 1000)]
set_option maxRecDepth 1000000 in
theorem law_strs : ev_strs.length = 40 := by decide +kernel
set_option maxHeartbeats 4000000 in
theorem tc_start {p : Program} {l : Launch} {e : Env} {s : State} {m : MethodId} {below : List Frame} {meth : Method} {c : Code} {b L : Nat} {xs : Nat → Int32} {Q : State → Prop} {D : va_G} {X : Nat → Nat} (C0 : lw_At p s m meth c b L xs) (hX0 : X 0 = b) (Xe : ev_X p room_1 s m #[Value.ref b] meth c code 7 "BarberMinutesLaw" false D (law_A s) 601024 7293034 (law_g X) 0)
    (hk : ∀ adr : Nat → Nat, cm_X p room_1 s m #[Value.ref b] c code 7 "BarberMinutesLaw" D (law_A s) adr 137 3193 (some (L, xs)) → cm_Go p l e room_1 s m #[Value.ref b] below meth c Q 7 D (law_A s) adr 137 3193 (23, law_L 0, [], tc_M st_w)) : ev_Go p l e room_1 s m #[Value.ref b] below meth c Q 7 D (law_A s) (law_g X) st_0 := by
  obtain ⟨hx, hb, hr, hml, hown, hts, hX, hbl, hlocks, hgv⟩ := C0
  obtain ⟨-, -, -, -, htg, hK, hA0, hN, -, hcC, hcS, hf, hlc, -⟩ := Xe
  have hfl : ∀ w ∈ law_flat, w.before #[Value.ref b] s = true := flat_of_before _ hgv
  have hA : ∀ a : Nat, a < s.heap.size → ¬ law_A s a := fun a h => Nat.not_le.mpr h
  have hel : ∀ j : Nat, j < 5 → (Term.elem (.static "BarberMinutes" "TENS" "[I") (.int (Int32.ofNat j))).eval #[Value.ref b] s none [] s = some (.int (cm_tens j))
    | 0, _ => va_eqt (hfl _ law_t50)
    | 1, _ => va_eqt (hfl _ law_t51)
    | 2, _ => va_eqt (hfl _ law_t52)
    | 3, _ => va_eqt (hfl _ law_t53)
    | 4, _ => va_eqt (hfl _ law_t54)
    | n + 5, h => absurd h (by omega)
  obtain ⟨tn, htn, hT⟩ := va_Tof (f := fun j => .int (cm_tens j)) (A := law_A s) (N := 5) (by decide) (hfl _ law_t3) (va_eqt (hfl _ law_t4)) hel hA
  obtain ⟨fm, hfm⟩ : ∃ fm : Nat, va_Z "jdk/internal/util/Preconditions" "SIOOBE_FORMATTER" "Ljava/util/function/BiFunction;" .null (law_A s) s s.heap ∨ va_Z "jdk/internal/util/Preconditions" "SIOOBE_FORMATTER" "Ljava/util/function/BiFunction;" (.ref fm) (law_A s) s s.heap := by
    rcases hN.2.2.2.2 with h | ⟨t, h⟩
    · exact ⟨0, Or.inl h⟩
    · exact ⟨t, Or.inr h⟩
  intro g ws H locs ls sc hle hR
  obtain ⟨hP, hD, hS, hW, hB, hL, hs⟩ := hR
  cases ev_s_nil hs
  have hW : ev_w s g st_w ws := hW
  obtain ⟨adr, ha1, ha2, ha3, ha4⟩ : ∃ adr : Nat → Nat, (∀ k, k < 137 → ∀ x, g.1[k]? = some x → adr k = x) ∧ (∀ j, j < 81 → adr (1000 + j) = X j) ∧ adr 1100 = tn ∧ adr 1101 = fm := by
    refine ⟨fun k => if k < 1000 then g.1.getD k 0 else if k = 1100 then tn else if k = 1101 then fm else X (k - 1000), fun k hk x hx => ?_, fun j hj => ?_, rfl, rfl⟩
    · dsimp only
      rw [if_pos (by omega), List.getD_eq_getElem?_getD, hx]
      rfl
    · dsimp only
      rw [if_neg (by omega), if_neg (by omega), if_neg (by omega), Nat.add_sub_cancel_left]
  have hb0 : adr 1000 = b := (ha2 0 (by decide)).trans hX0
  have hNc : cm_N adr (law_A s) s s.heap := by
    refine ⟨⟨hN.1, fun k r hr => ?_, ⟨fun k r hr => ?_, hN.2.2.2.1, hN.2.2.2.2⟩⟩, ?_, ?_, ?_⟩
    · have hk40 : k < 40 := by rw [← law_strs]; exact (List.getElem?_eq_some_iff.mp hr).1
      have := hN.2.1 k r hr
      dsimp only
      rw [ha2 _ (by omega)]
      exact this
    · have hk40 : k < 40 := by rw [← law_strs]; exact (List.getElem?_eq_some_iff.mp hr).1
      have := hN.2.2.1 k r hr
      dsimp only
      rw [ha2 _ (by omega), ha2 _ (by omega)]
      exact this
    · rw [ha3]
      exact va_Zref (hts _ law_t1) (hts _ law_t2) htn hA
    · rw [ha3]
      exact hT
    · rw [ha4]
      exact hfm
  have hLv : ∀ q ∈ (law_L 0).map (fun q => (q.1, cm_v adr q.2)), ls[q.1]? = some (.val q.2) := by
    obtain ⟨-, -, h3⟩ := hL
    have hg : ∀ k, k < 137 → ∃ x, g.1[k]? = some x := fun k hk => by
      have : k < g.1.length := by rw [hW.1, List.length_map, ← hW.2.1, tc_okW_len tc_okSt, tc_lay]; exact hk
      exact ⟨_, List.getElem?_eq_getElem this⟩
    have href : ∀ (i k : Nat), (i, ((1, (k : Int)) : ev_A)) ∈ st_0.2.1 → k < 137 → ls[i]? = some (.val (.ref (adr k))) := fun i k hm hk => by
      obtain ⟨v, v1, v2⟩ := h3 _ hm
      obtain ⟨x, hx⟩ := hg k hk
      have v1 : (g.1[(k : Int).toNat]?).map Value.ref = some v := v1
      rw [Int.toNat_natCast, hx] at v1
      rw [v2, ha1 k hk x hx]
      cases v1
      rfl
    intro q hq
    simp only [law_L, List.map_cons, List.map_nil, List.mem_cons, List.not_mem_nil, or_false] at hq
    rcases hq with rfl | rfl | rfl | rfl | rfl
    · obtain ⟨v, v1, v2⟩ := h3 (4, (0, 0)) List.mem_cons_self
      cases v1
      exact v2
    · exact href 3 136 (List.mem_cons_of_mem _ List.mem_cons_self) (by decide)
    · exact href 2 124 (List.mem_cons_of_mem _ (List.mem_cons_of_mem _ List.mem_cons_self)) (by decide)
    · exact href 1 0 (List.mem_cons_of_mem _ (List.mem_cons_of_mem _ (List.mem_cons_of_mem _ List.mem_cons_self))) (by decide)
    · obtain ⟨v, v1, v2⟩ := h3 (0, (5, 0)) (List.mem_cons_of_mem _ (List.mem_cons_of_mem _ (List.mem_cons_of_mem _ (List.mem_cons_of_mem _ List.mem_cons_self))))
      have v1 : some (Value.ref (g.2.1 0)) = some v := v1
      rw [v2]
      cases v1
      show some (Slot.val (.ref (g.2.1 0))) = some (.val (.ref (adr 1000)))
      rw [hle.2.1, hb0]
      show some (Slot.val (.ref (X 0))) = _
      rw [hX0]
  exact hk adr ⟨hx, hb, hml, hown, htg, hK, hA0, hNc, by rw [hcC]; decide, by rw [hcS]; decide, hf, hlc, ⟨by rw [hb0]; exact hX, by rw [hb0]; exact hbl, by rw [hb0]; exact hA b hbl⟩⟩ ws H locs ls ⟨hP, hD, hS, tc_w ha1 hW, hL.1, hL.2.1, hLv⟩
