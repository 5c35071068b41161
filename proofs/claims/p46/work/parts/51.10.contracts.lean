/-- Model.round@4 (32 steps) -/
noncomputable def ct_435 : ab_Ct := (263, [(1, 0, [124])], [], [(127, 8, (0, 4, []))], [(124, [0, 11, 25]), (133, [0, 1, 2, 3]), (134, [])], [([(3, 0, [])], [((-2147483648), 2147483647, 0, (0, 0, []), (0, 0, []))], [])])
set_option maxRecDepth 1000000 in
theorem ck_435 : ab_CT cm_ms hp hN 11 ct_435 := ab_chk_ok (us := [ct_429]) (inl := inl0) (hin := inl0_ok) (d := 9) (dd := 1) (n := 20000) (tms := []) cm_ms_ok cm_ms_rc hNP (List.forall_mem_cons.mpr ⟨ab_CT_up ck_429 (by decide), fun _ h => absurd h List.not_mem_nil⟩) (by decide +kernel) (by decide +kernel)
/-- Model.round@5 (32 steps) -/
noncomputable def ct_436 : ab_Ct := (263, [(1, 0, [124])], [], [(127, 8, (0, 5, []))], [(124, [0, 11, 25]), (133, []), (134, [])], [([(3, 0, [])], [((-2147483648), 2147483647, 0, (0, 0, []), (0, 0, []))], [])])
set_option maxRecDepth 1000000 in
theorem ck_436 : ab_CT cm_ms hp hN 13 ct_436 := ab_chk_ok (us := [ct_430]) (inl := inl0) (hin := inl0_ok) (d := 11) (dd := 1) (n := 20000) (tms := []) cm_ms_ok cm_ms_rc hNP (List.forall_mem_cons.mpr ⟨ab_CT_up ck_430 (by decide), fun _ h => absurd h List.not_mem_nil⟩) (by decide +kernel) (by decide +kernel)
/-- Model.roundAt@0 (72 steps) -/
noncomputable def ct_437 : ab_Ct := (264, [(1, 0, [124]), (3, 0, [])], [((-2147483648), 2147483647, 0, (0, 0, []), (0, 0, []))], [(127, 8, (0, 0, []))], [(124, [0, 11])], [([(0, (-1), [])], [((-2147483648), 2147483647, 0, (0, 0, []), (0, 0, []))], [])])
set_option maxRecDepth 1000000 in
theorem ck_437 : ab_CT cm_ms hp hN 3 ct_437 := ab_chk_ok (us := []) (inl := inl0) (hin := inl0_ok) (d := 0) (dd := 2) (n := 20000) (tms := []) cm_ms_ok cm_ms_rc hNP (fun _ h => absurd h List.not_mem_nil) (by decide +kernel) (by decide +kernel)
/-- Model.roundAt@1 (87 steps) -/
noncomputable def ct_438 : ab_Ct := (264, [(1, 0, [124]), (3, 0, [])], [((-2147483648), 2147483647, 0, (0, 0, []), (0, 0, []))], [(127, 8, (0, 1, []))], [(124, [0, 11, 25]), (133, [0]), (134, [])], [([(3, 1, [])], [((-2147483648), 2147483647, 0, (0, 0, []), (0, 0, [])), ((-2147483648), 2147483647, 0, (0, 0, []), (0, 0, []))], [])])
set_option maxRecDepth 1000000 in
theorem ck_438 : ab_CT cm_ms hp hN 6 ct_438 := ab_chk_ok (us := [ct_426]) (inl := inl0) (hin := inl0_ok) (d := 3) (dd := 2) (n := 20000) (tms := []) cm_ms_ok cm_ms_rc hNP (List.forall_mem_cons.mpr ⟨ab_CT_up ck_426 (by decide), fun _ h => absurd h List.not_mem_nil⟩) (by decide +kernel) (by decide +kernel)
/-- Model.roundAt@2 (87 steps) -/
noncomputable def ct_439 : ab_Ct := (264, [(1, 0, [124]), (3, 0, [])], [((-2147483648), 2147483647, 0, (0, 0, []), (0, 0, []))], [(127, 8, (0, 2, []))], [(124, [0, 11, 25]), (133, [0, 1]), (134, [])], [([(3, 1, [])], [((-2147483648), 2147483647, 0, (0, 0, []), (0, 0, [])), ((-2147483648), 2147483647, 0, (0, 0, []), (0, 0, []))], [])])
set_option maxRecDepth 1000000 in
theorem ck_439 : ab_CT cm_ms hp hN 8 ct_439 := ab_chk_ok (us := [ct_427]) (inl := inl0) (hin := inl0_ok) (d := 5) (dd := 2) (n := 20000) (tms := []) cm_ms_ok cm_ms_rc hNP (List.forall_mem_cons.mpr ⟨ab_CT_up ck_427 (by decide), fun _ h => absurd h List.not_mem_nil⟩) (by decide +kernel) (by decide +kernel)
/-- Model.roundAt@3 (87 steps) -/
noncomputable def ct_440 : ab_Ct := (264, [(1, 0, [124]), (3, 0, [])], [((-2147483648), 2147483647, 0, (0, 0, []), (0, 0, []))], [(127, 8, (0, 3, []))], [(124, [0, 11, 25]), (133, [0, 1, 2]), (134, [])], [([(3, 1, [])], [((-2147483648), 2147483647, 0, (0, 0, []), (0, 0, [])), ((-2147483648), 2147483647, 0, (0, 0, []), (0, 0, []))], [])])
set_option maxRecDepth 1000000 in
theorem ck_440 : ab_CT cm_ms hp hN 10 ct_440 := ab_chk_ok (us := [ct_428]) (inl := inl0) (hin := inl0_ok) (d := 7) (dd := 2) (n := 20000) (tms := []) cm_ms_ok cm_ms_rc hNP (List.forall_mem_cons.mpr ⟨ab_CT_up ck_428 (by decide), fun _ h => absurd h List.not_mem_nil⟩) (by decide +kernel) (by decide +kernel)
/-- Model.roundAt@4 (87 steps) -/
noncomputable def ct_441 : ab_Ct := (264, [(1, 0, [124]), (3, 0, [])], [((-2147483648), 2147483647, 0, (0, 0, []), (0, 0, []))], [(127, 8, (0, 4, []))], [(124, [0, 11, 25]), (133, [0, 1, 2, 3]), (134, [])], [([(3, 1, [])], [((-2147483648), 2147483647, 0, (0, 0, []), (0, 0, [])), ((-2147483648), 2147483647, 0, (0, 0, []), (0, 0, []))], [])])
set_option maxRecDepth 1000000 in
theorem ck_441 : ab_CT cm_ms hp hN 12 ct_441 := ab_chk_ok (us := [ct_429]) (inl := inl0) (hin := inl0_ok) (d := 9) (dd := 2) (n := 20000) (tms := []) cm_ms_ok cm_ms_rc hNP (List.forall_mem_cons.mpr ⟨ab_CT_up ck_429 (by decide), fun _ h => absurd h List.not_mem_nil⟩) (by decide +kernel) (by decide +kernel)
/-- Model.roundAt@5 (87 steps) -/
noncomputable def ct_442 : ab_Ct := (264, [(1, 0, [124]), (3, 0, [])], [((-2147483648), 2147483647, 0, (0, 0, []), (0, 0, []))], [(127, 8, (0, 5, []))], [(124, [0, 11, 25]), (133, []), (134, [])], [([(3, 1, [])], [((-2147483648), 2147483647, 0, (0, 0, []), (0, 0, [])), ((-2147483648), 2147483647, 0, (0, 0, []), (0, 0, []))], [])])
set_option maxRecDepth 1000000 in
theorem ck_442 : ab_CT cm_ms hp hN 14 ct_442 := ab_chk_ok (us := [ct_430]) (inl := inl0) (hin := inl0_ok) (d := 11) (dd := 2) (n := 20000) (tms := []) cm_ms_ok cm_ms_rc hNP (List.forall_mem_cons.mpr ⟨ab_CT_up ck_430 (by decide), fun _ h => absurd h List.not_mem_nil⟩) (by decide +kernel) (by decide +kernel)
/-- Model.doesFit (89 steps) -/
noncomputable def ct_443 : ab_Ct := (265, [(1, 0, [124]), (3, 0, [])], [((-2147483648), 2147483647, 0, (0, 0, []), (0, 0, []))], [], [(132, [])], [([(3, 1, [])], [((-2147483648), 2147483647, 0, (0, 0, []), (0, 0, [])), (0, 1, 0, (0, 0, []), (0, 0, []))], [])])
set_option maxRecDepth 1000000 in
theorem ck_443 : ab_CT cm_ms hp hN 7 ct_443 := ab_chk_ok (us := [ct_334, ct_362]) (inl := inl0) (hin := inl0_ok) (d := 5) (dd := 1) (n := 20000) (tms := [((10, [(0, (1, 0, [124])), (1, (3, 0, [])), (2, (3, 1, []))], [], [((-2147483648), 2147483647, 0, (0, 0, []), (0, 0, [])), (0, 5, 0, (0, 0, []), (0, 0, []))], []), [(0, 2, (0, 0, [])), ((-1), 2147483648, (3, 1, []))]), ((47, [(0, (1, 0, [124])), (2, (3, 1, [])), (3, (3, 2, []))], [], [((-2147483648), 2147483647, 0, (0, 0, []), (0, 0, [])), (0, 1, 0, (0, 0, []), (0, 0, [])), (0, 3, 0, (0, 0, []), (0, 0, [])), (0, 5, 0, (0, 0, []), (0, 0, []))], [(127, 4, (3, 3, []))]), [(0, 1, (0, 0, [])), ((-1), 2147483648, (3, 2, []))])]) cm_ms_ok cm_ms_rc hNP (List.forall_mem_cons.mpr ⟨ab_CT_up ck_334 (by decide), List.forall_mem_cons.mpr ⟨ab_CT_up ck_362 (by decide), fun _ h => absurd h List.not_mem_nil⟩⟩) (by decide +kernel) (by decide +kernel)
/-- Model.seekSets (125 steps) -/
noncomputable def ct_444 : ab_Ct := (266, [(1, 0, [124]), (3, 0, [])], [((-2147483648), 2147483647, 0, (0, 0, []), (0, 0, []))], [], [(124, [27, 28, 29]), (132, []), (135, [])], [([(3, 1, [])], [((-2147483648), 2147483647, 0, (0, 0, []), (0, 0, [])), ((-1), 31, 0, (0, 0, []), (0, 0, []))], [])])
set_option maxRecDepth 1000000 in
theorem ck_444 : ab_CT cm_ms hp hN 8 ct_444 := ab_chk_ok (us := [ct_443]) (inl := inl0) (hin := inl0_ok) (d := 7) (dd := 0) (n := 20000) (tms := [((114, [(0, (1, 0, [124])), (1, (3, 0, [])), (2, (3, 1, [])), (3, (3, 2, [])), (4, (3, 3, []))], [], [((-2147483648), 2147483647, 0, (0, 0, []), (0, 0, [])), ((-1), 31, 0, (0, 0, []), (0, 0, [])), (0, 31, 0, (0, 0, []), (0, 0, [])), (0, 5, 0, (0, 0, []), (0, 0, [])), ((-2147483648), 2147483647, 0, (0, 0, []), (0, 0, [])), ((-2147483648), 2147483647, 0, (0, 0, []), (0, 0, [])), (0, 31, 0, (0, 0, []), (0, 0, [])), (0, 5, 0, (0, 0, []), (0, 0, []))], [(124, 27, (3, 4, [])), (124, 28, (3, 5, [])), (124, 29, (3, 6, [])), (127, 4, (3, 7, []))]), [(0, 1, (0, 0, [])), ((-1), 2147483648, (3, 2, [])), (0, 1, (0, 0, [])), ((-1), 2147483648, (3, 3, []))]), ((28, [(0, (1, 0, [124])), (1, (3, 0, [])), (2, (0, (-1), [])), (3, (3, 1, []))], [], [((-2147483648), 2147483647, 0, (0, 0, []), (0, 0, [])), (0, 5, 0, (0, 0, []), (0, 0, [])), (0, 31, 0, (0, 0, []), (0, 0, [])), (0, 5, 0, (0, 0, []), (0, 0, []))], [(124, 27, (0, 0, [])), (124, 28, (0, 0, [])), (124, 29, (3, 2, [])), (127, 4, (3, 3, []))]), [(0, 2, (0, 0, [])), ((-1), 2147483648, (3, 1, [])), (0, 1000, (0, 0, [])), (0, 0, (0, 0, []))]), ((48, [(0, (1, 0, [124])), (1, (3, 0, [])), (2, (3, 1, [])), (3, (3, 2, []))], [], [((-2147483648), 2147483647, 0, (0, 0, []), (0, 0, [])), ((-1), 31, 0, (0, 0, []), (0, 0, [])), (0, 32, 0, (0, 0, []), (0, 0, [])), ((-2147483648), 2147483647, 0, (0, 0, []), (0, 0, [])), ((-2147483648), 2147483647, 0, (0, 0, []), (0, 0, [])), (0, 31, 0, (0, 0, []), (0, 0, [])), (0, 5, 0, (0, 0, []), (0, 0, []))], [(124, 27, (3, 3, [])), (124, 28, (3, 4, [])), (124, 29, (3, 5, [])), (127, 4, (3, 6, []))]), [(0, 1, (0, 0, [])), ((-1), 2147483648, (3, 2, [])), (0, 1000, (0, 0, [])), (0, 0, (0, 0, []))])]) cm_ms_ok cm_ms_rc hNP (List.forall_mem_cons.mpr ⟨ab_CT_up ck_443 (by decide), fun _ h => absurd h List.not_mem_nil⟩) (by decide +kernel) (by decide +kernel)
/-- Model.fits (28 steps) -/
noncomputable def ct_445 : ab_Ct := (267, [(1, 0, [124])], [], [], [(124, [0, 11, 27, 28, 29]), (132, []), (135, [])], [([(3, 0, [])], [((-2147483648), 2147483647, 0, (0, 0, []), (0, 0, []))], [])])
set_option maxRecDepth 1000000 in
theorem ck_445 : ab_CT cm_ms hp hN 10 ct_445 := ab_chk_ok (us := [ct_444]) (inl := inl0) (hin := inl0_ok) (d := 8) (dd := 1) (n := 20000) (tms := []) cm_ms_ok cm_ms_rc hNP (List.forall_mem_cons.mpr ⟨ab_CT_up ck_444 (by decide), fun _ h => absurd h List.not_mem_nil⟩) (by decide +kernel) (by decide +kernel)
/-- Model.fitAt (50 steps) -/
noncomputable def ct_446 : ab_Ct := (268, [(1, 0, [124]), (3, 0, [])], [((-2147483648), 2147483647, 0, (0, 0, []), (0, 0, []))], [], [(124, [0, 11, 27, 28, 29]), (132, []), (135, [])], [([(3, 1, [])], [((-2147483648), 2147483647, 0, (0, 0, []), (0, 0, [])), ((-1), 31, 0, (0, 0, []), (0, 0, []))], [])])
set_option maxRecDepth 1000000 in
theorem ck_446 : ab_CT cm_ms hp hN 10 ct_446 := ab_chk_ok (us := [ct_444]) (inl := inl0) (hin := inl0_ok) (d := 8) (dd := 1) (n := 20000) (tms := []) cm_ms_ok cm_ms_rc hNP (List.forall_mem_cons.mpr ⟨ab_CT_up ck_444 (by decide), fun _ h => absurd h List.not_mem_nil⟩) (by decide +kernel) (by decide +kernel)
/-- Model.could (28 steps) -/
noncomputable def ct_447 : ab_Ct := (269, [(1, 0, [124])], [], [], [(124, [0, 11, 27, 28, 29]), (132, []), (135, [])], [([(3, 0, [])], [((-2147483648), 2147483647, 0, (0, 0, []), (0, 0, []))], [])])
set_option maxRecDepth 1000000 in
theorem ck_447 : ab_CT cm_ms hp hN 10 ct_447 := ab_chk_ok (us := [ct_444]) (inl := inl0) (hin := inl0_ok) (d := 8) (dd := 1) (n := 20000) (tms := []) cm_ms_ok cm_ms_rc hNP (List.forall_mem_cons.mpr ⟨ab_CT_up ck_444 (by decide), fun _ h => absurd h List.not_mem_nil⟩) (by decide +kernel) (by decide +kernel)
/-- Model.surely (28 steps) -/
noncomputable def ct_448 : ab_Ct := (270, [(1, 0, [124])], [], [], [(124, [0, 11, 27, 28, 29]), (132, []), (135, [])], [([(3, 0, [])], [((-2147483648), 2147483647, 0, (0, 0, []), (0, 0, []))], [])])
set_option maxRecDepth 1000000 in
theorem ck_448 : ab_CT cm_ms hp hN 10 ct_448 := ab_chk_ok (us := [ct_444]) (inl := inl0) (hin := inl0_ok) (d := 8) (dd := 1) (n := 20000) (tms := []) cm_ms_ok cm_ms_rc hNP (List.forall_mem_cons.mpr ⟨ab_CT_up ck_444 (by decide), fun _ h => absurd h List.not_mem_nil⟩) (by decide +kernel) (by decide +kernel)
/-- Model.leavesOf (26 steps) -/
noncomputable def ct_449 : ab_Ct := (271, [(1, 0, [124]), (3, 0, [])], [(0, 4, 0, (0, 0, []), (0, 0, []))], [], [], [([(3, 1, [])], [(0, 4, 0, (0, 0, []), (0, 0, [])), ((-2147483648), 2147483647, 0, (0, 0, []), (0, 0, []))], [])])
set_option maxRecDepth 1000000 in
theorem ck_449 : ab_CT cm_ms hp hN 1 ct_449 := ab_chk_ok (us := []) (inl := inl0) (hin := inl0_ok) (d := 0) (dd := 0) (n := 20000) (tms := []) cm_ms_ok cm_ms_rc hNP (fun _ h => absurd h List.not_mem_nil) (by decide +kernel) (by decide +kernel)
/-- Model.askOf (40 steps) -/
noncomputable def ct_450 : ab_Ct := (272, [(1, 0, [124])], [], [], [(124, [27, 28, 29]), (132, []), (135, [])], [([(3, 0, [])], [((-2), 4, 0, (0, 0, []), (0, 0, []))], [])])
set_option maxRecDepth 1000000 in
theorem ck_450 : ab_CT cm_ms hp hN 9 ct_450 := ab_chk_ok (us := [ct_444, ct_449]) (inl := inl0) (hin := inl0_ok) (d := 8) (dd := 0) (n := 20000) (tms := [((11, [(0, (1, 0, [124])), (1, (3, 0, [])), (2, (3, 1, []))], [], [((-2), 4, 0, (0, 0, []), (0, 0, [])), (0, 5, 0, (0, 0, []), (0, 0, []))], []), [(0, 1, (0, 0, [])), ((-1), 2147483648, (3, 1, []))])]) cm_ms_ok cm_ms_rc hNP (List.forall_mem_cons.mpr ⟨ab_CT_up ck_444 (by decide), List.forall_mem_cons.mpr ⟨ab_CT_up ck_449 (by decide), fun _ h => absurd h List.not_mem_nil⟩⟩) (by decide +kernel) (by decide +kernel)
/-- Model.ask (25 steps) -/
noncomputable def ct_451 : ab_Ct := (273, [(1, 0, [124])], [], [], [(124, [0, 11, 27, 28, 29]), (132, []), (135, [])], [([(3, 0, [])], [((-2), 4, 0, (0, 0, []), (0, 0, []))], [])])
set_option maxRecDepth 1000000 in
theorem ck_451 : ab_CT cm_ms hp hN 11 ct_451 := ab_chk_ok (us := [ct_450]) (inl := inl0) (hin := inl0_ok) (d := 9) (dd := 1) (n := 20000) (tms := []) cm_ms_ok cm_ms_rc hNP (List.forall_mem_cons.mpr ⟨ab_CT_up ck_450 (by decide), fun _ h => absurd h List.not_mem_nil⟩) (by decide +kernel) (by decide +kernel)
/-- Model.askLeaves (33 steps) -/
noncomputable def ct_452 : ab_Ct := (274, [(1, 0, [124])], [], [], [(124, [0, 11, 27, 28, 29]), (132, []), (135, [])], [([(3, 0, [])], [((-2147483648), 2147483647, 0, (0, 0, []), (0, 0, []))], [])])
set_option maxRecDepth 1000000 in
theorem ck_452 : ab_CT cm_ms hp hN 11 ct_452 := ab_chk_ok (us := [ct_449, ct_450]) (inl := inl0) (hin := inl0_ok) (d := 9) (dd := 1) (n := 20000) (tms := []) cm_ms_ok cm_ms_rc hNP (List.forall_mem_cons.mpr ⟨ab_CT_up ck_449 (by decide), List.forall_mem_cons.mpr ⟨ab_CT_up ck_450 (by decide), fun _ h => absurd h List.not_mem_nil⟩⟩) (by decide +kernel) (by decide +kernel)
/-- Model.talk (161 steps) -/
noncomputable def ct_453 : ab_Ct := (276, [(1, 0, [124]), (3, 0, []), (3, 1, []), (3, 2, []), (3, 3, [])], [((-2147483648), 2147483647, 0, (0, 0, []), (0, 0, [])), (0, 1, 0, (0, 0, []), (0, 0, [])), (0, 1, 0, (0, 0, []), (0, 0, [])), (0, 1, 0, (0, 0, []), (0, 0, []))], [], [(124, [0, 11])], [([(3, 4, [])], [((-2147483648), 2147483647, 0, (0, 0, []), (0, 0, [])), (0, 1, 0, (0, 0, []), (0, 0, [])), (0, 1, 0, (0, 0, []), (0, 0, [])), (0, 1, 0, (0, 0, []), (0, 0, [])), ((-2147483648), 2147483647, 0, (0, 0, []), (0, 0, []))], [])])
set_option maxRecDepth 1000000 in
theorem ck_453 : ab_CT cm_ms hp hN 2 ct_453 := ab_chk_ok (us := []) (inl := inl0) (hin := inl0_ok) (d := 0) (dd := 1) (n := 20000) (tms := []) cm_ms_ok cm_ms_rc hNP (fun _ h => absurd h List.not_mem_nil) (by decide +kernel) (by decide +kernel)
/-- Model.isRest (174 steps) -/
noncomputable def ct_454 : ab_Ct := (277, [(3, 0, []), (3, 1, []), (3, 2, [])], [((-2147483648), 2147483647, 0, (0, 0, []), (0, 0, [])), (0, 1, 0, (0, 0, []), (0, 0, [])), (0, 1, 0, (0, 0, []), (0, 0, []))], [], [], [([(3, 3, [])], [((-2147483648), 2147483647, 0, (0, 0, []), (0, 0, [])), (0, 1, 0, (0, 0, []), (0, 0, [])), (0, 1, 0, (0, 0, []), (0, 0, [])), (0, 1, 0, (0, 0, []), (0, 0, []))], [])])
set_option maxRecDepth 1000000 in
theorem ck_454 : ab_CT cm_ms hp hN 2 ct_454 := ab_chk_ok (us := []) (inl := inl0) (hin := inl0_ok) (d := 0) (dd := 1) (n := 20000) (tms := []) cm_ms_ok cm_ms_rc hNP (fun _ h => absurd h List.not_mem_nil) (by decide +kernel) (by decide +kernel)
/-- Model.seekRests (131 steps) -/
noncomputable def ct_455 : ab_Ct := (278, [(1, 0, [124]), (3, 0, [])], [((-2147483648), 2147483647, 0, (0, 0, []), (0, 0, []))], [], [(124, [30])], [([(3, 1, [])], [((-2147483648), 2147483647, 0, (0, 0, []), (0, 0, [])), ((-2147483648), 2147483647, 0, (0, 0, []), (0, 0, []))], [])])
set_option maxRecDepth 1000000 in
theorem ck_455 : ab_CT cm_ms hp hN 3 ct_455 := ab_chk_ok (us := [ct_454]) (inl := inl0) (hin := inl0_ok) (d := 2) (dd := 0) (n := 20000) (tms := [((10, [(0, (1, 0, [124])), (1, (3, 0, [])), (2, (3, 1, [])), (3, (3, 2, []))], [], [((-2147483648), 2147483647, 0, (0, 0, []), (0, 0, [])), ((-2147483648), 2147483647, 0, (0, 0, []), (0, 0, [])), (0, 4, 0, (0, 0, []), (0, 0, [])), ((-2), 31, 0, (0, 0, []), (0, 0, []))], [(124, 30, (3, 3, []))]), [(0, 1, (0, 0, [])), ((-1), 2147483648, (3, 2, []))])]) cm_ms_ok cm_ms_rc hNP (List.forall_mem_cons.mpr ⟨ab_CT_up ck_454 (by decide), fun _ h => absurd h List.not_mem_nil⟩) (by decide +kernel) (by decide +kernel)
/-- Model.rests (132 steps) -/
noncomputable def ct_456 : ab_Ct := (279, [(1, 0, [124]), (3, 0, [])], [((-2147483648), 2147483647, 0, (0, 0, []), (0, 0, []))], [], [(124, [0, 11, 30])], [([(3, 1, [])], [((-2147483648), 2147483647, 0, (0, 0, []), (0, 0, [])), ((-2147483648), 2147483647, 0, (0, 0, []), (0, 0, []))], [])])
set_option maxRecDepth 1000000 in
theorem ck_456 : ab_CT cm_ms hp hN 5 ct_456 := ab_chk_ok (us := [ct_455]) (inl := inl0) (hin := inl0_ok) (d := 3) (dd := 1) (n := 20000) (tms := []) cm_ms_ok cm_ms_rc hNP (List.forall_mem_cons.mpr ⟨ab_CT_up ck_455 (by decide), fun _ h => absurd h List.not_mem_nil⟩) (by decide +kernel) (by decide +kernel)
/-- Model.rest (130 steps) -/
noncomputable def ct_457 : ab_Ct := (280, [(1, 0, [124]), (3, 0, [])], [((-2147483648), 2147483647, 0, (0, 0, []), (0, 0, []))], [], [(124, [0, 11, 30])], [([(3, 1, [])], [((-2147483648), 2147483647, 0, (0, 0, []), (0, 0, [])), ((-2147483648), 2147483647, 0, (0, 0, []), (0, 0, []))], [])])
set_option maxRecDepth 1000000 in
theorem ck_457 : ab_CT cm_ms hp hN 5 ct_457 := ab_chk_ok (us := [ct_455]) (inl := inl0) (hin := inl0_ok) (d := 3) (dd := 1) (n := 20000) (tms := []) cm_ms_ok cm_ms_rc hNP (List.forall_mem_cons.mpr ⟨ab_CT_up ck_455 (by decide), fun _ h => absurd h List.not_mem_nil⟩) (by decide +kernel) (by decide +kernel)
/-- Model.odds BY HAND -/
noncomputable def ct_458 : ab_Ct := (282, [(1, 0, [124]), (3, 0, []), (3, 1, [])], [((-2147483648), 2147483647, 0, (0, 0, []), (0, 0, [])), (0, 1, 0, (0, 0, []), (0, 0, []))], [], [(124, [0, 11, 31, 32, 33]), (132, [])], [([(6, 0, [])], [((-2147483648), 2147483647, 0, (0, 0, []), (0, 0, [])), (0, 1, 0, (0, 0, []), (0, 0, []))], [])])
theorem ck_458 : ab_CT cm_ms hp hN 9 ct_458 := hd_od (d := 5) (by decide) (ab_CT_up ck_368 (by decide)) (ab_CT_up ck_359 (by decide)) (ab_CT_up ck_360 (by decide))
/-- Model.mean BY HAND -/
noncomputable def ct_459 : ab_Ct := (283, [(1, 0, [124]), (3, 0, []), (3, 1, [])], [((-2147483648), 2147483647, 0, (0, 0, []), (0, 0, [])), (0, 1, 0, (0, 0, []), (0, 0, []))], [], [(124, [0, 11, 31, 32, 33]), (132, [])], [([(6, 0, [])], [((-2147483648), 2147483647, 0, (0, 0, []), (0, 0, [])), (0, 1, 0, (0, 0, []), (0, 0, []))], [])])
theorem ck_459 : ab_CT cm_ms hp hN 9 ct_459 := hd_me (d := 5) (by decide) (ab_CT_up ck_368 (by decide)) (ab_CT_up ck_359 (by decide)) (ab_CT_up ck_360 (by decide))
/-- Model.shavesWhy@no (4 steps) -/
noncomputable def ct_460 : ab_Ct := (284, [(1, 0, [124]), (0, 0, []), (3, 0, []), (3, 1, []), (3, 2, [])], [((-2147483648), 2147483647, 0, (0, 0, []), (0, 0, [])), ((-2147483648), 2147483647, 0, (0, 0, []), (0, 0, [])), ((-2147483648), 2147483647, 0, (0, 0, []), (0, 0, []))], [], [], [([(0, 1, [])], [((-2147483648), 2147483647, 0, (0, 0, []), (0, 0, [])), ((-2147483648), 2147483647, 0, (0, 0, []), (0, 0, [])), ((-2147483648), 2147483647, 0, (0, 0, []), (0, 0, []))], [])])
set_option maxRecDepth 1000000 in
theorem ck_460 : ab_CT cm_ms hp hN 1 ct_460 := ab_chk_ok (us := []) (inl := inl0) (hin := inl0_ok) (d := 0) (dd := 0) (n := 20000) (tms := []) cm_ms_ok cm_ms_rc hNP (fun _ h => absurd h List.not_mem_nil) (by decide +kernel) (by decide +kernel)
/-- Model.shavesWhy@yes (124 steps) -/
noncomputable def ct_461 : ab_Ct := (284, [(1, 0, [124]), (0, 1, []), (3, 0, []), (3, 1, []), (3, 2, [])], [((-1), 4, 0, (0, 0, []), (0, 0, [])), ((-2147483648), 2147483647, 0, (0, 0, []), (0, 0, [])), ((-2147483648), 2147483647, 0, (0, 0, []), (0, 0, []))], [], [(124, [34]), (132, [])], [([(3, 3, [])], [((-1), 4, 0, (0, 0, []), (0, 0, [])), ((-2147483648), 2147483647, 0, (0, 0, []), (0, 0, [])), ((-2147483648), 2147483647, 0, (0, 0, []), (0, 0, [])), (0, 2, 0, (0, 0, []), (0, 0, []))], [])])
set_option maxRecDepth 1000000 in
theorem ck_461 : ab_CT cm_ms hp hN 7 ct_461 := ab_chk_ok (us := [ct_360, ct_366, ct_368]) (inl := inl0) (hin := inl0_ok) (d := 5) (dd := 1) (n := 20000) (tms := [((46, [(0, (1, 0, [124])), (2, (3, 0, [])), (4, (3, 2, [])), (5, (3, 3, [])), (6, (3, 4, []))], [], [((-1), 4, 0, (0, 0, []), (0, 0, [])), (0, 65536, 0, (0, 0, []), (0, 0, [])), (0, 60, 0, (0, 0, []), (0, 0, [])), (0, 65536, 0, (0, 0, []), (0, 0, [])), (1, 61, 0, (0, 0, []), (0, 0, [])), (0, 60, 0, (0, 0, []), (0, 0, []))], [(124, 34, (3, 5, []))]), [(0, 1, (0, 0, [])), ((-1), 2147483648, (3, 4, [])), (0, 1000, (0, 0, [])), (0, 0, (0, 0, []))]), ((64, [(0, (1, 0, [124])), (2, (3, 0, [])), (4, (3, 2, [])), (5, (3, 3, [])), (6, (3, 4, [])), (7, (3, 5, []))], [], [((-1), 4, 0, (0, 0, []), (0, 0, [])), (0, 65536, 0, (0, 0, []), (0, 0, [])), (1, 60, 0, (0, 0, []), (0, 0, [])), (0, 65536, 0, (0, 0, []), (0, 0, [])), (1, 60, 0, (0, 0, []), (0, 0, [])), (0, 6, 0, (0, 0, []), (0, 0, [])), (0, 60, 0, (0, 0, []), (0, 0, []))], [(124, 34, (3, 6, []))]), [(0, 1, (0, 0, [])), ((-1), 2147483648, (3, 4, [])), (0, 1, (0, 0, [])), ((-1), 2147483648, (3, 5, []))])]) cm_ms_ok cm_ms_rc hNP (List.forall_mem_cons.mpr ⟨ab_CT_up ck_360 (by decide), List.forall_mem_cons.mpr ⟨ab_CT_up ck_366 (by decide), List.forall_mem_cons.mpr ⟨ab_CT_up ck_368 (by decide), fun _ h => absurd h List.not_mem_nil⟩⟩⟩) (by decide +kernel) (by decide +kernel)
/-- Model.shaves (123 steps) -/
noncomputable def ct_462 : ab_Ct := (285, [(1, 0, [124]), (3, 0, []), (3, 1, []), (3, 2, [])], [((-2147483648), 2147483647, 0, (0, 0, []), (0, 0, [])), ((-2147483648), 2147483647, 0, (0, 0, []), (0, 0, [])), ((-2147483648), 2147483647, 0, (0, 0, []), (0, 0, []))], [], [(124, [0, 11, 34]), (132, [])], [([(3, 3, [])], [((-2147483648), 2147483647, 0, (0, 0, []), (0, 0, [])), ((-2147483648), 2147483647, 0, (0, 0, []), (0, 0, [])), ((-2147483648), 2147483647, 0, (0, 0, []), (0, 0, [])), ((-2147483648), 2147483647, 0, (0, 0, []), (0, 0, []))], [])])
set_option maxRecDepth 1000000 in
theorem ck_462 : ab_CT cm_ms hp hN 10 ct_462 := ab_chk_ok (us := [ct_460, ct_461]) (inl := inl0) (hin := inl0_ok) (d := 7) (dd := 2) (n := 20000) (tms := []) cm_ms_ok cm_ms_rc hNP (List.forall_mem_cons.mpr ⟨ab_CT_up ck_460 (by decide), List.forall_mem_cons.mpr ⟨ab_CT_up ck_461 (by decide), fun _ h => absurd h List.not_mem_nil⟩⟩) (by decide +kernel) (by decide +kernel)
/-- Model.carries (121 steps) -/
noncomputable def ct_463 : ab_Ct := (286, [(1, 0, [124]), (3, 0, []), (3, 1, []), (3, 2, [])], [((-2147483648), 2147483647, 0, (0, 0, []), (0, 0, [])), ((-2147483648), 2147483647, 0, (0, 0, []), (0, 0, [])), ((-2147483648), 2147483647, 0, (0, 0, []), (0, 0, []))], [], [(124, [0, 11, 34]), (132, [])], [([(3, 3, [])], [((-2147483648), 2147483647, 0, (0, 0, []), (0, 0, [])), ((-2147483648), 2147483647, 0, (0, 0, []), (0, 0, [])), ((-2147483648), 2147483647, 0, (0, 0, []), (0, 0, [])), ((-2147483648), 2147483647, 0, (0, 0, []), (0, 0, []))], [])])
set_option maxRecDepth 1000000 in
theorem ck_463 : ab_CT cm_ms hp hN 10 ct_463 := ab_chk_ok (us := [ct_460, ct_461]) (inl := inl0) (hin := inl0_ok) (d := 7) (dd := 2) (n := 20000) (tms := []) cm_ms_ok cm_ms_rc hNP (List.forall_mem_cons.mpr ⟨ab_CT_up ck_460 (by decide), List.forall_mem_cons.mpr ⟨ab_CT_up ck_461 (by decide), fun _ h => absurd h List.not_mem_nil⟩⟩) (by decide +kernel) (by decide +kernel)
/-- Model.note (63 steps) -/
noncomputable def ct_464 : ab_Ct := (287, [(1, 0, [124])], [], [], [(124, [20]), (130, [])], [([], [], [])])
set_option maxRecDepth 1000000 in
theorem ck_464 : ab_CT cm_ms hp hN 2 ct_464 := ab_chk_ok (us := [ct_291]) (inl := inl0) (hin := inl0_ok) (d := 1) (dd := 0) (n := 20000) (tms := [((11, [(0, (1, 0, [124])), (1, (3, 0, []))], [], [(0, 165, 0, (0, 0, []), (0, 0, []))], [(124, 20, (0, 16, []))]), [(0, 1, (0, 0, [])), ((-1), 2147483648, (3, 0, []))])]) cm_ms_ok cm_ms_rc hNP (List.forall_mem_cons.mpr ⟨ab_CT_up ck_291 (by decide), fun _ h => absurd h List.not_mem_nil⟩) (by decide +kernel) (by decide +kernel)
/-- Model.put (108 steps) -/
noncomputable def ct_465 : ab_Ct := (288, [(1, 0, [124]), (3, 0, [])], [((-2147483648), 2147483647, 0, (0, 0, []), (0, 0, []))], [], [(124, [0, 11, 20]), (129, [0, 1, 2, 3, 4, 5, 6, 7, 8, 9]), (130, []), (132, [0, 1, 2, 3, 4, 5, 6, 7, 8, 9])], [([(3, 1, [])], [((-2147483648), 2147483647, 0, (0, 0, []), (0, 0, [])), ((-1), 1, 0, (0, 0, []), (0, 0, []))], [])])
set_option maxRecDepth 1000000 in
theorem ck_465 : ab_CT cm_ms hp hN 9 ct_465 := ab_chk_ok (us := [ct_361, ct_365, ct_464]) (inl := inl0) (hin := inl0_ok) (d := 6) (dd := 2) (n := 20000) (tms := []) cm_ms_ok cm_ms_rc hNP (List.forall_mem_cons.mpr ⟨ab_CT_up ck_361 (by decide), List.forall_mem_cons.mpr ⟨ab_CT_up ck_365 (by decide), List.forall_mem_cons.mpr ⟨ab_CT_up ck_464 (by decide), fun _ h => absurd h List.not_mem_nil⟩⟩⟩) (by decide +kernel) (by decide +kernel)
/-- Model.week (47 steps) -/
noncomputable def ct_466 : ab_Ct := (289, [(1, 0, [124])], [], [], [(124, [0, 11, 20]), (129, [0, 1, 2, 3, 4, 5, 10]), (130, []), (132, [0, 1, 2, 3, 4, 5, 10])], [([(3, 0, [])], [((-2147483648), 2147483647, 0, (0, 0, []), (0, 0, []))], [])])
set_option maxRecDepth 1000000 in
theorem ck_466 : ab_CT cm_ms hp hN 4 ct_466 := ab_chk_ok (us := [ct_355, ct_367, ct_464]) (inl := inl0) (hin := inl0_ok) (d := 2) (dd := 1) (n := 20000) (tms := []) cm_ms_ok cm_ms_rc hNP (List.forall_mem_cons.mpr ⟨ab_CT_up ck_355 (by decide), List.forall_mem_cons.mpr ⟨ab_CT_up ck_367 (by decide), List.forall_mem_cons.mpr ⟨ab_CT_up ck_464 (by decide), fun _ h => absurd h List.not_mem_nil⟩⟩⟩) (by decide +kernel) (by decide +kernel)
/-- Model.shave (125 steps) -/
noncomputable def ct_467 : ab_Ct := (290, [(1, 0, [124]), (3, 0, [])], [((-2147483648), 2147483647, 0, (0, 0, []), (0, 0, []))], [], [(124, [0, 11, 20]), (129, [0, 1, 2, 3, 4, 5, 6, 7, 8]), (130, [])], [([(3, 1, [])], [((-2147483648), 2147483647, 0, (0, 0, []), (0, 0, [])), ((-2147483648), 2147483647, 0, (0, 0, []), (0, 0, []))], [])])
set_option maxRecDepth 1000000 in
theorem ck_467 : ab_CT cm_ms hp hN 5 ct_467 := ab_chk_ok (us := [ct_464]) (inl := inl0) (hin := inl0_ok) (d := 2) (dd := 2) (n := 20000) (tms := []) cm_ms_ok cm_ms_rc hNP (List.forall_mem_cons.mpr ⟨ab_CT_up ck_464 (by decide), fun _ h => absurd h List.not_mem_nil⟩) (by decide +kernel) (by decide +kernel)
/-- Model.undo (40 steps) -/
noncomputable def ct_468 : ab_Ct := (291, [(1, 0, [124])], [], [], [(124, [0, 11, 20]), (129, [])], [([(3, 0, [])], [(0, 1, 0, (0, 0, []), (0, 0, []))], [])])
set_option maxRecDepth 1000000 in
theorem ck_468 : ab_CT cm_ms hp hN 3 ct_468 := ab_chk_ok (us := [ct_292]) (inl := inl0) (hin := inl0_ok) (d := 1) (dd := 1) (n := 20000) (tms := []) cm_ms_ok cm_ms_rc hNP (List.forall_mem_cons.mpr ⟨ab_CT_up ck_292 (by decide), fun _ h => absurd h List.not_mem_nil⟩) (by decide +kernel) (by decide +kernel)
/-- Model.image (56 steps) -/
noncomputable def ct_469 : ab_Ct := (292, [(1, 0, [124])], [], [], [(124, [0, 11, 21]), (131, [])], [([(3, 0, [])], [((-1), 2, 0, (0, 0, []), (0, 0, []))], [])])
set_option maxRecDepth 1000000 in
theorem ck_469 : ab_CT cm_ms hp hN 3 ct_469 := ab_chk_ok (us := [ct_293]) (inl := inl0) (hin := inl0_ok) (d := 1) (dd := 1) (n := 20000) (tms := []) cm_ms_ok cm_ms_rc hNP (List.forall_mem_cons.mpr ⟨ab_CT_up ck_293 (by decide), fun _ h => absurd h List.not_mem_nil⟩) (by decide +kernel) (by decide +kernel)
/-- Model.back (65 steps) -/
noncomputable def ct_470 : ab_Ct := (293, [(1, 0, [124]), (3, 0, [])], [((-2147483648), 2147483647, 0, (0, 0, []), (0, 0, []))], [], [(124, [0, 11, 20]), (129, [])], [([(3, 1, [])], [((-2147483648), 2147483647, 0, (0, 0, []), (0, 0, [])), (0, 1, 0, (0, 0, []), (0, 0, []))], [])])
set_option maxRecDepth 1000000 in
theorem ck_470 : ab_CT cm_ms hp hN 3 ct_470 := ab_chk_ok (us := [ct_294]) (inl := inl0) (hin := inl0_ok) (d := 1) (dd := 1) (n := 20000) (tms := []) cm_ms_ok cm_ms_rc hNP (List.forall_mem_cons.mpr ⟨ab_CT_up ck_294 (by decide), fun _ h => absurd h List.not_mem_nil⟩) (by decide +kernel) (by decide +kernel)
/-- Model.led (57 steps) -/
noncomputable def ct_471 : ab_Ct := (294, [(1, 0, [124]), (3, 0, [])], [((-2147483648), 2147483647, 0, (0, 0, []), (0, 0, []))], [], [(124, [0])], [([(3, 1, [])], [((-2147483648), 2147483647, 0, (0, 0, []), (0, 0, [])), (0, 4, 0, (0, 0, []), (0, 0, []))], [])])
set_option maxRecDepth 1000000 in
theorem ck_471 : ab_CT cm_ms hp hN 2 ct_471 := ab_chk_ok (us := []) (inl := inl0) (hin := inl0_ok) (d := 0) (dd := 1) (n := 20000) (tms := [((4, [(0, (1, 0, [124])), (1, (3, 0, [])), (2, (3, 1, [])), (3, (3, 2, []))], [], [((-2147483648), 2147483647, 0, (0, 0, []), (0, 0, [])), ((-2147483648), 2147483647, 0, (0, 0, []), (0, 0, [])), (0, 5, 0, (0, 0, []), (0, 0, []))], []), [(0, 1, (0, 0, [])), ((-1), 2147483648, (3, 2, []))])]) cm_ms_ok cm_ms_rc hNP (fun _ h => absurd h List.not_mem_nil) (by decide +kernel) (by decide +kernel)
/-- Model.size (100 steps) -/
noncomputable def ct_472 : ab_Ct := (295, [(1, 0, [124]), (3, 0, [])], [((-2147483648), 2147483647, 0, (0, 0, []), (0, 0, []))], [], [(124, [0])], [([(3, 1, [])], [((-2147483648), 2147483647, 0, (0, 0, []), (0, 0, [])), ((-2147483648), 2147483647, 0, (0, 0, []), (0, 0, []))], [])])
set_option maxRecDepth 1000000 in
theorem ck_472 : ab_CT cm_ms hp hN 2 ct_472 := ab_chk_ok (us := []) (inl := inl0) (hin := inl0_ok) (d := 0) (dd := 1) (n := 20000) (tms := []) cm_ms_ok cm_ms_rc hNP (fun _ h => absurd h List.not_mem_nil) (by decide +kernel) (by decide +kernel)
/-- Model.trouble (6 steps) -/
noncomputable def ct_473 : ab_Ct := (296, [(1, 0, [124])], [], [], [(124, [0])], [([(3, 0, [])], [((-2147483648), 2147483647, 0, (0, 0, []), (0, 0, []))], [])])
set_option maxRecDepth 1000000 in
theorem ck_473 : ab_CT cm_ms hp hN 1 ct_473 := ab_chk_ok (us := []) (inl := inl0) (hin := inl0_ok) (d := 0) (dd := 0) (n := 20000) (tms := []) cm_ms_ok cm_ms_rc hNP (fun _ h => absurd h List.not_mem_nil) (by decide +kernel) (by decide +kernel)
