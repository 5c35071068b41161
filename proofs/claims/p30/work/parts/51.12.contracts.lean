/-! AB: contracts -/
/-- Model.worthOf (844 steps) -/
def ct_381 : ab_Ct := (242, [(1, 0, [124]), (3, 0, []), (3, 1, [])], [((-2147483648), 2147483647, 0, (0, 0, []), (0, 0, [])), ((-2147483648), 2147483647, 0, (0, 0, []), (0, 0, []))], [], [(124, [0, 11]), (129, []), (132, [])], [([(3, 2, [])], [((-2147483648), 2147483647, 0, (0, 0, []), (0, 0, [])), ((-2147483648), 2147483647, 0, (0, 0, []), (0, 0, [])), ((-1), 2147483647, 0, (0, 0, []), (0, 0, []))], [])])
set_option maxRecDepth 1000000 in
theorem ck_381 : ab_CT cm_ms hp hN 9 ct_381 := ab_chk_ok (us := [ct_380]) (inl := inl0) (hin := inl0_ok) (d := 7) (dd := 1) (n := 20000) (tms := []) cm_ms_ok cm_ms_rc hNP (List.forall_mem_cons.mpr ⟨ab_CT_up ck_380 (by decide), fun _ h => absurd h List.not_mem_nil⟩) (by decide +kernel) (by decide +kernel)
/-- Model.rowsOf (15 steps) -/
def ct_382 : ab_Ct := (243, [(3, 0, [])], [((-2147483648), 2147483647, 0, (0, 0, []), (0, 0, []))], [], [], [([(3, 1, [])], [((-2147483648), 2147483647, 0, (0, 0, []), (0, 0, [])), ((-2147483648), 2147483647, 0, (0, 0, []), (0, 0, []))], [])])
set_option maxRecDepth 1000000 in
theorem ck_382 : ab_CT cm_ms hp hN 1 ct_382 := ab_chk_ok (us := []) (inl := inl0) (hin := inl0_ok) (d := 0) (dd := 0) (n := 20000) (tms := [((4, [(0, (3, 0, [])), (1, (3, 1, [])), (2, (3, 2, []))], [], [((-2147483648), 2147483647, 0, (0, 0, []), (0, 0, [])), ((-2147483648), 2147483647, 0, (0, 0, []), (0, 0, [])), (0, 2147483647, 0, (0, 0, []), (0, 0, []))], []), [(0, 1, (0, 0, [])), ((-1), 2147483648, (3, 2, []))])]) cm_ms_ok cm_ms_rc hNP (fun _ h => absurd h List.not_mem_nil) (by decide +kernel) (by decide +kernel)
/-- Model.bestOf (515 steps) -/
def ct_383 : ab_Ct := (244, [(1, 0, [124]), (3, 0, [])], [(1, 4, 0, (0, 0, []), (0, 0, []))], [], [(129, []), (132, [])], [([(3, 1, [])], [(1, 4, 0, (0, 0, []), (0, 0, [])), (0, 2147483646, 0, (0, 0, []), (0, 0, []))], [])])
set_option maxRecDepth 1000000 in
theorem ck_383 : ab_CT cm_ms hp hN 9 ct_383 := ab_chk_ok (us := [ct_380, ct_382]) (inl := inl0) (hin := inl0_ok) (d := 7) (dd := 1) (n := 20000) (tms := [((7, [(0, (1, 0, [124])), (1, (3, 0, [])), (2, (3, 1, [])), (3, (3, 2, [])), (4, (3, 3, []))], [], [(1, 4, 0, (0, 0, []), (0, 0, [])), (0, 2147483646, 0, (0, 0, []), (0, 0, [])), (0, 2147483647, 0, (0, 0, []), (0, 0, [])), (1, 2147483647, 0, (0, 0, []), (0, 0, []))], []), [(0, 1, (0, 0, [])), ((-1), 2147483648, (3, 3, []))])]) cm_ms_ok cm_ms_rc hNP (List.forall_mem_cons.mpr ⟨ab_CT_up ck_380 (by decide), List.forall_mem_cons.mpr ⟨ab_CT_up ck_382 (by decide), fun _ h => absurd h List.not_mem_nil⟩⟩) (by decide +kernel) (by decide +kernel)
/-- Model.bestRow (132 steps) -/
def ct_384 : ab_Ct := (245, [(1, 0, [124]), (3, 0, [])], [((-2147483648), 2147483647, 0, (0, 0, []), (0, 0, []))], [], [(124, [0, 11]), (129, []), (132, [])], [([(3, 1, [])], [((-2147483648), 2147483647, 0, (0, 0, []), (0, 0, [])), ((-1), 2147483646, 0, (0, 0, []), (0, 0, []))], [])])
set_option maxRecDepth 1000000 in
theorem ck_384 : ab_CT cm_ms hp hN 11 ct_384 := ab_chk_ok (us := [ct_383]) (inl := inl0) (hin := inl0_ok) (d := 9) (dd := 1) (n := 20000) (tms := []) cm_ms_ok cm_ms_rc hNP (List.forall_mem_cons.mpr ⟨ab_CT_up ck_383 (by decide), fun _ h => absurd h List.not_mem_nil⟩) (by decide +kernel) (by decide +kernel)
/-- Model.bestWorth (135 steps) -/
def ct_385 : ab_Ct := (246, [(1, 0, [124]), (3, 0, [])], [((-2147483648), 2147483647, 0, (0, 0, []), (0, 0, []))], [], [(124, [0, 11]), (129, []), (132, [])], [([(3, 1, [])], [((-2147483648), 2147483647, 0, (0, 0, []), (0, 0, [])), ((-2147483648), 2147483647, 0, (0, 0, []), (0, 0, []))], [])])
set_option maxRecDepth 1000000 in
theorem ck_385 : ab_CT cm_ms hp hN 11 ct_385 := ab_chk_ok (us := [ct_380, ct_383]) (inl := inl0) (hin := inl0_ok) (d := 9) (dd := 1) (n := 20000) (tms := []) cm_ms_ok cm_ms_rc hNP (List.forall_mem_cons.mpr ⟨ab_CT_up ck_380 (by decide), List.forall_mem_cons.mpr ⟨ab_CT_up ck_383 (by decide), fun _ h => absurd h List.not_mem_nil⟩⟩) (by decide +kernel) (by decide +kernel)
/-- Model.bestCarried (135 steps) -/
def ct_386 : ab_Ct := (247, [(1, 0, [124]), (3, 0, [])], [((-2147483648), 2147483647, 0, (0, 0, []), (0, 0, []))], [], [(124, [0, 11]), (129, []), (132, [])], [([(3, 1, [])], [((-2147483648), 2147483647, 0, (0, 0, []), (0, 0, [])), ((-2147483648), 2147483647, 0, (0, 0, []), (0, 0, []))], [])])
set_option maxRecDepth 1000000 in
theorem ck_386 : ab_CT cm_ms hp hN 11 ct_386 := ab_chk_ok (us := [ct_380, ct_383]) (inl := inl0) (hin := inl0_ok) (d := 9) (dd := 1) (n := 20000) (tms := []) cm_ms_ok cm_ms_rc hNP (List.forall_mem_cons.mpr ⟨ab_CT_up ck_380 (by decide), List.forall_mem_cons.mpr ⟨ab_CT_up ck_383 (by decide), fun _ h => absurd h List.not_mem_nil⟩⟩) (by decide +kernel) (by decide +kernel)
/-- Model.weeksFor (588 steps) -/
def ct_387 : ab_Ct := (248, [(1, 0, [124]), (3, 0, [])], [((-2147483648), 2147483647, 0, (0, 0, []), (0, 0, []))], [], [(124, [0, 11]), (129, []), (132, [])], [([(3, 1, [])], [((-2147483648), 2147483647, 0, (0, 0, []), (0, 0, [])), ((-2), 4, 0, (0, 0, []), (0, 0, []))], [])])
set_option maxRecDepth 1000000 in
theorem ck_387 : ab_CT cm_ms hp hN 10 ct_387 := ab_chk_ok (us := [ct_380, ct_382]) (inl := inl0) (hin := inl0_ok) (d := 7) (dd := 2) (n := 20000) (tms := [((36, [(0, (1, 0, [124])), (1, (3, 0, [])), (2, (3, 1, []))], [], [(0, 4, 0, (0, 0, []), (0, 0, [])), (1, 5, 0, (0, 0, []), (0, 0, [])), (1, 5, 0, (0, 0, []), (0, 0, []))], [(124, 0, (0, 0, [])), (124, 11, (0, 0, [])), (124, 14, (0, 1, [])), (127, 4, (3, 2, []))]), [(0, 1, (0, 0, [])), ((-1), 2147483648, (3, 1, [])), (0, 1000, (0, 0, [])), (0, 0, (0, 0, []))]), ((43, [(0, (1, 0, [124])), (1, (3, 0, [])), (2, (3, 1, [])), (3, (3, 2, []))], [], [(0, 4, 0, (0, 0, []), (0, 0, [])), (1, 4, 0, (0, 0, []), (0, 0, [])), (0, 2147483647, 0, (0, 0, []), (0, 0, [])), (1, 5, 0, (0, 0, []), (0, 0, []))], [(124, 0, (0, 0, [])), (124, 11, (0, 0, [])), (124, 14, (0, 1, [])), (127, 4, (3, 3, []))]), [(0, 1, (0, 0, [])), ((-1), 2147483648, (3, 1, [])), (0, 1, (0, 0, [])), ((-1), 2147483648, (3, 2, []))])]) cm_ms_ok cm_ms_rc hNP (List.forall_mem_cons.mpr ⟨ab_CT_up ck_380 (by decide), List.forall_mem_cons.mpr ⟨ab_CT_up ck_382 (by decide), fun _ h => absurd h List.not_mem_nil⟩⟩) (by decide +kernel) (by decide +kernel)
/-- Model.turnsOf (92 steps) -/
def ct_388 : ab_Ct := (249, [(1, 0, [124]), (3, 0, []), (3, 1, [])], [(0, 5, 0, (0, 0, []), (0, 0, [])), ((-2147483648), 2147483647, 0, (0, 0, []), (0, 0, []))], [], [], [([(3, 2, [])], [(0, 5, 0, (0, 0, []), (0, 0, [])), ((-2147483648), 2147483647, 0, (0, 0, []), (0, 0, [])), ((-2147483648), 2147483647, 0, (0, 0, []), (0, 0, []))], [])])
set_option maxRecDepth 1000000 in
theorem ck_388 : ab_CT cm_ms hp hN 6 ct_388 := ab_chk_ok (us := [ct_350, ct_365]) (inl := inl0) (hin := inl0_ok) (d := 4) (dd := 1) (n := 20000) (tms := [((31, [(0, (1, 0, [124])), (1, (3, 0, [])), (2, (3, 1, [])), (3, (3, 2, [])), (4, (3, 3, [])), (5, (3, 4, []))], [], [(0, 5, 0, (0, 0, []), (0, 0, [])), ((-2147483648), 2147483647, 0, (0, 0, []), (0, 0, [])), (0, 63, 0, (0, 0, []), (0, 0, [])), ((-2147483648), 2147483647, 0, (0, 0, []), (0, 0, [])), (0, 64, 0, (0, 0, []), (0, 0, [])), ((-2147483648), 2147483647, 0, (0, 0, []), (0, 0, []))], [(127, 1, (3, 5, []))]), [(0, 1, (0, 0, [])), ((-1), 2147483648, (3, 4, []))])]) cm_ms_ok cm_ms_rc hNP (List.forall_mem_cons.mpr ⟨ab_CT_up ck_350 (by decide), List.forall_mem_cons.mpr ⟨ab_CT_up ck_365 (by decide), fun _ h => absurd h List.not_mem_nil⟩⟩) (by decide +kernel) (by decide +kernel)
/-- Model.swings (345 steps) -/
def ct_389 : ab_Ct := (250, [(1, 0, [124]), (3, 0, []), (3, 1, [])], [((-2147483648), 2147483647, 0, (0, 0, []), (0, 0, [])), ((-2147483648), 2147483647, 0, (0, 0, []), (0, 0, []))], [], [(124, [0, 11])], [([(3, 2, [])], [((-2147483648), 2147483647, 0, (0, 0, []), (0, 0, [])), ((-2147483648), 2147483647, 0, (0, 0, []), (0, 0, [])), ((-2147483648), 2147483647, 0, (0, 0, []), (0, 0, []))], [])])
set_option maxRecDepth 1000000 in
theorem ck_389 : ab_CT cm_ms hp hN 9 ct_389 := ab_chk_ok (us := [ct_388]) (inl := inl0) (hin := inl0_ok) (d := 6) (dd := 2) (n := 20000) (tms := []) cm_ms_ok cm_ms_rc hNP (List.forall_mem_cons.mpr ⟨ab_CT_up ck_388 (by decide), fun _ h => absurd h List.not_mem_nil⟩) (by decide +kernel) (by decide +kernel)
/-- Model.mighty (155 steps) -/
def ct_390 : ab_Ct := (251, [(1, 0, [124]), (3, 0, [])], [((-2147483648), 2147483647, 0, (0, 0, []), (0, 0, []))], [], [(124, [0, 11])], [([(3, 1, [])], [((-2147483648), 2147483647, 0, (0, 0, []), (0, 0, [])), ((-2), 5, 0, (0, 0, []), (0, 0, []))], [])])
set_option maxRecDepth 1000000 in
theorem ck_390 : ab_CT cm_ms hp hN 8 ct_390 := ab_chk_ok (us := [ct_388]) (inl := inl0) (hin := inl0_ok) (d := 6) (dd := 1) (n := 20000) (tms := [((39, [(0, (1, 0, [124])), (1, (3, 0, [])), (3, (3, 1, [])), (4, (3, 2, [])), (5, (3, 3, []))], [], [(0, 54, 0, (0, 0, []), (0, 0, [])), ((-2), 5, 0, (0, 0, []), (0, 0, [])), ((-2147483648), 2147483647, 0, (0, 0, []), (0, 0, [])), (0, 6, 0, (0, 0, []), (0, 0, []))], [(124, 0, (0, 0, [])), (124, 11, (0, 0, [])), (124, 14, (0, 1, []))]), [(0, 1, (0, 0, [])), ((-1), 2147483648, (3, 3, []))])]) cm_ms_ok cm_ms_rc hNP (List.forall_mem_cons.mpr ⟨ab_CT_up ck_388 (by decide), fun _ h => absurd h List.not_mem_nil⟩) (by decide +kernel) (by decide +kernel)
/-- Model.outvoted (179 steps) -/
def ct_391 : ab_Ct := (252, [(1, 0, [124]), (3, 0, [])], [((-2147483648), 2147483647, 0, (0, 0, []), (0, 0, []))], [], [(124, [0, 11])], [([(3, 1, [])], [((-2147483648), 2147483647, 0, (0, 0, []), (0, 0, [])), ((-2147483648), 2147483647, 0, (0, 0, []), (0, 0, []))], [])])
set_option maxRecDepth 1000000 in
theorem ck_391 : ab_CT cm_ms hp hN 8 ct_391 := ab_chk_ok (us := [ct_388]) (inl := inl0) (hin := inl0_ok) (d := 6) (dd := 1) (n := 20000) (tms := [((35, [(0, (1, 0, [124])), (1, (3, 0, [])), (3, (3, 1, [])), (4, (3, 2, []))], [], [(0, 54, 0, (0, 0, []), (0, 0, [])), ((-2147483648), 2147483647, 0, (0, 0, []), (0, 0, [])), (0, 6, 0, (0, 0, []), (0, 0, []))], [(124, 0, (0, 0, [])), (124, 11, (0, 0, [])), (124, 14, (0, 1, []))]), [(0, 1, (0, 0, [])), ((-1), 2147483648, (3, 2, []))])]) cm_ms_ok cm_ms_rc hNP (List.forall_mem_cons.mpr ⟨ab_CT_up ck_388 (by decide), fun _ h => absurd h List.not_mem_nil⟩) (by decide +kernel) (by decide +kernel)
/-- Model.bench (175 steps) -/
def ct_392 : ab_Ct := (253, [(1, 0, [124]), (3, 0, [])], [((-2147483648), 2147483647, 0, (0, 0, []), (0, 0, []))], [], [(124, [0, 11])], [([(3, 1, [])], [((-2147483648), 2147483647, 0, (0, 0, []), (0, 0, [])), ((-2), 63, 0, (0, 0, []), (0, 0, []))], [])])
set_option maxRecDepth 1000000 in
theorem ck_392 : ab_CT cm_ms hp hN 6 ct_392 := ab_chk_ok (us := [ct_282, ct_350, ct_365]) (inl := inl0) (hin := inl0_ok) (d := 4) (dd := 1) (n := 20000) (tms := [((36, [(0, (1, 0, [124])), (1, (3, 0, [])), (3, (3, 1, [])), (4, (3, 2, []))], [], [(0, 54, 0, (0, 0, []), (0, 0, [])), ((-2), 63, 0, (0, 0, []), (0, 0, [])), (0, 64, 0, (0, 0, []), (0, 0, []))], [(124, 0, (0, 0, [])), (124, 11, (0, 0, [])), (124, 14, (0, 1, []))]), [(0, 1, (0, 0, [])), ((-1), 2147483648, (3, 2, []))])]) cm_ms_ok cm_ms_rc hNP (List.forall_mem_cons.mpr ⟨ab_CT_up ck_282 (by decide), List.forall_mem_cons.mpr ⟨ab_CT_up ck_350 (by decide), List.forall_mem_cons.mpr ⟨ab_CT_up ck_365 (by decide), fun _ h => absurd h List.not_mem_nil⟩⟩⟩) (by decide +kernel) (by decide +kernel)
/-- Model.quarrelsOf (49 steps) -/
def ct_393 : ab_Ct := (254, [(1, 0, [124]), (3, 0, []), (3, 1, [])], [((-2147483648), 2147483647, 0, (0, 0, []), (0, 0, [])), ((-2147483648), 2147483647, 0, (0, 0, []), (0, 0, []))], [], [], [([(3, 2, [])], [((-2147483648), 2147483647, 0, (0, 0, []), (0, 0, [])), ((-2147483648), 2147483647, 0, (0, 0, []), (0, 0, [])), ((-2147483648), 2147483647, 0, (0, 0, []), (0, 0, []))], [])])
set_option maxRecDepth 1000000 in
theorem ck_393 : ab_CT cm_ms hp hN 3 ct_393 := ab_chk_ok (us := [ct_282]) (inl := inl0) (hin := inl0_ok) (d := 1) (dd := 1) (n := 20000) (tms := [((5, [(0, (1, 0, [124])), (1, (3, 0, [])), (2, (3, 1, [])), (3, (3, 2, [])), (4, (3, 3, []))], [], [((-2147483648), 2147483647, 0, (0, 0, []), (0, 0, [])), ((-2147483648), 2147483647, 0, (0, 0, []), (0, 0, [])), ((-2147483648), 2147483647, 0, (0, 0, []), (0, 0, [])), (0, 6, 0, (0, 0, []), (0, 0, []))], []), [(0, 1, (0, 0, [])), ((-1), 2147483648, (3, 3, []))])]) cm_ms_ok cm_ms_rc hNP (List.forall_mem_cons.mpr ⟨ab_CT_up ck_282 (by decide), fun _ h => absurd h List.not_mem_nil⟩) (by decide +kernel) (by decide +kernel)
/-- Model.partingOf (38 steps) -/
def ct_394 : ab_Ct := (255, [(1, 0, [124])], [], [], [], [([(3, 0, [])], [(0, 63, 0, (0, 0, []), (0, 0, []))], [])])
set_option maxRecDepth 1000000 in
theorem ck_394 : ab_CT cm_ms hp hN 5 ct_394 := ab_chk_ok (us := [ct_393]) (inl := inl0) (hin := inl0_ok) (d := 3) (dd := 1) (n := 20000) (tms := [((4, [(0, (1, 0, [124])), (1, (3, 0, [])), (2, (3, 1, []))], [], [(0, 63, 0, (0, 0, []), (0, 0, [])), (2, 65, 0, (0, 0, []), (0, 0, []))], []), [(0, 1, (0, 0, [])), ((-1), 2147483648, (3, 1, []))])]) cm_ms_ok cm_ms_rc hNP (List.forall_mem_cons.mpr ⟨ab_CT_up ck_393 (by decide), fun _ h => absurd h List.not_mem_nil⟩) (by decide +kernel) (by decide +kernel)
/-- Model.parting (25 steps) -/
def ct_395 : ab_Ct := (256, [(1, 0, [124])], [], [], [(124, [0, 11])], [([(3, 0, [])], [((-1), 63, 0, (0, 0, []), (0, 0, []))], [])])
set_option maxRecDepth 1000000 in
theorem ck_395 : ab_CT cm_ms hp hN 7 ct_395 := ab_chk_ok (us := [ct_394]) (inl := inl0) (hin := inl0_ok) (d := 5) (dd := 1) (n := 20000) (tms := []) cm_ms_ok cm_ms_rc hNP (List.forall_mem_cons.mpr ⟨ab_CT_up ck_394 (by decide), fun _ h => absurd h List.not_mem_nil⟩) (by decide +kernel) (by decide +kernel)
/-- Model.left (36 steps) -/
def ct_396 : ab_Ct := (257, [(1, 0, [124])], [], [], [(124, [0, 11])], [([(3, 0, [])], [((-2147483648), 2147483647, 0, (0, 0, []), (0, 0, []))], [])])
set_option maxRecDepth 1000000 in
theorem ck_396 : ab_CT cm_ms hp hN 7 ct_396 := ab_chk_ok (us := [ct_393, ct_394]) (inl := inl0) (hin := inl0_ok) (d := 5) (dd := 1) (n := 20000) (tms := []) cm_ms_ok cm_ms_rc hNP (List.forall_mem_cons.mpr ⟨ab_CT_up ck_393 (by decide), List.forall_mem_cons.mpr ⟨ab_CT_up ck_394 (by decide), fun _ h => absurd h List.not_mem_nil⟩⟩) (by decide +kernel) (by decide +kernel)
/-- Model.peace (96 steps) -/
def ct_397 : ab_Ct := (258, [(1, 0, [124])], [], [], [(124, [0, 11])], [([(3, 0, [])], [((-1), 63, 0, (0, 0, []), (0, 0, []))], [])])
set_option maxRecDepth 1000000 in
theorem ck_397 : ab_CT cm_ms hp hN 5 ct_397 := ab_chk_ok (us := [ct_282, ct_393]) (inl := inl0) (hin := inl0_ok) (d := 3) (dd := 1) (n := 20000) (tms := [((24, [(0, (1, 0, [124])), (1, (3, 0, [])), (2, (3, 1, []))], [], [(0, 63, 0, (0, 0, []), (0, 0, [])), (0, 64, 0, (0, 0, []), (0, 0, [])), (0, 6, 0, (0, 0, []), (0, 0, []))], [(124, 0, (0, 0, [])), (124, 11, (0, 0, [])), (124, 14, (0, 1, [])), (127, 3, (3, 2, []))]), [(0, 1, (0, 0, [])), ((-1), 2147483648, (3, 1, []))])]) cm_ms_ok cm_ms_rc hNP (List.forall_mem_cons.mpr ⟨ab_CT_up ck_282 (by decide), List.forall_mem_cons.mpr ⟨ab_CT_up ck_393 (by decide), fun _ h => absurd h List.not_mem_nil⟩⟩) (by decide +kernel) (by decide +kernel)
/-- Model.apartOf (39 steps) -/
def ct_398 : ab_Ct := (259, [(1, 0, [124]), (3, 0, []), (3, 1, [])], [(0, 4, 0, (0, 0, []), (0, 0, [])), (0, 4, 0, (0, 0, []), (0, 0, []))], [], [], [([(3, 2, [])], [(0, 4, 0, (0, 0, []), (0, 0, [])), (0, 4, 0, (0, 0, []), (0, 0, [])), ((-2147483648), 50, 0, (0, 0, []), (0, 0, []))], [])])
set_option maxRecDepth 1000000 in
theorem ck_398 : ab_CT cm_ms hp hN 1 ct_398 := ab_chk_ok (us := []) (inl := inl0) (hin := inl0_ok) (d := 0) (dd := 0) (n := 20000) (tms := []) cm_ms_ok cm_ms_rc hNP (fun _ h => absurd h List.not_mem_nil) (by decide +kernel) (by decide +kernel)
/-- Model.apart (145 steps) -/
def ct_399 : ab_Ct := (260, [(1, 0, [124]), (3, 0, []), (3, 1, [])], [((-2147483648), 2147483647, 0, (0, 0, []), (0, 0, [])), ((-2147483648), 2147483647, 0, (0, 0, []), (0, 0, []))], [], [(124, [0, 11])], [([(3, 2, [])], [((-2147483648), 2147483647, 0, (0, 0, []), (0, 0, [])), ((-2147483648), 2147483647, 0, (0, 0, []), (0, 0, [])), ((-2147483648), 50, 0, (0, 0, []), (0, 0, []))], [])])
set_option maxRecDepth 1000000 in
theorem ck_399 : ab_CT cm_ms hp hN 4 ct_399 := ab_chk_ok (us := [ct_398]) (inl := inl0) (hin := inl0_ok) (d := 1) (dd := 2) (n := 20000) (tms := []) cm_ms_ok cm_ms_rc hNP (List.forall_mem_cons.mpr ⟨ab_CT_up ck_398 (by decide), fun _ h => absurd h List.not_mem_nil⟩) (by decide +kernel) (by decide +kernel)
/-- Model.tryRound@1/1 (38 steps) -/
def ct_400 : ab_Ct := (261, [(1, 0, [124]), (3, 0, []), (3, 1, []), (3, 2, [])], [(1, 1, 0, (0, 0, []), (0, 0, [])), ((-2147483648), 2147483647, 0, (0, 0, []), (0, 0, [])), ((-2147483648), 2147483647, 0, (0, 0, []), (0, 0, []))], [(127, 8, (0, 1, []))], [(124, [25]), (134, [])], [([], [(1, 1, 0, (0, 0, []), (0, 0, [])), ((-2147483648), 2147483647, 0, (0, 0, []), (0, 0, [])), ((-2147483648), 2147483647, 0, (0, 0, []), (0, 0, []))], [])])
set_option maxRecDepth 1000000 in
theorem ck_400 : ab_CT cm_ms hp hN 2 ct_400 := ab_chk_ok (us := [ct_288, ct_398]) (inl := inl0) (hin := inl0_ok) (d := 1) (dd := 0) (n := 20000) (tms := []) cm_ms_ok cm_ms_rc hNP (List.forall_mem_cons.mpr ⟨ab_CT_up ck_288 (by decide), List.forall_mem_cons.mpr ⟨ab_CT_up ck_398 (by decide), fun _ h => absurd h List.not_mem_nil⟩⟩) (by decide +kernel) (by decide +kernel)
/-- Model.tryRound@2/2 (38 steps) -/
def ct_401 : ab_Ct := (261, [(1, 0, [124]), (3, 0, []), (3, 1, []), (3, 2, [])], [(2, 2, 0, (0, 0, []), (0, 0, [])), ((-2147483648), 2147483647, 0, (0, 0, []), (0, 0, [])), ((-2147483648), 2147483647, 0, (0, 0, []), (0, 0, []))], [(127, 8, (0, 2, []))], [(124, [25]), (134, [])], [([], [(2, 2, 0, (0, 0, []), (0, 0, [])), ((-2147483648), 2147483647, 0, (0, 0, []), (0, 0, [])), ((-2147483648), 2147483647, 0, (0, 0, []), (0, 0, []))], [])])
set_option maxRecDepth 1000000 in
theorem ck_401 : ab_CT cm_ms hp hN 2 ct_401 := ab_chk_ok (us := [ct_288, ct_398]) (inl := inl0) (hin := inl0_ok) (d := 1) (dd := 0) (n := 20000) (tms := []) cm_ms_ok cm_ms_rc hNP (List.forall_mem_cons.mpr ⟨ab_CT_up ck_288 (by decide), List.forall_mem_cons.mpr ⟨ab_CT_up ck_398 (by decide), fun _ h => absurd h List.not_mem_nil⟩⟩) (by decide +kernel) (by decide +kernel)
/-- Model.tryRound@1/2 (63 steps) -/
def ct_402 : ab_Ct := (261, [(1, 0, [124]), (3, 0, []), (3, 1, []), (3, 2, [])], [(1, 1, 0, (0, 0, []), (0, 0, [])), ((-2147483648), 2147483647, 0, (0, 0, []), (0, 0, [])), ((-2147483648), 2147483647, 0, (0, 0, []), (0, 0, []))], [(127, 8, (0, 2, []))], [(124, [25]), (133, [1]), (134, [])], [([], [(1, 1, 0, (0, 0, []), (0, 0, [])), ((-2147483648), 2147483647, 0, (0, 0, []), (0, 0, [])), ((-2147483648), 2147483647, 0, (0, 0, []), (0, 0, []))], [])])
set_option maxRecDepth 1000000 in
theorem ck_402 : ab_CT cm_ms hp hN 4 ct_402 := ab_chk_ok (us := [ct_398, ct_401]) (inl := inl0) (hin := inl0_ok) (d := 2) (dd := 1) (n := 20000) (tms := [((67, [(0, (1, 0, [124])), (1, (3, 0, [])), (2, (3, 1, [])), (3, (3, 2, [])), (4, (3, 3, []))], [], [(1, 1, 0, (0, 0, []), (0, 0, [])), ((-2147483648), 2147483647, 0, (0, 0, []), (0, 0, [])), ((-2147483648), 2147483647, 0, (0, 0, []), (0, 0, [])), (1, 2, 0, (0, 0, []), (0, 0, []))], [(127, 8, (0, 2, []))]), [(0, 1, (0, 0, [])), ((-1), 2147483648, (3, 3, []))])]) cm_ms_ok cm_ms_rc hNP (List.forall_mem_cons.mpr ⟨ab_CT_up ck_398 (by decide), List.forall_mem_cons.mpr ⟨ab_CT_up ck_401 (by decide), fun _ h => absurd h List.not_mem_nil⟩⟩) (by decide +kernel) (by decide +kernel)
/-- Model.tryRound@3/3 (38 steps) -/
def ct_403 : ab_Ct := (261, [(1, 0, [124]), (3, 0, []), (3, 1, []), (3, 2, [])], [(3, 3, 0, (0, 0, []), (0, 0, [])), ((-2147483648), 2147483647, 0, (0, 0, []), (0, 0, [])), ((-2147483648), 2147483647, 0, (0, 0, []), (0, 0, []))], [(127, 8, (0, 3, []))], [(124, [25]), (134, [])], [([], [(3, 3, 0, (0, 0, []), (0, 0, [])), ((-2147483648), 2147483647, 0, (0, 0, []), (0, 0, [])), ((-2147483648), 2147483647, 0, (0, 0, []), (0, 0, []))], [])])
set_option maxRecDepth 1000000 in
theorem ck_403 : ab_CT cm_ms hp hN 2 ct_403 := ab_chk_ok (us := [ct_288, ct_398]) (inl := inl0) (hin := inl0_ok) (d := 1) (dd := 0) (n := 20000) (tms := []) cm_ms_ok cm_ms_rc hNP (List.forall_mem_cons.mpr ⟨ab_CT_up ck_288 (by decide), List.forall_mem_cons.mpr ⟨ab_CT_up ck_398 (by decide), fun _ h => absurd h List.not_mem_nil⟩⟩) (by decide +kernel) (by decide +kernel)
/-- Model.tryRound@2/3 (63 steps) -/
def ct_404 : ab_Ct := (261, [(1, 0, [124]), (3, 0, []), (3, 1, []), (3, 2, [])], [(2, 2, 0, (0, 0, []), (0, 0, [])), ((-2147483648), 2147483647, 0, (0, 0, []), (0, 0, [])), ((-2147483648), 2147483647, 0, (0, 0, []), (0, 0, []))], [(127, 8, (0, 3, []))], [(124, [25]), (133, [2]), (134, [])], [([], [(2, 2, 0, (0, 0, []), (0, 0, [])), ((-2147483648), 2147483647, 0, (0, 0, []), (0, 0, [])), ((-2147483648), 2147483647, 0, (0, 0, []), (0, 0, []))], [])])
set_option maxRecDepth 1000000 in
theorem ck_404 : ab_CT cm_ms hp hN 4 ct_404 := ab_chk_ok (us := [ct_398, ct_403]) (inl := inl0) (hin := inl0_ok) (d := 2) (dd := 1) (n := 20000) (tms := [((67, [(0, (1, 0, [124])), (1, (3, 0, [])), (2, (3, 1, [])), (3, (3, 2, [])), (4, (3, 3, []))], [], [(2, 2, 0, (0, 0, []), (0, 0, [])), ((-2147483648), 2147483647, 0, (0, 0, []), (0, 0, [])), ((-2147483648), 2147483647, 0, (0, 0, []), (0, 0, [])), (1, 3, 0, (0, 0, []), (0, 0, []))], [(127, 8, (0, 3, []))]), [(0, 1, (0, 0, [])), ((-1), 2147483648, (3, 3, []))])]) cm_ms_ok cm_ms_rc hNP (List.forall_mem_cons.mpr ⟨ab_CT_up ck_398 (by decide), List.forall_mem_cons.mpr ⟨ab_CT_up ck_403 (by decide), fun _ h => absurd h List.not_mem_nil⟩⟩) (by decide +kernel) (by decide +kernel)
/-- Model.tryRound@1/3 (63 steps) -/
def ct_405 : ab_Ct := (261, [(1, 0, [124]), (3, 0, []), (3, 1, []), (3, 2, [])], [(1, 1, 0, (0, 0, []), (0, 0, [])), ((-2147483648), 2147483647, 0, (0, 0, []), (0, 0, [])), ((-2147483648), 2147483647, 0, (0, 0, []), (0, 0, []))], [(127, 8, (0, 3, []))], [(124, [25]), (133, [1, 2]), (134, [])], [([], [(1, 1, 0, (0, 0, []), (0, 0, [])), ((-2147483648), 2147483647, 0, (0, 0, []), (0, 0, [])), ((-2147483648), 2147483647, 0, (0, 0, []), (0, 0, []))], [])])
set_option maxRecDepth 1000000 in
theorem ck_405 : ab_CT cm_ms hp hN 6 ct_405 := ab_chk_ok (us := [ct_398, ct_404]) (inl := inl0) (hin := inl0_ok) (d := 4) (dd := 1) (n := 20000) (tms := [((67, [(0, (1, 0, [124])), (1, (3, 0, [])), (2, (3, 1, [])), (3, (3, 2, [])), (4, (3, 3, []))], [], [(1, 1, 0, (0, 0, []), (0, 0, [])), ((-2147483648), 2147483647, 0, (0, 0, []), (0, 0, [])), ((-2147483648), 2147483647, 0, (0, 0, []), (0, 0, [])), (1, 3, 0, (0, 0, []), (0, 0, []))], [(127, 8, (0, 3, []))]), [(0, 1, (0, 0, [])), ((-1), 2147483648, (3, 3, []))])]) cm_ms_ok cm_ms_rc hNP (List.forall_mem_cons.mpr ⟨ab_CT_up ck_398 (by decide), List.forall_mem_cons.mpr ⟨ab_CT_up ck_404 (by decide), fun _ h => absurd h List.not_mem_nil⟩⟩) (by decide +kernel) (by decide +kernel)
/-- Model.tryRound@4/4 (38 steps) -/
def ct_406 : ab_Ct := (261, [(1, 0, [124]), (3, 0, []), (3, 1, []), (3, 2, [])], [(4, 4, 0, (0, 0, []), (0, 0, [])), ((-2147483648), 2147483647, 0, (0, 0, []), (0, 0, [])), ((-2147483648), 2147483647, 0, (0, 0, []), (0, 0, []))], [(127, 8, (0, 4, []))], [(124, [25]), (134, [])], [([], [(4, 4, 0, (0, 0, []), (0, 0, [])), ((-2147483648), 2147483647, 0, (0, 0, []), (0, 0, [])), ((-2147483648), 2147483647, 0, (0, 0, []), (0, 0, []))], [])])
set_option maxRecDepth 1000000 in
theorem ck_406 : ab_CT cm_ms hp hN 2 ct_406 := ab_chk_ok (us := [ct_288, ct_398]) (inl := inl0) (hin := inl0_ok) (d := 1) (dd := 0) (n := 20000) (tms := []) cm_ms_ok cm_ms_rc hNP (List.forall_mem_cons.mpr ⟨ab_CT_up ck_288 (by decide), List.forall_mem_cons.mpr ⟨ab_CT_up ck_398 (by decide), fun _ h => absurd h List.not_mem_nil⟩⟩) (by decide +kernel) (by decide +kernel)
/-- Model.tryRound@3/4 (63 steps) -/
def ct_407 : ab_Ct := (261, [(1, 0, [124]), (3, 0, []), (3, 1, []), (3, 2, [])], [(3, 3, 0, (0, 0, []), (0, 0, [])), ((-2147483648), 2147483647, 0, (0, 0, []), (0, 0, [])), ((-2147483648), 2147483647, 0, (0, 0, []), (0, 0, []))], [(127, 8, (0, 4, []))], [(124, [25]), (133, [3]), (134, [])], [([], [(3, 3, 0, (0, 0, []), (0, 0, [])), ((-2147483648), 2147483647, 0, (0, 0, []), (0, 0, [])), ((-2147483648), 2147483647, 0, (0, 0, []), (0, 0, []))], [])])
set_option maxRecDepth 1000000 in
theorem ck_407 : ab_CT cm_ms hp hN 4 ct_407 := ab_chk_ok (us := [ct_398, ct_406]) (inl := inl0) (hin := inl0_ok) (d := 2) (dd := 1) (n := 20000) (tms := [((67, [(0, (1, 0, [124])), (1, (3, 0, [])), (2, (3, 1, [])), (3, (3, 2, [])), (4, (3, 3, []))], [], [(3, 3, 0, (0, 0, []), (0, 0, [])), ((-2147483648), 2147483647, 0, (0, 0, []), (0, 0, [])), ((-2147483648), 2147483647, 0, (0, 0, []), (0, 0, [])), (1, 4, 0, (0, 0, []), (0, 0, []))], [(127, 8, (0, 4, []))]), [(0, 1, (0, 0, [])), ((-1), 2147483648, (3, 3, []))])]) cm_ms_ok cm_ms_rc hNP (List.forall_mem_cons.mpr ⟨ab_CT_up ck_398 (by decide), List.forall_mem_cons.mpr ⟨ab_CT_up ck_406 (by decide), fun _ h => absurd h List.not_mem_nil⟩⟩) (by decide +kernel) (by decide +kernel)
/-- Model.tryRound@2/4 (63 steps) -/
def ct_408 : ab_Ct := (261, [(1, 0, [124]), (3, 0, []), (3, 1, []), (3, 2, [])], [(2, 2, 0, (0, 0, []), (0, 0, [])), ((-2147483648), 2147483647, 0, (0, 0, []), (0, 0, [])), ((-2147483648), 2147483647, 0, (0, 0, []), (0, 0, []))], [(127, 8, (0, 4, []))], [(124, [25]), (133, [2, 3]), (134, [])], [([], [(2, 2, 0, (0, 0, []), (0, 0, [])), ((-2147483648), 2147483647, 0, (0, 0, []), (0, 0, [])), ((-2147483648), 2147483647, 0, (0, 0, []), (0, 0, []))], [])])
set_option maxRecDepth 1000000 in
theorem ck_408 : ab_CT cm_ms hp hN 6 ct_408 := ab_chk_ok (us := [ct_398, ct_407]) (inl := inl0) (hin := inl0_ok) (d := 4) (dd := 1) (n := 20000) (tms := [((67, [(0, (1, 0, [124])), (1, (3, 0, [])), (2, (3, 1, [])), (3, (3, 2, [])), (4, (3, 3, []))], [], [(2, 2, 0, (0, 0, []), (0, 0, [])), ((-2147483648), 2147483647, 0, (0, 0, []), (0, 0, [])), ((-2147483648), 2147483647, 0, (0, 0, []), (0, 0, [])), (1, 4, 0, (0, 0, []), (0, 0, []))], [(127, 8, (0, 4, []))]), [(0, 1, (0, 0, [])), ((-1), 2147483648, (3, 3, []))])]) cm_ms_ok cm_ms_rc hNP (List.forall_mem_cons.mpr ⟨ab_CT_up ck_398 (by decide), List.forall_mem_cons.mpr ⟨ab_CT_up ck_407 (by decide), fun _ h => absurd h List.not_mem_nil⟩⟩) (by decide +kernel) (by decide +kernel)
/-- Model.tryRound@1/4 (63 steps) -/
def ct_409 : ab_Ct := (261, [(1, 0, [124]), (3, 0, []), (3, 1, []), (3, 2, [])], [(1, 1, 0, (0, 0, []), (0, 0, [])), ((-2147483648), 2147483647, 0, (0, 0, []), (0, 0, [])), ((-2147483648), 2147483647, 0, (0, 0, []), (0, 0, []))], [(127, 8, (0, 4, []))], [(124, [25]), (133, [1, 2, 3]), (134, [])], [([], [(1, 1, 0, (0, 0, []), (0, 0, [])), ((-2147483648), 2147483647, 0, (0, 0, []), (0, 0, [])), ((-2147483648), 2147483647, 0, (0, 0, []), (0, 0, []))], [])])
set_option maxRecDepth 1000000 in
theorem ck_409 : ab_CT cm_ms hp hN 8 ct_409 := ab_chk_ok (us := [ct_398, ct_408]) (inl := inl0) (hin := inl0_ok) (d := 6) (dd := 1) (n := 20000) (tms := [((67, [(0, (1, 0, [124])), (1, (3, 0, [])), (2, (3, 1, [])), (3, (3, 2, [])), (4, (3, 3, []))], [], [(1, 1, 0, (0, 0, []), (0, 0, [])), ((-2147483648), 2147483647, 0, (0, 0, []), (0, 0, [])), ((-2147483648), 2147483647, 0, (0, 0, []), (0, 0, [])), (1, 4, 0, (0, 0, []), (0, 0, []))], [(127, 8, (0, 4, []))]), [(0, 1, (0, 0, [])), ((-1), 2147483648, (3, 3, []))])]) cm_ms_ok cm_ms_rc hNP (List.forall_mem_cons.mpr ⟨ab_CT_up ck_398 (by decide), List.forall_mem_cons.mpr ⟨ab_CT_up ck_408 (by decide), fun _ h => absurd h List.not_mem_nil⟩⟩) (by decide +kernel) (by decide +kernel)
/-- Model.tryRound@5/5 (38 steps) -/
def ct_410 : ab_Ct := (261, [(1, 0, [124]), (3, 0, []), (3, 1, []), (3, 2, [])], [(5, 5, 0, (0, 0, []), (0, 0, [])), ((-2147483648), 2147483647, 0, (0, 0, []), (0, 0, [])), ((-2147483648), 2147483647, 0, (0, 0, []), (0, 0, []))], [(127, 8, (0, 5, []))], [(124, [25]), (134, [])], [([], [(5, 5, 0, (0, 0, []), (0, 0, [])), ((-2147483648), 2147483647, 0, (0, 0, []), (0, 0, [])), ((-2147483648), 2147483647, 0, (0, 0, []), (0, 0, []))], [])])
set_option maxRecDepth 1000000 in
theorem ck_410 : ab_CT cm_ms hp hN 2 ct_410 := ab_chk_ok (us := [ct_288, ct_398]) (inl := inl0) (hin := inl0_ok) (d := 1) (dd := 0) (n := 20000) (tms := []) cm_ms_ok cm_ms_rc hNP (List.forall_mem_cons.mpr ⟨ab_CT_up ck_288 (by decide), List.forall_mem_cons.mpr ⟨ab_CT_up ck_398 (by decide), fun _ h => absurd h List.not_mem_nil⟩⟩) (by decide +kernel) (by decide +kernel)
/-- Model.tryRound@4/5 (63 steps) -/
def ct_411 : ab_Ct := (261, [(1, 0, [124]), (3, 0, []), (3, 1, []), (3, 2, [])], [(4, 4, 0, (0, 0, []), (0, 0, [])), ((-2147483648), 2147483647, 0, (0, 0, []), (0, 0, [])), ((-2147483648), 2147483647, 0, (0, 0, []), (0, 0, []))], [(127, 8, (0, 5, []))], [(124, [25]), (133, [4]), (134, [])], [([], [(4, 4, 0, (0, 0, []), (0, 0, [])), ((-2147483648), 2147483647, 0, (0, 0, []), (0, 0, [])), ((-2147483648), 2147483647, 0, (0, 0, []), (0, 0, []))], [])])
set_option maxRecDepth 1000000 in
theorem ck_411 : ab_CT cm_ms hp hN 4 ct_411 := ab_chk_ok (us := [ct_398, ct_410]) (inl := inl0) (hin := inl0_ok) (d := 2) (dd := 1) (n := 20000) (tms := [((67, [(0, (1, 0, [124])), (1, (3, 0, [])), (2, (3, 1, [])), (3, (3, 2, [])), (4, (3, 3, []))], [], [(4, 4, 0, (0, 0, []), (0, 0, [])), ((-2147483648), 2147483647, 0, (0, 0, []), (0, 0, [])), ((-2147483648), 2147483647, 0, (0, 0, []), (0, 0, [])), (1, 5, 0, (0, 0, []), (0, 0, []))], [(127, 8, (0, 5, []))]), [(0, 1, (0, 0, [])), ((-1), 2147483648, (3, 3, []))])]) cm_ms_ok cm_ms_rc hNP (List.forall_mem_cons.mpr ⟨ab_CT_up ck_398 (by decide), List.forall_mem_cons.mpr ⟨ab_CT_up ck_410 (by decide), fun _ h => absurd h List.not_mem_nil⟩⟩) (by decide +kernel) (by decide +kernel)
/-- Model.tryRound@3/5 (63 steps) -/
def ct_412 : ab_Ct := (261, [(1, 0, [124]), (3, 0, []), (3, 1, []), (3, 2, [])], [(3, 3, 0, (0, 0, []), (0, 0, [])), ((-2147483648), 2147483647, 0, (0, 0, []), (0, 0, [])), ((-2147483648), 2147483647, 0, (0, 0, []), (0, 0, []))], [(127, 8, (0, 5, []))], [(124, [25]), (133, [3, 4]), (134, [])], [([], [(3, 3, 0, (0, 0, []), (0, 0, [])), ((-2147483648), 2147483647, 0, (0, 0, []), (0, 0, [])), ((-2147483648), 2147483647, 0, (0, 0, []), (0, 0, []))], [])])
set_option maxRecDepth 1000000 in
theorem ck_412 : ab_CT cm_ms hp hN 6 ct_412 := ab_chk_ok (us := [ct_398, ct_411]) (inl := inl0) (hin := inl0_ok) (d := 4) (dd := 1) (n := 20000) (tms := [((67, [(0, (1, 0, [124])), (1, (3, 0, [])), (2, (3, 1, [])), (3, (3, 2, [])), (4, (3, 3, []))], [], [(3, 3, 0, (0, 0, []), (0, 0, [])), ((-2147483648), 2147483647, 0, (0, 0, []), (0, 0, [])), ((-2147483648), 2147483647, 0, (0, 0, []), (0, 0, [])), (1, 5, 0, (0, 0, []), (0, 0, []))], [(127, 8, (0, 5, []))]), [(0, 1, (0, 0, [])), ((-1), 2147483648, (3, 3, []))])]) cm_ms_ok cm_ms_rc hNP (List.forall_mem_cons.mpr ⟨ab_CT_up ck_398 (by decide), List.forall_mem_cons.mpr ⟨ab_CT_up ck_411 (by decide), fun _ h => absurd h List.not_mem_nil⟩⟩) (by decide +kernel) (by decide +kernel)
/-- Model.tryRound@2/5 (63 steps) -/
def ct_413 : ab_Ct := (261, [(1, 0, [124]), (3, 0, []), (3, 1, []), (3, 2, [])], [(2, 2, 0, (0, 0, []), (0, 0, [])), ((-2147483648), 2147483647, 0, (0, 0, []), (0, 0, [])), ((-2147483648), 2147483647, 0, (0, 0, []), (0, 0, []))], [(127, 8, (0, 5, []))], [(124, [25]), (133, [2, 3, 4]), (134, [])], [([], [(2, 2, 0, (0, 0, []), (0, 0, [])), ((-2147483648), 2147483647, 0, (0, 0, []), (0, 0, [])), ((-2147483648), 2147483647, 0, (0, 0, []), (0, 0, []))], [])])
set_option maxRecDepth 1000000 in
theorem ck_413 : ab_CT cm_ms hp hN 8 ct_413 := ab_chk_ok (us := [ct_398, ct_412]) (inl := inl0) (hin := inl0_ok) (d := 6) (dd := 1) (n := 20000) (tms := [((67, [(0, (1, 0, [124])), (1, (3, 0, [])), (2, (3, 1, [])), (3, (3, 2, [])), (4, (3, 3, []))], [], [(2, 2, 0, (0, 0, []), (0, 0, [])), ((-2147483648), 2147483647, 0, (0, 0, []), (0, 0, [])), ((-2147483648), 2147483647, 0, (0, 0, []), (0, 0, [])), (1, 5, 0, (0, 0, []), (0, 0, []))], [(127, 8, (0, 5, []))]), [(0, 1, (0, 0, [])), ((-1), 2147483648, (3, 3, []))])]) cm_ms_ok cm_ms_rc hNP (List.forall_mem_cons.mpr ⟨ab_CT_up ck_398 (by decide), List.forall_mem_cons.mpr ⟨ab_CT_up ck_412 (by decide), fun _ h => absurd h List.not_mem_nil⟩⟩) (by decide +kernel) (by decide +kernel)
/-- Model.tryRound@1/5 (63 steps) -/
def ct_414 : ab_Ct := (261, [(1, 0, [124]), (3, 0, []), (3, 1, []), (3, 2, [])], [(1, 1, 0, (0, 0, []), (0, 0, [])), ((-2147483648), 2147483647, 0, (0, 0, []), (0, 0, [])), ((-2147483648), 2147483647, 0, (0, 0, []), (0, 0, []))], [(127, 8, (0, 5, []))], [(124, [25]), (133, [1, 2, 3, 4]), (134, [])], [([], [(1, 1, 0, (0, 0, []), (0, 0, [])), ((-2147483648), 2147483647, 0, (0, 0, []), (0, 0, [])), ((-2147483648), 2147483647, 0, (0, 0, []), (0, 0, []))], [])])
set_option maxRecDepth 1000000 in
theorem ck_414 : ab_CT cm_ms hp hN 10 ct_414 := ab_chk_ok (us := [ct_398, ct_413]) (inl := inl0) (hin := inl0_ok) (d := 8) (dd := 1) (n := 20000) (tms := [((67, [(0, (1, 0, [124])), (1, (3, 0, [])), (2, (3, 1, [])), (3, (3, 2, [])), (4, (3, 3, []))], [], [(1, 1, 0, (0, 0, []), (0, 0, [])), ((-2147483648), 2147483647, 0, (0, 0, []), (0, 0, [])), ((-2147483648), 2147483647, 0, (0, 0, []), (0, 0, [])), (1, 5, 0, (0, 0, []), (0, 0, []))], [(127, 8, (0, 5, []))]), [(0, 1, (0, 0, [])), ((-1), 2147483648, (3, 3, []))])]) cm_ms_ok cm_ms_rc hNP (List.forall_mem_cons.mpr ⟨ab_CT_up ck_398 (by decide), List.forall_mem_cons.mpr ⟨ab_CT_up ck_413 (by decide), fun _ h => absurd h List.not_mem_nil⟩⟩) (by decide +kernel) (by decide +kernel)
/-- Model.seekRound@1 (14 steps) -/
def ct_415 : ab_Ct := (262, [(1, 0, [124])], [], [(127, 8, (0, 1, []))], [(124, [25]), (133, [0]), (134, [])], [([], [], [])])
set_option maxRecDepth 1000000 in
theorem ck_415 : ab_CT cm_ms hp hN 3 ct_415 := ab_chk_ok (us := [ct_400]) (inl := inl0) (hin := inl0_ok) (d := 2) (dd := 0) (n := 20000) (tms := []) cm_ms_ok cm_ms_rc hNP (List.forall_mem_cons.mpr ⟨ab_CT_up ck_400 (by decide), fun _ h => absurd h List.not_mem_nil⟩) (by decide +kernel) (by decide +kernel)
/-- Model.seekRound@2 (14 steps) -/
def ct_416 : ab_Ct := (262, [(1, 0, [124])], [], [(127, 8, (0, 2, []))], [(124, [25]), (133, [0, 1]), (134, [])], [([], [], [])])
set_option maxRecDepth 1000000 in
theorem ck_416 : ab_CT cm_ms hp hN 5 ct_416 := ab_chk_ok (us := [ct_402]) (inl := inl0) (hin := inl0_ok) (d := 4) (dd := 0) (n := 20000) (tms := []) cm_ms_ok cm_ms_rc hNP (List.forall_mem_cons.mpr ⟨ab_CT_up ck_402 (by decide), fun _ h => absurd h List.not_mem_nil⟩) (by decide +kernel) (by decide +kernel)
/-- Model.seekRound@3 (14 steps) -/
def ct_417 : ab_Ct := (262, [(1, 0, [124])], [], [(127, 8, (0, 3, []))], [(124, [25]), (133, [0, 1, 2]), (134, [])], [([], [], [])])
set_option maxRecDepth 1000000 in
theorem ck_417 : ab_CT cm_ms hp hN 7 ct_417 := ab_chk_ok (us := [ct_405]) (inl := inl0) (hin := inl0_ok) (d := 6) (dd := 0) (n := 20000) (tms := []) cm_ms_ok cm_ms_rc hNP (List.forall_mem_cons.mpr ⟨ab_CT_up ck_405 (by decide), fun _ h => absurd h List.not_mem_nil⟩) (by decide +kernel) (by decide +kernel)
/-- Model.seekRound@4 (14 steps) -/
def ct_418 : ab_Ct := (262, [(1, 0, [124])], [], [(127, 8, (0, 4, []))], [(124, [25]), (133, [0, 1, 2, 3]), (134, [])], [([], [], [])])
set_option maxRecDepth 1000000 in
theorem ck_418 : ab_CT cm_ms hp hN 9 ct_418 := ab_chk_ok (us := [ct_409]) (inl := inl0) (hin := inl0_ok) (d := 8) (dd := 0) (n := 20000) (tms := []) cm_ms_ok cm_ms_rc hNP (List.forall_mem_cons.mpr ⟨ab_CT_up ck_409 (by decide), fun _ h => absurd h List.not_mem_nil⟩) (by decide +kernel) (by decide +kernel)
/-- Model.seekRound@5 (14 steps) -/
def ct_419 : ab_Ct := (262, [(1, 0, [124])], [], [(127, 8, (0, 5, []))], [(124, [25]), (133, []), (134, [])], [([], [], [])])
set_option maxRecDepth 1000000 in
theorem ck_419 : ab_CT cm_ms hp hN 11 ct_419 := ab_chk_ok (us := [ct_414]) (inl := inl0) (hin := inl0_ok) (d := 10) (dd := 0) (n := 20000) (tms := []) cm_ms_ok cm_ms_rc hNP (List.forall_mem_cons.mpr ⟨ab_CT_up ck_414 (by decide), fun _ h => absurd h List.not_mem_nil⟩) (by decide +kernel) (by decide +kernel)
/-- Model.round@0 (29 steps) -/
def ct_420 : ab_Ct := (263, [(1, 0, [124])], [], [(127, 8, (0, 0, []))], [(124, [0, 11])], [([(3, 0, [])], [((-1), 0, 0, (0, 0, []), (0, 0, []))], [])])
set_option maxRecDepth 1000000 in
theorem ck_420 : ab_CT cm_ms hp hN 2 ct_420 := ab_chk_ok (us := []) (inl := inl0) (hin := inl0_ok) (d := 0) (dd := 1) (n := 20000) (tms := []) cm_ms_ok cm_ms_rc hNP (fun _ h => absurd h List.not_mem_nil) (by decide +kernel) (by decide +kernel)
/-- Model.round@1 (29 steps) -/
def ct_421 : ab_Ct := (263, [(1, 0, [124])], [], [(127, 8, (0, 1, []))], [(124, [0, 11])], [([(3, 0, [])], [((-1), 0, 0, (0, 0, []), (0, 0, []))], [])])
set_option maxRecDepth 1000000 in
theorem ck_421 : ab_CT cm_ms hp hN 2 ct_421 := ab_chk_ok (us := []) (inl := inl0) (hin := inl0_ok) (d := 0) (dd := 1) (n := 20000) (tms := []) cm_ms_ok cm_ms_rc hNP (fun _ h => absurd h List.not_mem_nil) (by decide +kernel) (by decide +kernel)
/-- Model.round@2 (32 steps) -/
def ct_422 : ab_Ct := (263, [(1, 0, [124])], [], [(127, 8, (0, 2, []))], [(124, [0, 11, 25]), (133, [0, 1]), (134, [])], [([(3, 0, [])], [((-2147483648), 2147483647, 0, (0, 0, []), (0, 0, []))], [])])
set_option maxRecDepth 1000000 in
theorem ck_422 : ab_CT cm_ms hp hN 7 ct_422 := ab_chk_ok (us := [ct_416]) (inl := inl0) (hin := inl0_ok) (d := 5) (dd := 1) (n := 20000) (tms := []) cm_ms_ok cm_ms_rc hNP (List.forall_mem_cons.mpr ⟨ab_CT_up ck_416 (by decide), fun _ h => absurd h List.not_mem_nil⟩) (by decide +kernel) (by decide +kernel)
/-- Model.round@3 (32 steps) -/
def ct_423 : ab_Ct := (263, [(1, 0, [124])], [], [(127, 8, (0, 3, []))], [(124, [0, 11, 25]), (133, [0, 1, 2]), (134, [])], [([(3, 0, [])], [((-2147483648), 2147483647, 0, (0, 0, []), (0, 0, []))], [])])
set_option maxRecDepth 1000000 in
theorem ck_423 : ab_CT cm_ms hp hN 9 ct_423 := ab_chk_ok (us := [ct_417]) (inl := inl0) (hin := inl0_ok) (d := 7) (dd := 1) (n := 20000) (tms := []) cm_ms_ok cm_ms_rc hNP (List.forall_mem_cons.mpr ⟨ab_CT_up ck_417 (by decide), fun _ h => absurd h List.not_mem_nil⟩) (by decide +kernel) (by decide +kernel)
/-- Model.round@4 (32 steps) -/
def ct_424 : ab_Ct := (263, [(1, 0, [124])], [], [(127, 8, (0, 4, []))], [(124, [0, 11, 25]), (133, [0, 1, 2, 3]), (134, [])], [([(3, 0, [])], [((-2147483648), 2147483647, 0, (0, 0, []), (0, 0, []))], [])])
set_option maxRecDepth 1000000 in
theorem ck_424 : ab_CT cm_ms hp hN 11 ct_424 := ab_chk_ok (us := [ct_418]) (inl := inl0) (hin := inl0_ok) (d := 9) (dd := 1) (n := 20000) (tms := []) cm_ms_ok cm_ms_rc hNP (List.forall_mem_cons.mpr ⟨ab_CT_up ck_418 (by decide), fun _ h => absurd h List.not_mem_nil⟩) (by decide +kernel) (by decide +kernel)
/-- Model.round@5 (32 steps) -/
def ct_425 : ab_Ct := (263, [(1, 0, [124])], [], [(127, 8, (0, 5, []))], [(124, [0, 11, 25]), (133, []), (134, [])], [([(3, 0, [])], [((-2147483648), 2147483647, 0, (0, 0, []), (0, 0, []))], [])])
set_option maxRecDepth 1000000 in
theorem ck_425 : ab_CT cm_ms hp hN 13 ct_425 := ab_chk_ok (us := [ct_419]) (inl := inl0) (hin := inl0_ok) (d := 11) (dd := 1) (n := 20000) (tms := []) cm_ms_ok cm_ms_rc hNP (List.forall_mem_cons.mpr ⟨ab_CT_up ck_419 (by decide), fun _ h => absurd h List.not_mem_nil⟩) (by decide +kernel) (by decide +kernel)
/-- Model.roundAt@0 (72 steps) -/
def ct_426 : ab_Ct := (264, [(1, 0, [124]), (3, 0, [])], [((-2147483648), 2147483647, 0, (0, 0, []), (0, 0, []))], [(127, 8, (0, 0, []))], [(124, [0, 11])], [([(0, (-1), [])], [((-2147483648), 2147483647, 0, (0, 0, []), (0, 0, []))], [])])
set_option maxRecDepth 1000000 in
theorem ck_426 : ab_CT cm_ms hp hN 3 ct_426 := ab_chk_ok (us := []) (inl := inl0) (hin := inl0_ok) (d := 0) (dd := 2) (n := 20000) (tms := []) cm_ms_ok cm_ms_rc hNP (fun _ h => absurd h List.not_mem_nil) (by decide +kernel) (by decide +kernel)
/-! BY HAND: odds and mean -/
def od_inl : List (Nat × ev_MI) := [(164, mr_164), (165, mr_165), (167, mr_167), (206, mr_206)]
theorem od_in : ∀ q ∈ od_inl, cm_ms[q.1]? = some q.2 := List.forall_mem_cons.mpr ⟨rfl, List.forall_mem_cons.mpr ⟨rfl, List.forall_mem_cons.mpr ⟨rfl, List.forall_mem_cons.mpr ⟨rfl, fun _ h => nomatch h⟩⟩⟩⟩
def od_ct : ab_Ct := (282, [(1, 0, [124]), (3, 0, []), (3, 1, [])], [((-2147483648), 2147483647, 0, (0, 0, []), (0, 0, [])), (0, 1, 0, (0, 0, []), (0, 0, []))], [], [(124, [0, 11, 31, 32, 33]), (129, [0, 1, 2, 3, 4, 5, 10]), (132, [])], [([(6, 0, [])], [((-2147483648), 2147483647, 0, (0, 0, []), (0, 0, [])), (0, 1, 0, (0, 0, []), (0, 0, []))], [])])
def od_T : ab_Tm := ((19, [(0, (1, 0, [124])), (1, (3, 2, [])), (2, (3, 1, []))], [], [((-2147483648), 2147483647, 0, (0, 0, []), (0, 0, [])), (0, 1, 0, (0, 0, []), (0, 0, [])), (0, 4, 0, (0, 0, []), (0, 0, []))], []), [])
set_option maxRecDepth 1000000 in
theorem od_chk : ab_chk1 cm_ms hp [] od_inl 2 200 od_ct mr_282 [od_T] none (0, ab_args 0 od_ct.2.1, [], od_ct.2.2.1, od_ct.2.2.2.1) = true := by decide +kernel
theorem hd_od {d : Nat} (hd : 1 ≤ d) (hG : ab_CT cm_ms hp hN d tc_go) (hY : ab_CT cm_ms hp hN d tc_yes) (hE : ab_CT cm_ms hp hN d tc_en) : ab_CT cm_ms hp hN (d + 4) od_ct := by
  intro ρ vs M gs gk gok gca
  refine cm_Call_of cm_ms_ok (k := 282) (mi := mr_282) rfl (by rw [ab_cs_ok gs]; decide) ?_
  refine ab_chk1_ok (us := []) (inl := od_inl) (hin := od_in) (d := d + 1) (dd := 2) (n := 200) (c := od_ct) (tms := [od_T]) (mu := none) (e := []) cm_ms_ok cm_ms_rc hNP (fun _ h => absurd h List.not_mem_nil) rfl gk.1.symm od_chk ⟨rfl, by rw [ab_nil]; exact ab_args_ok 0 gs, trivial, by rw [ab_nil]; exact gk, gok, ab_fr_rf _ _, by rw [ab_nil]; exact gca⟩ (fun T hT eT C' hG' _ => ?_) (fun m hm => by cases hm)
  have hT := List.mem_singleton.mp hT
  subst hT
  obtain ⟨g1, g2, g3, g4, g5⟩ := hG'
  obtain ⟨pc, CL, sc, M'⟩ := C'
  dsimp only at g1 g2 g3 g4 g5
  have g1 : pc = 19 := g1
  subst g1
  have hsc := ab_s_nil g3
  subst hsc
  obtain ⟨v0, l0, c0, hc0, rfl⟩ := g2 (0, (1, 0, [124])) List.mem_cons_self
  obtain ⟨v1, l1, x1, hx1, rfl⟩ := g2 (1, (3, 2, [])) (List.mem_cons_of_mem _ List.mem_cons_self)
  obtain ⟨v2, l2, x2, hx2, rfl⟩ := g2 (2, (3, 1, [])) (List.mem_cons_of_mem _ (List.mem_cons_of_mem _ List.mem_cons_self))
  have hc0 := List.mem_singleton.mp hc0
  subst hc0
  have hb := (g4.2 2 _ x1 rfl hx1).1
  obtain ⟨b1, b2⟩ := hb
  dsimp only at b1 b2
  refine ts_sub (L' := [(0, .ref 124), (1, .int x1), (2, .int x2)]) ?_ (fun q hq => ?_)
  rotate_left
  · simp only [List.mem_cons, List.not_mem_nil, or_false] at hq
    rcases hq with rfl | rfl | rfl
    · exact l0
    · exact l1
    · exact l2
  refine cm_At_run cm_ms_ok (k := 282) rfl (stops := []) (J := fun _ => False) (fun S hS => hS.elim) (n := 30) ?_
  show cm_cs [] ≤ 8 ∧ ev_nar1 _ _ = true ∧ (_ → _) ∧ cm_Call cm_ms (d + 1 + 2) 281 [.ref 124, .int x1] M' _
  refine ⟨by decide, by decide, fun _ => Or.inr rfl, cm_Call_up (hd_shaves hd hG hY hE g5.1 b1 b2) (by omega) (fun v M2 hv => ?_)⟩
  obtain ⟨rfl, q1, q2, q3⟩ := hv
  show (cm_kind 124).1 = _ ∧ _ < _ ∧ (cm_kind 124).1 = _ ∧ _ < _ ∧ cm_cs [] ≤ 8 ∧ ev_nar1 _ _ = true ∧ (_ → _) ∧ cm_Call cm_ms (d + 1 + 2) 171 [.long (M2.2.1 124 32), .long (M2.2.1 124 31), .int x2] M2 _
  refine ⟨by decide, by decide, by decide, by decide, by decide, by decide, fun h => absurd h (by decide), cm_Call_up (hd_lowest M2 _ _ x2 q3) (by omega) (fun v M3 hv => ?_)⟩
  obtain ⟨⟨x, rfl⟩, rfl⟩ := hv
  show ab_Post hp hN M od_ct.2.2.2.2.1 ρ od_ct.2.2.2.2.2 (some (.long x)) M3
  refine ⟨_, List.mem_singleton.mpr rfl, [], ⟨⟨x, rfl⟩, trivial⟩, by rw [ab_nil]; exact gk, q1, fun c i hc => ?_, fun q hq => nomatch hq⟩
  obtain ⟨a1, a2, a3⟩ := g5.2.1 c i hc
  obtain ⟨f1, f2, f3⟩ := q2 c i (ab_mds_ok (by decide) hc)
  exact ⟨f1.trans a1, f2.trans a2, f3.trans a3⟩
def me_ct : ab_Ct := (283, [(1, 0, [124]), (3, 0, []), (3, 1, [])], [((-2147483648), 2147483647, 0, (0, 0, []), (0, 0, [])), (0, 1, 0, (0, 0, []), (0, 0, []))], [], [(124, [0, 11, 31, 32, 33]), (129, [0, 1, 2, 3, 4, 5, 10]), (132, [])], [([(6, 0, [])], [((-2147483648), 2147483647, 0, (0, 0, []), (0, 0, [])), (0, 1, 0, (0, 0, []), (0, 0, []))], [])])
def me_T : ab_Tm := ((19, [(0, (1, 0, [124])), (1, (3, 2, [])), (2, (3, 1, []))], [], [((-2147483648), 2147483647, 0, (0, 0, []), (0, 0, [])), (0, 1, 0, (0, 0, []), (0, 0, [])), (0, 4, 0, (0, 0, []), (0, 0, []))], []), [])
set_option maxRecDepth 1000000 in
theorem me_chk : ab_chk1 cm_ms hp [] od_inl 2 200 me_ct mr_283 [me_T] none (0, ab_args 0 me_ct.2.1, [], me_ct.2.2.1, me_ct.2.2.2.1) = true := by decide +kernel
theorem hd_me {d : Nat} (hd : 1 ≤ d) (hG : ab_CT cm_ms hp hN d tc_go) (hY : ab_CT cm_ms hp hN d tc_yes) (hE : ab_CT cm_ms hp hN d tc_en) : ab_CT cm_ms hp hN (d + 4) me_ct := by
  intro ρ vs M gs gk gok gca
  refine cm_Call_of cm_ms_ok (k := 283) (mi := mr_283) rfl (by rw [ab_cs_ok gs]; decide) ?_
  refine ab_chk1_ok (us := []) (inl := od_inl) (hin := od_in) (d := d + 1) (dd := 2) (n := 200) (c := me_ct) (tms := [me_T]) (mu := none) (e := []) cm_ms_ok cm_ms_rc hNP (fun _ h => absurd h List.not_mem_nil) rfl gk.1.symm me_chk ⟨rfl, by rw [ab_nil]; exact ab_args_ok 0 gs, trivial, by rw [ab_nil]; exact gk, gok, ab_fr_rf _ _, by rw [ab_nil]; exact gca⟩ (fun T hT eT C' hG' _ => ?_) (fun m hm => by cases hm)
  have hT := List.mem_singleton.mp hT
  subst hT
  obtain ⟨g1, g2, g3, g4, g5⟩ := hG'
  obtain ⟨pc, CL, sc, M'⟩ := C'
  dsimp only at g1 g2 g3 g4 g5
  have g1 : pc = 19 := g1
  subst g1
  have hsc := ab_s_nil g3
  subst hsc
  obtain ⟨v0, l0, c0, hc0, rfl⟩ := g2 (0, (1, 0, [124])) List.mem_cons_self
  obtain ⟨v1, l1, x1, hx1, rfl⟩ := g2 (1, (3, 2, [])) (List.mem_cons_of_mem _ List.mem_cons_self)
  obtain ⟨v2, l2, x2, hx2, rfl⟩ := g2 (2, (3, 1, [])) (List.mem_cons_of_mem _ (List.mem_cons_of_mem _ List.mem_cons_self))
  have hc0 := List.mem_singleton.mp hc0
  subst hc0
  have hb := (g4.2 2 _ x1 rfl hx1).1
  obtain ⟨b1, b2⟩ := hb
  dsimp only at b1 b2
  refine ts_sub (L' := [(0, .ref 124), (1, .int x1), (2, .int x2)]) ?_ (fun q hq => ?_)
  rotate_left
  · simp only [List.mem_cons, List.not_mem_nil, or_false] at hq
    rcases hq with rfl | rfl | rfl
    · exact l0
    · exact l1
    · exact l2
  refine cm_At_run cm_ms_ok (k := 283) rfl (stops := []) (J := fun _ => False) (fun S hS => hS.elim) (n := 30) ?_
  show cm_cs [] ≤ 8 ∧ ev_nar1 _ _ = true ∧ (_ → _) ∧ cm_Call cm_ms (d + 1 + 2) 281 [.ref 124, .int x1] M' _
  refine ⟨by decide, by decide, fun _ => Or.inr rfl, cm_Call_up (hd_shaves hd hG hY hE g5.1 b1 b2) (by omega) (fun v M2 hv => ?_)⟩
  obtain ⟨rfl, q1, q2, q3⟩ := hv
  show (cm_kind 124).1 = _ ∧ _ < _ ∧ (cm_kind 124).1 = _ ∧ _ < _ ∧ cm_cs [] ≤ 8 ∧ ev_nar1 _ _ = true ∧ (_ → _) ∧ cm_Call cm_ms (d + 1 + 2) 171 [.long (M2.2.1 124 33), .long (M2.2.1 124 31), .int x2] M2 _
  refine ⟨by decide, by decide, by decide, by decide, by decide, by decide, fun h => absurd h (by decide), cm_Call_up (hd_lowest M2 _ _ x2 q3) (by omega) (fun v M3 hv => ?_)⟩
  obtain ⟨⟨x, rfl⟩, rfl⟩ := hv
  show ab_Post hp hN M me_ct.2.2.2.2.1 ρ me_ct.2.2.2.2.2 (some (.long x)) M3
  refine ⟨_, List.mem_singleton.mpr rfl, [], ⟨⟨x, rfl⟩, trivial⟩, by rw [ab_nil]; exact gk, q1, fun c i hc => ?_, fun q hq => nomatch hq⟩
  obtain ⟨a1, a2, a3⟩ := g5.2.1 c i hc
  obtain ⟨f1, f2, f3⟩ := q2 c i (ab_mds_ok (by decide) hc)
  exact ⟨f1.trans a1, f2.trans a2, f3.trans a3⟩
