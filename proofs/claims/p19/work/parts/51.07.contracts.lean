/-! AB: contracts -/
/-- Reader.toldHere@2 (5014 steps) -/
def ct_213 : ab_Ct := (81, [(1, 0, [2]), (0, 2, [])], [], [], [(2, [9])], [([(3, 0, [])], [((-1), 4, 0, (0, 0, []), (0, 0, []))], [])])
set_option maxRecDepth 1000000 in
theorem ck_213 : ab_CT cm_ms hp hN 10 ct_213 := ab_chk_ok (us := [ct_150, ct_152]) (inl := inl0) (hin := inl0_ok) (d := 8) (dd := 1) (n := 20000) (tms := []) cm_ms_ok cm_ms_rc hNP (List.forall_mem_cons.mpr ⟨ab_CT_up ck_150 (by decide), List.forall_mem_cons.mpr ⟨ab_CT_up ck_152 (by decide), fun _ h => absurd h List.not_mem_nil⟩⟩) (by decide +kernel) (by decide +kernel)
/-- Reader.readAgainst@6 (55 steps) -/
def ct_214 : ab_Ct := (73, [(1, 0, [2])], [], [(2, 0, (1, 0, [1])), (2, 7, (1, 0, [6]))], [(2, [2, 3, 4, 5, 6, 9]), (10, [])], [([], [], [])])
set_option maxRecDepth 1000000 in
theorem ck_214 : ab_CT cm_ms hp hN 12 ct_214 := ab_chk_ok (us := [ct_124, ct_212, ct_213]) (inl := inl0) (hin := inl0_ok) (d := 10) (dd := 1) (n := 20000) (tms := []) cm_ms_ok cm_ms_rc hNP (List.forall_mem_cons.mpr ⟨ab_CT_up ck_124 (by decide), List.forall_mem_cons.mpr ⟨ab_CT_up ck_212 (by decide), List.forall_mem_cons.mpr ⟨ab_CT_up ck_213 (by decide), fun _ h => absurd h List.not_mem_nil⟩⟩⟩) (by decide +kernel) (by decide +kernel)
/-- Reader.readAgainst@19 (55 steps) -/
def ct_215 : ab_Ct := (73, [(1, 0, [2])], [], [(2, 0, (1, 0, [1])), (2, 7, (1, 0, [19]))], [(2, [2, 3, 4, 5, 6, 9]), (23, [])], [([], [], [])])
set_option maxRecDepth 1000000 in
theorem ck_215 : ab_CT cm_ms hp hN 12 ct_215 := ab_chk_ok (us := [ct_124, ct_212, ct_213]) (inl := inl0) (hin := inl0_ok) (d := 10) (dd := 1) (n := 20000) (tms := []) cm_ms_ok cm_ms_rc hNP (List.forall_mem_cons.mpr ⟨ab_CT_up ck_124 (by decide), List.forall_mem_cons.mpr ⟨ab_CT_up ck_212 (by decide), List.forall_mem_cons.mpr ⟨ab_CT_up ck_213 (by decide), fun _ h => absurd h List.not_mem_nil⟩⟩⟩) (by decide +kernel) (by decide +kernel)
/-- Reader.readAmends@6 (75 steps) -/
def ct_216 : ab_Ct := (74, [(1, 0, [2])], [], [(2, 0, (1, 0, [1])), (2, 7, (1, 0, [6]))], [(2, [2, 3, 4, 5, 6, 9]), (15, [1, 2, 3, 4])], [([], [], [])])
set_option maxRecDepth 1000000 in
theorem ck_216 : ab_CT cm_ms hp hN 12 ct_216 := ab_chk_ok (us := [ct_124, ct_213]) (inl := inl0) (hin := inl0_ok) (d := 10) (dd := 1) (n := 20000) (tms := []) cm_ms_ok cm_ms_rc hNP (List.forall_mem_cons.mpr ⟨ab_CT_up ck_124 (by decide), List.forall_mem_cons.mpr ⟨ab_CT_up ck_213 (by decide), fun _ h => absurd h List.not_mem_nil⟩⟩) (by decide +kernel) (by decide +kernel)
/-- Reader.readAmends@19 (75 steps) -/
def ct_217 : ab_Ct := (74, [(1, 0, [2])], [], [(2, 0, (1, 0, [1])), (2, 7, (1, 0, [19]))], [(2, [2, 3, 4, 5, 6, 9]), (28, [1, 2, 3, 4])], [([], [], [])])
set_option maxRecDepth 1000000 in
theorem ck_217 : ab_CT cm_ms hp hN 12 ct_217 := ab_chk_ok (us := [ct_124, ct_213]) (inl := inl0) (hin := inl0_ok) (d := 10) (dd := 1) (n := 20000) (tms := []) cm_ms_ok cm_ms_rc hNP (List.forall_mem_cons.mpr ⟨ab_CT_up ck_124 (by decide), List.forall_mem_cons.mpr ⟨ab_CT_up ck_213 (by decide), fun _ h => absurd h List.not_mem_nil⟩⟩) (by decide +kernel) (by decide +kernel)
/-- Reader.readQuarrel@6 (82 steps) -/
def ct_218 : ab_Ct := (75, [(1, 0, [2])], [], [(2, 0, (1, 0, [1])), (2, 7, (1, 0, [6]))], [(2, [2, 3, 4, 5, 6, 9]), (11, [])], [([], [], [])])
set_option maxRecDepth 1000000 in
theorem ck_218 : ab_CT cm_ms hp hN 12 ct_218 := ab_chk_ok (us := [ct_124, ct_212]) (inl := inl0) (hin := inl0_ok) (d := 10) (dd := 1) (n := 20000) (tms := []) cm_ms_ok cm_ms_rc hNP (List.forall_mem_cons.mpr ⟨ab_CT_up ck_124 (by decide), List.forall_mem_cons.mpr ⟨ab_CT_up ck_212 (by decide), fun _ h => absurd h List.not_mem_nil⟩⟩) (by decide +kernel) (by decide +kernel)
/-- Reader.readQuarrel@19 (82 steps) -/
def ct_219 : ab_Ct := (75, [(1, 0, [2])], [], [(2, 0, (1, 0, [1])), (2, 7, (1, 0, [19]))], [(2, [2, 3, 4, 5, 6, 9]), (24, [])], [([], [], [])])
set_option maxRecDepth 1000000 in
theorem ck_219 : ab_CT cm_ms hp hN 12 ct_219 := ab_chk_ok (us := [ct_124, ct_212]) (inl := inl0) (hin := inl0_ok) (d := 10) (dd := 1) (n := 20000) (tms := []) cm_ms_ok cm_ms_rc hNP (List.forall_mem_cons.mpr ⟨ab_CT_up ck_124 (by decide), List.forall_mem_cons.mpr ⟨ab_CT_up ck_212 (by decide), fun _ h => absurd h List.not_mem_nil⟩⟩) (by decide +kernel) (by decide +kernel)
/-- Reader.readChair@6 (23 steps) -/
def ct_220 : ab_Ct := (76, [(1, 0, [2])], [(0, 4, 0, (0, 0, []), (0, 0, []))], [(2, 0, (1, 0, [1])), (2, 7, (1, 0, [6])), (6, 15, (3, 0, []))], [(2, [2, 3, 4, 5, 6, 9, 10]), (3, []), (4, []), (5, []), (6, [15]), (17, [])], [([], [(0, 4, 0, (0, 0, []), (0, 0, []))], [])])
set_option maxRecDepth 1000000 in
theorem ck_220 : ab_CT cm_ms hp hN 11 ct_220 := ab_chk_ok (us := [ct_7, ct_144, ct_145, ct_206]) (inl := inl0) (hin := inl0_ok) (d := 10) (dd := 0) (n := 20000) (tms := []) cm_ms_ok cm_ms_rc hNP (List.forall_mem_cons.mpr ⟨ab_CT_up ck_7 (by decide), List.forall_mem_cons.mpr ⟨ab_CT_up ck_144 (by decide), List.forall_mem_cons.mpr ⟨ab_CT_up ck_145 (by decide), List.forall_mem_cons.mpr ⟨ab_CT_up ck_206 (by decide), fun _ h => absurd h List.not_mem_nil⟩⟩⟩⟩) (by decide +kernel) (by decide +kernel)
/-- Reader.readChair@19 (23 steps) -/
def ct_221 : ab_Ct := (76, [(1, 0, [2])], [(0, 4, 0, (0, 0, []), (0, 0, []))], [(2, 0, (1, 0, [1])), (2, 7, (1, 0, [19])), (19, 15, (3, 0, []))], [(2, [2, 3, 4, 5, 6, 9, 10]), (3, []), (4, []), (5, []), (19, [15]), (30, [])], [([], [(0, 4, 0, (0, 0, []), (0, 0, []))], [])])
set_option maxRecDepth 1000000 in
theorem ck_221 : ab_CT cm_ms hp hN 11 ct_221 := ab_chk_ok (us := [ct_8, ct_144, ct_145, ct_206]) (inl := inl0) (hin := inl0_ok) (d := 10) (dd := 0) (n := 20000) (tms := []) cm_ms_ok cm_ms_rc hNP (List.forall_mem_cons.mpr ⟨ab_CT_up ck_8 (by decide), List.forall_mem_cons.mpr ⟨ab_CT_up ck_144 (by decide), List.forall_mem_cons.mpr ⟨ab_CT_up ck_145 (by decide), List.forall_mem_cons.mpr ⟨ab_CT_up ck_206 (by decide), fun _ h => absurd h List.not_mem_nil⟩⟩⟩⟩) (by decide +kernel) (by decide +kernel)
/-- Reader.readHeap@6 (58 steps) -/
def ct_222 : ab_Ct := (77, [(1, 0, [2])], [], [(2, 0, (1, 0, [1])), (2, 7, (1, 0, [6]))], [(2, [2, 3, 4, 5, 6, 9]), (6, [18]), (18, [])], [([], [], [])])
set_option maxRecDepth 1000000 in
theorem ck_222 : ab_CT cm_ms hp hN 10 ct_222 := ab_chk_ok (us := [ct_124, ct_145, ct_207]) (inl := inl0) (hin := inl0_ok) (d := 8) (dd := 1) (n := 20000) (tms := []) cm_ms_ok cm_ms_rc hNP (List.forall_mem_cons.mpr ⟨ab_CT_up ck_124 (by decide), List.forall_mem_cons.mpr ⟨ab_CT_up ck_145 (by decide), List.forall_mem_cons.mpr ⟨ab_CT_up ck_207 (by decide), fun _ h => absurd h List.not_mem_nil⟩⟩⟩) (by decide +kernel) (by decide +kernel)
/-- Reader.readHeap@19 (58 steps) -/
def ct_223 : ab_Ct := (77, [(1, 0, [2])], [], [(2, 0, (1, 0, [1])), (2, 7, (1, 0, [19]))], [(2, [2, 3, 4, 5, 6, 9]), (19, [18]), (31, [])], [([], [], [])])
set_option maxRecDepth 1000000 in
theorem ck_223 : ab_CT cm_ms hp hN 10 ct_223 := ab_chk_ok (us := [ct_124, ct_145, ct_207]) (inl := inl0) (hin := inl0_ok) (d := 8) (dd := 1) (n := 20000) (tms := []) cm_ms_ok cm_ms_rc hNP (List.forall_mem_cons.mpr ⟨ab_CT_up ck_124 (by decide), List.forall_mem_cons.mpr ⟨ab_CT_up ck_145 (by decide), List.forall_mem_cons.mpr ⟨ab_CT_up ck_207 (by decide), fun _ h => absurd h List.not_mem_nil⟩⟩⟩) (by decide +kernel) (by decide +kernel)
/-- Reader.readLine@6 (769 steps) -/
def ct_224 : ab_Ct := (67, [(1, 0, [2])], [], [(2, 0, (1, 0, [1])), (2, 7, (1, 0, [6]))], [(2, [2, 3, 4, 5, 6, 8, 9, 10]), (3, []), (4, []), (5, []), (6, [0, 1, 2, 3, 9, 15, 18]), (7, []), (8, []), (9, []), (10, []), (11, []), (12, []), (13, []), (14, []), (15, []), (17, []), (18, [])], [([], [], [])])
set_option maxRecDepth 1000000 in
theorem ck_224 : ab_CT cm_ms hp hN 14 ct_224 := ab_chk_ok (us := [ct_9, ct_11, ct_15, ct_124, ct_146, ct_152, ct_208, ct_210, ct_214, ct_216, ct_218, ct_220, ct_222]) (inl := inl0) (hin := inl0_ok) (d := 12) (dd := 1) (n := 20000) (tms := []) cm_ms_ok cm_ms_rc hNP (List.forall_mem_cons.mpr ⟨ab_CT_up ck_9 (by decide), List.forall_mem_cons.mpr ⟨ab_CT_up ck_11 (by decide), List.forall_mem_cons.mpr ⟨ab_CT_up ck_15 (by decide), List.forall_mem_cons.mpr ⟨ab_CT_up ck_124 (by decide), List.forall_mem_cons.mpr ⟨ab_CT_up ck_146 (by decide), List.forall_mem_cons.mpr ⟨ab_CT_up ck_152 (by decide), List.forall_mem_cons.mpr ⟨ab_CT_up ck_208 (by decide), List.forall_mem_cons.mpr ⟨ab_CT_up ck_210 (by decide), List.forall_mem_cons.mpr ⟨ab_CT_up ck_214 (by decide), List.forall_mem_cons.mpr ⟨ab_CT_up ck_216 (by decide), List.forall_mem_cons.mpr ⟨ab_CT_up ck_218 (by decide), List.forall_mem_cons.mpr ⟨ab_CT_up ck_220 (by decide), List.forall_mem_cons.mpr ⟨ab_CT_up ck_222 (by decide), fun _ h => absurd h List.not_mem_nil⟩⟩⟩⟩⟩⟩⟩⟩⟩⟩⟩⟩⟩) (by decide +kernel) (by decide +kernel)
