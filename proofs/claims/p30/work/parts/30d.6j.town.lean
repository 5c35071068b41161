/-! THE CLASS'S TOWN as functions of the memory -/
def tn_f6 (M : cm_M) : cm_M := cm_wr (cm_wr (cm_wr (cm_wr (cm_wr (cm_wr (cm_wr (cm_wr (cm_wr (cm_wr (cm_wr (cm_wr M 6 4 (some 7)) 6 5 (some 8)) 6 6 (some 9)) 6 7 (some 10)) 6 8 (some 11)) 6 10 (some 12)) 6 11 (some 13)) 6 12 (some 14)) 6 13 (some 15)) 6 14 (some 16)) 6 16 (some 17)) 6 17 (some 18)
def tn_ok6 (M : cm_M) : Prop := M.2.2 6 4 = some 7 ∧ M.2.2 6 5 = some 8 ∧ M.2.2 6 6 = some 9 ∧ M.2.2 6 7 = some 10 ∧ M.2.2 6 8 = some 11 ∧ M.2.2 6 10 = some 12 ∧ M.2.2 6 11 = some 13 ∧ M.2.2 6 12 = some 14 ∧ M.2.2 6 13 = some 15 ∧ M.2.2 6 14 = some 16 ∧ M.2.2 6 16 = some 17 ∧ M.2.2 6 17 = some 18
theorem tn_f6_eq {M : cm_M} (h : tn_ok6 M) : tn_f6 M = M := by
  unfold tn_f6
  rw [wr_id h.1, wr_id (h.2.1), wr_id (h.2.2.1), wr_id (h.2.2.2.1), wr_id (h.2.2.2.2.1), wr_id (h.2.2.2.2.2.1), wr_id (h.2.2.2.2.2.2.1), wr_id (h.2.2.2.2.2.2.2.1), wr_id (h.2.2.2.2.2.2.2.2.1), wr_id (h.2.2.2.2.2.2.2.2.2.1), wr_id (h.2.2.2.2.2.2.2.2.2.2.1), wr_id (h.2.2.2.2.2.2.2.2.2.2.2)]
def cF_addMan6 (c h0 v0 : Int32) (M : cm_M) : cm_M := if 6 ≤ (M.1 6 3).toInt then M else cm_wi (cm_wi (cm_wi (cm_wi (cm_wi (cm_wi M 7 (M.1 6 3).toNatClampNeg c) 8 (M.1 6 3).toNatClampNeg h0) 9 (M.1 6 3).toNatClampNeg v0) 10 (M.1 6 3).toNatClampNeg 0) 11 (M.1 6 3).toNatClampNeg 0) 6 3 (M.1 6 3 + 1)
set_option maxRecDepth 100000 in
theorem cs_addMan6 (c h0 v0 : Int32) {M : cm_M} (h : tn_ok6 M) : cm_Lc cm_ms 9 [.ref 6, .int c, .int h0, .int v0] M (fun v M' => v = none ∧ M' = cF_addMan6 c h0 v0 M) := by
  have e := tn_f6_eq h
  have z : (6 : Int32).toInt = 6 := by decide
  have key : cm_Lc cm_ms 9 [.ref 6, .int c, .int h0, .int v0] (tn_f6 M) (fun v M' => v = none ∧ M' = cF_addMan6 c h0 v0 M) := by
    refine lb_st0 (mi := mr_9) rfl 80 ?_
    show (ev_cmp 2 (M.1 6 3) 6 = true → _) ∧ (ev_cmp 2 (M.1 6 3) 6 = false → _)
    refine ⟨fun h1 => ?_, fun h1 => ?_⟩
    · have g := fn_lt h1
      show (none : Option Value) = none ∧ cm_wi (cm_wi (cm_wi (cm_wi (cm_wi (cm_wi (tn_f6 M) 7 (M.1 6 3).toNatClampNeg c) 8 (M.1 6 3).toNatClampNeg h0) 9 (M.1 6 3).toNatClampNeg v0) 10 (M.1 6 3).toNatClampNeg 0) 11 (M.1 6 3).toNatClampNeg 0) 6 3 (M.1 6 3 + 1) = cF_addMan6 c h0 v0 M
      unfold cF_addMan6
      rw [if_neg (by omega), e]
      exact ⟨rfl, rfl⟩
    · have g := fn_nlt h1
      show (none : Option Value) = none ∧ tn_f6 M = cF_addMan6 c h0 v0 M
      unfold cF_addMan6
      rw [if_pos (by omega), e]
      exact ⟨rfl, rfl⟩
  rw [e] at key
  exact key
def cF_addMotion6 (c n0 w0 : Int32) (M : cm_M) : cm_M := if 5 ≤ (M.1 6 9).toInt then M else cm_wi (cm_wi (cm_wi (cm_wi (cm_wi M 12 (M.1 6 9).toNatClampNeg c) 13 (M.1 6 9).toNatClampNeg n0) 14 (M.1 6 9).toNatClampNeg w0) 15 (M.1 6 9).toNatClampNeg 0) 6 9 (M.1 6 9 + 1)
set_option maxRecDepth 100000 in
theorem cs_addMotion6 (c n0 w0 : Int32) {M : cm_M} (h : tn_ok6 M) : cm_Lc cm_ms 10 [.ref 6, .int c, .int n0, .int w0] M (fun v M' => v = none ∧ M' = cF_addMotion6 c n0 w0 M) := by
  have e := tn_f6_eq h
  have z : (5 : Int32).toInt = 5 := by decide
  have key : cm_Lc cm_ms 10 [.ref 6, .int c, .int n0, .int w0] (tn_f6 M) (fun v M' => v = none ∧ M' = cF_addMotion6 c n0 w0 M) := by
    refine lb_st0 (mi := mr_10) rfl 80 ?_
    show (ev_cmp 2 (M.1 6 9) 5 = true → _) ∧ (ev_cmp 2 (M.1 6 9) 5 = false → _)
    refine ⟨fun h1 => ?_, fun h1 => ?_⟩
    · have g := fn_lt h1
      show (none : Option Value) = none ∧ cm_wi (cm_wi (cm_wi (cm_wi (cm_wi (tn_f6 M) 12 (M.1 6 9).toNatClampNeg c) 13 (M.1 6 9).toNatClampNeg n0) 14 (M.1 6 9).toNatClampNeg w0) 15 (M.1 6 9).toNatClampNeg 0) 6 9 (M.1 6 9 + 1) = cF_addMotion6 c n0 w0 M
      unfold cF_addMotion6
      rw [if_neg (by omega), e]
      exact ⟨rfl, rfl⟩
    · have g := fn_nlt h1
      show (none : Option Value) = none ∧ tn_f6 M = cF_addMotion6 c n0 w0 M
      unfold cF_addMotion6
      rw [if_pos (by omega), e]
      exact ⟨rfl, rfl⟩
  rw [e] at key
  exact key
def cF_addChair6 (c : Int32) (M : cm_M) : cm_M := if 5 ≤ (M.1 6 15).toInt then M else cm_wi (cm_wi M 17 (M.1 6 15).toNatClampNeg c) 6 15 (M.1 6 15 + 1)
set_option maxRecDepth 100000 in
theorem cs_addChair6 (c : Int32) {M : cm_M} (h : tn_ok6 M) : cm_Lc cm_ms 11 [.ref 6, .int c] M (fun v M' => v = none ∧ M' = cF_addChair6 c M) := by
  have e := tn_f6_eq h
  have z : (5 : Int32).toInt = 5 := by decide
  have key : cm_Lc cm_ms 11 [.ref 6, .int c] (tn_f6 M) (fun v M' => v = none ∧ M' = cF_addChair6 c M) := by
    refine lb_st0 (mi := mr_11) rfl 80 ?_
    show (ev_cmp 3 (M.1 6 15) 5 = true → _) ∧ (ev_cmp 3 (M.1 6 15) 5 = false → _)
    refine ⟨fun h1 => ?_, fun h1 => ?_⟩
    · have g := fn_ge h1
      show (none : Option Value) = none ∧ tn_f6 M = cF_addChair6 c M
      unfold cF_addChair6
      rw [if_pos (by omega), e]
      exact ⟨rfl, rfl⟩
    · have g := fn_nge h1
      show (none : Option Value) = none ∧ cm_wi (cm_wi (tn_f6 M) 17 (M.1 6 15).toNatClampNeg c) 6 15 (M.1 6 15 + 1) = cF_addChair6 c M
      unfold cF_addChair6
      rw [if_neg (by omega), e]
      exact ⟨rfl, rfl⟩
  rw [e] at key
  exact key
def tn_f19 (M : cm_M) : cm_M := cm_wr (cm_wr (cm_wr (cm_wr (cm_wr (cm_wr (cm_wr (cm_wr (cm_wr (cm_wr (cm_wr (cm_wr M 19 4 (some 20)) 19 5 (some 21)) 19 6 (some 22)) 19 7 (some 23)) 19 8 (some 24)) 19 10 (some 25)) 19 11 (some 26)) 19 12 (some 27)) 19 13 (some 28)) 19 14 (some 29)) 19 16 (some 30)) 19 17 (some 31)
def tn_ok19 (M : cm_M) : Prop := M.2.2 19 4 = some 20 ∧ M.2.2 19 5 = some 21 ∧ M.2.2 19 6 = some 22 ∧ M.2.2 19 7 = some 23 ∧ M.2.2 19 8 = some 24 ∧ M.2.2 19 10 = some 25 ∧ M.2.2 19 11 = some 26 ∧ M.2.2 19 12 = some 27 ∧ M.2.2 19 13 = some 28 ∧ M.2.2 19 14 = some 29 ∧ M.2.2 19 16 = some 30 ∧ M.2.2 19 17 = some 31
theorem tn_f19_eq {M : cm_M} (h : tn_ok19 M) : tn_f19 M = M := by
  unfold tn_f19
  rw [wr_id h.1, wr_id (h.2.1), wr_id (h.2.2.1), wr_id (h.2.2.2.1), wr_id (h.2.2.2.2.1), wr_id (h.2.2.2.2.2.1), wr_id (h.2.2.2.2.2.2.1), wr_id (h.2.2.2.2.2.2.2.1), wr_id (h.2.2.2.2.2.2.2.2.1), wr_id (h.2.2.2.2.2.2.2.2.2.1), wr_id (h.2.2.2.2.2.2.2.2.2.2.1), wr_id (h.2.2.2.2.2.2.2.2.2.2.2)]
def cF_addMan19 (c h0 v0 : Int32) (M : cm_M) : cm_M := if 6 ≤ (M.1 19 3).toInt then M else cm_wi (cm_wi (cm_wi (cm_wi (cm_wi (cm_wi M 20 (M.1 19 3).toNatClampNeg c) 21 (M.1 19 3).toNatClampNeg h0) 22 (M.1 19 3).toNatClampNeg v0) 23 (M.1 19 3).toNatClampNeg 0) 24 (M.1 19 3).toNatClampNeg 0) 19 3 (M.1 19 3 + 1)
set_option maxRecDepth 100000 in
theorem cs_addMan19 (c h0 v0 : Int32) {M : cm_M} (h : tn_ok19 M) : cm_Lc cm_ms 9 [.ref 19, .int c, .int h0, .int v0] M (fun v M' => v = none ∧ M' = cF_addMan19 c h0 v0 M) := by
  have e := tn_f19_eq h
  have z : (6 : Int32).toInt = 6 := by decide
  have key : cm_Lc cm_ms 9 [.ref 19, .int c, .int h0, .int v0] (tn_f19 M) (fun v M' => v = none ∧ M' = cF_addMan19 c h0 v0 M) := by
    refine lb_st0 (mi := mr_9) rfl 80 ?_
    show (ev_cmp 2 (M.1 19 3) 6 = true → _) ∧ (ev_cmp 2 (M.1 19 3) 6 = false → _)
    refine ⟨fun h1 => ?_, fun h1 => ?_⟩
    · have g := fn_lt h1
      show (none : Option Value) = none ∧ cm_wi (cm_wi (cm_wi (cm_wi (cm_wi (cm_wi (tn_f19 M) 20 (M.1 19 3).toNatClampNeg c) 21 (M.1 19 3).toNatClampNeg h0) 22 (M.1 19 3).toNatClampNeg v0) 23 (M.1 19 3).toNatClampNeg 0) 24 (M.1 19 3).toNatClampNeg 0) 19 3 (M.1 19 3 + 1) = cF_addMan19 c h0 v0 M
      unfold cF_addMan19
      rw [if_neg (by omega), e]
      exact ⟨rfl, rfl⟩
    · have g := fn_nlt h1
      show (none : Option Value) = none ∧ tn_f19 M = cF_addMan19 c h0 v0 M
      unfold cF_addMan19
      rw [if_pos (by omega), e]
      exact ⟨rfl, rfl⟩
  rw [e] at key
  exact key
def cF_addMotion19 (c n0 w0 : Int32) (M : cm_M) : cm_M := if 5 ≤ (M.1 19 9).toInt then M else cm_wi (cm_wi (cm_wi (cm_wi (cm_wi M 25 (M.1 19 9).toNatClampNeg c) 26 (M.1 19 9).toNatClampNeg n0) 27 (M.1 19 9).toNatClampNeg w0) 28 (M.1 19 9).toNatClampNeg 0) 19 9 (M.1 19 9 + 1)
set_option maxRecDepth 100000 in
theorem cs_addMotion19 (c n0 w0 : Int32) {M : cm_M} (h : tn_ok19 M) : cm_Lc cm_ms 10 [.ref 19, .int c, .int n0, .int w0] M (fun v M' => v = none ∧ M' = cF_addMotion19 c n0 w0 M) := by
  have e := tn_f19_eq h
  have z : (5 : Int32).toInt = 5 := by decide
  have key : cm_Lc cm_ms 10 [.ref 19, .int c, .int n0, .int w0] (tn_f19 M) (fun v M' => v = none ∧ M' = cF_addMotion19 c n0 w0 M) := by
    refine lb_st0 (mi := mr_10) rfl 80 ?_
    show (ev_cmp 2 (M.1 19 9) 5 = true → _) ∧ (ev_cmp 2 (M.1 19 9) 5 = false → _)
    refine ⟨fun h1 => ?_, fun h1 => ?_⟩
    · have g := fn_lt h1
      show (none : Option Value) = none ∧ cm_wi (cm_wi (cm_wi (cm_wi (cm_wi (tn_f19 M) 25 (M.1 19 9).toNatClampNeg c) 26 (M.1 19 9).toNatClampNeg n0) 27 (M.1 19 9).toNatClampNeg w0) 28 (M.1 19 9).toNatClampNeg 0) 19 9 (M.1 19 9 + 1) = cF_addMotion19 c n0 w0 M
      unfold cF_addMotion19
      rw [if_neg (by omega), e]
      exact ⟨rfl, rfl⟩
    · have g := fn_nlt h1
      show (none : Option Value) = none ∧ tn_f19 M = cF_addMotion19 c n0 w0 M
      unfold cF_addMotion19
      rw [if_pos (by omega), e]
      exact ⟨rfl, rfl⟩
  rw [e] at key
  exact key
def cF_addChair19 (c : Int32) (M : cm_M) : cm_M := if 5 ≤ (M.1 19 15).toInt then M else cm_wi (cm_wi M 30 (M.1 19 15).toNatClampNeg c) 19 15 (M.1 19 15 + 1)
set_option maxRecDepth 100000 in
theorem cs_addChair19 (c : Int32) {M : cm_M} (h : tn_ok19 M) : cm_Lc cm_ms 11 [.ref 19, .int c] M (fun v M' => v = none ∧ M' = cF_addChair19 c M) := by
  have e := tn_f19_eq h
  have z : (5 : Int32).toInt = 5 := by decide
  have key : cm_Lc cm_ms 11 [.ref 19, .int c] (tn_f19 M) (fun v M' => v = none ∧ M' = cF_addChair19 c M) := by
    refine lb_st0 (mi := mr_11) rfl 80 ?_
    show (ev_cmp 3 (M.1 19 15) 5 = true → _) ∧ (ev_cmp 3 (M.1 19 15) 5 = false → _)
    refine ⟨fun h1 => ?_, fun h1 => ?_⟩
    · have g := fn_ge h1
      show (none : Option Value) = none ∧ tn_f19 M = cF_addChair19 c M
      unfold cF_addChair19
      rw [if_pos (by omega), e]
      exact ⟨rfl, rfl⟩
    · have g := fn_nge h1
      show (none : Option Value) = none ∧ cm_wi (cm_wi (tn_f19 M) 30 (M.1 19 15).toNatClampNeg c) 19 15 (M.1 19 15 + 1) = cF_addChair19 c M
      unfold cF_addChair19
      rw [if_neg (by omega), e]
      exact ⟨rfl, rfl⟩
  rw [e] at key
  exact key
