/-! THE CLASS'S READER as functions of the memory: the town's line -/
theorem cF_fail_r (x : Int32) (M : cm_M) : (cF_fail x M).2.2 = M.2.2 := by
  unfold cF_fail
  split
  · rfl
  · rfl
theorem cF_step_r (N : Nat) (M : cm_M) : (cF_step N M).2.2 = M.2.2 := by
  unfold cF_step
  split
  · rfl
  · rfl
theorem cF_due_r (t : Nat) (M : cm_M) : (cF_due t M).2.2 = M.2.2 := by
  unfold cF_due
  split
  · rfl
  · exact cF_fail_r 1 M
theorem cF_whole_r (lo hi : Int32) (M : cm_M) : (cF_whole lo hi M).2.2 = M.2.2 := by
  unfold cF_whole
  split
  · split
    · exact cF_fail_r 4 M
    · rfl
  · exact cF_fail_r 1 M
noncomputable def cF_takeWord (N t : Nat) (M : cm_M) : cm_M := cF_step N (cF_due t M)
noncomputable def cF_takeWhole (N : Nat) (lo hi : Int32) (M : cm_M) : cm_M := cF_step N (cF_whole lo hi M)
theorem cF_takeWord_r (N t : Nat) (M : cm_M) : (cF_takeWord N t M).2.2 = M.2.2 := (cF_step_r _ _).trans (cF_due_r _ _)
theorem cF_takeWhole_r (N : Nat) (lo hi : Int32) (M : cm_M) : (cF_takeWhole N lo hi M).2.2 = M.2.2 := (cF_step_r _ _).trans (cF_whole_r _ _ _)
theorem rs_takeWord {N t : Nat} {M : cm_M} (h : rs_ok N M) : rs_ok N (cF_takeWord N t M) := rs_step (rs_due t h)
theorem rs_takeWhole {N : Nat} {lo hi : Int32} {M : cm_M} (h : rs_ok N M) : rs_ok N (cF_takeWhole N lo hi M) := rs_step (rs_whole lo hi h)
/-- the reader's town is told -/
def tw_f (TW : Nat) (M : cm_M) : cm_M := cm_wr M 2 7 (some TW)
theorem cs_takeWordF {N t TW : Nat} (ht : t < 40) {M : cm_M} (h : rs_ok N M) (h7 : M.2.2 2 7 = some TW) : cm_Lc cm_ms 78 [.ref 2, .ref (1001 + 2 * t)] M (fun v M' => v = none ∧ ∃ A, A = cF_takeWord N t M ∧ M' = tw_f TW A) :=
  cm_Lc_im (cs_takeWord ht h) (fun v M' q => ⟨q.1, cF_takeWord N t M, rfl, q.2.trans (wr_id (by show (cF_takeWord N t M).2.2 2 7 = _; rw [cF_takeWord_r]; exact h7)).symm⟩)
theorem cs_takeWholeF {N TW : Nat} (lo hi : Int32) {M : cm_M} (h : rs_ok N M) (h7 : M.2.2 2 7 = some TW) : cm_Lc cm_ms 79 [.ref 2, .int lo, .int hi] M (fun v M' => v = some (.int (M.1 2 5)) ∧ ∃ A, A = cF_takeWhole N lo hi M ∧ M' = tw_f TW A) :=
  cm_Lc_im (cs_takeWhole lo hi h) (fun v M' q => ⟨q.1, cF_takeWhole N lo hi M, rfl, q.2.trans (wr_id (by show (cF_takeWhole N lo hi M).2.2 2 7 = _; rw [cF_takeWhole_r]; exact h7)).symm⟩)
theorem tw_f_rs {N TW : Nat} {M : cm_M} (h : rs_ok N M) : rs_ok N (tw_f TW M) := h
