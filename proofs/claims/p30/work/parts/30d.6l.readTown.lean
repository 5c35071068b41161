/-! THE CLASS'S READER: the town's line -/
noncomputable def cF_readTown6 (N : Nat) (M : cm_M) : cm_M :=
  let M1 := tw_f 6 (cF_takeWord N 8 M)
  let M2 := cm_wi (tw_f 6 (cF_takeWhole N 0 9 M1)) 6 0 (M1.1 2 5)
  let M3 := tw_f 6 (cF_takeWord N 9 M2)
  let M4 := cm_wi (tw_f 6 (cF_takeWhole N 0 20 M3)) 6 1 (M3.1 2 5)
  let M5 := tw_f 6 (cF_takeWord N 10 M4)
  let M6 := cm_wi (tw_f 6 (cF_takeWhole N 0 100 M5)) 6 2 (M5.1 2 5)
  cm_wi M6 2 8 1
set_option maxRecDepth 100000 in
set_option maxHeartbeats 4000000 in
theorem cs_readTown6 {N : Nat} {M : cm_M} (h : rs_ok N M) (h7 : M.2.2 2 7 = some 6) : cm_Lc cm_ms 70 [.ref 2] M (fun v M' => v = none ∧ M' = cF_readTown6 N M) := by
  refine lb_st0 (mi := mr_70) rfl 80 ?_
  show ∃ R, cm_Lc cm_ms 78 [.ref 2, .ref (1001 + 2 * 8)] (M) R ∧ ∀ v M', R v M' → _
  refine ⟨_, cs_takeWordF (TW := 6) (t := 8) (by decide) h h7, ?_⟩
  rintro v M' ⟨rfl, A1, hA1, rfl⟩
  have r1 : rs_ok N A1 := by rw [hA1]; exact rs_takeWord h
  show ∃ R, cm_Lc cm_ms 79 [.ref 2, .int 0, .int 9] (tw_f 6 A1) R ∧ ∀ v M', R v M' → _
  refine ⟨_, cs_takeWholeF (TW := 6) 0 9 (show rs_ok N (tw_f 6 A1) from r1) rfl, ?_⟩
  rintro v M' ⟨rfl, A2, hA2, rfl⟩
  have r2 : rs_ok N A2 := by rw [hA2]; exact rs_takeWhole (show rs_ok N (tw_f 6 A1) from r1)
  show ∃ R, cm_Lc cm_ms 78 [.ref 2, .ref (1001 + 2 * 9)] (cm_wi (tw_f 6 A2) 6 0 ((tw_f 6 A1).1 2 5)) R ∧ ∀ v M', R v M' → _
  refine ⟨_, cs_takeWordF (TW := 6) (t := 9) (by decide) r2 rfl, ?_⟩
  rintro v M' ⟨rfl, A3, hA3, rfl⟩
  have r3 : rs_ok N A3 := by rw [hA3]; exact rs_takeWord r2
  show ∃ R, cm_Lc cm_ms 79 [.ref 2, .int 0, .int 20] (tw_f 6 A3) R ∧ ∀ v M', R v M' → _
  refine ⟨_, cs_takeWholeF (TW := 6) 0 20 (show rs_ok N (tw_f 6 A3) from r3) rfl, ?_⟩
  rintro v M' ⟨rfl, A4, hA4, rfl⟩
  have r4 : rs_ok N A4 := by rw [hA4]; exact rs_takeWhole (show rs_ok N (tw_f 6 A3) from r3)
  show ∃ R, cm_Lc cm_ms 78 [.ref 2, .ref (1001 + 2 * 10)] (cm_wi (tw_f 6 A4) 6 1 ((tw_f 6 A3).1 2 5)) R ∧ ∀ v M', R v M' → _
  refine ⟨_, cs_takeWordF (TW := 6) (t := 10) (by decide) r4 rfl, ?_⟩
  rintro v M' ⟨rfl, A5, hA5, rfl⟩
  have r5 : rs_ok N A5 := by rw [hA5]; exact rs_takeWord r4
  show ∃ R, cm_Lc cm_ms 79 [.ref 2, .int 0, .int 100] (tw_f 6 A5) R ∧ ∀ v M', R v M' → _
  refine ⟨_, cs_takeWholeF (TW := 6) 0 100 (show rs_ok N (tw_f 6 A5) from r5) rfl, ?_⟩
  rintro v M' ⟨rfl, A6, hA6, rfl⟩
  have r6 : rs_ok N A6 := by rw [hA6]; exact rs_takeWhole (show rs_ok N (tw_f 6 A5) from r5)
  refine ⟨rfl, ?_⟩
  show cm_wi (cm_wi (tw_f 6 A6) 6 2 ((tw_f 6 A5).1 2 5)) 2 8 1 = _
  unfold cF_readTown6
  dsimp only
  subst hA6 hA5 hA4 hA3 hA2 hA1
  rfl
noncomputable def cF_readTown19 (N : Nat) (M : cm_M) : cm_M :=
  let M1 := tw_f 19 (cF_takeWord N 8 M)
  let M2 := cm_wi (tw_f 19 (cF_takeWhole N 0 9 M1)) 19 0 (M1.1 2 5)
  let M3 := tw_f 19 (cF_takeWord N 9 M2)
  let M4 := cm_wi (tw_f 19 (cF_takeWhole N 0 20 M3)) 19 1 (M3.1 2 5)
  let M5 := tw_f 19 (cF_takeWord N 10 M4)
  let M6 := cm_wi (tw_f 19 (cF_takeWhole N 0 100 M5)) 19 2 (M5.1 2 5)
  cm_wi M6 2 8 1
set_option maxRecDepth 100000 in
set_option maxHeartbeats 4000000 in
theorem cs_readTown19 {N : Nat} {M : cm_M} (h : rs_ok N M) (h7 : M.2.2 2 7 = some 19) : cm_Lc cm_ms 70 [.ref 2] M (fun v M' => v = none ∧ M' = cF_readTown19 N M) := by
  refine lb_st0 (mi := mr_70) rfl 80 ?_
  show ∃ R, cm_Lc cm_ms 78 [.ref 2, .ref (1001 + 2 * 8)] (M) R ∧ ∀ v M', R v M' → _
  refine ⟨_, cs_takeWordF (TW := 19) (t := 8) (by decide) h h7, ?_⟩
  rintro v M' ⟨rfl, A1, hA1, rfl⟩
  have r1 : rs_ok N A1 := by rw [hA1]; exact rs_takeWord h
  show ∃ R, cm_Lc cm_ms 79 [.ref 2, .int 0, .int 9] (tw_f 19 A1) R ∧ ∀ v M', R v M' → _
  refine ⟨_, cs_takeWholeF (TW := 19) 0 9 (show rs_ok N (tw_f 19 A1) from r1) rfl, ?_⟩
  rintro v M' ⟨rfl, A2, hA2, rfl⟩
  have r2 : rs_ok N A2 := by rw [hA2]; exact rs_takeWhole (show rs_ok N (tw_f 19 A1) from r1)
  show ∃ R, cm_Lc cm_ms 78 [.ref 2, .ref (1001 + 2 * 9)] (cm_wi (tw_f 19 A2) 19 0 ((tw_f 19 A1).1 2 5)) R ∧ ∀ v M', R v M' → _
  refine ⟨_, cs_takeWordF (TW := 19) (t := 9) (by decide) r2 rfl, ?_⟩
  rintro v M' ⟨rfl, A3, hA3, rfl⟩
  have r3 : rs_ok N A3 := by rw [hA3]; exact rs_takeWord r2
  show ∃ R, cm_Lc cm_ms 79 [.ref 2, .int 0, .int 20] (tw_f 19 A3) R ∧ ∀ v M', R v M' → _
  refine ⟨_, cs_takeWholeF (TW := 19) 0 20 (show rs_ok N (tw_f 19 A3) from r3) rfl, ?_⟩
  rintro v M' ⟨rfl, A4, hA4, rfl⟩
  have r4 : rs_ok N A4 := by rw [hA4]; exact rs_takeWhole (show rs_ok N (tw_f 19 A3) from r3)
  show ∃ R, cm_Lc cm_ms 78 [.ref 2, .ref (1001 + 2 * 10)] (cm_wi (tw_f 19 A4) 19 1 ((tw_f 19 A3).1 2 5)) R ∧ ∀ v M', R v M' → _
  refine ⟨_, cs_takeWordF (TW := 19) (t := 10) (by decide) r4 rfl, ?_⟩
  rintro v M' ⟨rfl, A5, hA5, rfl⟩
  have r5 : rs_ok N A5 := by rw [hA5]; exact rs_takeWord r4
  show ∃ R, cm_Lc cm_ms 79 [.ref 2, .int 0, .int 100] (tw_f 19 A5) R ∧ ∀ v M', R v M' → _
  refine ⟨_, cs_takeWholeF (TW := 19) 0 100 (show rs_ok N (tw_f 19 A5) from r5) rfl, ?_⟩
  rintro v M' ⟨rfl, A6, hA6, rfl⟩
  have r6 : rs_ok N A6 := by rw [hA6]; exact rs_takeWhole (show rs_ok N (tw_f 19 A5) from r5)
  refine ⟨rfl, ?_⟩
  show cm_wi (cm_wi (tw_f 19 A6) 19 2 ((tw_f 19 A5).1 2 5)) 2 8 1 = _
  unfold cF_readTown19
  dsimp only
  subst hA6 hA5 hA4 hA3 hA2 hA1
  rfl
