/-! THE CLASS'S READER as functions of the memory: a motion's line -/
noncomputable def cF_readMotion6 (N : Nat) (M : cm_M) : cm_M :=
  let M1 := tw_f 6 (cF_newName N 2 (M.1 6 9) M)
  let M2 := tw_f 6 (cF_takeWord N 16 M1)
  let M3 := tw_f 6 (cF_takeWhole N 1 30 M2)
  let M4 := tw_f 6 (cF_takeWord N 17 M3)
  let M5 := tw_f 6 (cF_takeWhole N 0 54 M4)
  let M6 := tw_f 6 (cF_takeWord N 18 M5)
  let M7 := tw_f 6 (cF_takeWhole N 0 99 M6)
  if M7.1 2 9 = 0 then cF_addMotion6 (M2.1 2 5) (M4.1 2 5) (M6.1 2 5) M7 else M7
set_option maxRecDepth 100000 in
set_option maxHeartbeats 8000000 in
theorem cs_readMotion60 {N : Nat} {M0 : cm_M} (h : rs_ok N (tw_f 6 M0)) (hn : rn_ok (tw_f 6 M0)) (ht : tn_ok6 (tw_f 6 M0)) : cm_Lc cm_ms 72 [.ref 2] (tw_f 6 M0) (fun v M' => v = none ∧ M' = cF_readMotion6 N (tw_f 6 M0)) := by
  refine lb_st0 (mi := mr_72) rfl 90 ?_
  show ∃ R, cm_Lc cm_ms 80 [.ref 2, .int 2, .int ((tw_f 6 M0).1 6 9)] (tw_f 6 M0) R ∧ ∀ v M', R v M' → _
  refine ⟨_, cs_newNameF (TW := 6) 2 ((tw_f 6 M0).1 6 9) h hn rfl, ?_⟩
  rintro v M' ⟨rfl, A1, hA1, rfl⟩
  have r1 : rs_ok N A1 := by rw [hA1]; exact rs_newName _ _ h
  have c1 : (tw_f 6 A1).2.2 = (tw_f 6 M0).2.2 := by
    show (cm_wr A1 2 7 (some 6)).2.2 = _
    rw [wr_id (show A1.2.2 2 7 = some 6 by rw [hA1, cF_newName_r]; rfl), hA1, cF_newName_r]
  show ∃ R, cm_Lc cm_ms 78 [.ref 2, .ref (1001 + 2 * 16)] (tw_f 6 A1) R ∧ ∀ v M', R v M' → _
  refine ⟨_, cs_takeWordF (TW := 6) (t := 16) (by decide) (show rs_ok N (tw_f 6 A1) from r1) rfl, ?_⟩
  rintro v M' ⟨rfl, A2, hA2, rfl⟩
  have r2 : rs_ok N A2 := by rw [hA2]; exact rs_takeWord (show rs_ok N (tw_f 6 A1) from r1)
  have c2 : (tw_f 6 A2).2.2 = (tw_f 6 A1).2.2 := by
    show (cm_wr A2 2 7 (some 6)).2.2 = _
    rw [wr_id (show A2.2.2 2 7 = some 6 by rw [hA2, cF_takeWord_r]; rfl), hA2, cF_takeWord_r]
  show ∃ R, cm_Lc cm_ms 79 [.ref 2, .int 1, .int 30] (tw_f 6 A2) R ∧ ∀ v M', R v M' → _
  refine ⟨_, cs_takeWholeF (TW := 6) 1 30 (show rs_ok N (tw_f 6 A2) from r2) rfl, ?_⟩
  rintro v M' ⟨rfl, A3, hA3, rfl⟩
  have r3 : rs_ok N A3 := by rw [hA3]; exact rs_takeWhole (show rs_ok N (tw_f 6 A2) from r2)
  have c3 : (tw_f 6 A3).2.2 = (tw_f 6 A2).2.2 := by
    show (cm_wr A3 2 7 (some 6)).2.2 = _
    rw [wr_id (show A3.2.2 2 7 = some 6 by rw [hA3, cF_takeWhole_r]; rfl), hA3, cF_takeWhole_r]
  show ∃ R, cm_Lc cm_ms 78 [.ref 2, .ref (1001 + 2 * 17)] (tw_f 6 A3) R ∧ ∀ v M', R v M' → _
  refine ⟨_, cs_takeWordF (TW := 6) (t := 17) (by decide) (show rs_ok N (tw_f 6 A3) from r3) rfl, ?_⟩
  rintro v M' ⟨rfl, A4, hA4, rfl⟩
  have r4 : rs_ok N A4 := by rw [hA4]; exact rs_takeWord (show rs_ok N (tw_f 6 A3) from r3)
  have c4 : (tw_f 6 A4).2.2 = (tw_f 6 A3).2.2 := by
    show (cm_wr A4 2 7 (some 6)).2.2 = _
    rw [wr_id (show A4.2.2 2 7 = some 6 by rw [hA4, cF_takeWord_r]; rfl), hA4, cF_takeWord_r]
  show ∃ R, cm_Lc cm_ms 79 [.ref 2, .int 0, .int 54] (tw_f 6 A4) R ∧ ∀ v M', R v M' → _
  refine ⟨_, cs_takeWholeF (TW := 6) 0 54 (show rs_ok N (tw_f 6 A4) from r4) rfl, ?_⟩
  rintro v M' ⟨rfl, A5, hA5, rfl⟩
  have r5 : rs_ok N A5 := by rw [hA5]; exact rs_takeWhole (show rs_ok N (tw_f 6 A4) from r4)
  have c5 : (tw_f 6 A5).2.2 = (tw_f 6 A4).2.2 := by
    show (cm_wr A5 2 7 (some 6)).2.2 = _
    rw [wr_id (show A5.2.2 2 7 = some 6 by rw [hA5, cF_takeWhole_r]; rfl), hA5, cF_takeWhole_r]
  show ∃ R, cm_Lc cm_ms 78 [.ref 2, .ref (1001 + 2 * 18)] (tw_f 6 A5) R ∧ ∀ v M', R v M' → _
  refine ⟨_, cs_takeWordF (TW := 6) (t := 18) (by decide) (show rs_ok N (tw_f 6 A5) from r5) rfl, ?_⟩
  rintro v M' ⟨rfl, A6, hA6, rfl⟩
  have r6 : rs_ok N A6 := by rw [hA6]; exact rs_takeWord (show rs_ok N (tw_f 6 A5) from r5)
  have c6 : (tw_f 6 A6).2.2 = (tw_f 6 A5).2.2 := by
    show (cm_wr A6 2 7 (some 6)).2.2 = _
    rw [wr_id (show A6.2.2 2 7 = some 6 by rw [hA6, cF_takeWord_r]; rfl), hA6, cF_takeWord_r]
  show ∃ R, cm_Lc cm_ms 79 [.ref 2, .int 0, .int 99] (tw_f 6 A6) R ∧ ∀ v M', R v M' → _
  refine ⟨_, cs_takeWholeF (TW := 6) 0 99 (show rs_ok N (tw_f 6 A6) from r6) rfl, ?_⟩
  rintro v M' ⟨rfl, A7, hA7, rfl⟩
  have r7 : rs_ok N A7 := by rw [hA7]; exact rs_takeWhole (show rs_ok N (tw_f 6 A6) from r6)
  have c7 : (tw_f 6 A7).2.2 = (tw_f 6 A6).2.2 := by
    show (cm_wr A7 2 7 (some 6)).2.2 = _
    rw [wr_id (show A7.2.2 2 7 = some 6 by rw [hA7, cF_takeWhole_r]; rfl), hA7, cF_takeWhole_r]
  have t3 : tn_ok6 (tw_f 6 A7) := tn_cg6 (c7.trans (c6.trans (c5.trans (c4.trans (c3.trans (c2.trans c1)))))) ht
  have ed : cF_readMotion6 N (tw_f 6 M0) = if (tw_f 6 A7).1 2 9 = 0 then cF_addMotion6 ((tw_f 6 A2).1 2 5) ((tw_f 6 A4).1 2 5) ((tw_f 6 A6).1 2 5) (tw_f 6 A7) else tw_f 6 A7 := by
    unfold cF_readMotion6
    dsimp only
    subst hA7 hA6 hA5 hA4 hA3 hA2 hA1
    rfl
  show (ev_cmp 1 ((tw_f 6 A7).1 2 9) 0 = true → _) ∧ (ev_cmp 1 ((tw_f 6 A7).1 2 9) 0 = false → ∃ R, cm_Lc cm_ms 10 [.ref 6, .int ((tw_f 6 A2).1 2 5), .int ((tw_f 6 A4).1 2 5), .int ((tw_f 6 A6).1 2 5)] (tw_f 6 A7) R ∧ ∀ v M', R v M' → _)
  refine ⟨fun h1 => ?_, fun h1 => ⟨_, cs_addMotion6 _ _ _ t3, ?_⟩⟩
  · show (none : Option Value) = none ∧ tw_f 6 A7 = cF_readMotion6 N (tw_f 6 M0)
    rw [ed, if_neg (fn_ne h1)]
    exact ⟨rfl, rfl⟩
  · rintro v M' ⟨rfl, rfl⟩
    show (none : Option Value) = none ∧ cF_addMotion6 ((tw_f 6 A2).1 2 5) ((tw_f 6 A4).1 2 5) ((tw_f 6 A6).1 2 5) (tw_f 6 A7) = cF_readMotion6 N (tw_f 6 M0)
    rw [ed, if_pos (fn_eq h1)]
    exact ⟨rfl, rfl⟩
noncomputable def cF_readMotion19 (N : Nat) (M : cm_M) : cm_M :=
  let M1 := tw_f 19 (cF_newName N 2 (M.1 19 9) M)
  let M2 := tw_f 19 (cF_takeWord N 16 M1)
  let M3 := tw_f 19 (cF_takeWhole N 1 30 M2)
  let M4 := tw_f 19 (cF_takeWord N 17 M3)
  let M5 := tw_f 19 (cF_takeWhole N 0 54 M4)
  let M6 := tw_f 19 (cF_takeWord N 18 M5)
  let M7 := tw_f 19 (cF_takeWhole N 0 99 M6)
  if M7.1 2 9 = 0 then cF_addMotion19 (M2.1 2 5) (M4.1 2 5) (M6.1 2 5) M7 else M7
set_option maxRecDepth 100000 in
set_option maxHeartbeats 8000000 in
theorem cs_readMotion190 {N : Nat} {M0 : cm_M} (h : rs_ok N (tw_f 19 M0)) (hn : rn_ok (tw_f 19 M0)) (ht : tn_ok19 (tw_f 19 M0)) : cm_Lc cm_ms 72 [.ref 2] (tw_f 19 M0) (fun v M' => v = none ∧ M' = cF_readMotion19 N (tw_f 19 M0)) := by
  refine lb_st0 (mi := mr_72) rfl 90 ?_
  show ∃ R, cm_Lc cm_ms 80 [.ref 2, .int 2, .int ((tw_f 19 M0).1 19 9)] (tw_f 19 M0) R ∧ ∀ v M', R v M' → _
  refine ⟨_, cs_newNameF (TW := 19) 2 ((tw_f 19 M0).1 19 9) h hn rfl, ?_⟩
  rintro v M' ⟨rfl, A1, hA1, rfl⟩
  have r1 : rs_ok N A1 := by rw [hA1]; exact rs_newName _ _ h
  have c1 : (tw_f 19 A1).2.2 = (tw_f 19 M0).2.2 := by
    show (cm_wr A1 2 7 (some 19)).2.2 = _
    rw [wr_id (show A1.2.2 2 7 = some 19 by rw [hA1, cF_newName_r]; rfl), hA1, cF_newName_r]
  show ∃ R, cm_Lc cm_ms 78 [.ref 2, .ref (1001 + 2 * 16)] (tw_f 19 A1) R ∧ ∀ v M', R v M' → _
  refine ⟨_, cs_takeWordF (TW := 19) (t := 16) (by decide) (show rs_ok N (tw_f 19 A1) from r1) rfl, ?_⟩
  rintro v M' ⟨rfl, A2, hA2, rfl⟩
  have r2 : rs_ok N A2 := by rw [hA2]; exact rs_takeWord (show rs_ok N (tw_f 19 A1) from r1)
  have c2 : (tw_f 19 A2).2.2 = (tw_f 19 A1).2.2 := by
    show (cm_wr A2 2 7 (some 19)).2.2 = _
    rw [wr_id (show A2.2.2 2 7 = some 19 by rw [hA2, cF_takeWord_r]; rfl), hA2, cF_takeWord_r]
  show ∃ R, cm_Lc cm_ms 79 [.ref 2, .int 1, .int 30] (tw_f 19 A2) R ∧ ∀ v M', R v M' → _
  refine ⟨_, cs_takeWholeF (TW := 19) 1 30 (show rs_ok N (tw_f 19 A2) from r2) rfl, ?_⟩
  rintro v M' ⟨rfl, A3, hA3, rfl⟩
  have r3 : rs_ok N A3 := by rw [hA3]; exact rs_takeWhole (show rs_ok N (tw_f 19 A2) from r2)
  have c3 : (tw_f 19 A3).2.2 = (tw_f 19 A2).2.2 := by
    show (cm_wr A3 2 7 (some 19)).2.2 = _
    rw [wr_id (show A3.2.2 2 7 = some 19 by rw [hA3, cF_takeWhole_r]; rfl), hA3, cF_takeWhole_r]
  show ∃ R, cm_Lc cm_ms 78 [.ref 2, .ref (1001 + 2 * 17)] (tw_f 19 A3) R ∧ ∀ v M', R v M' → _
  refine ⟨_, cs_takeWordF (TW := 19) (t := 17) (by decide) (show rs_ok N (tw_f 19 A3) from r3) rfl, ?_⟩
  rintro v M' ⟨rfl, A4, hA4, rfl⟩
  have r4 : rs_ok N A4 := by rw [hA4]; exact rs_takeWord (show rs_ok N (tw_f 19 A3) from r3)
  have c4 : (tw_f 19 A4).2.2 = (tw_f 19 A3).2.2 := by
    show (cm_wr A4 2 7 (some 19)).2.2 = _
    rw [wr_id (show A4.2.2 2 7 = some 19 by rw [hA4, cF_takeWord_r]; rfl), hA4, cF_takeWord_r]
  show ∃ R, cm_Lc cm_ms 79 [.ref 2, .int 0, .int 54] (tw_f 19 A4) R ∧ ∀ v M', R v M' → _
  refine ⟨_, cs_takeWholeF (TW := 19) 0 54 (show rs_ok N (tw_f 19 A4) from r4) rfl, ?_⟩
  rintro v M' ⟨rfl, A5, hA5, rfl⟩
  have r5 : rs_ok N A5 := by rw [hA5]; exact rs_takeWhole (show rs_ok N (tw_f 19 A4) from r4)
  have c5 : (tw_f 19 A5).2.2 = (tw_f 19 A4).2.2 := by
    show (cm_wr A5 2 7 (some 19)).2.2 = _
    rw [wr_id (show A5.2.2 2 7 = some 19 by rw [hA5, cF_takeWhole_r]; rfl), hA5, cF_takeWhole_r]
  show ∃ R, cm_Lc cm_ms 78 [.ref 2, .ref (1001 + 2 * 18)] (tw_f 19 A5) R ∧ ∀ v M', R v M' → _
  refine ⟨_, cs_takeWordF (TW := 19) (t := 18) (by decide) (show rs_ok N (tw_f 19 A5) from r5) rfl, ?_⟩
  rintro v M' ⟨rfl, A6, hA6, rfl⟩
  have r6 : rs_ok N A6 := by rw [hA6]; exact rs_takeWord (show rs_ok N (tw_f 19 A5) from r5)
  have c6 : (tw_f 19 A6).2.2 = (tw_f 19 A5).2.2 := by
    show (cm_wr A6 2 7 (some 19)).2.2 = _
    rw [wr_id (show A6.2.2 2 7 = some 19 by rw [hA6, cF_takeWord_r]; rfl), hA6, cF_takeWord_r]
  show ∃ R, cm_Lc cm_ms 79 [.ref 2, .int 0, .int 99] (tw_f 19 A6) R ∧ ∀ v M', R v M' → _
  refine ⟨_, cs_takeWholeF (TW := 19) 0 99 (show rs_ok N (tw_f 19 A6) from r6) rfl, ?_⟩
  rintro v M' ⟨rfl, A7, hA7, rfl⟩
  have r7 : rs_ok N A7 := by rw [hA7]; exact rs_takeWhole (show rs_ok N (tw_f 19 A6) from r6)
  have c7 : (tw_f 19 A7).2.2 = (tw_f 19 A6).2.2 := by
    show (cm_wr A7 2 7 (some 19)).2.2 = _
    rw [wr_id (show A7.2.2 2 7 = some 19 by rw [hA7, cF_takeWhole_r]; rfl), hA7, cF_takeWhole_r]
  have t3 : tn_ok19 (tw_f 19 A7) := tn_cg19 (c7.trans (c6.trans (c5.trans (c4.trans (c3.trans (c2.trans c1)))))) ht
  have ed : cF_readMotion19 N (tw_f 19 M0) = if (tw_f 19 A7).1 2 9 = 0 then cF_addMotion19 ((tw_f 19 A2).1 2 5) ((tw_f 19 A4).1 2 5) ((tw_f 19 A6).1 2 5) (tw_f 19 A7) else tw_f 19 A7 := by
    unfold cF_readMotion19
    dsimp only
    subst hA7 hA6 hA5 hA4 hA3 hA2 hA1
    rfl
  show (ev_cmp 1 ((tw_f 19 A7).1 2 9) 0 = true → _) ∧ (ev_cmp 1 ((tw_f 19 A7).1 2 9) 0 = false → ∃ R, cm_Lc cm_ms 10 [.ref 19, .int ((tw_f 19 A2).1 2 5), .int ((tw_f 19 A4).1 2 5), .int ((tw_f 19 A6).1 2 5)] (tw_f 19 A7) R ∧ ∀ v M', R v M' → _)
  refine ⟨fun h1 => ?_, fun h1 => ⟨_, cs_addMotion19 _ _ _ t3, ?_⟩⟩
  · show (none : Option Value) = none ∧ tw_f 19 A7 = cF_readMotion19 N (tw_f 19 M0)
    rw [ed, if_neg (fn_ne h1)]
    exact ⟨rfl, rfl⟩
  · rintro v M' ⟨rfl, rfl⟩
    show (none : Option Value) = none ∧ cF_addMotion19 ((tw_f 19 A2).1 2 5) ((tw_f 19 A4).1 2 5) ((tw_f 19 A6).1 2 5) (tw_f 19 A7) = cF_readMotion19 N (tw_f 19 M0)
    rw [ed, if_pos (fn_eq h1)]
    exact ⟨rfl, rfl⟩
