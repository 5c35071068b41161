/-! THE CLASS'S READER as functions of the memory: a chair's line -/
theorem cF_newChk_r (M : cm_M) : (cF_newChk M).2.2 = M.2.2 := by
  unfold cF_newChk
  split
  · split
    · rfl
    · exact cF_fail_r 3 M
  · exact cF_fail_r 1 M
theorem cF_put_r (so nu : Int32) (X : cm_M) : (cF_put so nu X).2.2 = X.2.2 := by
  unfold cF_put
  split
  · rfl
  · rfl
theorem cF_newName_r (N : Nat) (so nu : Int32) (M : cm_M) : (cF_newName N so nu M).2.2 = M.2.2 := ((cF_step_r _ _).trans (cF_put_r _ _ _)).trans (cF_newChk_r M)
theorem rs_newName {N : Nat} (so nu : Int32) {M : cm_M} (h : rs_ok N M) : rs_ok N (cF_newName N so nu M) := rs_step (rs_put so nu (rs_newChk h))
theorem cs_newNameF {N TW : Nat} (so nu : Int32) {M : cm_M} (h : rs_ok N M) (hn : rn_ok M) (h7 : M.2.2 2 7 = some TW) : cm_Lc cm_ms 80 [.ref 2, .int so, .int nu] M (fun v M' => v = none ∧ ∃ A, A = cF_newName N so nu M ∧ M' = tw_f TW A) :=
  cm_Lc_im (cs_newName so nu h hn) (fun v M' q => ⟨q.1, cF_newName N so nu M, rfl, q.2.trans (wr_id (by rw [cF_newName_r]; exact h7)).symm⟩)
theorem tn_cg6 {M M' : cm_M} (e : M'.2.2 = M.2.2) (h : tn_ok6 M) : tn_ok6 M' := by
  unfold tn_ok6 at h ⊢
  rw [e]
  exact h
noncomputable def cF_readChair6 (N : Nat) (M : cm_M) : cm_M :=
  let M1 := tw_f 6 (cF_newName N 6 (M.1 6 15) M)
  let M2 := tw_f 6 (cF_takeWord N 19 M1)
  let M3 := tw_f 6 (cF_takeWhole N 0 99 M2)
  if M3.1 2 9 = 0 then cF_addChair6 (M2.1 2 5) M3 else M3
set_option maxRecDepth 100000 in
set_option maxHeartbeats 4000000 in
theorem cs_readChair60 {N : Nat} {M0 : cm_M} (h : rs_ok N (tw_f 6 M0)) (hn : rn_ok (tw_f 6 M0)) (ht : tn_ok6 (tw_f 6 M0)) : cm_Lc cm_ms 76 [.ref 2] (tw_f 6 M0) (fun v M' => v = none ∧ M' = cF_readChair6 N (tw_f 6 M0)) := by
  refine lb_st0 (mi := mr_76) rfl 80 ?_
  show ∃ R, cm_Lc cm_ms 80 [.ref 2, .int 6, .int ((tw_f 6 M0).1 6 15)] (tw_f 6 M0) R ∧ ∀ v M', R v M' → _
  refine ⟨_, cs_newNameF (TW := 6) 6 ((tw_f 6 M0).1 6 15) h hn rfl, ?_⟩
  rintro v M' ⟨rfl, A1, hA1, rfl⟩
  have r1 : rs_ok N A1 := by rw [hA1]; exact rs_newName _ _ h
  have c1 : (tw_f 6 A1).2.2 = (tw_f 6 M0).2.2 := by
    show (cm_wr A1 2 7 (some 6)).2.2 = _
    rw [wr_id (show A1.2.2 2 7 = some 6 by rw [hA1, cF_newName_r]; rfl), hA1, cF_newName_r]
  show ∃ R, cm_Lc cm_ms 78 [.ref 2, .ref (1001 + 2 * 19)] (tw_f 6 A1) R ∧ ∀ v M', R v M' → _
  refine ⟨_, cs_takeWordF (TW := 6) (t := 19) (by decide) (show rs_ok N (tw_f 6 A1) from r1) rfl, ?_⟩
  rintro v M' ⟨rfl, A2, hA2, rfl⟩
  have r2 : rs_ok N A2 := by rw [hA2]; exact rs_takeWord (show rs_ok N (tw_f 6 A1) from r1)
  have c2 : (tw_f 6 A2).2.2 = (tw_f 6 A1).2.2 := by
    show (cm_wr A2 2 7 (some 6)).2.2 = _
    rw [wr_id (show A2.2.2 2 7 = some 6 by rw [hA2, cF_takeWord_r]; rfl), hA2, cF_takeWord_r]
  show ∃ R, cm_Lc cm_ms 79 [.ref 2, .int 0, .int 99] (tw_f 6 A2) R ∧ ∀ v M', R v M' → _
  refine ⟨_, cs_takeWholeF (TW := 6) 0 99 (show rs_ok N (tw_f 6 A2) from r2) rfl, ?_⟩
  rintro v M' ⟨rfl, A3, hA3, rfl⟩
  have c3 : (tw_f 6 A3).2.2 = (tw_f 6 A2).2.2 := by
    show (cm_wr A3 2 7 (some 6)).2.2 = _
    rw [wr_id (show A3.2.2 2 7 = some 6 by rw [hA3, cF_takeWhole_r]; rfl), hA3, cF_takeWhole_r]
  have t3 : tn_ok6 (tw_f 6 A3) := tn_cg6 (c3.trans (c2.trans c1)) ht
  have ed : cF_readChair6 N (tw_f 6 M0) = if (tw_f 6 A3).1 2 9 = 0 then cF_addChair6 ((tw_f 6 A2).1 2 5) (tw_f 6 A3) else tw_f 6 A3 := by
    unfold cF_readChair6
    dsimp only
    subst hA3 hA2 hA1
    rfl
  show (ev_cmp 1 ((tw_f 6 A3).1 2 9) 0 = true → _) ∧ (ev_cmp 1 ((tw_f 6 A3).1 2 9) 0 = false → ∃ R, cm_Lc cm_ms 11 [.ref 6, .int ((tw_f 6 A2).1 2 5)] (tw_f 6 A3) R ∧ ∀ v M', R v M' → _)
  refine ⟨fun h1 => ?_, fun h1 => ⟨_, cs_addChair6 _ t3, ?_⟩⟩
  · show (none : Option Value) = none ∧ tw_f 6 A3 = cF_readChair6 N (tw_f 6 M0)
    rw [ed, if_neg (fn_ne h1)]
    exact ⟨rfl, rfl⟩
  · rintro v M' ⟨rfl, rfl⟩
    show (none : Option Value) = none ∧ cF_addChair6 ((tw_f 6 A2).1 2 5) (tw_f 6 A3) = cF_readChair6 N (tw_f 6 M0)
    rw [ed, if_pos (fn_eq h1)]
    exact ⟨rfl, rfl⟩
theorem tn_cg19 {M M' : cm_M} (e : M'.2.2 = M.2.2) (h : tn_ok19 M) : tn_ok19 M' := by
  unfold tn_ok19 at h ⊢
  rw [e]
  exact h
noncomputable def cF_readChair19 (N : Nat) (M : cm_M) : cm_M :=
  let M1 := tw_f 19 (cF_newName N 6 (M.1 19 15) M)
  let M2 := tw_f 19 (cF_takeWord N 19 M1)
  let M3 := tw_f 19 (cF_takeWhole N 0 99 M2)
  if M3.1 2 9 = 0 then cF_addChair19 (M2.1 2 5) M3 else M3
set_option maxRecDepth 100000 in
set_option maxHeartbeats 4000000 in
theorem cs_readChair190 {N : Nat} {M0 : cm_M} (h : rs_ok N (tw_f 19 M0)) (hn : rn_ok (tw_f 19 M0)) (ht : tn_ok19 (tw_f 19 M0)) : cm_Lc cm_ms 76 [.ref 2] (tw_f 19 M0) (fun v M' => v = none ∧ M' = cF_readChair19 N (tw_f 19 M0)) := by
  refine lb_st0 (mi := mr_76) rfl 80 ?_
  show ∃ R, cm_Lc cm_ms 80 [.ref 2, .int 6, .int ((tw_f 19 M0).1 19 15)] (tw_f 19 M0) R ∧ ∀ v M', R v M' → _
  refine ⟨_, cs_newNameF (TW := 19) 6 ((tw_f 19 M0).1 19 15) h hn rfl, ?_⟩
  rintro v M' ⟨rfl, A1, hA1, rfl⟩
  have r1 : rs_ok N A1 := by rw [hA1]; exact rs_newName _ _ h
  have c1 : (tw_f 19 A1).2.2 = (tw_f 19 M0).2.2 := by
    show (cm_wr A1 2 7 (some 19)).2.2 = _
    rw [wr_id (show A1.2.2 2 7 = some 19 by rw [hA1, cF_newName_r]; rfl), hA1, cF_newName_r]
  show ∃ R, cm_Lc cm_ms 78 [.ref 2, .ref (1001 + 2 * 19)] (tw_f 19 A1) R ∧ ∀ v M', R v M' → _
  refine ⟨_, cs_takeWordF (TW := 19) (t := 19) (by decide) (show rs_ok N (tw_f 19 A1) from r1) rfl, ?_⟩
  rintro v M' ⟨rfl, A2, hA2, rfl⟩
  have r2 : rs_ok N A2 := by rw [hA2]; exact rs_takeWord (show rs_ok N (tw_f 19 A1) from r1)
  have c2 : (tw_f 19 A2).2.2 = (tw_f 19 A1).2.2 := by
    show (cm_wr A2 2 7 (some 19)).2.2 = _
    rw [wr_id (show A2.2.2 2 7 = some 19 by rw [hA2, cF_takeWord_r]; rfl), hA2, cF_takeWord_r]
  show ∃ R, cm_Lc cm_ms 79 [.ref 2, .int 0, .int 99] (tw_f 19 A2) R ∧ ∀ v M', R v M' → _
  refine ⟨_, cs_takeWholeF (TW := 19) 0 99 (show rs_ok N (tw_f 19 A2) from r2) rfl, ?_⟩
  rintro v M' ⟨rfl, A3, hA3, rfl⟩
  have c3 : (tw_f 19 A3).2.2 = (tw_f 19 A2).2.2 := by
    show (cm_wr A3 2 7 (some 19)).2.2 = _
    rw [wr_id (show A3.2.2 2 7 = some 19 by rw [hA3, cF_takeWhole_r]; rfl), hA3, cF_takeWhole_r]
  have t3 : tn_ok19 (tw_f 19 A3) := tn_cg19 (c3.trans (c2.trans c1)) ht
  have ed : cF_readChair19 N (tw_f 19 M0) = if (tw_f 19 A3).1 2 9 = 0 then cF_addChair19 ((tw_f 19 A2).1 2 5) (tw_f 19 A3) else tw_f 19 A3 := by
    unfold cF_readChair19
    dsimp only
    subst hA3 hA2 hA1
    rfl
  show (ev_cmp 1 ((tw_f 19 A3).1 2 9) 0 = true → _) ∧ (ev_cmp 1 ((tw_f 19 A3).1 2 9) 0 = false → ∃ R, cm_Lc cm_ms 11 [.ref 19, .int ((tw_f 19 A2).1 2 5)] (tw_f 19 A3) R ∧ ∀ v M', R v M' → _)
  refine ⟨fun h1 => ?_, fun h1 => ⟨_, cs_addChair19 _ t3, ?_⟩⟩
  · show (none : Option Value) = none ∧ tw_f 19 A3 = cF_readChair19 N (tw_f 19 M0)
    rw [ed, if_neg (fn_ne h1)]
    exact ⟨rfl, rfl⟩
  · rintro v M' ⟨rfl, rfl⟩
    show (none : Option Value) = none ∧ cF_addChair19 ((tw_f 19 A2).1 2 5) (tw_f 19 A3) = cF_readChair19 N (tw_f 19 M0)
    rw [ed, if_pos (fn_eq h1)]
    exact ⟨rfl, rfl⟩
