noncomputable def rl_F (T N : Nat) (C : cm_M) : cm_M :=
  if cF_line C = -1 then cF_fail 1 C else if cF_line C = 0 then tl_F T N C else if cF_line C = 1 then rl_G (cF_man T) N (fuC T C 1 6) C else if cF_line C = 2 then rl_G (cF_motion T) N (fuC T C 2 5) C else if cF_line C = 3 then rl_G (cF_against T) N (fuC T C 3 9) C else if cF_line C = 4 then rl_G (cF_amends T) N (fuC T C 4 6) C else if cF_line C = 5 then rl_G (cF_quarrel T) N (fuC T C 5 9) C else if cF_line C = 6 then rl_G (cF_chair T) N (fuC T C 6 5) C else rl_G (cF_heap T) N (fuC T C 7 900) C
theorem ln_cs (C : cm_M) : ∀ f j, (ln_f C f j = -1 ∧ ∀ i, j ≤ i → i < j + f → wt i C = false) ∨ (∃ i, j ≤ i ∧ i < j + f ∧ ln_f C f j = Int32.ofNat i ∧ wt i C = true ∧ ∀ k, j ≤ k → k < i → wt k C = false)
  | 0, j => Or.inl ⟨rfl, fun i a b => by omega⟩
  | f + 1, j => by
    unfold ln_f
    by_cases hj : wt j C = true
    · rw [if_pos hj]
      exact Or.inr ⟨j, Nat.le_refl _, by omega, rfl, hj, fun k a b => by omega⟩
    · have hj' : wt j C = false := Bool.eq_false_iff.mpr hj
      rw [if_neg hj]
      rcases ln_cs C f (j + 1) with ⟨a, b⟩ | ⟨i, a1, a2, a3, a4, a5⟩
      · refine Or.inl ⟨a, fun i c d => ?_⟩
        by_cases e : i = j
        · rw [e]; exact hj'
        · exact b i (by omega) (by omega)
      · refine Or.inr ⟨i, by omega, by omega, a3, a4, fun k c d => ?_⟩
        by_cases e : k = j
        · rw [e]; exact hj'
        · exact a5 k (by omega) d
theorem ln_at {C : cm_M} {i : Nat} (hi : i < 8) (h : wt i C = true) (hb : ∀ k, k < i → wt k C = false) : cF_line C = Int32.ofNat i := by
  unfold cF_line
  rcases ln_cs C 8 0 with ⟨a, b⟩ | ⟨j, a1, a2, a3, a4, a5⟩
  · rw [b i (Nat.zero_le _) (by omega)] at h
    cases h
  · rw [a3]
    rcases Nat.lt_trichotomy i j with q | q | q
    · rw [a5 i (Nat.zero_le _) q] at h
      cases h
    · rw [q]
    · rw [hb j q] at a4
      cases a4
set_option maxRecDepth 100000 in
set_option maxHeartbeats 4000000 in
theorem f_rln_6 {N : Nat} {C : cm_M} (h : RC N C) (h0 : C.1 2 9 = 0) (hl : cF_line C = (-1)) : cm_Lc cm_ms 67 [.ref 2] (fr 6 C) (fq 6 none (cF_fail 1 C)) := by
  refine lb_st0 (mi := mr_67) rfl 120 ?_
  show ∃ R, cm_Lc cm_ms 84 [.ref 2] (fr 6 C) R ∧ ∀ v M', R v M' → _
  refine ⟨_, f_lineL hl, ?_⟩
  rintro v M' ⟨rfl, rfl⟩
  show (ev_cmp 1 (-1) (-1) = true → _) ∧ (ev_cmp 1 (-1) (-1) = false → _)
  refine ⟨fun h1 => ?_, fun h1 => ?_⟩
  · exact absurd h1 (by decide)
  · show ∃ R, cm_Lc cm_ms 66 [.ref 2, .int 1] (fr 6 C) R ∧ ∀ v M', R v M' → _
    refine ⟨_, f_fail 1 _, ?_⟩
    rintro v M' ⟨rfl, A1, e1, rfl⟩
    have k1 : RC N A1 := by rw [e1]; exact RC_fail _ h
    have y1 : A1.1 2 9 ≠ 0 := by rw [e1]; exact cF_fail_9n (by decide)
    show ∃ R, cm_Lc cm_ms 88 [.ref 2] (fr 6 A1) R ∧ ∀ v M', R v M' → _
    refine ⟨_, f_step k1, ?_⟩
    rintro v M' ⟨rfl, A2, e2, rfl⟩
    have k2 : RC N A2 := by rw [e2]; exact RC_step k1
    have y2 : A2.1 2 9 ≠ 0 := by rw [e2, cF_step_9]; exact y1
    show (ev_cmp 1 (A2.1 2 9) 0 = true → _) ∧ (ev_cmp 1 (A2.1 2 9) 0 = false → _)
    refine ⟨fun h2 => ?_, fun h2 => ?_⟩
    · show (((-1) : Int32).toInt < 0 ∨ 7 < ((-1) : Int32).toInt → _) ∧ (∀ (j : Nat) (o : Int), ([46, 53, 60, 67, 74, 81, 88, 95] : List Int)[j]? = some o → ((-1) : Int32).toInt = 0 + (j : Int) → _)
      refine sw_d (by decide) (by decide) ?_
      show fq 6 none (cF_fail 1 C) none (fr 6 A2)
      refine ⟨rfl, A2, ?_, rfl⟩
      rw [e2, cF_step_id y1, e1]
    · exact absurd (fn_eq h2) y2
set_option maxRecDepth 100000 in
set_option maxHeartbeats 4000000 in
theorem f_rl0_6 {N : Nat} {C : cm_M} (h : RC N C) (h0 : C.1 2 9 = 0) (hl : cF_line C = 0) : cm_Lc cm_ms 67 [.ref 2] (fr 6 C) (fq 6 none (tl_F 6 N C)) := by
  refine lb_st0 (mi := mr_67) rfl 120 ?_
  show ∃ R, cm_Lc cm_ms 84 [.ref 2] (fr 6 C) R ∧ ∀ v M', R v M' → _
  refine ⟨_, f_lineL hl, ?_⟩
  rintro v M' ⟨rfl, rfl⟩
  show (ev_cmp 1 0 (-1) = true → _) ∧ (ev_cmp 1 0 (-1) = false → _)
  refine ⟨fun h1 => ?_, fun h1 => ?_⟩
  · show (ev_cmp 1 0 0 = true → _) ∧ (ev_cmp 1 0 0 = false → _)
    refine ⟨fun h2 => ?_, fun h2 => ?_⟩
    · exact absurd h2 (by decide)
    · show (ev_cmp 0 (C.1 2 8) 0 = true → _) ∧ (ev_cmp 0 (C.1 2 8) 0 = false → _)
      refine ⟨fun h3 => ?_, fun h3 => ?_⟩
      · have g3 := fn_eq0 h3
        show (ev_cmp 0 0 0 = true → _) ∧ (ev_cmp 0 0 0 = false → _)
        refine ⟨fun h4 => ?_, fun h4 => ?_⟩
        · show ∃ R, cm_Lc cm_ms 69 [.ref 2, .int 0] (fr 6 C) R ∧ ∀ v M', R v M' → _
          refine ⟨_, f_toldN0_6 C, ?_⟩
          rintro v M' ⟨rfl, rfl⟩
          show ∃ R, cm_Lc cm_ms 68 [.int 0] (fr 6 C) R ∧ ∀ v M', R v M' → _
          refine ⟨_, f_room0 _, ?_⟩
          rintro v M' ⟨rfl, rfl⟩
          show (ev_cmp 2 (toC 6 C 0) 900 = true → _) ∧ (ev_cmp 2 (toC 6 C 0) 900 = false → _)
          refine ⟨fun h5 => ?_, fun h5 => ?_⟩
          · have g5 := fn_lt h5
            show ∃ R, cm_Lc cm_ms 88 [.ref 2] (fr 6 C) R ∧ ∀ v M', R v M' → _
            refine ⟨_, f_step h, ?_⟩
            rintro v M' ⟨rfl, A1, e1, rfl⟩
            have k1 : RC N A1 := by rw [e1]; exact RC_step h
            have y1 : A1.1 2 9 = 0 := by rw [e1, cF_step_9]; exact h0
            show (ev_cmp 1 (A1.1 2 9) 0 = true → _) ∧ (ev_cmp 1 (A1.1 2 9) 0 = false → _)
            refine ⟨fun h6 => ?_, fun h6 => ?_⟩
            · exact absurd y1 (fn_ne h6)
            · show ((0 : Int32).toInt < 0 ∨ 7 < (0 : Int32).toInt → _) ∧ (∀ (j : Nat) (o : Int), ([46, 53, 60, 67, 74, 81, 88, 95] : List Int)[j]? = some o → (0 : Int32).toInt = 0 + (j : Int) → _)
              refine sw_k 0 46 rfl (by decide) (by decide) ?_
              show ∃ R, cm_Lc cm_ms 70 [.ref 2] (fr 6 A1) R ∧ ∀ v M', R v M' → _
              refine ⟨_, f_town6 k1, ?_⟩
              rintro v M' ⟨rfl, A2, e2, rfl⟩
              show fq 6 none (tl_F 6 N C) none (fr 6 A2)
              refine ⟨rfl, A2, ?_, rfl⟩
              unfold tl_F
              rw [if_pos g3, e2, e1]
          · have g5 := fn_nlt h5
            show ∃ R, cm_Lc cm_ms 66 [.ref 2, .int 5] (fr 6 C) R ∧ ∀ v M', R v M' → _
            refine ⟨_, f_fail 5 _, ?_⟩
            rintro v M' ⟨rfl, A1, e1, rfl⟩
            have k1 : RC N A1 := by rw [e1]; exact RC_fail _ h
            have y1 : A1.1 2 9 ≠ 0 := by rw [e1]; exact cF_fail_9n (by decide)
            show ∃ R, cm_Lc cm_ms 88 [.ref 2] (fr 6 A1) R ∧ ∀ v M', R v M' → _
            refine ⟨_, f_step k1, ?_⟩
            rintro v M' ⟨rfl, A2, e2, rfl⟩
            have k2 : RC N A2 := by rw [e2]; exact RC_step k1
            have y2 : A2.1 2 9 ≠ 0 := by rw [e2, cF_step_9]; exact y1
            show (ev_cmp 1 (A2.1 2 9) 0 = true → _) ∧ (ev_cmp 1 (A2.1 2 9) 0 = false → _)
            refine ⟨fun h7 => ?_, fun h7 => ?_⟩
            · show (((-1) : Int32).toInt < 0 ∨ 7 < ((-1) : Int32).toInt → _) ∧ (∀ (j : Nat) (o : Int), ([46, 53, 60, 67, 74, 81, 88, 95] : List Int)[j]? = some o → ((-1) : Int32).toInt = 0 + (j : Int) → _)
              refine sw_d (by decide) (by decide) ?_
              show fq 6 none (tl_F 6 N C) none (fr 6 A2)
              have e9 : toC 6 C 0 = 0 := rfl
              rw [e9] at g5
              exact absurd g5 (by decide)
            · exact absurd (fn_eq h7) y2
        · exact absurd h4 (by decide)
      · have g3 := fn_ne0 h3
        show ∃ R, cm_Lc cm_ms 66 [.ref 2, .int 3] (fr 6 C) R ∧ ∀ v M', R v M' → _
        refine ⟨_, f_fail 3 _, ?_⟩
        rintro v M' ⟨rfl, A1, e1, rfl⟩
        have k1 : RC N A1 := by rw [e1]; exact RC_fail _ h
        have y1 : A1.1 2 9 ≠ 0 := by rw [e1]; exact cF_fail_9n (by decide)
        show ∃ R, cm_Lc cm_ms 88 [.ref 2] (fr 6 A1) R ∧ ∀ v M', R v M' → _
        refine ⟨_, f_step k1, ?_⟩
        rintro v M' ⟨rfl, A2, e2, rfl⟩
        have k2 : RC N A2 := by rw [e2]; exact RC_step k1
        have y2 : A2.1 2 9 ≠ 0 := by rw [e2, cF_step_9]; exact y1
        show (ev_cmp 1 (A2.1 2 9) 0 = true → _) ∧ (ev_cmp 1 (A2.1 2 9) 0 = false → _)
        refine ⟨fun h8 => ?_, fun h8 => ?_⟩
        · show (((-1) : Int32).toInt < 0 ∨ 7 < ((-1) : Int32).toInt → _) ∧ (∀ (j : Nat) (o : Int), ([46, 53, 60, 67, 74, 81, 88, 95] : List Int)[j]? = some o → ((-1) : Int32).toInt = 0 + (j : Int) → _)
          refine sw_d (by decide) (by decide) ?_
          show fq 6 none (tl_F 6 N C) none (fr 6 A2)
          refine ⟨rfl, A2, ?_, rfl⟩
          unfold tl_F
          rw [if_neg g3, e2, cF_step_id y1, e1]
        · exact absurd (fn_eq h8) y2
  · exact absurd h1 (by decide)
set_option maxRecDepth 100000 in
set_option maxHeartbeats 4000000 in
theorem f_rl1_6 {N : Nat} {C : cm_M} (h : RC N C) (h0 : C.1 2 9 = 0) (hl : cF_line C = 1) : cm_Lc cm_ms 67 [.ref 2] (fr 6 C) (fq 6 none (rl_G (cF_man 6) N (fuC 6 C 1 6) C)) := by
  refine lb_st0 (mi := mr_67) rfl 120 ?_
  show ∃ R, cm_Lc cm_ms 84 [.ref 2] (fr 6 C) R ∧ ∀ v M', R v M' → _
  refine ⟨_, f_lineL hl, ?_⟩
  rintro v M' ⟨rfl, rfl⟩
  show (ev_cmp 1 1 (-1) = true → _) ∧ (ev_cmp 1 1 (-1) = false → _)
  refine ⟨fun h1 => ?_, fun h1 => ?_⟩
  · show (ev_cmp 1 1 0 = true → _) ∧ (ev_cmp 1 1 0 = false → _)
    refine ⟨fun h2 => ?_, fun h2 => ?_⟩
    · show (ev_cmp 0 1 0 = true → _) ∧ (ev_cmp 0 1 0 = false → _)
      refine ⟨fun h3 => ?_, fun h3 => ?_⟩
      · exact absurd h3 (by decide)
      · show (ev_cmp 1 (C.1 2 8) 0 = true → _) ∧ (ev_cmp 1 (C.1 2 8) 0 = false → _)
        refine ⟨fun h4 => ?_, fun h4 => ?_⟩
        · have g4 := fn_ne h4
          show ∃ R, cm_Lc cm_ms 69 [.ref 2, .int 1] (fr 6 C) R ∧ ∀ v M', R v M' → _
          refine ⟨_, f_toldN1_6 C, ?_⟩
          rintro v M' ⟨rfl, rfl⟩
          show ∃ R, cm_Lc cm_ms 68 [.int 1] (fr 6 C) R ∧ ∀ v M', R v M' → _
          refine ⟨_, f_room1 _, ?_⟩
          rintro v M' ⟨rfl, rfl⟩
          show (ev_cmp 2 (toC 6 C 1) 6 = true → _) ∧ (ev_cmp 2 (toC 6 C 1) 6 = false → _)
          refine ⟨fun h5 => ?_, fun h5 => ?_⟩
          · have g5 := fn_lt h5
            show ∃ R, cm_Lc cm_ms 88 [.ref 2] (fr 6 C) R ∧ ∀ v M', R v M' → _
            refine ⟨_, f_step h, ?_⟩
            rintro v M' ⟨rfl, A1, e1, rfl⟩
            have k1 : RC N A1 := by rw [e1]; exact RC_step h
            have y1 : A1.1 2 9 = 0 := by rw [e1, cF_step_9]; exact h0
            show (ev_cmp 1 (A1.1 2 9) 0 = true → _) ∧ (ev_cmp 1 (A1.1 2 9) 0 = false → _)
            refine ⟨fun h6 => ?_, fun h6 => ?_⟩
            · exact absurd y1 (fn_ne h6)
            · show ((1 : Int32).toInt < 0 ∨ 7 < (1 : Int32).toInt → _) ∧ (∀ (j : Nat) (o : Int), ([46, 53, 60, 67, 74, 81, 88, 95] : List Int)[j]? = some o → (1 : Int32).toInt = 0 + (j : Int) → _)
              refine sw_k 1 53 rfl (by decide) (by decide) ?_
              show ∃ R, cm_Lc cm_ms 71 [.ref 2] (fr 6 A1) R ∧ ∀ v M', R v M' → _
              refine ⟨_, f_man6 k1, ?_⟩
              rintro v M' ⟨rfl, A2, e2, rfl⟩
              show fq 6 none (rl_G (cF_man 6) N (fuC 6 C 1 6) C) none (fr 6 A2)
              refine ⟨rfl, A2, ?_, rfl⟩
              unfold rl_G
              rw [if_neg g4, fu_f g5, if_neg (by decide), e2, e1]
          · have g5 := fn_nlt h5
            show ∃ R, cm_Lc cm_ms 66 [.ref 2, .int 5] (fr 6 C) R ∧ ∀ v M', R v M' → _
            refine ⟨_, f_fail 5 _, ?_⟩
            rintro v M' ⟨rfl, A1, e1, rfl⟩
            have k1 : RC N A1 := by rw [e1]; exact RC_fail _ h
            have y1 : A1.1 2 9 ≠ 0 := by rw [e1]; exact cF_fail_9n (by decide)
            show ∃ R, cm_Lc cm_ms 88 [.ref 2] (fr 6 A1) R ∧ ∀ v M', R v M' → _
            refine ⟨_, f_step k1, ?_⟩
            rintro v M' ⟨rfl, A2, e2, rfl⟩
            have k2 : RC N A2 := by rw [e2]; exact RC_step k1
            have y2 : A2.1 2 9 ≠ 0 := by rw [e2, cF_step_9]; exact y1
            show (ev_cmp 1 (A2.1 2 9) 0 = true → _) ∧ (ev_cmp 1 (A2.1 2 9) 0 = false → _)
            refine ⟨fun h7 => ?_, fun h7 => ?_⟩
            · show (((-1) : Int32).toInt < 0 ∨ 7 < ((-1) : Int32).toInt → _) ∧ (∀ (j : Nat) (o : Int), ([46, 53, 60, 67, 74, 81, 88, 95] : List Int)[j]? = some o → ((-1) : Int32).toInt = 0 + (j : Int) → _)
              refine sw_d (by decide) (by decide) ?_
              show fq 6 none (rl_G (cF_man 6) N (fuC 6 C 1 6) C) none (fr 6 A2)
              refine ⟨rfl, A2, ?_, rfl⟩
              unfold rl_G
              rw [if_neg g4, fu_t g5, if_pos rfl, e2, cF_step_id y1, e1]
            · exact absurd (fn_eq h7) y2
        · have g4 := fn_eq h4
          show ∃ R, cm_Lc cm_ms 66 [.ref 2, .int 6] (fr 6 C) R ∧ ∀ v M', R v M' → _
          refine ⟨_, f_fail 6 _, ?_⟩
          rintro v M' ⟨rfl, A1, e1, rfl⟩
          have k1 : RC N A1 := by rw [e1]; exact RC_fail _ h
          have y1 : A1.1 2 9 ≠ 0 := by rw [e1]; exact cF_fail_9n (by decide)
          show ∃ R, cm_Lc cm_ms 88 [.ref 2] (fr 6 A1) R ∧ ∀ v M', R v M' → _
          refine ⟨_, f_step k1, ?_⟩
          rintro v M' ⟨rfl, A2, e2, rfl⟩
          have k2 : RC N A2 := by rw [e2]; exact RC_step k1
          have y2 : A2.1 2 9 ≠ 0 := by rw [e2, cF_step_9]; exact y1
          show (ev_cmp 1 (A2.1 2 9) 0 = true → _) ∧ (ev_cmp 1 (A2.1 2 9) 0 = false → _)
          refine ⟨fun h8 => ?_, fun h8 => ?_⟩
          · show (((-1) : Int32).toInt < 0 ∨ 7 < ((-1) : Int32).toInt → _) ∧ (∀ (j : Nat) (o : Int), ([46, 53, 60, 67, 74, 81, 88, 95] : List Int)[j]? = some o → ((-1) : Int32).toInt = 0 + (j : Int) → _)
            refine sw_d (by decide) (by decide) ?_
            show fq 6 none (rl_G (cF_man 6) N (fuC 6 C 1 6) C) none (fr 6 A2)
            refine ⟨rfl, A2, ?_, rfl⟩
            unfold rl_G
            rw [if_pos g4, e2, cF_step_id y1, e1]
          · exact absurd (fn_eq h8) y2
    · exact absurd h2 (by decide)
  · exact absurd h1 (by decide)
set_option maxRecDepth 100000 in
set_option maxHeartbeats 4000000 in
theorem f_rl2_6 {N : Nat} {C : cm_M} (h : RC N C) (h0 : C.1 2 9 = 0) (hl : cF_line C = 2) : cm_Lc cm_ms 67 [.ref 2] (fr 6 C) (fq 6 none (rl_G (cF_motion 6) N (fuC 6 C 2 5) C)) := by
  refine lb_st0 (mi := mr_67) rfl 120 ?_
  show ∃ R, cm_Lc cm_ms 84 [.ref 2] (fr 6 C) R ∧ ∀ v M', R v M' → _
  refine ⟨_, f_lineL hl, ?_⟩
  rintro v M' ⟨rfl, rfl⟩
  show (ev_cmp 1 2 (-1) = true → _) ∧ (ev_cmp 1 2 (-1) = false → _)
  refine ⟨fun h1 => ?_, fun h1 => ?_⟩
  · show (ev_cmp 1 2 0 = true → _) ∧ (ev_cmp 1 2 0 = false → _)
    refine ⟨fun h2 => ?_, fun h2 => ?_⟩
    · show (ev_cmp 0 2 0 = true → _) ∧ (ev_cmp 0 2 0 = false → _)
      refine ⟨fun h3 => ?_, fun h3 => ?_⟩
      · exact absurd h3 (by decide)
      · show (ev_cmp 1 (C.1 2 8) 0 = true → _) ∧ (ev_cmp 1 (C.1 2 8) 0 = false → _)
        refine ⟨fun h4 => ?_, fun h4 => ?_⟩
        · have g4 := fn_ne h4
          show ∃ R, cm_Lc cm_ms 69 [.ref 2, .int 2] (fr 6 C) R ∧ ∀ v M', R v M' → _
          refine ⟨_, f_toldN2_6 C, ?_⟩
          rintro v M' ⟨rfl, rfl⟩
          show ∃ R, cm_Lc cm_ms 68 [.int 2] (fr 6 C) R ∧ ∀ v M', R v M' → _
          refine ⟨_, f_room2 _, ?_⟩
          rintro v M' ⟨rfl, rfl⟩
          show (ev_cmp 2 (toC 6 C 2) 5 = true → _) ∧ (ev_cmp 2 (toC 6 C 2) 5 = false → _)
          refine ⟨fun h5 => ?_, fun h5 => ?_⟩
          · have g5 := fn_lt h5
            show ∃ R, cm_Lc cm_ms 88 [.ref 2] (fr 6 C) R ∧ ∀ v M', R v M' → _
            refine ⟨_, f_step h, ?_⟩
            rintro v M' ⟨rfl, A1, e1, rfl⟩
            have k1 : RC N A1 := by rw [e1]; exact RC_step h
            have y1 : A1.1 2 9 = 0 := by rw [e1, cF_step_9]; exact h0
            show (ev_cmp 1 (A1.1 2 9) 0 = true → _) ∧ (ev_cmp 1 (A1.1 2 9) 0 = false → _)
            refine ⟨fun h6 => ?_, fun h6 => ?_⟩
            · exact absurd y1 (fn_ne h6)
            · show ((2 : Int32).toInt < 0 ∨ 7 < (2 : Int32).toInt → _) ∧ (∀ (j : Nat) (o : Int), ([46, 53, 60, 67, 74, 81, 88, 95] : List Int)[j]? = some o → (2 : Int32).toInt = 0 + (j : Int) → _)
              refine sw_k 2 60 rfl (by decide) (by decide) ?_
              show ∃ R, cm_Lc cm_ms 72 [.ref 2] (fr 6 A1) R ∧ ∀ v M', R v M' → _
              refine ⟨_, f_motion6 k1, ?_⟩
              rintro v M' ⟨rfl, A2, e2, rfl⟩
              show fq 6 none (rl_G (cF_motion 6) N (fuC 6 C 2 5) C) none (fr 6 A2)
              refine ⟨rfl, A2, ?_, rfl⟩
              unfold rl_G
              rw [if_neg g4, fu_f g5, if_neg (by decide), e2, e1]
          · have g5 := fn_nlt h5
            show ∃ R, cm_Lc cm_ms 66 [.ref 2, .int 5] (fr 6 C) R ∧ ∀ v M', R v M' → _
            refine ⟨_, f_fail 5 _, ?_⟩
            rintro v M' ⟨rfl, A1, e1, rfl⟩
            have k1 : RC N A1 := by rw [e1]; exact RC_fail _ h
            have y1 : A1.1 2 9 ≠ 0 := by rw [e1]; exact cF_fail_9n (by decide)
            show ∃ R, cm_Lc cm_ms 88 [.ref 2] (fr 6 A1) R ∧ ∀ v M', R v M' → _
            refine ⟨_, f_step k1, ?_⟩
            rintro v M' ⟨rfl, A2, e2, rfl⟩
            have k2 : RC N A2 := by rw [e2]; exact RC_step k1
            have y2 : A2.1 2 9 ≠ 0 := by rw [e2, cF_step_9]; exact y1
            show (ev_cmp 1 (A2.1 2 9) 0 = true → _) ∧ (ev_cmp 1 (A2.1 2 9) 0 = false → _)
            refine ⟨fun h7 => ?_, fun h7 => ?_⟩
            · show (((-1) : Int32).toInt < 0 ∨ 7 < ((-1) : Int32).toInt → _) ∧ (∀ (j : Nat) (o : Int), ([46, 53, 60, 67, 74, 81, 88, 95] : List Int)[j]? = some o → ((-1) : Int32).toInt = 0 + (j : Int) → _)
              refine sw_d (by decide) (by decide) ?_
              show fq 6 none (rl_G (cF_motion 6) N (fuC 6 C 2 5) C) none (fr 6 A2)
              refine ⟨rfl, A2, ?_, rfl⟩
              unfold rl_G
              rw [if_neg g4, fu_t g5, if_pos rfl, e2, cF_step_id y1, e1]
            · exact absurd (fn_eq h7) y2
        · have g4 := fn_eq h4
          show ∃ R, cm_Lc cm_ms 66 [.ref 2, .int 6] (fr 6 C) R ∧ ∀ v M', R v M' → _
          refine ⟨_, f_fail 6 _, ?_⟩
          rintro v M' ⟨rfl, A1, e1, rfl⟩
          have k1 : RC N A1 := by rw [e1]; exact RC_fail _ h
          have y1 : A1.1 2 9 ≠ 0 := by rw [e1]; exact cF_fail_9n (by decide)
          show ∃ R, cm_Lc cm_ms 88 [.ref 2] (fr 6 A1) R ∧ ∀ v M', R v M' → _
          refine ⟨_, f_step k1, ?_⟩
          rintro v M' ⟨rfl, A2, e2, rfl⟩
          have k2 : RC N A2 := by rw [e2]; exact RC_step k1
          have y2 : A2.1 2 9 ≠ 0 := by rw [e2, cF_step_9]; exact y1
          show (ev_cmp 1 (A2.1 2 9) 0 = true → _) ∧ (ev_cmp 1 (A2.1 2 9) 0 = false → _)
          refine ⟨fun h8 => ?_, fun h8 => ?_⟩
          · show (((-1) : Int32).toInt < 0 ∨ 7 < ((-1) : Int32).toInt → _) ∧ (∀ (j : Nat) (o : Int), ([46, 53, 60, 67, 74, 81, 88, 95] : List Int)[j]? = some o → ((-1) : Int32).toInt = 0 + (j : Int) → _)
            refine sw_d (by decide) (by decide) ?_
            show fq 6 none (rl_G (cF_motion 6) N (fuC 6 C 2 5) C) none (fr 6 A2)
            refine ⟨rfl, A2, ?_, rfl⟩
            unfold rl_G
            rw [if_pos g4, e2, cF_step_id y1, e1]
          · exact absurd (fn_eq h8) y2
    · exact absurd h2 (by decide)
  · exact absurd h1 (by decide)
set_option maxRecDepth 100000 in
set_option maxHeartbeats 4000000 in
theorem f_rl3_6 {N : Nat} {C : cm_M} (h : RC N C) (h0 : C.1 2 9 = 0) (hl : cF_line C = 3) : cm_Lc cm_ms 67 [.ref 2] (fr 6 C) (fq 6 none (rl_G (cF_against 6) N (fuC 6 C 3 9) C)) := by
  refine lb_st0 (mi := mr_67) rfl 120 ?_
  show ∃ R, cm_Lc cm_ms 84 [.ref 2] (fr 6 C) R ∧ ∀ v M', R v M' → _
  refine ⟨_, f_lineL hl, ?_⟩
  rintro v M' ⟨rfl, rfl⟩
  show (ev_cmp 1 3 (-1) = true → _) ∧ (ev_cmp 1 3 (-1) = false → _)
  refine ⟨fun h1 => ?_, fun h1 => ?_⟩
  · show (ev_cmp 1 3 0 = true → _) ∧ (ev_cmp 1 3 0 = false → _)
    refine ⟨fun h2 => ?_, fun h2 => ?_⟩
    · show (ev_cmp 0 3 0 = true → _) ∧ (ev_cmp 0 3 0 = false → _)
      refine ⟨fun h3 => ?_, fun h3 => ?_⟩
      · exact absurd h3 (by decide)
      · show (ev_cmp 1 (C.1 2 8) 0 = true → _) ∧ (ev_cmp 1 (C.1 2 8) 0 = false → _)
        refine ⟨fun h4 => ?_, fun h4 => ?_⟩
        · have g4 := fn_ne h4
          show ∃ R, cm_Lc cm_ms 69 [.ref 2, .int 3] (fr 6 C) R ∧ ∀ v M', R v M' → _
          refine ⟨_, f_toldN3_6 C, ?_⟩
          rintro v M' ⟨rfl, rfl⟩
          show ∃ R, cm_Lc cm_ms 68 [.int 3] (fr 6 C) R ∧ ∀ v M', R v M' → _
          refine ⟨_, f_room3 _, ?_⟩
          rintro v M' ⟨rfl, rfl⟩
          show (ev_cmp 2 (toC 6 C 3) 9 = true → _) ∧ (ev_cmp 2 (toC 6 C 3) 9 = false → _)
          refine ⟨fun h5 => ?_, fun h5 => ?_⟩
          · have g5 := fn_lt h5
            show ∃ R, cm_Lc cm_ms 88 [.ref 2] (fr 6 C) R ∧ ∀ v M', R v M' → _
            refine ⟨_, f_step h, ?_⟩
            rintro v M' ⟨rfl, A1, e1, rfl⟩
            have k1 : RC N A1 := by rw [e1]; exact RC_step h
            have y1 : A1.1 2 9 = 0 := by rw [e1, cF_step_9]; exact h0
            show (ev_cmp 1 (A1.1 2 9) 0 = true → _) ∧ (ev_cmp 1 (A1.1 2 9) 0 = false → _)
            refine ⟨fun h6 => ?_, fun h6 => ?_⟩
            · exact absurd y1 (fn_ne h6)
            · show ((3 : Int32).toInt < 0 ∨ 7 < (3 : Int32).toInt → _) ∧ (∀ (j : Nat) (o : Int), ([46, 53, 60, 67, 74, 81, 88, 95] : List Int)[j]? = some o → (3 : Int32).toInt = 0 + (j : Int) → _)
              refine sw_k 3 67 rfl (by decide) (by decide) ?_
              show ∃ R, cm_Lc cm_ms 73 [.ref 2] (fr 6 A1) R ∧ ∀ v M', R v M' → _
              refine ⟨_, f_against6 k1, ?_⟩
              rintro v M' ⟨rfl, A2, e2, rfl⟩
              show fq 6 none (rl_G (cF_against 6) N (fuC 6 C 3 9) C) none (fr 6 A2)
              refine ⟨rfl, A2, ?_, rfl⟩
              unfold rl_G
              rw [if_neg g4, fu_f g5, if_neg (by decide), e2, e1]
          · have g5 := fn_nlt h5
            show ∃ R, cm_Lc cm_ms 66 [.ref 2, .int 5] (fr 6 C) R ∧ ∀ v M', R v M' → _
            refine ⟨_, f_fail 5 _, ?_⟩
            rintro v M' ⟨rfl, A1, e1, rfl⟩
            have k1 : RC N A1 := by rw [e1]; exact RC_fail _ h
            have y1 : A1.1 2 9 ≠ 0 := by rw [e1]; exact cF_fail_9n (by decide)
            show ∃ R, cm_Lc cm_ms 88 [.ref 2] (fr 6 A1) R ∧ ∀ v M', R v M' → _
            refine ⟨_, f_step k1, ?_⟩
            rintro v M' ⟨rfl, A2, e2, rfl⟩
            have k2 : RC N A2 := by rw [e2]; exact RC_step k1
            have y2 : A2.1 2 9 ≠ 0 := by rw [e2, cF_step_9]; exact y1
            show (ev_cmp 1 (A2.1 2 9) 0 = true → _) ∧ (ev_cmp 1 (A2.1 2 9) 0 = false → _)
            refine ⟨fun h7 => ?_, fun h7 => ?_⟩
            · show (((-1) : Int32).toInt < 0 ∨ 7 < ((-1) : Int32).toInt → _) ∧ (∀ (j : Nat) (o : Int), ([46, 53, 60, 67, 74, 81, 88, 95] : List Int)[j]? = some o → ((-1) : Int32).toInt = 0 + (j : Int) → _)
              refine sw_d (by decide) (by decide) ?_
              show fq 6 none (rl_G (cF_against 6) N (fuC 6 C 3 9) C) none (fr 6 A2)
              refine ⟨rfl, A2, ?_, rfl⟩
              unfold rl_G
              rw [if_neg g4, fu_t g5, if_pos rfl, e2, cF_step_id y1, e1]
            · exact absurd (fn_eq h7) y2
        · have g4 := fn_eq h4
          show ∃ R, cm_Lc cm_ms 66 [.ref 2, .int 6] (fr 6 C) R ∧ ∀ v M', R v M' → _
          refine ⟨_, f_fail 6 _, ?_⟩
          rintro v M' ⟨rfl, A1, e1, rfl⟩
          have k1 : RC N A1 := by rw [e1]; exact RC_fail _ h
          have y1 : A1.1 2 9 ≠ 0 := by rw [e1]; exact cF_fail_9n (by decide)
          show ∃ R, cm_Lc cm_ms 88 [.ref 2] (fr 6 A1) R ∧ ∀ v M', R v M' → _
          refine ⟨_, f_step k1, ?_⟩
          rintro v M' ⟨rfl, A2, e2, rfl⟩
          have k2 : RC N A2 := by rw [e2]; exact RC_step k1
          have y2 : A2.1 2 9 ≠ 0 := by rw [e2, cF_step_9]; exact y1
          show (ev_cmp 1 (A2.1 2 9) 0 = true → _) ∧ (ev_cmp 1 (A2.1 2 9) 0 = false → _)
          refine ⟨fun h8 => ?_, fun h8 => ?_⟩
          · show (((-1) : Int32).toInt < 0 ∨ 7 < ((-1) : Int32).toInt → _) ∧ (∀ (j : Nat) (o : Int), ([46, 53, 60, 67, 74, 81, 88, 95] : List Int)[j]? = some o → ((-1) : Int32).toInt = 0 + (j : Int) → _)
            refine sw_d (by decide) (by decide) ?_
            show fq 6 none (rl_G (cF_against 6) N (fuC 6 C 3 9) C) none (fr 6 A2)
            refine ⟨rfl, A2, ?_, rfl⟩
            unfold rl_G
            rw [if_pos g4, e2, cF_step_id y1, e1]
          · exact absurd (fn_eq h8) y2
    · exact absurd h2 (by decide)
  · exact absurd h1 (by decide)
set_option maxRecDepth 100000 in
set_option maxHeartbeats 4000000 in
theorem f_rl4_6 {N : Nat} {C : cm_M} (h : RC N C) (h0 : C.1 2 9 = 0) (hl : cF_line C = 4) : cm_Lc cm_ms 67 [.ref 2] (fr 6 C) (fq 6 none (rl_G (cF_amends 6) N (fuC 6 C 4 6) C)) := by
  refine lb_st0 (mi := mr_67) rfl 120 ?_
  show ∃ R, cm_Lc cm_ms 84 [.ref 2] (fr 6 C) R ∧ ∀ v M', R v M' → _
  refine ⟨_, f_lineL hl, ?_⟩
  rintro v M' ⟨rfl, rfl⟩
  show (ev_cmp 1 4 (-1) = true → _) ∧ (ev_cmp 1 4 (-1) = false → _)
  refine ⟨fun h1 => ?_, fun h1 => ?_⟩
  · show (ev_cmp 1 4 0 = true → _) ∧ (ev_cmp 1 4 0 = false → _)
    refine ⟨fun h2 => ?_, fun h2 => ?_⟩
    · show (ev_cmp 0 4 0 = true → _) ∧ (ev_cmp 0 4 0 = false → _)
      refine ⟨fun h3 => ?_, fun h3 => ?_⟩
      · exact absurd h3 (by decide)
      · show (ev_cmp 1 (C.1 2 8) 0 = true → _) ∧ (ev_cmp 1 (C.1 2 8) 0 = false → _)
        refine ⟨fun h4 => ?_, fun h4 => ?_⟩
        · have g4 := fn_ne h4
          show ∃ R, cm_Lc cm_ms 69 [.ref 2, .int 4] (fr 6 C) R ∧ ∀ v M', R v M' → _
          refine ⟨_, f_toldN4_6 C, ?_⟩
          rintro v M' ⟨rfl, rfl⟩
          show ∃ R, cm_Lc cm_ms 68 [.int 4] (fr 6 C) R ∧ ∀ v M', R v M' → _
          refine ⟨_, f_room4 _, ?_⟩
          rintro v M' ⟨rfl, rfl⟩
          show (ev_cmp 2 (toC 6 C 4) 6 = true → _) ∧ (ev_cmp 2 (toC 6 C 4) 6 = false → _)
          refine ⟨fun h5 => ?_, fun h5 => ?_⟩
          · have g5 := fn_lt h5
            show ∃ R, cm_Lc cm_ms 88 [.ref 2] (fr 6 C) R ∧ ∀ v M', R v M' → _
            refine ⟨_, f_step h, ?_⟩
            rintro v M' ⟨rfl, A1, e1, rfl⟩
            have k1 : RC N A1 := by rw [e1]; exact RC_step h
            have y1 : A1.1 2 9 = 0 := by rw [e1, cF_step_9]; exact h0
            show (ev_cmp 1 (A1.1 2 9) 0 = true → _) ∧ (ev_cmp 1 (A1.1 2 9) 0 = false → _)
            refine ⟨fun h6 => ?_, fun h6 => ?_⟩
            · exact absurd y1 (fn_ne h6)
            · show ((4 : Int32).toInt < 0 ∨ 7 < (4 : Int32).toInt → _) ∧ (∀ (j : Nat) (o : Int), ([46, 53, 60, 67, 74, 81, 88, 95] : List Int)[j]? = some o → (4 : Int32).toInt = 0 + (j : Int) → _)
              refine sw_k 4 74 rfl (by decide) (by decide) ?_
              show ∃ R, cm_Lc cm_ms 74 [.ref 2] (fr 6 A1) R ∧ ∀ v M', R v M' → _
              refine ⟨_, f_amends6 k1, ?_⟩
              rintro v M' ⟨rfl, A2, e2, rfl⟩
              show fq 6 none (rl_G (cF_amends 6) N (fuC 6 C 4 6) C) none (fr 6 A2)
              refine ⟨rfl, A2, ?_, rfl⟩
              unfold rl_G
              rw [if_neg g4, fu_f g5, if_neg (by decide), e2, e1]
          · have g5 := fn_nlt h5
            show ∃ R, cm_Lc cm_ms 66 [.ref 2, .int 5] (fr 6 C) R ∧ ∀ v M', R v M' → _
            refine ⟨_, f_fail 5 _, ?_⟩
            rintro v M' ⟨rfl, A1, e1, rfl⟩
            have k1 : RC N A1 := by rw [e1]; exact RC_fail _ h
            have y1 : A1.1 2 9 ≠ 0 := by rw [e1]; exact cF_fail_9n (by decide)
            show ∃ R, cm_Lc cm_ms 88 [.ref 2] (fr 6 A1) R ∧ ∀ v M', R v M' → _
            refine ⟨_, f_step k1, ?_⟩
            rintro v M' ⟨rfl, A2, e2, rfl⟩
            have k2 : RC N A2 := by rw [e2]; exact RC_step k1
            have y2 : A2.1 2 9 ≠ 0 := by rw [e2, cF_step_9]; exact y1
            show (ev_cmp 1 (A2.1 2 9) 0 = true → _) ∧ (ev_cmp 1 (A2.1 2 9) 0 = false → _)
            refine ⟨fun h7 => ?_, fun h7 => ?_⟩
            · show (((-1) : Int32).toInt < 0 ∨ 7 < ((-1) : Int32).toInt → _) ∧ (∀ (j : Nat) (o : Int), ([46, 53, 60, 67, 74, 81, 88, 95] : List Int)[j]? = some o → ((-1) : Int32).toInt = 0 + (j : Int) → _)
              refine sw_d (by decide) (by decide) ?_
              show fq 6 none (rl_G (cF_amends 6) N (fuC 6 C 4 6) C) none (fr 6 A2)
              refine ⟨rfl, A2, ?_, rfl⟩
              unfold rl_G
              rw [if_neg g4, fu_t g5, if_pos rfl, e2, cF_step_id y1, e1]
            · exact absurd (fn_eq h7) y2
        · have g4 := fn_eq h4
          show ∃ R, cm_Lc cm_ms 66 [.ref 2, .int 6] (fr 6 C) R ∧ ∀ v M', R v M' → _
          refine ⟨_, f_fail 6 _, ?_⟩
          rintro v M' ⟨rfl, A1, e1, rfl⟩
          have k1 : RC N A1 := by rw [e1]; exact RC_fail _ h
          have y1 : A1.1 2 9 ≠ 0 := by rw [e1]; exact cF_fail_9n (by decide)
          show ∃ R, cm_Lc cm_ms 88 [.ref 2] (fr 6 A1) R ∧ ∀ v M', R v M' → _
          refine ⟨_, f_step k1, ?_⟩
          rintro v M' ⟨rfl, A2, e2, rfl⟩
          have k2 : RC N A2 := by rw [e2]; exact RC_step k1
          have y2 : A2.1 2 9 ≠ 0 := by rw [e2, cF_step_9]; exact y1
          show (ev_cmp 1 (A2.1 2 9) 0 = true → _) ∧ (ev_cmp 1 (A2.1 2 9) 0 = false → _)
          refine ⟨fun h8 => ?_, fun h8 => ?_⟩
          · show (((-1) : Int32).toInt < 0 ∨ 7 < ((-1) : Int32).toInt → _) ∧ (∀ (j : Nat) (o : Int), ([46, 53, 60, 67, 74, 81, 88, 95] : List Int)[j]? = some o → ((-1) : Int32).toInt = 0 + (j : Int) → _)
            refine sw_d (by decide) (by decide) ?_
            show fq 6 none (rl_G (cF_amends 6) N (fuC 6 C 4 6) C) none (fr 6 A2)
            refine ⟨rfl, A2, ?_, rfl⟩
            unfold rl_G
            rw [if_pos g4, e2, cF_step_id y1, e1]
          · exact absurd (fn_eq h8) y2
    · exact absurd h2 (by decide)
  · exact absurd h1 (by decide)
set_option maxRecDepth 100000 in
set_option maxHeartbeats 4000000 in
theorem f_rl5_6 {N : Nat} {C : cm_M} (h : RC N C) (h0 : C.1 2 9 = 0) (hl : cF_line C = 5) : cm_Lc cm_ms 67 [.ref 2] (fr 6 C) (fq 6 none (rl_G (cF_quarrel 6) N (fuC 6 C 5 9) C)) := by
  refine lb_st0 (mi := mr_67) rfl 120 ?_
  show ∃ R, cm_Lc cm_ms 84 [.ref 2] (fr 6 C) R ∧ ∀ v M', R v M' → _
  refine ⟨_, f_lineL hl, ?_⟩
  rintro v M' ⟨rfl, rfl⟩
  show (ev_cmp 1 5 (-1) = true → _) ∧ (ev_cmp 1 5 (-1) = false → _)
  refine ⟨fun h1 => ?_, fun h1 => ?_⟩
  · show (ev_cmp 1 5 0 = true → _) ∧ (ev_cmp 1 5 0 = false → _)
    refine ⟨fun h2 => ?_, fun h2 => ?_⟩
    · show (ev_cmp 0 5 0 = true → _) ∧ (ev_cmp 0 5 0 = false → _)
      refine ⟨fun h3 => ?_, fun h3 => ?_⟩
      · exact absurd h3 (by decide)
      · show (ev_cmp 1 (C.1 2 8) 0 = true → _) ∧ (ev_cmp 1 (C.1 2 8) 0 = false → _)
        refine ⟨fun h4 => ?_, fun h4 => ?_⟩
        · have g4 := fn_ne h4
          show ∃ R, cm_Lc cm_ms 69 [.ref 2, .int 5] (fr 6 C) R ∧ ∀ v M', R v M' → _
          refine ⟨_, f_toldN5_6 C, ?_⟩
          rintro v M' ⟨rfl, rfl⟩
          show ∃ R, cm_Lc cm_ms 68 [.int 5] (fr 6 C) R ∧ ∀ v M', R v M' → _
          refine ⟨_, f_room5 _, ?_⟩
          rintro v M' ⟨rfl, rfl⟩
          show (ev_cmp 2 (toC 6 C 5) 9 = true → _) ∧ (ev_cmp 2 (toC 6 C 5) 9 = false → _)
          refine ⟨fun h5 => ?_, fun h5 => ?_⟩
          · have g5 := fn_lt h5
            show ∃ R, cm_Lc cm_ms 88 [.ref 2] (fr 6 C) R ∧ ∀ v M', R v M' → _
            refine ⟨_, f_step h, ?_⟩
            rintro v M' ⟨rfl, A1, e1, rfl⟩
            have k1 : RC N A1 := by rw [e1]; exact RC_step h
            have y1 : A1.1 2 9 = 0 := by rw [e1, cF_step_9]; exact h0
            show (ev_cmp 1 (A1.1 2 9) 0 = true → _) ∧ (ev_cmp 1 (A1.1 2 9) 0 = false → _)
            refine ⟨fun h6 => ?_, fun h6 => ?_⟩
            · exact absurd y1 (fn_ne h6)
            · show ((5 : Int32).toInt < 0 ∨ 7 < (5 : Int32).toInt → _) ∧ (∀ (j : Nat) (o : Int), ([46, 53, 60, 67, 74, 81, 88, 95] : List Int)[j]? = some o → (5 : Int32).toInt = 0 + (j : Int) → _)
              refine sw_k 5 81 rfl (by decide) (by decide) ?_
              show ∃ R, cm_Lc cm_ms 75 [.ref 2] (fr 6 A1) R ∧ ∀ v M', R v M' → _
              refine ⟨_, f_quarrel6 k1, ?_⟩
              rintro v M' ⟨rfl, A2, e2, rfl⟩
              show fq 6 none (rl_G (cF_quarrel 6) N (fuC 6 C 5 9) C) none (fr 6 A2)
              refine ⟨rfl, A2, ?_, rfl⟩
              unfold rl_G
              rw [if_neg g4, fu_f g5, if_neg (by decide), e2, e1]
          · have g5 := fn_nlt h5
            show ∃ R, cm_Lc cm_ms 66 [.ref 2, .int 5] (fr 6 C) R ∧ ∀ v M', R v M' → _
            refine ⟨_, f_fail 5 _, ?_⟩
            rintro v M' ⟨rfl, A1, e1, rfl⟩
            have k1 : RC N A1 := by rw [e1]; exact RC_fail _ h
            have y1 : A1.1 2 9 ≠ 0 := by rw [e1]; exact cF_fail_9n (by decide)
            show ∃ R, cm_Lc cm_ms 88 [.ref 2] (fr 6 A1) R ∧ ∀ v M', R v M' → _
            refine ⟨_, f_step k1, ?_⟩
            rintro v M' ⟨rfl, A2, e2, rfl⟩
            have k2 : RC N A2 := by rw [e2]; exact RC_step k1
            have y2 : A2.1 2 9 ≠ 0 := by rw [e2, cF_step_9]; exact y1
            show (ev_cmp 1 (A2.1 2 9) 0 = true → _) ∧ (ev_cmp 1 (A2.1 2 9) 0 = false → _)
            refine ⟨fun h7 => ?_, fun h7 => ?_⟩
            · show (((-1) : Int32).toInt < 0 ∨ 7 < ((-1) : Int32).toInt → _) ∧ (∀ (j : Nat) (o : Int), ([46, 53, 60, 67, 74, 81, 88, 95] : List Int)[j]? = some o → ((-1) : Int32).toInt = 0 + (j : Int) → _)
              refine sw_d (by decide) (by decide) ?_
              show fq 6 none (rl_G (cF_quarrel 6) N (fuC 6 C 5 9) C) none (fr 6 A2)
              refine ⟨rfl, A2, ?_, rfl⟩
              unfold rl_G
              rw [if_neg g4, fu_t g5, if_pos rfl, e2, cF_step_id y1, e1]
            · exact absurd (fn_eq h7) y2
        · have g4 := fn_eq h4
          show ∃ R, cm_Lc cm_ms 66 [.ref 2, .int 6] (fr 6 C) R ∧ ∀ v M', R v M' → _
          refine ⟨_, f_fail 6 _, ?_⟩
          rintro v M' ⟨rfl, A1, e1, rfl⟩
          have k1 : RC N A1 := by rw [e1]; exact RC_fail _ h
          have y1 : A1.1 2 9 ≠ 0 := by rw [e1]; exact cF_fail_9n (by decide)
          show ∃ R, cm_Lc cm_ms 88 [.ref 2] (fr 6 A1) R ∧ ∀ v M', R v M' → _
          refine ⟨_, f_step k1, ?_⟩
          rintro v M' ⟨rfl, A2, e2, rfl⟩
          have k2 : RC N A2 := by rw [e2]; exact RC_step k1
          have y2 : A2.1 2 9 ≠ 0 := by rw [e2, cF_step_9]; exact y1
          show (ev_cmp 1 (A2.1 2 9) 0 = true → _) ∧ (ev_cmp 1 (A2.1 2 9) 0 = false → _)
          refine ⟨fun h8 => ?_, fun h8 => ?_⟩
          · show (((-1) : Int32).toInt < 0 ∨ 7 < ((-1) : Int32).toInt → _) ∧ (∀ (j : Nat) (o : Int), ([46, 53, 60, 67, 74, 81, 88, 95] : List Int)[j]? = some o → ((-1) : Int32).toInt = 0 + (j : Int) → _)
            refine sw_d (by decide) (by decide) ?_
            show fq 6 none (rl_G (cF_quarrel 6) N (fuC 6 C 5 9) C) none (fr 6 A2)
            refine ⟨rfl, A2, ?_, rfl⟩
            unfold rl_G
            rw [if_pos g4, e2, cF_step_id y1, e1]
          · exact absurd (fn_eq h8) y2
    · exact absurd h2 (by decide)
  · exact absurd h1 (by decide)
set_option maxRecDepth 100000 in
set_option maxHeartbeats 4000000 in
theorem f_rl6_6 {N : Nat} {C : cm_M} (h : RC N C) (h0 : C.1 2 9 = 0) (hl : cF_line C = 6) : cm_Lc cm_ms 67 [.ref 2] (fr 6 C) (fq 6 none (rl_G (cF_chair 6) N (fuC 6 C 6 5) C)) := by
  refine lb_st0 (mi := mr_67) rfl 120 ?_
  show ∃ R, cm_Lc cm_ms 84 [.ref 2] (fr 6 C) R ∧ ∀ v M', R v M' → _
  refine ⟨_, f_lineL hl, ?_⟩
  rintro v M' ⟨rfl, rfl⟩
  show (ev_cmp 1 6 (-1) = true → _) ∧ (ev_cmp 1 6 (-1) = false → _)
  refine ⟨fun h1 => ?_, fun h1 => ?_⟩
  · show (ev_cmp 1 6 0 = true → _) ∧ (ev_cmp 1 6 0 = false → _)
    refine ⟨fun h2 => ?_, fun h2 => ?_⟩
    · show (ev_cmp 0 6 0 = true → _) ∧ (ev_cmp 0 6 0 = false → _)
      refine ⟨fun h3 => ?_, fun h3 => ?_⟩
      · exact absurd h3 (by decide)
      · show (ev_cmp 1 (C.1 2 8) 0 = true → _) ∧ (ev_cmp 1 (C.1 2 8) 0 = false → _)
        refine ⟨fun h4 => ?_, fun h4 => ?_⟩
        · have g4 := fn_ne h4
          show ∃ R, cm_Lc cm_ms 69 [.ref 2, .int 6] (fr 6 C) R ∧ ∀ v M', R v M' → _
          refine ⟨_, f_toldN6_6 C, ?_⟩
          rintro v M' ⟨rfl, rfl⟩
          show ∃ R, cm_Lc cm_ms 68 [.int 6] (fr 6 C) R ∧ ∀ v M', R v M' → _
          refine ⟨_, f_room6 _, ?_⟩
          rintro v M' ⟨rfl, rfl⟩
          show (ev_cmp 2 (toC 6 C 6) 5 = true → _) ∧ (ev_cmp 2 (toC 6 C 6) 5 = false → _)
          refine ⟨fun h5 => ?_, fun h5 => ?_⟩
          · have g5 := fn_lt h5
            show ∃ R, cm_Lc cm_ms 88 [.ref 2] (fr 6 C) R ∧ ∀ v M', R v M' → _
            refine ⟨_, f_step h, ?_⟩
            rintro v M' ⟨rfl, A1, e1, rfl⟩
            have k1 : RC N A1 := by rw [e1]; exact RC_step h
            have y1 : A1.1 2 9 = 0 := by rw [e1, cF_step_9]; exact h0
            show (ev_cmp 1 (A1.1 2 9) 0 = true → _) ∧ (ev_cmp 1 (A1.1 2 9) 0 = false → _)
            refine ⟨fun h6 => ?_, fun h6 => ?_⟩
            · exact absurd y1 (fn_ne h6)
            · show ((6 : Int32).toInt < 0 ∨ 7 < (6 : Int32).toInt → _) ∧ (∀ (j : Nat) (o : Int), ([46, 53, 60, 67, 74, 81, 88, 95] : List Int)[j]? = some o → (6 : Int32).toInt = 0 + (j : Int) → _)
              refine sw_k 6 88 rfl (by decide) (by decide) ?_
              show ∃ R, cm_Lc cm_ms 76 [.ref 2] (fr 6 A1) R ∧ ∀ v M', R v M' → _
              refine ⟨_, f_chair6 k1, ?_⟩
              rintro v M' ⟨rfl, A2, e2, rfl⟩
              show fq 6 none (rl_G (cF_chair 6) N (fuC 6 C 6 5) C) none (fr 6 A2)
              refine ⟨rfl, A2, ?_, rfl⟩
              unfold rl_G
              rw [if_neg g4, fu_f g5, if_neg (by decide), e2, e1]
          · have g5 := fn_nlt h5
            show ∃ R, cm_Lc cm_ms 66 [.ref 2, .int 5] (fr 6 C) R ∧ ∀ v M', R v M' → _
            refine ⟨_, f_fail 5 _, ?_⟩
            rintro v M' ⟨rfl, A1, e1, rfl⟩
            have k1 : RC N A1 := by rw [e1]; exact RC_fail _ h
            have y1 : A1.1 2 9 ≠ 0 := by rw [e1]; exact cF_fail_9n (by decide)
            show ∃ R, cm_Lc cm_ms 88 [.ref 2] (fr 6 A1) R ∧ ∀ v M', R v M' → _
            refine ⟨_, f_step k1, ?_⟩
            rintro v M' ⟨rfl, A2, e2, rfl⟩
            have k2 : RC N A2 := by rw [e2]; exact RC_step k1
            have y2 : A2.1 2 9 ≠ 0 := by rw [e2, cF_step_9]; exact y1
            show (ev_cmp 1 (A2.1 2 9) 0 = true → _) ∧ (ev_cmp 1 (A2.1 2 9) 0 = false → _)
            refine ⟨fun h7 => ?_, fun h7 => ?_⟩
            · show (((-1) : Int32).toInt < 0 ∨ 7 < ((-1) : Int32).toInt → _) ∧ (∀ (j : Nat) (o : Int), ([46, 53, 60, 67, 74, 81, 88, 95] : List Int)[j]? = some o → ((-1) : Int32).toInt = 0 + (j : Int) → _)
              refine sw_d (by decide) (by decide) ?_
              show fq 6 none (rl_G (cF_chair 6) N (fuC 6 C 6 5) C) none (fr 6 A2)
              refine ⟨rfl, A2, ?_, rfl⟩
              unfold rl_G
              rw [if_neg g4, fu_t g5, if_pos rfl, e2, cF_step_id y1, e1]
            · exact absurd (fn_eq h7) y2
        · have g4 := fn_eq h4
          show ∃ R, cm_Lc cm_ms 66 [.ref 2, .int 6] (fr 6 C) R ∧ ∀ v M', R v M' → _
          refine ⟨_, f_fail 6 _, ?_⟩
          rintro v M' ⟨rfl, A1, e1, rfl⟩
          have k1 : RC N A1 := by rw [e1]; exact RC_fail _ h
          have y1 : A1.1 2 9 ≠ 0 := by rw [e1]; exact cF_fail_9n (by decide)
          show ∃ R, cm_Lc cm_ms 88 [.ref 2] (fr 6 A1) R ∧ ∀ v M', R v M' → _
          refine ⟨_, f_step k1, ?_⟩
          rintro v M' ⟨rfl, A2, e2, rfl⟩
          have k2 : RC N A2 := by rw [e2]; exact RC_step k1
          have y2 : A2.1 2 9 ≠ 0 := by rw [e2, cF_step_9]; exact y1
          show (ev_cmp 1 (A2.1 2 9) 0 = true → _) ∧ (ev_cmp 1 (A2.1 2 9) 0 = false → _)
          refine ⟨fun h8 => ?_, fun h8 => ?_⟩
          · show (((-1) : Int32).toInt < 0 ∨ 7 < ((-1) : Int32).toInt → _) ∧ (∀ (j : Nat) (o : Int), ([46, 53, 60, 67, 74, 81, 88, 95] : List Int)[j]? = some o → ((-1) : Int32).toInt = 0 + (j : Int) → _)
            refine sw_d (by decide) (by decide) ?_
            show fq 6 none (rl_G (cF_chair 6) N (fuC 6 C 6 5) C) none (fr 6 A2)
            refine ⟨rfl, A2, ?_, rfl⟩
            unfold rl_G
            rw [if_pos g4, e2, cF_step_id y1, e1]
          · exact absurd (fn_eq h8) y2
    · exact absurd h2 (by decide)
  · exact absurd h1 (by decide)
set_option maxRecDepth 100000 in
set_option maxHeartbeats 4000000 in
theorem f_rl7_6 {N : Nat} {C : cm_M} (h : RC N C) (h0 : C.1 2 9 = 0) (hl : cF_line C = 7) : cm_Lc cm_ms 67 [.ref 2] (fr 6 C) (fq 6 none (rl_G (cF_heap 6) N (fuC 6 C 7 900) C)) := by
  refine lb_st0 (mi := mr_67) rfl 120 ?_
  show ∃ R, cm_Lc cm_ms 84 [.ref 2] (fr 6 C) R ∧ ∀ v M', R v M' → _
  refine ⟨_, f_lineL hl, ?_⟩
  rintro v M' ⟨rfl, rfl⟩
  show (ev_cmp 1 7 (-1) = true → _) ∧ (ev_cmp 1 7 (-1) = false → _)
  refine ⟨fun h1 => ?_, fun h1 => ?_⟩
  · show (ev_cmp 1 7 0 = true → _) ∧ (ev_cmp 1 7 0 = false → _)
    refine ⟨fun h2 => ?_, fun h2 => ?_⟩
    · show (ev_cmp 0 7 0 = true → _) ∧ (ev_cmp 0 7 0 = false → _)
      refine ⟨fun h3 => ?_, fun h3 => ?_⟩
      · exact absurd h3 (by decide)
      · show (ev_cmp 1 (C.1 2 8) 0 = true → _) ∧ (ev_cmp 1 (C.1 2 8) 0 = false → _)
        refine ⟨fun h4 => ?_, fun h4 => ?_⟩
        · have g4 := fn_ne h4
          show ∃ R, cm_Lc cm_ms 69 [.ref 2, .int 7] (fr 6 C) R ∧ ∀ v M', R v M' → _
          refine ⟨_, f_toldN7_6 C, ?_⟩
          rintro v M' ⟨rfl, rfl⟩
          show ∃ R, cm_Lc cm_ms 68 [.int 7] (fr 6 C) R ∧ ∀ v M', R v M' → _
          refine ⟨_, f_room7 _, ?_⟩
          rintro v M' ⟨rfl, rfl⟩
          show (ev_cmp 2 (toC 6 C 7) 900 = true → _) ∧ (ev_cmp 2 (toC 6 C 7) 900 = false → _)
          refine ⟨fun h5 => ?_, fun h5 => ?_⟩
          · have g5 := fn_lt h5
            show ∃ R, cm_Lc cm_ms 88 [.ref 2] (fr 6 C) R ∧ ∀ v M', R v M' → _
            refine ⟨_, f_step h, ?_⟩
            rintro v M' ⟨rfl, A1, e1, rfl⟩
            have k1 : RC N A1 := by rw [e1]; exact RC_step h
            have y1 : A1.1 2 9 = 0 := by rw [e1, cF_step_9]; exact h0
            show (ev_cmp 1 (A1.1 2 9) 0 = true → _) ∧ (ev_cmp 1 (A1.1 2 9) 0 = false → _)
            refine ⟨fun h6 => ?_, fun h6 => ?_⟩
            · exact absurd y1 (fn_ne h6)
            · show ((7 : Int32).toInt < 0 ∨ 7 < (7 : Int32).toInt → _) ∧ (∀ (j : Nat) (o : Int), ([46, 53, 60, 67, 74, 81, 88, 95] : List Int)[j]? = some o → (7 : Int32).toInt = 0 + (j : Int) → _)
              refine sw_k 7 95 rfl (by decide) (by decide) ?_
              show ∃ R, cm_Lc cm_ms 77 [.ref 2] (fr 6 A1) R ∧ ∀ v M', R v M' → _
              refine ⟨_, f_heap6 k1, ?_⟩
              rintro v M' ⟨rfl, A2, e2, rfl⟩
              show fq 6 none (rl_G (cF_heap 6) N (fuC 6 C 7 900) C) none (fr 6 A2)
              refine ⟨rfl, A2, ?_, rfl⟩
              unfold rl_G
              rw [if_neg g4, fu_f g5, if_neg (by decide), e2, e1]
          · have g5 := fn_nlt h5
            show ∃ R, cm_Lc cm_ms 66 [.ref 2, .int 5] (fr 6 C) R ∧ ∀ v M', R v M' → _
            refine ⟨_, f_fail 5 _, ?_⟩
            rintro v M' ⟨rfl, A1, e1, rfl⟩
            have k1 : RC N A1 := by rw [e1]; exact RC_fail _ h
            have y1 : A1.1 2 9 ≠ 0 := by rw [e1]; exact cF_fail_9n (by decide)
            show ∃ R, cm_Lc cm_ms 88 [.ref 2] (fr 6 A1) R ∧ ∀ v M', R v M' → _
            refine ⟨_, f_step k1, ?_⟩
            rintro v M' ⟨rfl, A2, e2, rfl⟩
            have k2 : RC N A2 := by rw [e2]; exact RC_step k1
            have y2 : A2.1 2 9 ≠ 0 := by rw [e2, cF_step_9]; exact y1
            show (ev_cmp 1 (A2.1 2 9) 0 = true → _) ∧ (ev_cmp 1 (A2.1 2 9) 0 = false → _)
            refine ⟨fun h7 => ?_, fun h7 => ?_⟩
            · show (((-1) : Int32).toInt < 0 ∨ 7 < ((-1) : Int32).toInt → _) ∧ (∀ (j : Nat) (o : Int), ([46, 53, 60, 67, 74, 81, 88, 95] : List Int)[j]? = some o → ((-1) : Int32).toInt = 0 + (j : Int) → _)
              refine sw_d (by decide) (by decide) ?_
              show fq 6 none (rl_G (cF_heap 6) N (fuC 6 C 7 900) C) none (fr 6 A2)
              refine ⟨rfl, A2, ?_, rfl⟩
              unfold rl_G
              rw [if_neg g4, fu_t g5, if_pos rfl, e2, cF_step_id y1, e1]
            · exact absurd (fn_eq h7) y2
        · have g4 := fn_eq h4
          show ∃ R, cm_Lc cm_ms 66 [.ref 2, .int 6] (fr 6 C) R ∧ ∀ v M', R v M' → _
          refine ⟨_, f_fail 6 _, ?_⟩
          rintro v M' ⟨rfl, A1, e1, rfl⟩
          have k1 : RC N A1 := by rw [e1]; exact RC_fail _ h
          have y1 : A1.1 2 9 ≠ 0 := by rw [e1]; exact cF_fail_9n (by decide)
          show ∃ R, cm_Lc cm_ms 88 [.ref 2] (fr 6 A1) R ∧ ∀ v M', R v M' → _
          refine ⟨_, f_step k1, ?_⟩
          rintro v M' ⟨rfl, A2, e2, rfl⟩
          have k2 : RC N A2 := by rw [e2]; exact RC_step k1
          have y2 : A2.1 2 9 ≠ 0 := by rw [e2, cF_step_9]; exact y1
          show (ev_cmp 1 (A2.1 2 9) 0 = true → _) ∧ (ev_cmp 1 (A2.1 2 9) 0 = false → _)
          refine ⟨fun h8 => ?_, fun h8 => ?_⟩
          · show (((-1) : Int32).toInt < 0 ∨ 7 < ((-1) : Int32).toInt → _) ∧ (∀ (j : Nat) (o : Int), ([46, 53, 60, 67, 74, 81, 88, 95] : List Int)[j]? = some o → ((-1) : Int32).toInt = 0 + (j : Int) → _)
            refine sw_d (by decide) (by decide) ?_
            show fq 6 none (rl_G (cF_heap 6) N (fuC 6 C 7 900) C) none (fr 6 A2)
            refine ⟨rfl, A2, ?_, rfl⟩
            unfold rl_G
            rw [if_pos g4, e2, cF_step_id y1, e1]
          · exact absurd (fn_eq h8) y2
    · exact absurd h2 (by decide)
  · exact absurd h1 (by decide)
theorem f_readLine6 {N : Nat} {C : cm_M} (h : RC N C) (h0 : C.1 2 9 = 0) : cm_Lc cm_ms 67 [.ref 2] (fr 6 C) (fq 6 none (rl_F 6 N C)) := by
  unfold rl_F
  rcases ln_cs C 8 0 with ⟨a, -⟩ | ⟨i, -, a2, a3, -, -⟩
  · have hl : cF_line C = -1 := a
    rw [if_pos hl]
    exact f_rln_6 h h0 hl
  · have hl : cF_line C = Int32.ofNat i := a3
    rcases (by omega : i = 0 ∨ i = 1 ∨ i = 2 ∨ i = 3 ∨ i = 4 ∨ i = 5 ∨ i = 6 ∨ i = 7) with rfl | rfl | rfl | rfl | rfl | rfl | rfl | rfl
    · have hl : cF_line C = 0 := hl
      rw [hl, if_neg (c := (0 : Int32) = (-1)) (by decide), if_pos rfl]
      exact f_rl0_6 h h0 hl
    · have hl : cF_line C = 1 := hl
      rw [hl, if_neg (c := (1 : Int32) = (-1)) (by decide), if_neg (c := (1 : Int32) = 0) (by decide), if_pos rfl]
      exact f_rl1_6 h h0 hl
    · have hl : cF_line C = 2 := hl
      rw [hl, if_neg (c := (2 : Int32) = (-1)) (by decide), if_neg (c := (2 : Int32) = 0) (by decide), if_neg (c := (2 : Int32) = 1) (by decide), if_pos rfl]
      exact f_rl2_6 h h0 hl
    · have hl : cF_line C = 3 := hl
      rw [hl, if_neg (c := (3 : Int32) = (-1)) (by decide), if_neg (c := (3 : Int32) = 0) (by decide), if_neg (c := (3 : Int32) = 1) (by decide), if_neg (c := (3 : Int32) = 2) (by decide), if_pos rfl]
      exact f_rl3_6 h h0 hl
    · have hl : cF_line C = 4 := hl
      rw [hl, if_neg (c := (4 : Int32) = (-1)) (by decide), if_neg (c := (4 : Int32) = 0) (by decide), if_neg (c := (4 : Int32) = 1) (by decide), if_neg (c := (4 : Int32) = 2) (by decide), if_neg (c := (4 : Int32) = 3) (by decide), if_pos rfl]
      exact f_rl4_6 h h0 hl
    · have hl : cF_line C = 5 := hl
      rw [hl, if_neg (c := (5 : Int32) = (-1)) (by decide), if_neg (c := (5 : Int32) = 0) (by decide), if_neg (c := (5 : Int32) = 1) (by decide), if_neg (c := (5 : Int32) = 2) (by decide), if_neg (c := (5 : Int32) = 3) (by decide), if_neg (c := (5 : Int32) = 4) (by decide), if_pos rfl]
      exact f_rl5_6 h h0 hl
    · have hl : cF_line C = 6 := hl
      rw [hl, if_neg (c := (6 : Int32) = (-1)) (by decide), if_neg (c := (6 : Int32) = 0) (by decide), if_neg (c := (6 : Int32) = 1) (by decide), if_neg (c := (6 : Int32) = 2) (by decide), if_neg (c := (6 : Int32) = 3) (by decide), if_neg (c := (6 : Int32) = 4) (by decide), if_neg (c := (6 : Int32) = 5) (by decide), if_pos rfl]
      exact f_rl6_6 h h0 hl
    · have hl : cF_line C = 7 := hl
      rw [hl, if_neg (c := (7 : Int32) = (-1)) (by decide), if_neg (c := (7 : Int32) = 0) (by decide), if_neg (c := (7 : Int32) = 1) (by decide), if_neg (c := (7 : Int32) = 2) (by decide), if_neg (c := (7 : Int32) = 3) (by decide), if_neg (c := (7 : Int32) = 4) (by decide), if_neg (c := (7 : Int32) = 5) (by decide), if_neg (c := (7 : Int32) = 6) (by decide)]
      exact f_rl7_6 h h0 hl
set_option maxRecDepth 100000 in
set_option maxHeartbeats 4000000 in
theorem f_rln_19 {N : Nat} {C : cm_M} (h : RC N C) (h0 : C.1 2 9 = 0) (hl : cF_line C = (-1)) : cm_Lc cm_ms 67 [.ref 2] (fr 19 C) (fq 19 none (cF_fail 1 C)) := by
  refine lb_st0 (mi := mr_67) rfl 120 ?_
  show ∃ R, cm_Lc cm_ms 84 [.ref 2] (fr 19 C) R ∧ ∀ v M', R v M' → _
  refine ⟨_, f_lineL hl, ?_⟩
  rintro v M' ⟨rfl, rfl⟩
  show (ev_cmp 1 (-1) (-1) = true → _) ∧ (ev_cmp 1 (-1) (-1) = false → _)
  refine ⟨fun h1 => ?_, fun h1 => ?_⟩
  · exact absurd h1 (by decide)
  · show ∃ R, cm_Lc cm_ms 66 [.ref 2, .int 1] (fr 19 C) R ∧ ∀ v M', R v M' → _
    refine ⟨_, f_fail 1 _, ?_⟩
    rintro v M' ⟨rfl, A1, e1, rfl⟩
    have k1 : RC N A1 := by rw [e1]; exact RC_fail _ h
    have y1 : A1.1 2 9 ≠ 0 := by rw [e1]; exact cF_fail_9n (by decide)
    show ∃ R, cm_Lc cm_ms 88 [.ref 2] (fr 19 A1) R ∧ ∀ v M', R v M' → _
    refine ⟨_, f_step k1, ?_⟩
    rintro v M' ⟨rfl, A2, e2, rfl⟩
    have k2 : RC N A2 := by rw [e2]; exact RC_step k1
    have y2 : A2.1 2 9 ≠ 0 := by rw [e2, cF_step_9]; exact y1
    show (ev_cmp 1 (A2.1 2 9) 0 = true → _) ∧ (ev_cmp 1 (A2.1 2 9) 0 = false → _)
    refine ⟨fun h2 => ?_, fun h2 => ?_⟩
    · show (((-1) : Int32).toInt < 0 ∨ 7 < ((-1) : Int32).toInt → _) ∧ (∀ (j : Nat) (o : Int), ([46, 53, 60, 67, 74, 81, 88, 95] : List Int)[j]? = some o → ((-1) : Int32).toInt = 0 + (j : Int) → _)
      refine sw_d (by decide) (by decide) ?_
      show fq 19 none (cF_fail 1 C) none (fr 19 A2)
      refine ⟨rfl, A2, ?_, rfl⟩
      rw [e2, cF_step_id y1, e1]
    · exact absurd (fn_eq h2) y2
set_option maxRecDepth 100000 in
set_option maxHeartbeats 4000000 in
theorem f_rl0_19 {N : Nat} {C : cm_M} (h : RC N C) (h0 : C.1 2 9 = 0) (hl : cF_line C = 0) : cm_Lc cm_ms 67 [.ref 2] (fr 19 C) (fq 19 none (tl_F 19 N C)) := by
  refine lb_st0 (mi := mr_67) rfl 120 ?_
  show ∃ R, cm_Lc cm_ms 84 [.ref 2] (fr 19 C) R ∧ ∀ v M', R v M' → _
  refine ⟨_, f_lineL hl, ?_⟩
  rintro v M' ⟨rfl, rfl⟩
  show (ev_cmp 1 0 (-1) = true → _) ∧ (ev_cmp 1 0 (-1) = false → _)
  refine ⟨fun h1 => ?_, fun h1 => ?_⟩
  · show (ev_cmp 1 0 0 = true → _) ∧ (ev_cmp 1 0 0 = false → _)
    refine ⟨fun h2 => ?_, fun h2 => ?_⟩
    · exact absurd h2 (by decide)
    · show (ev_cmp 0 (C.1 2 8) 0 = true → _) ∧ (ev_cmp 0 (C.1 2 8) 0 = false → _)
      refine ⟨fun h3 => ?_, fun h3 => ?_⟩
      · have g3 := fn_eq0 h3
        show (ev_cmp 0 0 0 = true → _) ∧ (ev_cmp 0 0 0 = false → _)
        refine ⟨fun h4 => ?_, fun h4 => ?_⟩
        · show ∃ R, cm_Lc cm_ms 69 [.ref 2, .int 0] (fr 19 C) R ∧ ∀ v M', R v M' → _
          refine ⟨_, f_toldN0_19 C, ?_⟩
          rintro v M' ⟨rfl, rfl⟩
          show ∃ R, cm_Lc cm_ms 68 [.int 0] (fr 19 C) R ∧ ∀ v M', R v M' → _
          refine ⟨_, f_room0 _, ?_⟩
          rintro v M' ⟨rfl, rfl⟩
          show (ev_cmp 2 (toC 19 C 0) 900 = true → _) ∧ (ev_cmp 2 (toC 19 C 0) 900 = false → _)
          refine ⟨fun h5 => ?_, fun h5 => ?_⟩
          · have g5 := fn_lt h5
            show ∃ R, cm_Lc cm_ms 88 [.ref 2] (fr 19 C) R ∧ ∀ v M', R v M' → _
            refine ⟨_, f_step h, ?_⟩
            rintro v M' ⟨rfl, A1, e1, rfl⟩
            have k1 : RC N A1 := by rw [e1]; exact RC_step h
            have y1 : A1.1 2 9 = 0 := by rw [e1, cF_step_9]; exact h0
            show (ev_cmp 1 (A1.1 2 9) 0 = true → _) ∧ (ev_cmp 1 (A1.1 2 9) 0 = false → _)
            refine ⟨fun h6 => ?_, fun h6 => ?_⟩
            · exact absurd y1 (fn_ne h6)
            · show ((0 : Int32).toInt < 0 ∨ 7 < (0 : Int32).toInt → _) ∧ (∀ (j : Nat) (o : Int), ([46, 53, 60, 67, 74, 81, 88, 95] : List Int)[j]? = some o → (0 : Int32).toInt = 0 + (j : Int) → _)
              refine sw_k 0 46 rfl (by decide) (by decide) ?_
              show ∃ R, cm_Lc cm_ms 70 [.ref 2] (fr 19 A1) R ∧ ∀ v M', R v M' → _
              refine ⟨_, f_town19 k1, ?_⟩
              rintro v M' ⟨rfl, A2, e2, rfl⟩
              show fq 19 none (tl_F 19 N C) none (fr 19 A2)
              refine ⟨rfl, A2, ?_, rfl⟩
              unfold tl_F
              rw [if_pos g3, e2, e1]
          · have g5 := fn_nlt h5
            show ∃ R, cm_Lc cm_ms 66 [.ref 2, .int 5] (fr 19 C) R ∧ ∀ v M', R v M' → _
            refine ⟨_, f_fail 5 _, ?_⟩
            rintro v M' ⟨rfl, A1, e1, rfl⟩
            have k1 : RC N A1 := by rw [e1]; exact RC_fail _ h
            have y1 : A1.1 2 9 ≠ 0 := by rw [e1]; exact cF_fail_9n (by decide)
            show ∃ R, cm_Lc cm_ms 88 [.ref 2] (fr 19 A1) R ∧ ∀ v M', R v M' → _
            refine ⟨_, f_step k1, ?_⟩
            rintro v M' ⟨rfl, A2, e2, rfl⟩
            have k2 : RC N A2 := by rw [e2]; exact RC_step k1
            have y2 : A2.1 2 9 ≠ 0 := by rw [e2, cF_step_9]; exact y1
            show (ev_cmp 1 (A2.1 2 9) 0 = true → _) ∧ (ev_cmp 1 (A2.1 2 9) 0 = false → _)
            refine ⟨fun h7 => ?_, fun h7 => ?_⟩
            · show (((-1) : Int32).toInt < 0 ∨ 7 < ((-1) : Int32).toInt → _) ∧ (∀ (j : Nat) (o : Int), ([46, 53, 60, 67, 74, 81, 88, 95] : List Int)[j]? = some o → ((-1) : Int32).toInt = 0 + (j : Int) → _)
              refine sw_d (by decide) (by decide) ?_
              show fq 19 none (tl_F 19 N C) none (fr 19 A2)
              have e9 : toC 19 C 0 = 0 := rfl
              rw [e9] at g5
              exact absurd g5 (by decide)
            · exact absurd (fn_eq h7) y2
        · exact absurd h4 (by decide)
      · have g3 := fn_ne0 h3
        show ∃ R, cm_Lc cm_ms 66 [.ref 2, .int 3] (fr 19 C) R ∧ ∀ v M', R v M' → _
        refine ⟨_, f_fail 3 _, ?_⟩
        rintro v M' ⟨rfl, A1, e1, rfl⟩
        have k1 : RC N A1 := by rw [e1]; exact RC_fail _ h
        have y1 : A1.1 2 9 ≠ 0 := by rw [e1]; exact cF_fail_9n (by decide)
        show ∃ R, cm_Lc cm_ms 88 [.ref 2] (fr 19 A1) R ∧ ∀ v M', R v M' → _
        refine ⟨_, f_step k1, ?_⟩
        rintro v M' ⟨rfl, A2, e2, rfl⟩
        have k2 : RC N A2 := by rw [e2]; exact RC_step k1
        have y2 : A2.1 2 9 ≠ 0 := by rw [e2, cF_step_9]; exact y1
        show (ev_cmp 1 (A2.1 2 9) 0 = true → _) ∧ (ev_cmp 1 (A2.1 2 9) 0 = false → _)
        refine ⟨fun h8 => ?_, fun h8 => ?_⟩
        · show (((-1) : Int32).toInt < 0 ∨ 7 < ((-1) : Int32).toInt → _) ∧ (∀ (j : Nat) (o : Int), ([46, 53, 60, 67, 74, 81, 88, 95] : List Int)[j]? = some o → ((-1) : Int32).toInt = 0 + (j : Int) → _)
          refine sw_d (by decide) (by decide) ?_
          show fq 19 none (tl_F 19 N C) none (fr 19 A2)
          refine ⟨rfl, A2, ?_, rfl⟩
          unfold tl_F
          rw [if_neg g3, e2, cF_step_id y1, e1]
        · exact absurd (fn_eq h8) y2
  · exact absurd h1 (by decide)
set_option maxRecDepth 100000 in
set_option maxHeartbeats 4000000 in
theorem f_rl1_19 {N : Nat} {C : cm_M} (h : RC N C) (h0 : C.1 2 9 = 0) (hl : cF_line C = 1) : cm_Lc cm_ms 67 [.ref 2] (fr 19 C) (fq 19 none (rl_G (cF_man 19) N (fuC 19 C 1 6) C)) := by
  refine lb_st0 (mi := mr_67) rfl 120 ?_
  show ∃ R, cm_Lc cm_ms 84 [.ref 2] (fr 19 C) R ∧ ∀ v M', R v M' → _
  refine ⟨_, f_lineL hl, ?_⟩
  rintro v M' ⟨rfl, rfl⟩
  show (ev_cmp 1 1 (-1) = true → _) ∧ (ev_cmp 1 1 (-1) = false → _)
  refine ⟨fun h1 => ?_, fun h1 => ?_⟩
  · show (ev_cmp 1 1 0 = true → _) ∧ (ev_cmp 1 1 0 = false → _)
    refine ⟨fun h2 => ?_, fun h2 => ?_⟩
    · show (ev_cmp 0 1 0 = true → _) ∧ (ev_cmp 0 1 0 = false → _)
      refine ⟨fun h3 => ?_, fun h3 => ?_⟩
      · exact absurd h3 (by decide)
      · show (ev_cmp 1 (C.1 2 8) 0 = true → _) ∧ (ev_cmp 1 (C.1 2 8) 0 = false → _)
        refine ⟨fun h4 => ?_, fun h4 => ?_⟩
        · have g4 := fn_ne h4
          show ∃ R, cm_Lc cm_ms 69 [.ref 2, .int 1] (fr 19 C) R ∧ ∀ v M', R v M' → _
          refine ⟨_, f_toldN1_19 C, ?_⟩
          rintro v M' ⟨rfl, rfl⟩
          show ∃ R, cm_Lc cm_ms 68 [.int 1] (fr 19 C) R ∧ ∀ v M', R v M' → _
          refine ⟨_, f_room1 _, ?_⟩
          rintro v M' ⟨rfl, rfl⟩
          show (ev_cmp 2 (toC 19 C 1) 6 = true → _) ∧ (ev_cmp 2 (toC 19 C 1) 6 = false → _)
          refine ⟨fun h5 => ?_, fun h5 => ?_⟩
          · have g5 := fn_lt h5
            show ∃ R, cm_Lc cm_ms 88 [.ref 2] (fr 19 C) R ∧ ∀ v M', R v M' → _
            refine ⟨_, f_step h, ?_⟩
            rintro v M' ⟨rfl, A1, e1, rfl⟩
            have k1 : RC N A1 := by rw [e1]; exact RC_step h
            have y1 : A1.1 2 9 = 0 := by rw [e1, cF_step_9]; exact h0
            show (ev_cmp 1 (A1.1 2 9) 0 = true → _) ∧ (ev_cmp 1 (A1.1 2 9) 0 = false → _)
            refine ⟨fun h6 => ?_, fun h6 => ?_⟩
            · exact absurd y1 (fn_ne h6)
            · show ((1 : Int32).toInt < 0 ∨ 7 < (1 : Int32).toInt → _) ∧ (∀ (j : Nat) (o : Int), ([46, 53, 60, 67, 74, 81, 88, 95] : List Int)[j]? = some o → (1 : Int32).toInt = 0 + (j : Int) → _)
              refine sw_k 1 53 rfl (by decide) (by decide) ?_
              show ∃ R, cm_Lc cm_ms 71 [.ref 2] (fr 19 A1) R ∧ ∀ v M', R v M' → _
              refine ⟨_, f_man19 k1, ?_⟩
              rintro v M' ⟨rfl, A2, e2, rfl⟩
              show fq 19 none (rl_G (cF_man 19) N (fuC 19 C 1 6) C) none (fr 19 A2)
              refine ⟨rfl, A2, ?_, rfl⟩
              unfold rl_G
              rw [if_neg g4, fu_f g5, if_neg (by decide), e2, e1]
          · have g5 := fn_nlt h5
            show ∃ R, cm_Lc cm_ms 66 [.ref 2, .int 5] (fr 19 C) R ∧ ∀ v M', R v M' → _
            refine ⟨_, f_fail 5 _, ?_⟩
            rintro v M' ⟨rfl, A1, e1, rfl⟩
            have k1 : RC N A1 := by rw [e1]; exact RC_fail _ h
            have y1 : A1.1 2 9 ≠ 0 := by rw [e1]; exact cF_fail_9n (by decide)
            show ∃ R, cm_Lc cm_ms 88 [.ref 2] (fr 19 A1) R ∧ ∀ v M', R v M' → _
            refine ⟨_, f_step k1, ?_⟩
            rintro v M' ⟨rfl, A2, e2, rfl⟩
            have k2 : RC N A2 := by rw [e2]; exact RC_step k1
            have y2 : A2.1 2 9 ≠ 0 := by rw [e2, cF_step_9]; exact y1
            show (ev_cmp 1 (A2.1 2 9) 0 = true → _) ∧ (ev_cmp 1 (A2.1 2 9) 0 = false → _)
            refine ⟨fun h7 => ?_, fun h7 => ?_⟩
            · show (((-1) : Int32).toInt < 0 ∨ 7 < ((-1) : Int32).toInt → _) ∧ (∀ (j : Nat) (o : Int), ([46, 53, 60, 67, 74, 81, 88, 95] : List Int)[j]? = some o → ((-1) : Int32).toInt = 0 + (j : Int) → _)
              refine sw_d (by decide) (by decide) ?_
              show fq 19 none (rl_G (cF_man 19) N (fuC 19 C 1 6) C) none (fr 19 A2)
              refine ⟨rfl, A2, ?_, rfl⟩
              unfold rl_G
              rw [if_neg g4, fu_t g5, if_pos rfl, e2, cF_step_id y1, e1]
            · exact absurd (fn_eq h7) y2
        · have g4 := fn_eq h4
          show ∃ R, cm_Lc cm_ms 66 [.ref 2, .int 6] (fr 19 C) R ∧ ∀ v M', R v M' → _
          refine ⟨_, f_fail 6 _, ?_⟩
          rintro v M' ⟨rfl, A1, e1, rfl⟩
          have k1 : RC N A1 := by rw [e1]; exact RC_fail _ h
          have y1 : A1.1 2 9 ≠ 0 := by rw [e1]; exact cF_fail_9n (by decide)
          show ∃ R, cm_Lc cm_ms 88 [.ref 2] (fr 19 A1) R ∧ ∀ v M', R v M' → _
          refine ⟨_, f_step k1, ?_⟩
          rintro v M' ⟨rfl, A2, e2, rfl⟩
          have k2 : RC N A2 := by rw [e2]; exact RC_step k1
          have y2 : A2.1 2 9 ≠ 0 := by rw [e2, cF_step_9]; exact y1
          show (ev_cmp 1 (A2.1 2 9) 0 = true → _) ∧ (ev_cmp 1 (A2.1 2 9) 0 = false → _)
          refine ⟨fun h8 => ?_, fun h8 => ?_⟩
          · show (((-1) : Int32).toInt < 0 ∨ 7 < ((-1) : Int32).toInt → _) ∧ (∀ (j : Nat) (o : Int), ([46, 53, 60, 67, 74, 81, 88, 95] : List Int)[j]? = some o → ((-1) : Int32).toInt = 0 + (j : Int) → _)
            refine sw_d (by decide) (by decide) ?_
            show fq 19 none (rl_G (cF_man 19) N (fuC 19 C 1 6) C) none (fr 19 A2)
            refine ⟨rfl, A2, ?_, rfl⟩
            unfold rl_G
            rw [if_pos g4, e2, cF_step_id y1, e1]
          · exact absurd (fn_eq h8) y2
    · exact absurd h2 (by decide)
  · exact absurd h1 (by decide)
set_option maxRecDepth 100000 in
set_option maxHeartbeats 4000000 in
theorem f_rl2_19 {N : Nat} {C : cm_M} (h : RC N C) (h0 : C.1 2 9 = 0) (hl : cF_line C = 2) : cm_Lc cm_ms 67 [.ref 2] (fr 19 C) (fq 19 none (rl_G (cF_motion 19) N (fuC 19 C 2 5) C)) := by
  refine lb_st0 (mi := mr_67) rfl 120 ?_
  show ∃ R, cm_Lc cm_ms 84 [.ref 2] (fr 19 C) R ∧ ∀ v M', R v M' → _
  refine ⟨_, f_lineL hl, ?_⟩
  rintro v M' ⟨rfl, rfl⟩
  show (ev_cmp 1 2 (-1) = true → _) ∧ (ev_cmp 1 2 (-1) = false → _)
  refine ⟨fun h1 => ?_, fun h1 => ?_⟩
  · show (ev_cmp 1 2 0 = true → _) ∧ (ev_cmp 1 2 0 = false → _)
    refine ⟨fun h2 => ?_, fun h2 => ?_⟩
    · show (ev_cmp 0 2 0 = true → _) ∧ (ev_cmp 0 2 0 = false → _)
      refine ⟨fun h3 => ?_, fun h3 => ?_⟩
      · exact absurd h3 (by decide)
      · show (ev_cmp 1 (C.1 2 8) 0 = true → _) ∧ (ev_cmp 1 (C.1 2 8) 0 = false → _)
        refine ⟨fun h4 => ?_, fun h4 => ?_⟩
        · have g4 := fn_ne h4
          show ∃ R, cm_Lc cm_ms 69 [.ref 2, .int 2] (fr 19 C) R ∧ ∀ v M', R v M' → _
          refine ⟨_, f_toldN2_19 C, ?_⟩
          rintro v M' ⟨rfl, rfl⟩
          show ∃ R, cm_Lc cm_ms 68 [.int 2] (fr 19 C) R ∧ ∀ v M', R v M' → _
          refine ⟨_, f_room2 _, ?_⟩
          rintro v M' ⟨rfl, rfl⟩
          show (ev_cmp 2 (toC 19 C 2) 5 = true → _) ∧ (ev_cmp 2 (toC 19 C 2) 5 = false → _)
          refine ⟨fun h5 => ?_, fun h5 => ?_⟩
          · have g5 := fn_lt h5
            show ∃ R, cm_Lc cm_ms 88 [.ref 2] (fr 19 C) R ∧ ∀ v M', R v M' → _
            refine ⟨_, f_step h, ?_⟩
            rintro v M' ⟨rfl, A1, e1, rfl⟩
            have k1 : RC N A1 := by rw [e1]; exact RC_step h
            have y1 : A1.1 2 9 = 0 := by rw [e1, cF_step_9]; exact h0
            show (ev_cmp 1 (A1.1 2 9) 0 = true → _) ∧ (ev_cmp 1 (A1.1 2 9) 0 = false → _)
            refine ⟨fun h6 => ?_, fun h6 => ?_⟩
            · exact absurd y1 (fn_ne h6)
            · show ((2 : Int32).toInt < 0 ∨ 7 < (2 : Int32).toInt → _) ∧ (∀ (j : Nat) (o : Int), ([46, 53, 60, 67, 74, 81, 88, 95] : List Int)[j]? = some o → (2 : Int32).toInt = 0 + (j : Int) → _)
              refine sw_k 2 60 rfl (by decide) (by decide) ?_
              show ∃ R, cm_Lc cm_ms 72 [.ref 2] (fr 19 A1) R ∧ ∀ v M', R v M' → _
              refine ⟨_, f_motion19 k1, ?_⟩
              rintro v M' ⟨rfl, A2, e2, rfl⟩
              show fq 19 none (rl_G (cF_motion 19) N (fuC 19 C 2 5) C) none (fr 19 A2)
              refine ⟨rfl, A2, ?_, rfl⟩
              unfold rl_G
              rw [if_neg g4, fu_f g5, if_neg (by decide), e2, e1]
          · have g5 := fn_nlt h5
            show ∃ R, cm_Lc cm_ms 66 [.ref 2, .int 5] (fr 19 C) R ∧ ∀ v M', R v M' → _
            refine ⟨_, f_fail 5 _, ?_⟩
            rintro v M' ⟨rfl, A1, e1, rfl⟩
            have k1 : RC N A1 := by rw [e1]; exact RC_fail _ h
            have y1 : A1.1 2 9 ≠ 0 := by rw [e1]; exact cF_fail_9n (by decide)
            show ∃ R, cm_Lc cm_ms 88 [.ref 2] (fr 19 A1) R ∧ ∀ v M', R v M' → _
            refine ⟨_, f_step k1, ?_⟩
            rintro v M' ⟨rfl, A2, e2, rfl⟩
            have k2 : RC N A2 := by rw [e2]; exact RC_step k1
            have y2 : A2.1 2 9 ≠ 0 := by rw [e2, cF_step_9]; exact y1
            show (ev_cmp 1 (A2.1 2 9) 0 = true → _) ∧ (ev_cmp 1 (A2.1 2 9) 0 = false → _)
            refine ⟨fun h7 => ?_, fun h7 => ?_⟩
            · show (((-1) : Int32).toInt < 0 ∨ 7 < ((-1) : Int32).toInt → _) ∧ (∀ (j : Nat) (o : Int), ([46, 53, 60, 67, 74, 81, 88, 95] : List Int)[j]? = some o → ((-1) : Int32).toInt = 0 + (j : Int) → _)
              refine sw_d (by decide) (by decide) ?_
              show fq 19 none (rl_G (cF_motion 19) N (fuC 19 C 2 5) C) none (fr 19 A2)
              refine ⟨rfl, A2, ?_, rfl⟩
              unfold rl_G
              rw [if_neg g4, fu_t g5, if_pos rfl, e2, cF_step_id y1, e1]
            · exact absurd (fn_eq h7) y2
        · have g4 := fn_eq h4
          show ∃ R, cm_Lc cm_ms 66 [.ref 2, .int 6] (fr 19 C) R ∧ ∀ v M', R v M' → _
          refine ⟨_, f_fail 6 _, ?_⟩
          rintro v M' ⟨rfl, A1, e1, rfl⟩
          have k1 : RC N A1 := by rw [e1]; exact RC_fail _ h
          have y1 : A1.1 2 9 ≠ 0 := by rw [e1]; exact cF_fail_9n (by decide)
          show ∃ R, cm_Lc cm_ms 88 [.ref 2] (fr 19 A1) R ∧ ∀ v M', R v M' → _
          refine ⟨_, f_step k1, ?_⟩
          rintro v M' ⟨rfl, A2, e2, rfl⟩
          have k2 : RC N A2 := by rw [e2]; exact RC_step k1
          have y2 : A2.1 2 9 ≠ 0 := by rw [e2, cF_step_9]; exact y1
          show (ev_cmp 1 (A2.1 2 9) 0 = true → _) ∧ (ev_cmp 1 (A2.1 2 9) 0 = false → _)
          refine ⟨fun h8 => ?_, fun h8 => ?_⟩
          · show (((-1) : Int32).toInt < 0 ∨ 7 < ((-1) : Int32).toInt → _) ∧ (∀ (j : Nat) (o : Int), ([46, 53, 60, 67, 74, 81, 88, 95] : List Int)[j]? = some o → ((-1) : Int32).toInt = 0 + (j : Int) → _)
            refine sw_d (by decide) (by decide) ?_
            show fq 19 none (rl_G (cF_motion 19) N (fuC 19 C 2 5) C) none (fr 19 A2)
            refine ⟨rfl, A2, ?_, rfl⟩
            unfold rl_G
            rw [if_pos g4, e2, cF_step_id y1, e1]
          · exact absurd (fn_eq h8) y2
    · exact absurd h2 (by decide)
  · exact absurd h1 (by decide)
set_option maxRecDepth 100000 in
set_option maxHeartbeats 4000000 in
theorem f_rl3_19 {N : Nat} {C : cm_M} (h : RC N C) (h0 : C.1 2 9 = 0) (hl : cF_line C = 3) : cm_Lc cm_ms 67 [.ref 2] (fr 19 C) (fq 19 none (rl_G (cF_against 19) N (fuC 19 C 3 9) C)) := by
  refine lb_st0 (mi := mr_67) rfl 120 ?_
  show ∃ R, cm_Lc cm_ms 84 [.ref 2] (fr 19 C) R ∧ ∀ v M', R v M' → _
  refine ⟨_, f_lineL hl, ?_⟩
  rintro v M' ⟨rfl, rfl⟩
  show (ev_cmp 1 3 (-1) = true → _) ∧ (ev_cmp 1 3 (-1) = false → _)
  refine ⟨fun h1 => ?_, fun h1 => ?_⟩
  · show (ev_cmp 1 3 0 = true → _) ∧ (ev_cmp 1 3 0 = false → _)
    refine ⟨fun h2 => ?_, fun h2 => ?_⟩
    · show (ev_cmp 0 3 0 = true → _) ∧ (ev_cmp 0 3 0 = false → _)
      refine ⟨fun h3 => ?_, fun h3 => ?_⟩
      · exact absurd h3 (by decide)
      · show (ev_cmp 1 (C.1 2 8) 0 = true → _) ∧ (ev_cmp 1 (C.1 2 8) 0 = false → _)
        refine ⟨fun h4 => ?_, fun h4 => ?_⟩
        · have g4 := fn_ne h4
          show ∃ R, cm_Lc cm_ms 69 [.ref 2, .int 3] (fr 19 C) R ∧ ∀ v M', R v M' → _
          refine ⟨_, f_toldN3_19 C, ?_⟩
          rintro v M' ⟨rfl, rfl⟩
          show ∃ R, cm_Lc cm_ms 68 [.int 3] (fr 19 C) R ∧ ∀ v M', R v M' → _
          refine ⟨_, f_room3 _, ?_⟩
          rintro v M' ⟨rfl, rfl⟩
          show (ev_cmp 2 (toC 19 C 3) 9 = true → _) ∧ (ev_cmp 2 (toC 19 C 3) 9 = false → _)
          refine ⟨fun h5 => ?_, fun h5 => ?_⟩
          · have g5 := fn_lt h5
            show ∃ R, cm_Lc cm_ms 88 [.ref 2] (fr 19 C) R ∧ ∀ v M', R v M' → _
            refine ⟨_, f_step h, ?_⟩
            rintro v M' ⟨rfl, A1, e1, rfl⟩
            have k1 : RC N A1 := by rw [e1]; exact RC_step h
            have y1 : A1.1 2 9 = 0 := by rw [e1, cF_step_9]; exact h0
            show (ev_cmp 1 (A1.1 2 9) 0 = true → _) ∧ (ev_cmp 1 (A1.1 2 9) 0 = false → _)
            refine ⟨fun h6 => ?_, fun h6 => ?_⟩
            · exact absurd y1 (fn_ne h6)
            · show ((3 : Int32).toInt < 0 ∨ 7 < (3 : Int32).toInt → _) ∧ (∀ (j : Nat) (o : Int), ([46, 53, 60, 67, 74, 81, 88, 95] : List Int)[j]? = some o → (3 : Int32).toInt = 0 + (j : Int) → _)
              refine sw_k 3 67 rfl (by decide) (by decide) ?_
              show ∃ R, cm_Lc cm_ms 73 [.ref 2] (fr 19 A1) R ∧ ∀ v M', R v M' → _
              refine ⟨_, f_against19 k1, ?_⟩
              rintro v M' ⟨rfl, A2, e2, rfl⟩
              show fq 19 none (rl_G (cF_against 19) N (fuC 19 C 3 9) C) none (fr 19 A2)
              refine ⟨rfl, A2, ?_, rfl⟩
              unfold rl_G
              rw [if_neg g4, fu_f g5, if_neg (by decide), e2, e1]
          · have g5 := fn_nlt h5
            show ∃ R, cm_Lc cm_ms 66 [.ref 2, .int 5] (fr 19 C) R ∧ ∀ v M', R v M' → _
            refine ⟨_, f_fail 5 _, ?_⟩
            rintro v M' ⟨rfl, A1, e1, rfl⟩
            have k1 : RC N A1 := by rw [e1]; exact RC_fail _ h
            have y1 : A1.1 2 9 ≠ 0 := by rw [e1]; exact cF_fail_9n (by decide)
            show ∃ R, cm_Lc cm_ms 88 [.ref 2] (fr 19 A1) R ∧ ∀ v M', R v M' → _
            refine ⟨_, f_step k1, ?_⟩
            rintro v M' ⟨rfl, A2, e2, rfl⟩
            have k2 : RC N A2 := by rw [e2]; exact RC_step k1
            have y2 : A2.1 2 9 ≠ 0 := by rw [e2, cF_step_9]; exact y1
            show (ev_cmp 1 (A2.1 2 9) 0 = true → _) ∧ (ev_cmp 1 (A2.1 2 9) 0 = false → _)
            refine ⟨fun h7 => ?_, fun h7 => ?_⟩
            · show (((-1) : Int32).toInt < 0 ∨ 7 < ((-1) : Int32).toInt → _) ∧ (∀ (j : Nat) (o : Int), ([46, 53, 60, 67, 74, 81, 88, 95] : List Int)[j]? = some o → ((-1) : Int32).toInt = 0 + (j : Int) → _)
              refine sw_d (by decide) (by decide) ?_
              show fq 19 none (rl_G (cF_against 19) N (fuC 19 C 3 9) C) none (fr 19 A2)
              refine ⟨rfl, A2, ?_, rfl⟩
              unfold rl_G
              rw [if_neg g4, fu_t g5, if_pos rfl, e2, cF_step_id y1, e1]
            · exact absurd (fn_eq h7) y2
        · have g4 := fn_eq h4
          show ∃ R, cm_Lc cm_ms 66 [.ref 2, .int 6] (fr 19 C) R ∧ ∀ v M', R v M' → _
          refine ⟨_, f_fail 6 _, ?_⟩
          rintro v M' ⟨rfl, A1, e1, rfl⟩
          have k1 : RC N A1 := by rw [e1]; exact RC_fail _ h
          have y1 : A1.1 2 9 ≠ 0 := by rw [e1]; exact cF_fail_9n (by decide)
          show ∃ R, cm_Lc cm_ms 88 [.ref 2] (fr 19 A1) R ∧ ∀ v M', R v M' → _
          refine ⟨_, f_step k1, ?_⟩
          rintro v M' ⟨rfl, A2, e2, rfl⟩
          have k2 : RC N A2 := by rw [e2]; exact RC_step k1
          have y2 : A2.1 2 9 ≠ 0 := by rw [e2, cF_step_9]; exact y1
          show (ev_cmp 1 (A2.1 2 9) 0 = true → _) ∧ (ev_cmp 1 (A2.1 2 9) 0 = false → _)
          refine ⟨fun h8 => ?_, fun h8 => ?_⟩
          · show (((-1) : Int32).toInt < 0 ∨ 7 < ((-1) : Int32).toInt → _) ∧ (∀ (j : Nat) (o : Int), ([46, 53, 60, 67, 74, 81, 88, 95] : List Int)[j]? = some o → ((-1) : Int32).toInt = 0 + (j : Int) → _)
            refine sw_d (by decide) (by decide) ?_
            show fq 19 none (rl_G (cF_against 19) N (fuC 19 C 3 9) C) none (fr 19 A2)
            refine ⟨rfl, A2, ?_, rfl⟩
            unfold rl_G
            rw [if_pos g4, e2, cF_step_id y1, e1]
          · exact absurd (fn_eq h8) y2
    · exact absurd h2 (by decide)
  · exact absurd h1 (by decide)
set_option maxRecDepth 100000 in
set_option maxHeartbeats 4000000 in
theorem f_rl4_19 {N : Nat} {C : cm_M} (h : RC N C) (h0 : C.1 2 9 = 0) (hl : cF_line C = 4) : cm_Lc cm_ms 67 [.ref 2] (fr 19 C) (fq 19 none (rl_G (cF_amends 19) N (fuC 19 C 4 6) C)) := by
  refine lb_st0 (mi := mr_67) rfl 120 ?_
  show ∃ R, cm_Lc cm_ms 84 [.ref 2] (fr 19 C) R ∧ ∀ v M', R v M' → _
  refine ⟨_, f_lineL hl, ?_⟩
  rintro v M' ⟨rfl, rfl⟩
  show (ev_cmp 1 4 (-1) = true → _) ∧ (ev_cmp 1 4 (-1) = false → _)
  refine ⟨fun h1 => ?_, fun h1 => ?_⟩
  · show (ev_cmp 1 4 0 = true → _) ∧ (ev_cmp 1 4 0 = false → _)
    refine ⟨fun h2 => ?_, fun h2 => ?_⟩
    · show (ev_cmp 0 4 0 = true → _) ∧ (ev_cmp 0 4 0 = false → _)
      refine ⟨fun h3 => ?_, fun h3 => ?_⟩
      · exact absurd h3 (by decide)
      · show (ev_cmp 1 (C.1 2 8) 0 = true → _) ∧ (ev_cmp 1 (C.1 2 8) 0 = false → _)
        refine ⟨fun h4 => ?_, fun h4 => ?_⟩
        · have g4 := fn_ne h4
          show ∃ R, cm_Lc cm_ms 69 [.ref 2, .int 4] (fr 19 C) R ∧ ∀ v M', R v M' → _
          refine ⟨_, f_toldN4_19 C, ?_⟩
          rintro v M' ⟨rfl, rfl⟩
          show ∃ R, cm_Lc cm_ms 68 [.int 4] (fr 19 C) R ∧ ∀ v M', R v M' → _
          refine ⟨_, f_room4 _, ?_⟩
          rintro v M' ⟨rfl, rfl⟩
          show (ev_cmp 2 (toC 19 C 4) 6 = true → _) ∧ (ev_cmp 2 (toC 19 C 4) 6 = false → _)
          refine ⟨fun h5 => ?_, fun h5 => ?_⟩
          · have g5 := fn_lt h5
            show ∃ R, cm_Lc cm_ms 88 [.ref 2] (fr 19 C) R ∧ ∀ v M', R v M' → _
            refine ⟨_, f_step h, ?_⟩
            rintro v M' ⟨rfl, A1, e1, rfl⟩
            have k1 : RC N A1 := by rw [e1]; exact RC_step h
            have y1 : A1.1 2 9 = 0 := by rw [e1, cF_step_9]; exact h0
            show (ev_cmp 1 (A1.1 2 9) 0 = true → _) ∧ (ev_cmp 1 (A1.1 2 9) 0 = false → _)
            refine ⟨fun h6 => ?_, fun h6 => ?_⟩
            · exact absurd y1 (fn_ne h6)
            · show ((4 : Int32).toInt < 0 ∨ 7 < (4 : Int32).toInt → _) ∧ (∀ (j : Nat) (o : Int), ([46, 53, 60, 67, 74, 81, 88, 95] : List Int)[j]? = some o → (4 : Int32).toInt = 0 + (j : Int) → _)
              refine sw_k 4 74 rfl (by decide) (by decide) ?_
              show ∃ R, cm_Lc cm_ms 74 [.ref 2] (fr 19 A1) R ∧ ∀ v M', R v M' → _
              refine ⟨_, f_amends19 k1, ?_⟩
              rintro v M' ⟨rfl, A2, e2, rfl⟩
              show fq 19 none (rl_G (cF_amends 19) N (fuC 19 C 4 6) C) none (fr 19 A2)
              refine ⟨rfl, A2, ?_, rfl⟩
              unfold rl_G
              rw [if_neg g4, fu_f g5, if_neg (by decide), e2, e1]
          · have g5 := fn_nlt h5
            show ∃ R, cm_Lc cm_ms 66 [.ref 2, .int 5] (fr 19 C) R ∧ ∀ v M', R v M' → _
            refine ⟨_, f_fail 5 _, ?_⟩
            rintro v M' ⟨rfl, A1, e1, rfl⟩
            have k1 : RC N A1 := by rw [e1]; exact RC_fail _ h
            have y1 : A1.1 2 9 ≠ 0 := by rw [e1]; exact cF_fail_9n (by decide)
            show ∃ R, cm_Lc cm_ms 88 [.ref 2] (fr 19 A1) R ∧ ∀ v M', R v M' → _
            refine ⟨_, f_step k1, ?_⟩
            rintro v M' ⟨rfl, A2, e2, rfl⟩
            have k2 : RC N A2 := by rw [e2]; exact RC_step k1
            have y2 : A2.1 2 9 ≠ 0 := by rw [e2, cF_step_9]; exact y1
            show (ev_cmp 1 (A2.1 2 9) 0 = true → _) ∧ (ev_cmp 1 (A2.1 2 9) 0 = false → _)
            refine ⟨fun h7 => ?_, fun h7 => ?_⟩
            · show (((-1) : Int32).toInt < 0 ∨ 7 < ((-1) : Int32).toInt → _) ∧ (∀ (j : Nat) (o : Int), ([46, 53, 60, 67, 74, 81, 88, 95] : List Int)[j]? = some o → ((-1) : Int32).toInt = 0 + (j : Int) → _)
              refine sw_d (by decide) (by decide) ?_
              show fq 19 none (rl_G (cF_amends 19) N (fuC 19 C 4 6) C) none (fr 19 A2)
              refine ⟨rfl, A2, ?_, rfl⟩
              unfold rl_G
              rw [if_neg g4, fu_t g5, if_pos rfl, e2, cF_step_id y1, e1]
            · exact absurd (fn_eq h7) y2
        · have g4 := fn_eq h4
          show ∃ R, cm_Lc cm_ms 66 [.ref 2, .int 6] (fr 19 C) R ∧ ∀ v M', R v M' → _
          refine ⟨_, f_fail 6 _, ?_⟩
          rintro v M' ⟨rfl, A1, e1, rfl⟩
          have k1 : RC N A1 := by rw [e1]; exact RC_fail _ h
          have y1 : A1.1 2 9 ≠ 0 := by rw [e1]; exact cF_fail_9n (by decide)
          show ∃ R, cm_Lc cm_ms 88 [.ref 2] (fr 19 A1) R ∧ ∀ v M', R v M' → _
          refine ⟨_, f_step k1, ?_⟩
          rintro v M' ⟨rfl, A2, e2, rfl⟩
          have k2 : RC N A2 := by rw [e2]; exact RC_step k1
          have y2 : A2.1 2 9 ≠ 0 := by rw [e2, cF_step_9]; exact y1
          show (ev_cmp 1 (A2.1 2 9) 0 = true → _) ∧ (ev_cmp 1 (A2.1 2 9) 0 = false → _)
          refine ⟨fun h8 => ?_, fun h8 => ?_⟩
          · show (((-1) : Int32).toInt < 0 ∨ 7 < ((-1) : Int32).toInt → _) ∧ (∀ (j : Nat) (o : Int), ([46, 53, 60, 67, 74, 81, 88, 95] : List Int)[j]? = some o → ((-1) : Int32).toInt = 0 + (j : Int) → _)
            refine sw_d (by decide) (by decide) ?_
            show fq 19 none (rl_G (cF_amends 19) N (fuC 19 C 4 6) C) none (fr 19 A2)
            refine ⟨rfl, A2, ?_, rfl⟩
            unfold rl_G
            rw [if_pos g4, e2, cF_step_id y1, e1]
          · exact absurd (fn_eq h8) y2
    · exact absurd h2 (by decide)
  · exact absurd h1 (by decide)
set_option maxRecDepth 100000 in
set_option maxHeartbeats 4000000 in
theorem f_rl5_19 {N : Nat} {C : cm_M} (h : RC N C) (h0 : C.1 2 9 = 0) (hl : cF_line C = 5) : cm_Lc cm_ms 67 [.ref 2] (fr 19 C) (fq 19 none (rl_G (cF_quarrel 19) N (fuC 19 C 5 9) C)) := by
  refine lb_st0 (mi := mr_67) rfl 120 ?_
  show ∃ R, cm_Lc cm_ms 84 [.ref 2] (fr 19 C) R ∧ ∀ v M', R v M' → _
  refine ⟨_, f_lineL hl, ?_⟩
  rintro v M' ⟨rfl, rfl⟩
  show (ev_cmp 1 5 (-1) = true → _) ∧ (ev_cmp 1 5 (-1) = false → _)
  refine ⟨fun h1 => ?_, fun h1 => ?_⟩
  · show (ev_cmp 1 5 0 = true → _) ∧ (ev_cmp 1 5 0 = false → _)
    refine ⟨fun h2 => ?_, fun h2 => ?_⟩
    · show (ev_cmp 0 5 0 = true → _) ∧ (ev_cmp 0 5 0 = false → _)
      refine ⟨fun h3 => ?_, fun h3 => ?_⟩
      · exact absurd h3 (by decide)
      · show (ev_cmp 1 (C.1 2 8) 0 = true → _) ∧ (ev_cmp 1 (C.1 2 8) 0 = false → _)
        refine ⟨fun h4 => ?_, fun h4 => ?_⟩
        · have g4 := fn_ne h4
          show ∃ R, cm_Lc cm_ms 69 [.ref 2, .int 5] (fr 19 C) R ∧ ∀ v M', R v M' → _
          refine ⟨_, f_toldN5_19 C, ?_⟩
          rintro v M' ⟨rfl, rfl⟩
          show ∃ R, cm_Lc cm_ms 68 [.int 5] (fr 19 C) R ∧ ∀ v M', R v M' → _
          refine ⟨_, f_room5 _, ?_⟩
          rintro v M' ⟨rfl, rfl⟩
          show (ev_cmp 2 (toC 19 C 5) 9 = true → _) ∧ (ev_cmp 2 (toC 19 C 5) 9 = false → _)
          refine ⟨fun h5 => ?_, fun h5 => ?_⟩
          · have g5 := fn_lt h5
            show ∃ R, cm_Lc cm_ms 88 [.ref 2] (fr 19 C) R ∧ ∀ v M', R v M' → _
            refine ⟨_, f_step h, ?_⟩
            rintro v M' ⟨rfl, A1, e1, rfl⟩
            have k1 : RC N A1 := by rw [e1]; exact RC_step h
            have y1 : A1.1 2 9 = 0 := by rw [e1, cF_step_9]; exact h0
            show (ev_cmp 1 (A1.1 2 9) 0 = true → _) ∧ (ev_cmp 1 (A1.1 2 9) 0 = false → _)
            refine ⟨fun h6 => ?_, fun h6 => ?_⟩
            · exact absurd y1 (fn_ne h6)
            · show ((5 : Int32).toInt < 0 ∨ 7 < (5 : Int32).toInt → _) ∧ (∀ (j : Nat) (o : Int), ([46, 53, 60, 67, 74, 81, 88, 95] : List Int)[j]? = some o → (5 : Int32).toInt = 0 + (j : Int) → _)
              refine sw_k 5 81 rfl (by decide) (by decide) ?_
              show ∃ R, cm_Lc cm_ms 75 [.ref 2] (fr 19 A1) R ∧ ∀ v M', R v M' → _
              refine ⟨_, f_quarrel19 k1, ?_⟩
              rintro v M' ⟨rfl, A2, e2, rfl⟩
              show fq 19 none (rl_G (cF_quarrel 19) N (fuC 19 C 5 9) C) none (fr 19 A2)
              refine ⟨rfl, A2, ?_, rfl⟩
              unfold rl_G
              rw [if_neg g4, fu_f g5, if_neg (by decide), e2, e1]
          · have g5 := fn_nlt h5
            show ∃ R, cm_Lc cm_ms 66 [.ref 2, .int 5] (fr 19 C) R ∧ ∀ v M', R v M' → _
            refine ⟨_, f_fail 5 _, ?_⟩
            rintro v M' ⟨rfl, A1, e1, rfl⟩
            have k1 : RC N A1 := by rw [e1]; exact RC_fail _ h
            have y1 : A1.1 2 9 ≠ 0 := by rw [e1]; exact cF_fail_9n (by decide)
            show ∃ R, cm_Lc cm_ms 88 [.ref 2] (fr 19 A1) R ∧ ∀ v M', R v M' → _
            refine ⟨_, f_step k1, ?_⟩
            rintro v M' ⟨rfl, A2, e2, rfl⟩
            have k2 : RC N A2 := by rw [e2]; exact RC_step k1
            have y2 : A2.1 2 9 ≠ 0 := by rw [e2, cF_step_9]; exact y1
            show (ev_cmp 1 (A2.1 2 9) 0 = true → _) ∧ (ev_cmp 1 (A2.1 2 9) 0 = false → _)
            refine ⟨fun h7 => ?_, fun h7 => ?_⟩
            · show (((-1) : Int32).toInt < 0 ∨ 7 < ((-1) : Int32).toInt → _) ∧ (∀ (j : Nat) (o : Int), ([46, 53, 60, 67, 74, 81, 88, 95] : List Int)[j]? = some o → ((-1) : Int32).toInt = 0 + (j : Int) → _)
              refine sw_d (by decide) (by decide) ?_
              show fq 19 none (rl_G (cF_quarrel 19) N (fuC 19 C 5 9) C) none (fr 19 A2)
              refine ⟨rfl, A2, ?_, rfl⟩
              unfold rl_G
              rw [if_neg g4, fu_t g5, if_pos rfl, e2, cF_step_id y1, e1]
            · exact absurd (fn_eq h7) y2
        · have g4 := fn_eq h4
          show ∃ R, cm_Lc cm_ms 66 [.ref 2, .int 6] (fr 19 C) R ∧ ∀ v M', R v M' → _
          refine ⟨_, f_fail 6 _, ?_⟩
          rintro v M' ⟨rfl, A1, e1, rfl⟩
          have k1 : RC N A1 := by rw [e1]; exact RC_fail _ h
          have y1 : A1.1 2 9 ≠ 0 := by rw [e1]; exact cF_fail_9n (by decide)
          show ∃ R, cm_Lc cm_ms 88 [.ref 2] (fr 19 A1) R ∧ ∀ v M', R v M' → _
          refine ⟨_, f_step k1, ?_⟩
          rintro v M' ⟨rfl, A2, e2, rfl⟩
          have k2 : RC N A2 := by rw [e2]; exact RC_step k1
          have y2 : A2.1 2 9 ≠ 0 := by rw [e2, cF_step_9]; exact y1
          show (ev_cmp 1 (A2.1 2 9) 0 = true → _) ∧ (ev_cmp 1 (A2.1 2 9) 0 = false → _)
          refine ⟨fun h8 => ?_, fun h8 => ?_⟩
          · show (((-1) : Int32).toInt < 0 ∨ 7 < ((-1) : Int32).toInt → _) ∧ (∀ (j : Nat) (o : Int), ([46, 53, 60, 67, 74, 81, 88, 95] : List Int)[j]? = some o → ((-1) : Int32).toInt = 0 + (j : Int) → _)
            refine sw_d (by decide) (by decide) ?_
            show fq 19 none (rl_G (cF_quarrel 19) N (fuC 19 C 5 9) C) none (fr 19 A2)
            refine ⟨rfl, A2, ?_, rfl⟩
            unfold rl_G
            rw [if_pos g4, e2, cF_step_id y1, e1]
          · exact absurd (fn_eq h8) y2
    · exact absurd h2 (by decide)
  · exact absurd h1 (by decide)
set_option maxRecDepth 100000 in
set_option maxHeartbeats 4000000 in
theorem f_rl6_19 {N : Nat} {C : cm_M} (h : RC N C) (h0 : C.1 2 9 = 0) (hl : cF_line C = 6) : cm_Lc cm_ms 67 [.ref 2] (fr 19 C) (fq 19 none (rl_G (cF_chair 19) N (fuC 19 C 6 5) C)) := by
  refine lb_st0 (mi := mr_67) rfl 120 ?_
  show ∃ R, cm_Lc cm_ms 84 [.ref 2] (fr 19 C) R ∧ ∀ v M', R v M' → _
  refine ⟨_, f_lineL hl, ?_⟩
  rintro v M' ⟨rfl, rfl⟩
  show (ev_cmp 1 6 (-1) = true → _) ∧ (ev_cmp 1 6 (-1) = false → _)
  refine ⟨fun h1 => ?_, fun h1 => ?_⟩
  · show (ev_cmp 1 6 0 = true → _) ∧ (ev_cmp 1 6 0 = false → _)
    refine ⟨fun h2 => ?_, fun h2 => ?_⟩
    · show (ev_cmp 0 6 0 = true → _) ∧ (ev_cmp 0 6 0 = false → _)
      refine ⟨fun h3 => ?_, fun h3 => ?_⟩
      · exact absurd h3 (by decide)
      · show (ev_cmp 1 (C.1 2 8) 0 = true → _) ∧ (ev_cmp 1 (C.1 2 8) 0 = false → _)
        refine ⟨fun h4 => ?_, fun h4 => ?_⟩
        · have g4 := fn_ne h4
          show ∃ R, cm_Lc cm_ms 69 [.ref 2, .int 6] (fr 19 C) R ∧ ∀ v M', R v M' → _
          refine ⟨_, f_toldN6_19 C, ?_⟩
          rintro v M' ⟨rfl, rfl⟩
          show ∃ R, cm_Lc cm_ms 68 [.int 6] (fr 19 C) R ∧ ∀ v M', R v M' → _
          refine ⟨_, f_room6 _, ?_⟩
          rintro v M' ⟨rfl, rfl⟩
          show (ev_cmp 2 (toC 19 C 6) 5 = true → _) ∧ (ev_cmp 2 (toC 19 C 6) 5 = false → _)
          refine ⟨fun h5 => ?_, fun h5 => ?_⟩
          · have g5 := fn_lt h5
            show ∃ R, cm_Lc cm_ms 88 [.ref 2] (fr 19 C) R ∧ ∀ v M', R v M' → _
            refine ⟨_, f_step h, ?_⟩
            rintro v M' ⟨rfl, A1, e1, rfl⟩
            have k1 : RC N A1 := by rw [e1]; exact RC_step h
            have y1 : A1.1 2 9 = 0 := by rw [e1, cF_step_9]; exact h0
            show (ev_cmp 1 (A1.1 2 9) 0 = true → _) ∧ (ev_cmp 1 (A1.1 2 9) 0 = false → _)
            refine ⟨fun h6 => ?_, fun h6 => ?_⟩
            · exact absurd y1 (fn_ne h6)
            · show ((6 : Int32).toInt < 0 ∨ 7 < (6 : Int32).toInt → _) ∧ (∀ (j : Nat) (o : Int), ([46, 53, 60, 67, 74, 81, 88, 95] : List Int)[j]? = some o → (6 : Int32).toInt = 0 + (j : Int) → _)
              refine sw_k 6 88 rfl (by decide) (by decide) ?_
              show ∃ R, cm_Lc cm_ms 76 [.ref 2] (fr 19 A1) R ∧ ∀ v M', R v M' → _
              refine ⟨_, f_chair19 k1, ?_⟩
              rintro v M' ⟨rfl, A2, e2, rfl⟩
              show fq 19 none (rl_G (cF_chair 19) N (fuC 19 C 6 5) C) none (fr 19 A2)
              refine ⟨rfl, A2, ?_, rfl⟩
              unfold rl_G
              rw [if_neg g4, fu_f g5, if_neg (by decide), e2, e1]
          · have g5 := fn_nlt h5
            show ∃ R, cm_Lc cm_ms 66 [.ref 2, .int 5] (fr 19 C) R ∧ ∀ v M', R v M' → _
            refine ⟨_, f_fail 5 _, ?_⟩
            rintro v M' ⟨rfl, A1, e1, rfl⟩
            have k1 : RC N A1 := by rw [e1]; exact RC_fail _ h
            have y1 : A1.1 2 9 ≠ 0 := by rw [e1]; exact cF_fail_9n (by decide)
            show ∃ R, cm_Lc cm_ms 88 [.ref 2] (fr 19 A1) R ∧ ∀ v M', R v M' → _
            refine ⟨_, f_step k1, ?_⟩
            rintro v M' ⟨rfl, A2, e2, rfl⟩
            have k2 : RC N A2 := by rw [e2]; exact RC_step k1
            have y2 : A2.1 2 9 ≠ 0 := by rw [e2, cF_step_9]; exact y1
            show (ev_cmp 1 (A2.1 2 9) 0 = true → _) ∧ (ev_cmp 1 (A2.1 2 9) 0 = false → _)
            refine ⟨fun h7 => ?_, fun h7 => ?_⟩
            · show (((-1) : Int32).toInt < 0 ∨ 7 < ((-1) : Int32).toInt → _) ∧ (∀ (j : Nat) (o : Int), ([46, 53, 60, 67, 74, 81, 88, 95] : List Int)[j]? = some o → ((-1) : Int32).toInt = 0 + (j : Int) → _)
              refine sw_d (by decide) (by decide) ?_
              show fq 19 none (rl_G (cF_chair 19) N (fuC 19 C 6 5) C) none (fr 19 A2)
              refine ⟨rfl, A2, ?_, rfl⟩
              unfold rl_G
              rw [if_neg g4, fu_t g5, if_pos rfl, e2, cF_step_id y1, e1]
            · exact absurd (fn_eq h7) y2
        · have g4 := fn_eq h4
          show ∃ R, cm_Lc cm_ms 66 [.ref 2, .int 6] (fr 19 C) R ∧ ∀ v M', R v M' → _
          refine ⟨_, f_fail 6 _, ?_⟩
          rintro v M' ⟨rfl, A1, e1, rfl⟩
          have k1 : RC N A1 := by rw [e1]; exact RC_fail _ h
          have y1 : A1.1 2 9 ≠ 0 := by rw [e1]; exact cF_fail_9n (by decide)
          show ∃ R, cm_Lc cm_ms 88 [.ref 2] (fr 19 A1) R ∧ ∀ v M', R v M' → _
          refine ⟨_, f_step k1, ?_⟩
          rintro v M' ⟨rfl, A2, e2, rfl⟩
          have k2 : RC N A2 := by rw [e2]; exact RC_step k1
          have y2 : A2.1 2 9 ≠ 0 := by rw [e2, cF_step_9]; exact y1
          show (ev_cmp 1 (A2.1 2 9) 0 = true → _) ∧ (ev_cmp 1 (A2.1 2 9) 0 = false → _)
          refine ⟨fun h8 => ?_, fun h8 => ?_⟩
          · show (((-1) : Int32).toInt < 0 ∨ 7 < ((-1) : Int32).toInt → _) ∧ (∀ (j : Nat) (o : Int), ([46, 53, 60, 67, 74, 81, 88, 95] : List Int)[j]? = some o → ((-1) : Int32).toInt = 0 + (j : Int) → _)
            refine sw_d (by decide) (by decide) ?_
            show fq 19 none (rl_G (cF_chair 19) N (fuC 19 C 6 5) C) none (fr 19 A2)
            refine ⟨rfl, A2, ?_, rfl⟩
            unfold rl_G
            rw [if_pos g4, e2, cF_step_id y1, e1]
          · exact absurd (fn_eq h8) y2
    · exact absurd h2 (by decide)
  · exact absurd h1 (by decide)
set_option maxRecDepth 100000 in
set_option maxHeartbeats 4000000 in
theorem f_rl7_19 {N : Nat} {C : cm_M} (h : RC N C) (h0 : C.1 2 9 = 0) (hl : cF_line C = 7) : cm_Lc cm_ms 67 [.ref 2] (fr 19 C) (fq 19 none (rl_G (cF_heap 19) N (fuC 19 C 7 900) C)) := by
  refine lb_st0 (mi := mr_67) rfl 120 ?_
  show ∃ R, cm_Lc cm_ms 84 [.ref 2] (fr 19 C) R ∧ ∀ v M', R v M' → _
  refine ⟨_, f_lineL hl, ?_⟩
  rintro v M' ⟨rfl, rfl⟩
  show (ev_cmp 1 7 (-1) = true → _) ∧ (ev_cmp 1 7 (-1) = false → _)
  refine ⟨fun h1 => ?_, fun h1 => ?_⟩
  · show (ev_cmp 1 7 0 = true → _) ∧ (ev_cmp 1 7 0 = false → _)
    refine ⟨fun h2 => ?_, fun h2 => ?_⟩
    · show (ev_cmp 0 7 0 = true → _) ∧ (ev_cmp 0 7 0 = false → _)
      refine ⟨fun h3 => ?_, fun h3 => ?_⟩
      · exact absurd h3 (by decide)
      · show (ev_cmp 1 (C.1 2 8) 0 = true → _) ∧ (ev_cmp 1 (C.1 2 8) 0 = false → _)
        refine ⟨fun h4 => ?_, fun h4 => ?_⟩
        · have g4 := fn_ne h4
          show ∃ R, cm_Lc cm_ms 69 [.ref 2, .int 7] (fr 19 C) R ∧ ∀ v M', R v M' → _
          refine ⟨_, f_toldN7_19 C, ?_⟩
          rintro v M' ⟨rfl, rfl⟩
          show ∃ R, cm_Lc cm_ms 68 [.int 7] (fr 19 C) R ∧ ∀ v M', R v M' → _
          refine ⟨_, f_room7 _, ?_⟩
          rintro v M' ⟨rfl, rfl⟩
          show (ev_cmp 2 (toC 19 C 7) 900 = true → _) ∧ (ev_cmp 2 (toC 19 C 7) 900 = false → _)
          refine ⟨fun h5 => ?_, fun h5 => ?_⟩
          · have g5 := fn_lt h5
            show ∃ R, cm_Lc cm_ms 88 [.ref 2] (fr 19 C) R ∧ ∀ v M', R v M' → _
            refine ⟨_, f_step h, ?_⟩
            rintro v M' ⟨rfl, A1, e1, rfl⟩
            have k1 : RC N A1 := by rw [e1]; exact RC_step h
            have y1 : A1.1 2 9 = 0 := by rw [e1, cF_step_9]; exact h0
            show (ev_cmp 1 (A1.1 2 9) 0 = true → _) ∧ (ev_cmp 1 (A1.1 2 9) 0 = false → _)
            refine ⟨fun h6 => ?_, fun h6 => ?_⟩
            · exact absurd y1 (fn_ne h6)
            · show ((7 : Int32).toInt < 0 ∨ 7 < (7 : Int32).toInt → _) ∧ (∀ (j : Nat) (o : Int), ([46, 53, 60, 67, 74, 81, 88, 95] : List Int)[j]? = some o → (7 : Int32).toInt = 0 + (j : Int) → _)
              refine sw_k 7 95 rfl (by decide) (by decide) ?_
              show ∃ R, cm_Lc cm_ms 77 [.ref 2] (fr 19 A1) R ∧ ∀ v M', R v M' → _
              refine ⟨_, f_heap19 k1, ?_⟩
              rintro v M' ⟨rfl, A2, e2, rfl⟩
              show fq 19 none (rl_G (cF_heap 19) N (fuC 19 C 7 900) C) none (fr 19 A2)
              refine ⟨rfl, A2, ?_, rfl⟩
              unfold rl_G
              rw [if_neg g4, fu_f g5, if_neg (by decide), e2, e1]
          · have g5 := fn_nlt h5
            show ∃ R, cm_Lc cm_ms 66 [.ref 2, .int 5] (fr 19 C) R ∧ ∀ v M', R v M' → _
            refine ⟨_, f_fail 5 _, ?_⟩
            rintro v M' ⟨rfl, A1, e1, rfl⟩
            have k1 : RC N A1 := by rw [e1]; exact RC_fail _ h
            have y1 : A1.1 2 9 ≠ 0 := by rw [e1]; exact cF_fail_9n (by decide)
            show ∃ R, cm_Lc cm_ms 88 [.ref 2] (fr 19 A1) R ∧ ∀ v M', R v M' → _
            refine ⟨_, f_step k1, ?_⟩
            rintro v M' ⟨rfl, A2, e2, rfl⟩
            have k2 : RC N A2 := by rw [e2]; exact RC_step k1
            have y2 : A2.1 2 9 ≠ 0 := by rw [e2, cF_step_9]; exact y1
            show (ev_cmp 1 (A2.1 2 9) 0 = true → _) ∧ (ev_cmp 1 (A2.1 2 9) 0 = false → _)
            refine ⟨fun h7 => ?_, fun h7 => ?_⟩
            · show (((-1) : Int32).toInt < 0 ∨ 7 < ((-1) : Int32).toInt → _) ∧ (∀ (j : Nat) (o : Int), ([46, 53, 60, 67, 74, 81, 88, 95] : List Int)[j]? = some o → ((-1) : Int32).toInt = 0 + (j : Int) → _)
              refine sw_d (by decide) (by decide) ?_
              show fq 19 none (rl_G (cF_heap 19) N (fuC 19 C 7 900) C) none (fr 19 A2)
              refine ⟨rfl, A2, ?_, rfl⟩
              unfold rl_G
              rw [if_neg g4, fu_t g5, if_pos rfl, e2, cF_step_id y1, e1]
            · exact absurd (fn_eq h7) y2
        · have g4 := fn_eq h4
          show ∃ R, cm_Lc cm_ms 66 [.ref 2, .int 6] (fr 19 C) R ∧ ∀ v M', R v M' → _
          refine ⟨_, f_fail 6 _, ?_⟩
          rintro v M' ⟨rfl, A1, e1, rfl⟩
          have k1 : RC N A1 := by rw [e1]; exact RC_fail _ h
          have y1 : A1.1 2 9 ≠ 0 := by rw [e1]; exact cF_fail_9n (by decide)
          show ∃ R, cm_Lc cm_ms 88 [.ref 2] (fr 19 A1) R ∧ ∀ v M', R v M' → _
          refine ⟨_, f_step k1, ?_⟩
          rintro v M' ⟨rfl, A2, e2, rfl⟩
          have k2 : RC N A2 := by rw [e2]; exact RC_step k1
          have y2 : A2.1 2 9 ≠ 0 := by rw [e2, cF_step_9]; exact y1
          show (ev_cmp 1 (A2.1 2 9) 0 = true → _) ∧ (ev_cmp 1 (A2.1 2 9) 0 = false → _)
          refine ⟨fun h8 => ?_, fun h8 => ?_⟩
          · show (((-1) : Int32).toInt < 0 ∨ 7 < ((-1) : Int32).toInt → _) ∧ (∀ (j : Nat) (o : Int), ([46, 53, 60, 67, 74, 81, 88, 95] : List Int)[j]? = some o → ((-1) : Int32).toInt = 0 + (j : Int) → _)
            refine sw_d (by decide) (by decide) ?_
            show fq 19 none (rl_G (cF_heap 19) N (fuC 19 C 7 900) C) none (fr 19 A2)
            refine ⟨rfl, A2, ?_, rfl⟩
            unfold rl_G
            rw [if_pos g4, e2, cF_step_id y1, e1]
          · exact absurd (fn_eq h8) y2
    · exact absurd h2 (by decide)
  · exact absurd h1 (by decide)
theorem f_readLine19 {N : Nat} {C : cm_M} (h : RC N C) (h0 : C.1 2 9 = 0) : cm_Lc cm_ms 67 [.ref 2] (fr 19 C) (fq 19 none (rl_F 19 N C)) := by
  unfold rl_F
  rcases ln_cs C 8 0 with ⟨a, -⟩ | ⟨i, -, a2, a3, -, -⟩
  · have hl : cF_line C = -1 := a
    rw [if_pos hl]
    exact f_rln_19 h h0 hl
  · have hl : cF_line C = Int32.ofNat i := a3
    rcases (by omega : i = 0 ∨ i = 1 ∨ i = 2 ∨ i = 3 ∨ i = 4 ∨ i = 5 ∨ i = 6 ∨ i = 7) with rfl | rfl | rfl | rfl | rfl | rfl | rfl | rfl
    · have hl : cF_line C = 0 := hl
      rw [hl, if_neg (c := (0 : Int32) = (-1)) (by decide), if_pos rfl]
      exact f_rl0_19 h h0 hl
    · have hl : cF_line C = 1 := hl
      rw [hl, if_neg (c := (1 : Int32) = (-1)) (by decide), if_neg (c := (1 : Int32) = 0) (by decide), if_pos rfl]
      exact f_rl1_19 h h0 hl
    · have hl : cF_line C = 2 := hl
      rw [hl, if_neg (c := (2 : Int32) = (-1)) (by decide), if_neg (c := (2 : Int32) = 0) (by decide), if_neg (c := (2 : Int32) = 1) (by decide), if_pos rfl]
      exact f_rl2_19 h h0 hl
    · have hl : cF_line C = 3 := hl
      rw [hl, if_neg (c := (3 : Int32) = (-1)) (by decide), if_neg (c := (3 : Int32) = 0) (by decide), if_neg (c := (3 : Int32) = 1) (by decide), if_neg (c := (3 : Int32) = 2) (by decide), if_pos rfl]
      exact f_rl3_19 h h0 hl
    · have hl : cF_line C = 4 := hl
      rw [hl, if_neg (c := (4 : Int32) = (-1)) (by decide), if_neg (c := (4 : Int32) = 0) (by decide), if_neg (c := (4 : Int32) = 1) (by decide), if_neg (c := (4 : Int32) = 2) (by decide), if_neg (c := (4 : Int32) = 3) (by decide), if_pos rfl]
      exact f_rl4_19 h h0 hl
    · have hl : cF_line C = 5 := hl
      rw [hl, if_neg (c := (5 : Int32) = (-1)) (by decide), if_neg (c := (5 : Int32) = 0) (by decide), if_neg (c := (5 : Int32) = 1) (by decide), if_neg (c := (5 : Int32) = 2) (by decide), if_neg (c := (5 : Int32) = 3) (by decide), if_neg (c := (5 : Int32) = 4) (by decide), if_pos rfl]
      exact f_rl5_19 h h0 hl
    · have hl : cF_line C = 6 := hl
      rw [hl, if_neg (c := (6 : Int32) = (-1)) (by decide), if_neg (c := (6 : Int32) = 0) (by decide), if_neg (c := (6 : Int32) = 1) (by decide), if_neg (c := (6 : Int32) = 2) (by decide), if_neg (c := (6 : Int32) = 3) (by decide), if_neg (c := (6 : Int32) = 4) (by decide), if_neg (c := (6 : Int32) = 5) (by decide), if_pos rfl]
      exact f_rl6_19 h h0 hl
    · have hl : cF_line C = 7 := hl
      rw [hl, if_neg (c := (7 : Int32) = (-1)) (by decide), if_neg (c := (7 : Int32) = 0) (by decide), if_neg (c := (7 : Int32) = 1) (by decide), if_neg (c := (7 : Int32) = 2) (by decide), if_neg (c := (7 : Int32) = 3) (by decide), if_neg (c := (7 : Int32) = 4) (by decide), if_neg (c := (7 : Int32) = 5) (by decide), if_neg (c := (7 : Int32) = 6) (by decide)]
      exact f_rl7_19 h h0 hl
