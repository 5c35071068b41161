theorem m_isW1 {N t : Nat} (ht : t < 40) {C D : cm_M} (h : Rq N C D) (h0 : C.1 2 9 = 0) (hw : wt t C = true) : cm_Lc cm_ms 178 [.ref 124, .ref (1001 + 2 * t)] (fm D) (fun v M' => v = some (.int 1) ∧ M' = fm D) := by
  refine cm_Lc_im (m_isWord ht h) (fun v M' q => ⟨?_, q.2⟩)
  rw [q.1, hw, decide_eq_true h0]
  try rfl
theorem m_isW0 {N t : Nat} (ht : t < 40) {C D : cm_M} (h : Rq N C D) (h0 : C.1 2 9 = 0) (hw : wt t C = false) : cm_Lc cm_ms 178 [.ref 124, .ref (1001 + 2 * t)] (fm D) (fun v M' => v = some (.int 0) ∧ M' = fm D) := by
  refine cm_Lc_im (m_isWord ht h) (fun v M' q => ⟨?_, q.2⟩)
  rw [q.1, hw, decide_eq_true h0]
  try rfl
noncomputable abbrev bg_K (N : Nat) (X D : cm_M) : cm_K := fun v M' => v = some (.int 1) ∧ ∃ D', M' = fm D' ∧ Rq N X D' ∧ D'.1 128 = D.1 128
set_option maxRecDepth 100000 in
set_option maxHeartbeats 1000000 in
theorem m_beg0 {N t : Nat} (ht : t < 40) {C D : cm_M} (h : Rq N C D) (h0 : C.1 2 9 = 0) (hF : D.1 128 10 = C.1 2 8) (hw : wt t C = true) : cm_Lc cm_ms 193 [.ref 124, .ref (1001 + 2 * t), .int 0] (fm D) (bg_K N (cF_fail 5 C) D) := by
  refine lb_st0 (mi := mr_193) rfl 60 ?_
  show ∃ R, cm_Lc cm_ms 178 [.ref 124, .ref (1001 + 2 * t)] (fm D) R ∧ ∀ v M', R v M' → _
  refine ⟨_, m_isW1 (t := t) ht h h0 hw, ?_⟩
  rintro v M' ⟨rfl, rfl⟩
  show (ev_cmp 1 1 0 = true → _) ∧ (ev_cmp 1 1 0 = false → _)
  refine ⟨fun h1 => ?_, fun h1 => ?_⟩
  · show (ev_cmp 1 0 0 = true → _) ∧ (ev_cmp 1 0 0 = false → _)
    refine ⟨fun h2 => ?_, fun h2 => ?_⟩
    · exact absurd h2 (by decide)
    · show ∃ R, cm_Lc cm_ms 177 [.ref 124, .int 5, .int (D.1 124 4)] (fm D) R ∧ ∀ v M', R v M' → _
      refine ⟨_, cm_Lc_nm (R := fun X => mq N X D) (cF_fail 5 C) (m_wrong h (x := 5) (by decide)), ?_⟩
      rintro v M' ⟨C1, e1, rfl, D1, rfl, r1, f1⟩
      show (ev_cmp 1 (D1.1 128 10) 0 = true → _) ∧ (ev_cmp 1 (D1.1 128 10) 0 = false → _)
      refine ⟨fun h3 => ?_, fun h3 => ?_⟩
      · have g3 := fn_ne h3
        show ∃ R, cm_Lc cm_ms 187 [.ref 124] (fm D1) R ∧ ∀ v M', R v M' → _
        refine ⟨_, cm_Lc_nm (R := fun X => mq N X D1) (cF_step N C1) (m_pass r1), ?_⟩
        rintro v M' ⟨C2, e2, rfl, D2, rfl, r2, f2⟩
        show bg_K N (cF_fail 5 C) D (some (.int 1)) (fm D2)
        have y1 : C1.1 2 9 ≠ 0 := by rw [e1]; exact cF_fail_9n (by decide)
        have e : C2 = cF_fail 5 C := by
          rw [e2, cF_step_id y1, e1]
        exact ⟨rfl, D2, rfl, e ▸ r2, f2.trans (f1)⟩
      · have g3 := fn_eq h3
        show ∃ R, cm_Lc cm_ms 177 [.ref 124, .int 6, .int (D1.1 124 4)] (fm D1) R ∧ ∀ v M', R v M' → _
        refine ⟨_, cm_Lc_nm (R := fun X => mq N X D1) (cF_fail 6 C1) (m_wrong r1 (x := 6) (by decide)), ?_⟩
        rintro v M' ⟨C2, e2, rfl, D2, rfl, r2, f2⟩
        show ∃ R, cm_Lc cm_ms 187 [.ref 124] (fm D2) R ∧ ∀ v M', R v M' → _
        refine ⟨_, cm_Lc_nm (R := fun X => mq N X D2) (cF_step N C2) (m_pass r2), ?_⟩
        rintro v M' ⟨C3, e3, rfl, D3, rfl, r3, f3⟩
        show bg_K N (cF_fail 5 C) D (some (.int 1)) (fm D3)
        have y1 : C1.1 2 9 ≠ 0 := by rw [e1]; exact cF_fail_9n (by decide)
        have e : C3 = cF_fail 5 C := by
          rw [e3, e2, cF_fail_id y1, cF_step_id y1, e1]
        exact ⟨rfl, D3, rfl, e ▸ r3, f3.trans (f2.trans (f1))⟩
  · exact absurd h1 (by decide)
set_option maxRecDepth 100000 in
set_option maxHeartbeats 1000000 in
theorem m_beg1a {N t : Nat} (ht : t < 40) {C D : cm_M} (h : Rq N C D) (h0 : C.1 2 9 = 0) (hF : D.1 128 10 = C.1 2 8) (td : C.1 2 8 = 0) (hw : wt t C = true) : cm_Lc cm_ms 193 [.ref 124, .ref (1001 + 2 * t), .int 1] (fm D) (bg_K N (cF_fail 6 C) D) := by
  refine lb_st0 (mi := mr_193) rfl 60 ?_
  show ∃ R, cm_Lc cm_ms 178 [.ref 124, .ref (1001 + 2 * t)] (fm D) R ∧ ∀ v M', R v M' → _
  refine ⟨_, m_isW1 (t := t) ht h h0 hw, ?_⟩
  rintro v M' ⟨rfl, rfl⟩
  show (ev_cmp 1 1 0 = true → _) ∧ (ev_cmp 1 1 0 = false → _)
  refine ⟨fun h1 => ?_, fun h1 => ?_⟩
  · show (ev_cmp 1 1 0 = true → _) ∧ (ev_cmp 1 1 0 = false → _)
    refine ⟨fun h2 => ?_, fun h2 => ?_⟩
    · show (ev_cmp 1 (D.1 128 10) 0 = true → _) ∧ (ev_cmp 1 (D.1 128 10) 0 = false → _)
      refine ⟨fun h3 => ?_, fun h3 => ?_⟩
      · have g3 := fn_ne h3
        show ∃ R, cm_Lc cm_ms 187 [.ref 124] (fm D) R ∧ ∀ v M', R v M' → _
        refine ⟨_, cm_Lc_nm (R := fun X => mq N X D) (cF_step N C) (m_pass h), ?_⟩
        rintro v M' ⟨C1, e1, rfl, D1, rfl, r1, f1⟩
        show bg_K N (cF_fail 6 C) D (some (.int 1)) (fm D1)
        exact absurd (hF.trans td) g3
      · have g3 := fn_eq h3
        show ∃ R, cm_Lc cm_ms 177 [.ref 124, .int 6, .int (D.1 124 4)] (fm D) R ∧ ∀ v M', R v M' → _
        refine ⟨_, cm_Lc_nm (R := fun X => mq N X D) (cF_fail 6 C) (m_wrong h (x := 6) (by decide)), ?_⟩
        rintro v M' ⟨C1, e1, rfl, D1, rfl, r1, f1⟩
        show ∃ R, cm_Lc cm_ms 187 [.ref 124] (fm D1) R ∧ ∀ v M', R v M' → _
        refine ⟨_, cm_Lc_nm (R := fun X => mq N X D1) (cF_step N C1) (m_pass r1), ?_⟩
        rintro v M' ⟨C2, e2, rfl, D2, rfl, r2, f2⟩
        show bg_K N (cF_fail 6 C) D (some (.int 1)) (fm D2)
        have y1 : C1.1 2 9 ≠ 0 := by rw [e1]; exact cF_fail_9n (by decide)
        have e : C2 = cF_fail 6 C := by
          rw [e2, cF_step_id y1, e1]
        exact ⟨rfl, D2, rfl, e ▸ r2, f2.trans (f1)⟩
    · exact absurd h2 (by decide)
  · exact absurd h1 (by decide)
set_option maxRecDepth 100000 in
set_option maxHeartbeats 1000000 in
theorem m_beg1b {N t : Nat} (ht : t < 40) {C D : cm_M} (h : Rq N C D) (h0 : C.1 2 9 = 0) (hF : D.1 128 10 = C.1 2 8) (td : C.1 2 8 ≠ 0) (hw : wt t C = true) : cm_Lc cm_ms 193 [.ref 124, .ref (1001 + 2 * t), .int 1] (fm D) (bg_K N (cF_step N C) D) := by
  refine lb_st0 (mi := mr_193) rfl 60 ?_
  show ∃ R, cm_Lc cm_ms 178 [.ref 124, .ref (1001 + 2 * t)] (fm D) R ∧ ∀ v M', R v M' → _
  refine ⟨_, m_isW1 (t := t) ht h h0 hw, ?_⟩
  rintro v M' ⟨rfl, rfl⟩
  show (ev_cmp 1 1 0 = true → _) ∧ (ev_cmp 1 1 0 = false → _)
  refine ⟨fun h1 => ?_, fun h1 => ?_⟩
  · show (ev_cmp 1 1 0 = true → _) ∧ (ev_cmp 1 1 0 = false → _)
    refine ⟨fun h2 => ?_, fun h2 => ?_⟩
    · show (ev_cmp 1 (D.1 128 10) 0 = true → _) ∧ (ev_cmp 1 (D.1 128 10) 0 = false → _)
      refine ⟨fun h3 => ?_, fun h3 => ?_⟩
      · have g3 := fn_ne h3
        show ∃ R, cm_Lc cm_ms 187 [.ref 124] (fm D) R ∧ ∀ v M', R v M' → _
        refine ⟨_, cm_Lc_nm (R := fun X => mq N X D) (cF_step N C) (m_pass h), ?_⟩
        rintro v M' ⟨C1, e1, rfl, D1, rfl, r1, f1⟩
        show bg_K N (cF_step N C) D (some (.int 1)) (fm D1)
        exact ⟨rfl, D1, rfl, e1 ▸ r1, f1⟩
      · have g3 := fn_eq h3
        show ∃ R, cm_Lc cm_ms 177 [.ref 124, .int 6, .int (D.1 124 4)] (fm D) R ∧ ∀ v M', R v M' → _
        refine ⟨_, cm_Lc_nm (R := fun X => mq N X D) (cF_fail 6 C) (m_wrong h (x := 6) (by decide)), ?_⟩
        rintro v M' ⟨C1, e1, rfl, D1, rfl, r1, f1⟩
        show ∃ R, cm_Lc cm_ms 187 [.ref 124] (fm D1) R ∧ ∀ v M', R v M' → _
        refine ⟨_, cm_Lc_nm (R := fun X => mq N X D1) (cF_step N C1) (m_pass r1), ?_⟩
        rintro v M' ⟨C2, e2, rfl, D2, rfl, r2, f2⟩
        show bg_K N (cF_step N C) D (some (.int 1)) (fm D2)
        exact absurd (hF.symm.trans g3) td
    · exact absurd h2 (by decide)
  · exact absurd h1 (by decide)
theorem m_begN {N t : Nat} (ht : t < 40) {C D : cm_M} (h : Rq N C D) (h0 : C.1 2 9 = 0) (hw : wt t C = false) (x : Int32) : cm_Lc cm_ms 193 [.ref 124, .ref (1001 + 2 * t), .int x] (fm D) (fun v M' => v = some (.int 0) ∧ M' = fm D) := by
  refine lb_st0 (mi := mr_193) rfl 60 ?_
  show ∃ R, cm_Lc cm_ms 178 [.ref 124, .ref (1001 + 2 * t)] (fm D) R ∧ ∀ v M', R v M' → _
  refine ⟨_, m_isW0 (t := t) ht h h0 hw, ?_⟩
  rintro v M' ⟨rfl, rfl⟩
  show (ev_cmp 1 0 0 = true → _) ∧ (ev_cmp 1 0 0 = false → _)
  refine ⟨fun h1 => ?_, fun h1 => ?_⟩
  · exact absurd h1 (by decide)
  · show (fun (v : Option Value) (M' : cm_M) => v = some (.int 0) ∧ M' = fm D) (some (.int 0)) (fm D)
    exact ⟨rfl, rfl⟩
theorem wt_lt {C : cm_M} {j : Nat} (hb : ∀ i, i < j → wt i C = false) (hj : wt j C = false) : ∀ i, i < j + 1 → wt i C = false := fun i hi => by
  rcases (by omega : i < j ∨ i = j) with q | q
  · exact hb i q
  · rw [q]
    exact hj
theorem rl_G0 {g : Nat → cm_M → cm_M} {N : Nat} {b : Bool} {C : cm_M} (td : C.1 2 8 = 0) : rl_G g N b C = cF_fail 6 C := by
  unfold rl_G
  rw [if_pos td]
theorem rl_G1 {g : Nat → cm_M → cm_M} {N : Nat} {b : Bool} {C : cm_M} (td : C.1 2 8 ≠ 0) (hb : b = true) : rl_G g N b C = cF_fail 5 C := by
  unfold rl_G
  rw [if_neg td, if_pos hb]
theorem rl_G2 {g : Nat → cm_M → cm_M} {N : Nat} {b : Bool} {C : cm_M} (td : C.1 2 8 ≠ 0) (hb : b = false) : rl_G g N b C = g N (cF_step N C) := by
  unfold rl_G
  rw [if_neg td, hb, if_neg (by decide)]
theorem rl_atn {T N : Nat} {C : cm_M} (hl : cF_line C = (-1)) : rl_F T N C = cF_fail 1 C := by
  unfold rl_F
  rw [hl, if_pos rfl]
theorem rl_at0 {T N : Nat} {C : cm_M} (hl : cF_line C = 0) : rl_F T N C = tl_F T N C := by
  unfold rl_F
  rw [hl, if_neg (c := (0 : Int32) = (-1)) (by decide), if_pos rfl]
theorem rl_at1 {T N : Nat} {C : cm_M} (hl : cF_line C = 1) : rl_F T N C = rl_G (cF_man T) N (fuC T C 1 6) C := by
  unfold rl_F
  rw [hl, if_neg (c := (1 : Int32) = (-1)) (by decide), if_neg (c := (1 : Int32) = 0) (by decide), if_pos rfl]
theorem rl_at2 {T N : Nat} {C : cm_M} (hl : cF_line C = 2) : rl_F T N C = rl_G (cF_motion T) N (fuC T C 2 5) C := by
  unfold rl_F
  rw [hl, if_neg (c := (2 : Int32) = (-1)) (by decide), if_neg (c := (2 : Int32) = 0) (by decide), if_neg (c := (2 : Int32) = 1) (by decide), if_pos rfl]
theorem rl_at3 {T N : Nat} {C : cm_M} (hl : cF_line C = 3) : rl_F T N C = rl_G (cF_against T) N (fuC T C 3 9) C := by
  unfold rl_F
  rw [hl, if_neg (c := (3 : Int32) = (-1)) (by decide), if_neg (c := (3 : Int32) = 0) (by decide), if_neg (c := (3 : Int32) = 1) (by decide), if_neg (c := (3 : Int32) = 2) (by decide), if_pos rfl]
theorem rl_at4 {T N : Nat} {C : cm_M} (hl : cF_line C = 4) : rl_F T N C = rl_G (cF_amends T) N (fuC T C 4 6) C := by
  unfold rl_F
  rw [hl, if_neg (c := (4 : Int32) = (-1)) (by decide), if_neg (c := (4 : Int32) = 0) (by decide), if_neg (c := (4 : Int32) = 1) (by decide), if_neg (c := (4 : Int32) = 2) (by decide), if_neg (c := (4 : Int32) = 3) (by decide), if_pos rfl]
theorem rl_at5 {T N : Nat} {C : cm_M} (hl : cF_line C = 5) : rl_F T N C = rl_G (cF_quarrel T) N (fuC T C 5 9) C := by
  unfold rl_F
  rw [hl, if_neg (c := (5 : Int32) = (-1)) (by decide), if_neg (c := (5 : Int32) = 0) (by decide), if_neg (c := (5 : Int32) = 1) (by decide), if_neg (c := (5 : Int32) = 2) (by decide), if_neg (c := (5 : Int32) = 3) (by decide), if_neg (c := (5 : Int32) = 4) (by decide), if_pos rfl]
theorem rl_at6 {T N : Nat} {C : cm_M} (hl : cF_line C = 6) : rl_F T N C = rl_G (cF_chair T) N (fuC T C 6 5) C := by
  unfold rl_F
  rw [hl, if_neg (c := (6 : Int32) = (-1)) (by decide), if_neg (c := (6 : Int32) = 0) (by decide), if_neg (c := (6 : Int32) = 1) (by decide), if_neg (c := (6 : Int32) = 2) (by decide), if_neg (c := (6 : Int32) = 3) (by decide), if_neg (c := (6 : Int32) = 4) (by decide), if_neg (c := (6 : Int32) = 5) (by decide), if_pos rfl]
theorem rl_at7 {T N : Nat} {C : cm_M} (hl : cF_line C = 7) : rl_F T N C = rl_G (cF_heap T) N (fuC T C 7 900) C := by
  unfold rl_F
  rw [hl, if_neg (c := (7 : Int32) = (-1)) (by decide), if_neg (c := (7 : Int32) = 0) (by decide), if_neg (c := (7 : Int32) = 1) (by decide), if_neg (c := (7 : Int32) = 2) (by decide), if_neg (c := (7 : Int32) = 3) (by decide), if_neg (c := (7 : Int32) = 4) (by decide), if_neg (c := (7 : Int32) = 5) (by decide), if_neg (c := (7 : Int32) = 6) (by decide)]
theorem ad_8 {T : Nat} {c h v : Int32} {X : cm_M} (hT : 6 ≤ T) : (cF_addMan T c h v X).1 2 8 = X.1 2 8 ∧ (cF_addMotion T c h v X).1 2 8 = X.1 2 8 ∧ (cF_addChair T c X).1 2 8 = X.1 2 8 := by
  refine ⟨?_, ?_, ?_⟩
  · unfold cF_addMan
    split
    · rfl
    · rw [w8 hT, w8 (by omega), w8 (by omega), w8 (by omega), w8 (by omega), w8 (by omega)]
  · unfold cF_addMotion
    split
    · rfl
    · rw [w8 hT, w8 (by omega), w8 (by omega), w8 (by omega), w8 (by omega)]
  · unfold cF_addChair
    split
    · rfl
    · rw [w8 hT, w8 (by omega)]
theorem man_8 {T N : Nat} {C : cm_M} (hT : 6 ≤ T) : (cF_man T N C).1 2 8 = C.1 2 8 := by
  have k := (KC_tr (K_newName N 1 (C.1 T 3) C) (K_and (K_and (K_and (K_colour _) (K_step N _)) (K_and (K_takeWord N 14 _) (K_takeWhole N 0 99 _))) (K_and (K_takeWord N 15 _) (K_takeWhole N 0 9 _))).1).2
  unfold cF_man
  dsimp only
  split
  · exact (ad_8 hT).1.trans k
  · exact k
theorem motion_8 {T N : Nat} {C : cm_M} (hT : 6 ≤ T) : (cF_motion T N C).1 2 8 = C.1 2 8 := by
  have k := (KC_tr (K_newName N 2 (C.1 T 9) C) (K_and (K_and (K_and (K_takeWord N 16 _) (K_takeWhole N 1 30 _)) (K_and (K_takeWord N 17 _) (K_takeWhole N 0 54 _))) (K_and (K_takeWord N 18 _) (K_takeWhole N 0 99 _))).1).2
  unfold cF_motion
  dsimp only
  split
  · exact (ad_8 hT).2.1.trans k
  · exact k
theorem chair_8 {T N : Nat} {C : cm_M} (hT : 6 ≤ T) : (cF_chair T N C).1 2 8 = C.1 2 8 := by
  have k := (KC_tr (K_newName N 6 (C.1 T 15) C) (K_and (K_takeWord N 19 _) (K_takeWhole N 0 99 _)).1).2
  unfold cF_chair
  dsimp only
  split
  · exact (ad_8 (h := 0) (v := 0) hT).2.2.trans k
  · exact k
theorem against_8 {T N : Nat} {C : cm_M} (hT : 6 ≤ T) : (cF_against T N C).1 2 8 = C.1 2 8 := by
  have k := (K_and (K_and (K_told 1 C) (K_step N _)) (K_told 2 _)).1.2
  unfold cF_against
  dsimp only
  split
  · exact k
  · split
    · exact k
    · split
      · exact ((K_step N _).1.2.trans (w8 (by omega))).trans k
      · exact (K_fail 3 _).1.2.trans k
theorem amends_8 {T N : Nat} {C : cm_M} (hT : 6 ≤ T) : (cF_amends T N C).1 2 8 = C.1 2 8 := by
  have k := (K_and (K_and (K_told 2 C) (K_step N _)) (K_told 2 _)).1.2
  unfold cF_amends
  dsimp only
  split
  · exact k
  · split
    · exact k
    · split
      · split
        · exact (K_fail 7 _).1.2.trans k
        · exact ((K_step N _).1.2.trans (w8 (by omega))).trans k
      · exact (K_fail 3 _).1.2.trans k
theorem quarrel_8 {T N : Nat} {C : cm_M} (hT : 6 ≤ T) : (cF_quarrel T N C).1 2 8 = C.1 2 8 := by
  have k := (K_and (K_and (K_told 1 C) (K_step N _)) (K_told 1 _)).1.2
  unfold cF_quarrel
  dsimp only
  split
  · exact k
  · split
    · exact k
    · split
      · exact (K_fail 3 _).1.2.trans k
      · split
        · refine (K_step N _).1.2.trans (Eq.trans ?_ k)
          unfold cF_qput
          rw [w8 (by omega), w8 (by omega)]
        · exact (K_fail 3 _).1.2.trans k
theorem heap_8 {T N : Nat} {C : cm_M} (hT : 6 ≤ T) : (cF_heap T N C).1 2 8 = C.1 2 8 := by
  have k := (K_colour C).1.2
  have k2 := (K_and (K_and (K_colour C) (K_step N _)) (K_takeWhole N 0 999 _)).1.2
  unfold cF_heap
  dsimp only
  split
  · exact k
  · split
    · split
      · split
        · exact k2
        · unfold cF_hput
          rw [w8 hT, w8 (by omega)]
          exact k2
      · exact k2
    · exact (K_fail 3 _).1.2.trans k
theorem tl_8 {T N : Nat} {C : cm_M} (h : (tl_F T N C).1 2 9 = 0) : (tl_F T N C).1 2 8 = 1 := by
  unfold tl_F at h ⊢
  split
  · rfl
  · rename_i q
    rw [if_neg q] at h
    exact absurd h (cF_fail_9n (by decide))
theorem ag_id {T N : Nat} {C : cm_M} (h : C.1 2 9 ≠ 0) : cF_against T N C = C := by
  have e : cF_told 2 (cF_step N (cF_told 1 C)) = C := by rw [told_id h, cF_step_id h, told_id h]
  rw [ag_bad (T := T) (N := N) (C := C) rfl rfl rfl (by rw [e]; exact h), e]
theorem am_id {T N : Nat} {C : cm_M} (h : C.1 2 9 ≠ 0) : cF_amends T N C = C := by
  have e : cF_told 2 (cF_step N (cF_told 2 C)) = C := by rw [told_id h, cF_step_id h, told_id h]
  rw [am_bad (T := T) (N := N) (C := C) rfl rfl rfl (by rw [e]; exact h), e]
theorem qr_id {T N : Nat} {C : cm_M} (h : C.1 2 9 ≠ 0) : cF_quarrel T N C = C := by
  have e : cF_told 1 (cF_step N (cF_told 1 C)) = C := by rw [told_id h, cF_step_id h, told_id h]
  rw [qr_bad (T := T) (N := N) (C := C) rfl rfl rfl (by rw [e]; exact h), e]
theorem hp_id {T N : Nat} {C : cm_M} (h : C.1 2 9 ≠ 0) : hp_F T N C = C := by
  unfold hp_F
  rw [if_neg h]
theorem hp_h {T N : Nat} {C : cm_M} (h : C.1 2 9 = 0) : hp_F T N C = cF_heap T N C := by
  unfold hp_F
  rw [if_pos h]
noncomputable abbrev mr_K (T N : Nat) (X : cm_M) : cm_K := fun v M' => v = none ∧ ∃ D', M' = fm D' ∧ Rq N X D' ∧ (X.1 2 9 = 0 → X.1 2 8 = 1 ∧ ∃ me mo ch, DT T me mo ch X (D'.1 128))
noncomputable def rp : Nat → Nat
  | 1 => 16
  | 2 => 48
  | 3 => 79
  | 4 => 111
  | 5 => 144
  | 6 => 177
  | 7 => 209
  | _ => 226
noncomputable def rj_J (C D : cm_M) (S : cm_S) : Prop := ∃ j, 1 ≤ j ∧ j ≤ 8 ∧ S = (rp j, [(0, .ref 124)], [], fm D) ∧ ∀ i, i < j → wt i C = false
noncomputable abbrev rj_st : List (Nat × List Nat) := [(16, [0]), (48, [0]), (79, [0]), (111, [0]), (144, [0]), (177, [0]), (209, [0]), (226, [0])]
theorem su_0 {f : Nat → Nat} (h : ∀ j, 0 ≤ j → f j = 0) (n : Nat) : su f n = 0 := (su_zz h (Nat.zero_le n)).trans rfl
theorem DT_z5 {T me mo ch : Nat} {C : cm_M} {F : Nat → Int32} (hd : DT T me mo ch C F) (hz : me = 0 ∧ mo = 0 ∧ ch = 0) : F 5 = 0 := by
  obtain ⟨-, -, -, -, -, -, ⟨ag, am, qu, f1, f2, -, -, f5, -⟩, -⟩ := hd
  rw [f5, su_0 (fun j _ => (f2 j (by omega)).1)]
  try rfl
theorem DT_z6 {T me mo ch : Nat} {C : cm_M} {F : Nat → Int32} (hd : DT T me mo ch C F) (hz : me = 0 ∧ mo = 0 ∧ ch = 0) : F 6 = 0 := by
  obtain ⟨-, -, -, -, -, -, ⟨ag, am, qu, -, -, f3, f4, -, f6, -⟩, -⟩ := hd
  rw [f6, su_0 (fun j _ => f4 j (by omega))]
  try rfl
theorem DT_z7 {T me mo ch : Nat} {C : cm_M} {F : Nat → Int32} (hd : DT T me mo ch C F) (hz : me = 0 ∧ mo = 0 ∧ ch = 0) : F 7 = 0 := by
  obtain ⟨-, -, -, -, -, -, ⟨ag, am, qu, f1, f2, -, -, -, -, q, f7, f8, -⟩, -⟩ := hd
  rw [su_0 (fun j _ => (f2 j (by omega)).2)] at f8
  have : q = 0 := by omega
  rw [f7, this]
  try rfl
set_option maxRecDepth 100000 in
set_option maxHeartbeats 1000000 in
theorem rj_1 {T N me mo ch : Nat} {C D : cm_M} (hT : 6 ≤ T) (hT2 : T ≤ 19) (h : Rq N C D) (h0 : C.1 2 9 = 0) (hd : DT T me mo ch C (D.1 128)) (hz : C.1 2 8 = 0 → me = 0 ∧ mo = 0 ∧ ch = 0) {S : cm_S} (hS : S = (16, [(0, .ref 124)], [], fm D)) (hb : ∀ i, i < 1 → wt i C = false) : lb_ cm_ms none (cm_P mr_194) mr_194.2.2.2.2.2.2 rj_st (rj_J C D) (cm_rl (mr_K T N (rl_F T N C))) 60 S := by
  subst hS
  obtain ⟨⟨a1, hF, -⟩, ⟨-, b2, -, b4, -, b6⟩, -⟩ := id hd.2
  obtain ⟨-, -, c3, c4, c5, -⟩ := id hd.1
  have tq : toC T C 1 = D.1 128 3 := (toC_1 hd).1
  by_cases hwj : wt 1 C = true
  · have hl : cF_line C = 1 := ln_at (i := 1) (by omega) hwj hb
    have hw : wt 24 C = true := by rw [wt_24]; exact hwj
    by_cases td : C.1 2 8 = 0
    · have fz : D.1 128 3 = 0 := b2.trans (by rw [(hz td).1]; try rfl)
      show (ev_cmp 3 (D.1 128 3) 6 = true → _) ∧ (ev_cmp 3 (D.1 128 3) 6 = false → _)
      refine ⟨fun h1 => ?_, fun h1 => ?_⟩
      · have g1 := fn_ge h1
        rw [fz, show (0 : Int32).toInt = 0 from rfl] at g1
        exact absurd g1 (by decide)
      · have g1 := fn_nge h1
        show ∃ R, cm_Lc cm_ms 193 [.ref 124, .ref (1001 + 2 * 24), .int 1] (fm D) R ∧ ∀ v M', R v M' → _
        refine ⟨_, m_beg1a (t := 24) (by decide) h h0 hF td hw, ?_⟩
        rintro v M' ⟨rfl, D1, rfl, r1, f1⟩
        have y1 := cF_fail_9n (x := 6) (C := C) (by decide)
        show (ev_cmp 0 1 0 = true → _) ∧ (ev_cmp 0 1 0 = false → _)
        refine ⟨fun h2 => ?_, fun h2 => ?_⟩
        · exact absurd h2 (by decide)
        · show ∃ R, cm_Lc cm_ms 196 [.ref 124] (fm D1) R ∧ ∀ v M', R v M' → _
          refine ⟨_, m_manLine_f r1 y1, ?_⟩
          rintro v M' ⟨rfl, D2, rfl, r2, f2⟩
          show mr_K T N (rl_F T N C) none (fm D2)
          have ed : rl_F T N C = cF_fail 6 C := (rl_at1 hl).trans (rl_G0 td)
          exact ⟨rfl, D2, rfl, by rw [ed]; exact r2, fun q => absurd q (by rw [ed]; exact y1)⟩
    · have td1 : C.1 2 8 = 1 := a1.resolve_left td
      show (ev_cmp 3 (D.1 128 3) 6 = true → _) ∧ (ev_cmp 3 (D.1 128 3) 6 = false → _)
      refine ⟨fun h1 => ?_, fun h1 => ?_⟩
      · have g1 := fn_ge h1
        show ∃ R, cm_Lc cm_ms 193 [.ref 124, .ref (1001 + 2 * 24), .int 0] (fm D) R ∧ ∀ v M', R v M' → _
        refine ⟨_, m_beg0 (t := 24) (by decide) h h0 hF hw, ?_⟩
        rintro v M' ⟨rfl, D1, rfl, r1, f1⟩
        have y1 := cF_fail_9n (x := 5) (C := C) (by decide)
        show (ev_cmp 0 1 0 = true → _) ∧ (ev_cmp 0 1 0 = false → _)
        refine ⟨fun h2 => ?_, fun h2 => ?_⟩
        · exact absurd h2 (by decide)
        · show ∃ R, cm_Lc cm_ms 196 [.ref 124] (fm D1) R ∧ ∀ v M', R v M' → _
          refine ⟨_, m_manLine_f r1 y1, ?_⟩
          rintro v M' ⟨rfl, D2, rfl, r2, f2⟩
          show mr_K T N (rl_F T N C) none (fm D2)
          have ed : rl_F T N C = cF_fail 5 C := (rl_at1 hl).trans (rl_G1 td (fu_t (by rw [tq]; exact g1)))
          exact ⟨rfl, D2, rfl, by rw [ed]; exact r2, fun q => absurd q (by rw [ed]; exact y1)⟩
      · have g1 := fn_nge h1
        show ∃ R, cm_Lc cm_ms 193 [.ref 124, .ref (1001 + 2 * 24), .int 1] (fm D) R ∧ ∀ v M', R v M' → _
        refine ⟨_, m_beg1b (t := 24) (by decide) h h0 hF td hw, ?_⟩
        rintro v M' ⟨rfl, D1, rfl, r1, f1⟩
        have y1 : (cF_step N C).1 2 9 = 0 := cF_step_9.trans h0
        have d1 : DT T me mo ch (cF_step N C) (D1.1 128) := by rw [f1]; exact DT_cg hT hd (K_step N C)
        have hme : me < 6 := by
          rw [b2, fn_toInt (by omega)] at g1
          have e6 : (6 : Int32).toInt = 6 := by decide
          omega
        show (ev_cmp 0 1 0 = true → _) ∧ (ev_cmp 0 1 0 = false → _)
        refine ⟨fun h3 => ?_, fun h3 => ?_⟩
        · exact absurd h3 (by decide)
        · show ∃ R, cm_Lc cm_ms 196 [.ref 124] (fm D1) R ∧ ∀ v M', R v M' → _
          refine ⟨_, m_manLine hT hT2 r1 y1 d1 hme, ?_⟩
          rintro v M' ⟨rfl, D2, rfl, r2, f2⟩
          show mr_K T N (rl_F T N C) none (fm D2)
          have ed : rl_F T N C = cF_man T N (cF_step N C) := (rl_at1 hl).trans (rl_G2 td (fu_f (by rw [tq]; exact g1)))
          refine ⟨rfl, D2, rfl, by rw [ed]; exact r2, fun q => ?_⟩
          rw [ed] at q ⊢
          exact ⟨(man_8 hT).trans ((K_step N C).1.2.trans td1), _, _, _, f2 q⟩
  · have hwj : wt 1 C = false := Bool.eq_false_iff.mpr hwj
    have hw : wt 24 C = false := by rw [wt_24]; exact hwj
    show (ev_cmp 3 (D.1 128 3) 6 = true → _) ∧ (ev_cmp 3 (D.1 128 3) 6 = false → _)
    refine ⟨fun h1 => ?_, fun h1 => ?_⟩
    · have g1 := fn_ge h1
      show ∃ R, cm_Lc cm_ms 193 [.ref 124, .ref (1001 + 2 * 24), .int 0] (fm D) R ∧ ∀ v M', R v M' → _
      refine ⟨_, m_begN (t := 24) (by decide) h h0 hw 0, ?_⟩
      rintro v M' ⟨rfl, rfl⟩
      show (ev_cmp 0 0 0 = true → _) ∧ (ev_cmp 0 0 0 = false → _)
      refine ⟨fun h2 => ?_, fun h2 => ?_⟩
      · show rj_J C D (48, [(0, .ref 124)], [], fm D)
        exact ⟨2, by omega, by omega, rfl, wt_lt hb hwj⟩
      · exact absurd h2 (by decide)
    · have g1 := fn_nge h1
      show ∃ R, cm_Lc cm_ms 193 [.ref 124, .ref (1001 + 2 * 24), .int 1] (fm D) R ∧ ∀ v M', R v M' → _
      refine ⟨_, m_begN (t := 24) (by decide) h h0 hw 1, ?_⟩
      rintro v M' ⟨rfl, rfl⟩
      show (ev_cmp 0 0 0 = true → _) ∧ (ev_cmp 0 0 0 = false → _)
      refine ⟨fun h3 => ?_, fun h3 => ?_⟩
      · show rj_J C D (48, [(0, .ref 124)], [], fm D)
        exact ⟨2, by omega, by omega, rfl, wt_lt hb hwj⟩
      · exact absurd h3 (by decide)
set_option maxRecDepth 100000 in
set_option maxHeartbeats 1000000 in
theorem rj_2 {T N me mo ch : Nat} {C D : cm_M} (hT : 6 ≤ T) (hT2 : T ≤ 19) (h : Rq N C D) (h0 : C.1 2 9 = 0) (hd : DT T me mo ch C (D.1 128)) (hz : C.1 2 8 = 0 → me = 0 ∧ mo = 0 ∧ ch = 0) {S : cm_S} (hS : S = (48, [(0, .ref 124)], [], fm D)) (hb : ∀ i, i < 2 → wt i C = false) : lb_ cm_ms none (cm_P mr_194) mr_194.2.2.2.2.2.2 rj_st (rj_J C D) (cm_rl (mr_K T N (rl_F T N C))) 60 S := by
  subst hS
  obtain ⟨⟨a1, hF, -⟩, ⟨-, b2, -, b4, -, b6⟩, -⟩ := id hd.2
  obtain ⟨-, -, c3, c4, c5, -⟩ := id hd.1
  have tq : toC T C 2 = D.1 128 4 := (toC_1 hd).2.1
  by_cases hwj : wt 2 C = true
  · have hl : cF_line C = 2 := ln_at (i := 2) (by omega) hwj hb
    have hw : wt 25 C = true := by rw [wt_25]; exact hwj
    by_cases td : C.1 2 8 = 0
    · have fz : D.1 128 4 = 0 := b4.trans (by rw [(hz td).2.1]; try rfl)
      show (ev_cmp 3 (D.1 128 4) 5 = true → _) ∧ (ev_cmp 3 (D.1 128 4) 5 = false → _)
      refine ⟨fun h1 => ?_, fun h1 => ?_⟩
      · have g1 := fn_ge h1
        rw [fz, show (0 : Int32).toInt = 0 from rfl] at g1
        exact absurd g1 (by decide)
      · have g1 := fn_nge h1
        show ∃ R, cm_Lc cm_ms 193 [.ref 124, .ref (1001 + 2 * 25), .int 1] (fm D) R ∧ ∀ v M', R v M' → _
        refine ⟨_, m_beg1a (t := 25) (by decide) h h0 hF td hw, ?_⟩
        rintro v M' ⟨rfl, D1, rfl, r1, f1⟩
        have y1 := cF_fail_9n (x := 6) (C := C) (by decide)
        show (ev_cmp 0 1 0 = true → _) ∧ (ev_cmp 0 1 0 = false → _)
        refine ⟨fun h2 => ?_, fun h2 => ?_⟩
        · exact absurd h2 (by decide)
        · show ∃ R, cm_Lc cm_ms 197 [.ref 124] (fm D1) R ∧ ∀ v M', R v M' → _
          refine ⟨_, m_motionLine_f r1 y1, ?_⟩
          rintro v M' ⟨rfl, D2, rfl, r2, f2⟩
          show mr_K T N (rl_F T N C) none (fm D2)
          have ed : rl_F T N C = cF_fail 6 C := (rl_at2 hl).trans (rl_G0 td)
          exact ⟨rfl, D2, rfl, by rw [ed]; exact r2, fun q => absurd q (by rw [ed]; exact y1)⟩
    · have td1 : C.1 2 8 = 1 := a1.resolve_left td
      show (ev_cmp 3 (D.1 128 4) 5 = true → _) ∧ (ev_cmp 3 (D.1 128 4) 5 = false → _)
      refine ⟨fun h1 => ?_, fun h1 => ?_⟩
      · have g1 := fn_ge h1
        show ∃ R, cm_Lc cm_ms 193 [.ref 124, .ref (1001 + 2 * 25), .int 0] (fm D) R ∧ ∀ v M', R v M' → _
        refine ⟨_, m_beg0 (t := 25) (by decide) h h0 hF hw, ?_⟩
        rintro v M' ⟨rfl, D1, rfl, r1, f1⟩
        have y1 := cF_fail_9n (x := 5) (C := C) (by decide)
        show (ev_cmp 0 1 0 = true → _) ∧ (ev_cmp 0 1 0 = false → _)
        refine ⟨fun h2 => ?_, fun h2 => ?_⟩
        · exact absurd h2 (by decide)
        · show ∃ R, cm_Lc cm_ms 197 [.ref 124] (fm D1) R ∧ ∀ v M', R v M' → _
          refine ⟨_, m_motionLine_f r1 y1, ?_⟩
          rintro v M' ⟨rfl, D2, rfl, r2, f2⟩
          show mr_K T N (rl_F T N C) none (fm D2)
          have ed : rl_F T N C = cF_fail 5 C := (rl_at2 hl).trans (rl_G1 td (fu_t (by rw [tq]; exact g1)))
          exact ⟨rfl, D2, rfl, by rw [ed]; exact r2, fun q => absurd q (by rw [ed]; exact y1)⟩
      · have g1 := fn_nge h1
        show ∃ R, cm_Lc cm_ms 193 [.ref 124, .ref (1001 + 2 * 25), .int 1] (fm D) R ∧ ∀ v M', R v M' → _
        refine ⟨_, m_beg1b (t := 25) (by decide) h h0 hF td hw, ?_⟩
        rintro v M' ⟨rfl, D1, rfl, r1, f1⟩
        have y1 : (cF_step N C).1 2 9 = 0 := cF_step_9.trans h0
        have d1 : DT T me mo ch (cF_step N C) (D1.1 128) := by rw [f1]; exact DT_cg hT hd (K_step N C)
        have hmo : mo < 5 := by
          rw [b4, fn_toInt (by omega)] at g1
          have e6 : (5 : Int32).toInt = 5 := by decide
          omega
        show (ev_cmp 0 1 0 = true → _) ∧ (ev_cmp 0 1 0 = false → _)
        refine ⟨fun h3 => ?_, fun h3 => ?_⟩
        · exact absurd h3 (by decide)
        · show ∃ R, cm_Lc cm_ms 197 [.ref 124] (fm D1) R ∧ ∀ v M', R v M' → _
          refine ⟨_, m_motionLine hT hT2 r1 y1 d1 hmo, ?_⟩
          rintro v M' ⟨rfl, D2, rfl, r2, f2⟩
          show mr_K T N (rl_F T N C) none (fm D2)
          have ed : rl_F T N C = cF_motion T N (cF_step N C) := (rl_at2 hl).trans (rl_G2 td (fu_f (by rw [tq]; exact g1)))
          refine ⟨rfl, D2, rfl, by rw [ed]; exact r2, fun q => ?_⟩
          rw [ed] at q ⊢
          exact ⟨(motion_8 hT).trans ((K_step N C).1.2.trans td1), _, _, _, f2 q⟩
  · have hwj : wt 2 C = false := Bool.eq_false_iff.mpr hwj
    have hw : wt 25 C = false := by rw [wt_25]; exact hwj
    show (ev_cmp 3 (D.1 128 4) 5 = true → _) ∧ (ev_cmp 3 (D.1 128 4) 5 = false → _)
    refine ⟨fun h1 => ?_, fun h1 => ?_⟩
    · have g1 := fn_ge h1
      show ∃ R, cm_Lc cm_ms 193 [.ref 124, .ref (1001 + 2 * 25), .int 0] (fm D) R ∧ ∀ v M', R v M' → _
      refine ⟨_, m_begN (t := 25) (by decide) h h0 hw 0, ?_⟩
      rintro v M' ⟨rfl, rfl⟩
      show (ev_cmp 0 0 0 = true → _) ∧ (ev_cmp 0 0 0 = false → _)
      refine ⟨fun h2 => ?_, fun h2 => ?_⟩
      · show rj_J C D (79, [(0, .ref 124)], [], fm D)
        exact ⟨3, by omega, by omega, rfl, wt_lt hb hwj⟩
      · exact absurd h2 (by decide)
    · have g1 := fn_nge h1
      show ∃ R, cm_Lc cm_ms 193 [.ref 124, .ref (1001 + 2 * 25), .int 1] (fm D) R ∧ ∀ v M', R v M' → _
      refine ⟨_, m_begN (t := 25) (by decide) h h0 hw 1, ?_⟩
      rintro v M' ⟨rfl, rfl⟩
      show (ev_cmp 0 0 0 = true → _) ∧ (ev_cmp 0 0 0 = false → _)
      refine ⟨fun h3 => ?_, fun h3 => ?_⟩
      · show rj_J C D (79, [(0, .ref 124)], [], fm D)
        exact ⟨3, by omega, by omega, rfl, wt_lt hb hwj⟩
      · exact absurd h3 (by decide)
set_option maxRecDepth 100000 in
set_option maxHeartbeats 1000000 in
theorem rj_3 {T N me mo ch : Nat} {C D : cm_M} (hT : 6 ≤ T) (hT2 : T ≤ 19) (h : Rq N C D) (h0 : C.1 2 9 = 0) (hd : DT T me mo ch C (D.1 128)) (hz : C.1 2 8 = 0 → me = 0 ∧ mo = 0 ∧ ch = 0) {S : cm_S} (hS : S = (79, [(0, .ref 124)], [], fm D)) (hb : ∀ i, i < 3 → wt i C = false) : lb_ cm_ms none (cm_P mr_194) mr_194.2.2.2.2.2.2 rj_st (rj_J C D) (cm_rl (mr_K T N (rl_F T N C))) 60 S := by
  subst hS
  obtain ⟨⟨a1, hF, -⟩, ⟨-, b2, -, b4, -, b6⟩, -⟩ := id hd.2
  obtain ⟨-, -, c3, c4, c5, -⟩ := id hd.1
  have tq : toC T C 3 = D.1 128 5 := toC_3 hd
  by_cases hwj : wt 3 C = true
  · have hl : cF_line C = 3 := ln_at (i := 3) (by omega) hwj hb
    have hw : wt 26 C = true := by rw [wt_26]; exact hwj
    by_cases td : C.1 2 8 = 0
    · have fz : D.1 128 5 = 0 := DT_z5 hd (hz td)
      show (ev_cmp 3 (D.1 128 5) 9 = true → _) ∧ (ev_cmp 3 (D.1 128 5) 9 = false → _)
      refine ⟨fun h1 => ?_, fun h1 => ?_⟩
      · have g1 := fn_ge h1
        rw [fz, show (0 : Int32).toInt = 0 from rfl] at g1
        exact absurd g1 (by decide)
      · have g1 := fn_nge h1
        show ∃ R, cm_Lc cm_ms 193 [.ref 124, .ref (1001 + 2 * 26), .int 1] (fm D) R ∧ ∀ v M', R v M' → _
        refine ⟨_, m_beg1a (t := 26) (by decide) h h0 hF td hw, ?_⟩
        rintro v M' ⟨rfl, D1, rfl, r1, f1⟩
        have y1 := cF_fail_9n (x := 6) (C := C) (by decide)
        show (ev_cmp 0 1 0 = true → _) ∧ (ev_cmp 0 1 0 = false → _)
        refine ⟨fun h2 => ?_, fun h2 => ?_⟩
        · exact absurd h2 (by decide)
        · show ∃ R, cm_Lc cm_ms 198 [.ref 124] (fm D1) R ∧ ∀ v M', R v M' → _
          refine ⟨_, m_againstLine (me := me) (mo := mo) (ch := ch) hT hT2 r1 (fun q => absurd q y1), ?_⟩
          rintro v M' ⟨rfl, D2, rfl, r2, f2⟩
          rw [ag_id y1] at r2
          show mr_K T N (rl_F T N C) none (fm D2)
          have ed : rl_F T N C = cF_fail 6 C := (rl_at3 hl).trans (rl_G0 td)
          exact ⟨rfl, D2, rfl, by rw [ed]; exact r2, fun q => absurd q (by rw [ed]; exact y1)⟩
    · have td1 : C.1 2 8 = 1 := a1.resolve_left td
      show (ev_cmp 3 (D.1 128 5) 9 = true → _) ∧ (ev_cmp 3 (D.1 128 5) 9 = false → _)
      refine ⟨fun h1 => ?_, fun h1 => ?_⟩
      · have g1 := fn_ge h1
        show ∃ R, cm_Lc cm_ms 193 [.ref 124, .ref (1001 + 2 * 26), .int 0] (fm D) R ∧ ∀ v M', R v M' → _
        refine ⟨_, m_beg0 (t := 26) (by decide) h h0 hF hw, ?_⟩
        rintro v M' ⟨rfl, D1, rfl, r1, f1⟩
        have y1 := cF_fail_9n (x := 5) (C := C) (by decide)
        show (ev_cmp 0 1 0 = true → _) ∧ (ev_cmp 0 1 0 = false → _)
        refine ⟨fun h2 => ?_, fun h2 => ?_⟩
        · exact absurd h2 (by decide)
        · show ∃ R, cm_Lc cm_ms 198 [.ref 124] (fm D1) R ∧ ∀ v M', R v M' → _
          refine ⟨_, m_againstLine (me := me) (mo := mo) (ch := ch) hT hT2 r1 (fun q => absurd q y1), ?_⟩
          rintro v M' ⟨rfl, D2, rfl, r2, f2⟩
          rw [ag_id y1] at r2
          show mr_K T N (rl_F T N C) none (fm D2)
          have ed : rl_F T N C = cF_fail 5 C := (rl_at3 hl).trans (rl_G1 td (fu_t (by rw [tq]; exact g1)))
          exact ⟨rfl, D2, rfl, by rw [ed]; exact r2, fun q => absurd q (by rw [ed]; exact y1)⟩
      · have g1 := fn_nge h1
        show ∃ R, cm_Lc cm_ms 193 [.ref 124, .ref (1001 + 2 * 26), .int 1] (fm D) R ∧ ∀ v M', R v M' → _
        refine ⟨_, m_beg1b (t := 26) (by decide) h h0 hF td hw, ?_⟩
        rintro v M' ⟨rfl, D1, rfl, r1, f1⟩
        have y1 : (cF_step N C).1 2 9 = 0 := cF_step_9.trans h0
        have d1 : DT T me mo ch (cF_step N C) (D1.1 128) := by rw [f1]; exact DT_cg hT hd (K_step N C)
        show (ev_cmp 0 1 0 = true → _) ∧ (ev_cmp 0 1 0 = false → _)
        refine ⟨fun h3 => ?_, fun h3 => ?_⟩
        · exact absurd h3 (by decide)
        · show ∃ R, cm_Lc cm_ms 198 [.ref 124] (fm D1) R ∧ ∀ v M', R v M' → _
          refine ⟨_, m_againstLine hT hT2 r1 (fun _ => d1), ?_⟩
          rintro v M' ⟨rfl, D2, rfl, r2, f2⟩
          show mr_K T N (rl_F T N C) none (fm D2)
          have ed : rl_F T N C = cF_against T N (cF_step N C) := (rl_at3 hl).trans (rl_G2 td (fu_f (by rw [tq]; exact g1)))
          refine ⟨rfl, D2, rfl, by rw [ed]; exact r2, fun q => ?_⟩
          rw [ed] at q ⊢
          exact ⟨(against_8 hT).trans ((K_step N C).1.2.trans td1), _, _, _, f2 q⟩
  · have hwj : wt 3 C = false := Bool.eq_false_iff.mpr hwj
    have hw : wt 26 C = false := by rw [wt_26]; exact hwj
    show (ev_cmp 3 (D.1 128 5) 9 = true → _) ∧ (ev_cmp 3 (D.1 128 5) 9 = false → _)
    refine ⟨fun h1 => ?_, fun h1 => ?_⟩
    · have g1 := fn_ge h1
      show ∃ R, cm_Lc cm_ms 193 [.ref 124, .ref (1001 + 2 * 26), .int 0] (fm D) R ∧ ∀ v M', R v M' → _
      refine ⟨_, m_begN (t := 26) (by decide) h h0 hw 0, ?_⟩
      rintro v M' ⟨rfl, rfl⟩
      show (ev_cmp 0 0 0 = true → _) ∧ (ev_cmp 0 0 0 = false → _)
      refine ⟨fun h2 => ?_, fun h2 => ?_⟩
      · show rj_J C D (111, [(0, .ref 124)], [], fm D)
        exact ⟨4, by omega, by omega, rfl, wt_lt hb hwj⟩
      · exact absurd h2 (by decide)
    · have g1 := fn_nge h1
      show ∃ R, cm_Lc cm_ms 193 [.ref 124, .ref (1001 + 2 * 26), .int 1] (fm D) R ∧ ∀ v M', R v M' → _
      refine ⟨_, m_begN (t := 26) (by decide) h h0 hw 1, ?_⟩
      rintro v M' ⟨rfl, rfl⟩
      show (ev_cmp 0 0 0 = true → _) ∧ (ev_cmp 0 0 0 = false → _)
      refine ⟨fun h3 => ?_, fun h3 => ?_⟩
      · show rj_J C D (111, [(0, .ref 124)], [], fm D)
        exact ⟨4, by omega, by omega, rfl, wt_lt hb hwj⟩
      · exact absurd h3 (by decide)
set_option maxRecDepth 100000 in
set_option maxHeartbeats 1000000 in
theorem rj_4 {T N me mo ch : Nat} {C D : cm_M} (hT : 6 ≤ T) (hT2 : T ≤ 19) (h : Rq N C D) (h0 : C.1 2 9 = 0) (hd : DT T me mo ch C (D.1 128)) (hz : C.1 2 8 = 0 → me = 0 ∧ mo = 0 ∧ ch = 0) {S : cm_S} (hS : S = (111, [(0, .ref 124)], [], fm D)) (hb : ∀ i, i < 4 → wt i C = false) : lb_ cm_ms none (cm_P mr_194) mr_194.2.2.2.2.2.2 rj_st (rj_J C D) (cm_rl (mr_K T N (rl_F T N C))) 60 S := by
  subst hS
  obtain ⟨⟨a1, hF, -⟩, ⟨-, b2, -, b4, -, b6⟩, -⟩ := id hd.2
  obtain ⟨-, -, c3, c4, c5, -⟩ := id hd.1
  have tq : toC T C 4 = D.1 128 6 := toC_4 hd
  by_cases hwj : wt 4 C = true
  · have hl : cF_line C = 4 := ln_at (i := 4) (by omega) hwj hb
    have hw : wt 27 C = true := by rw [wt_27]; exact hwj
    by_cases td : C.1 2 8 = 0
    · have fz : D.1 128 6 = 0 := DT_z6 hd (hz td)
      show (ev_cmp 3 (D.1 128 6) 6 = true → _) ∧ (ev_cmp 3 (D.1 128 6) 6 = false → _)
      refine ⟨fun h1 => ?_, fun h1 => ?_⟩
      · have g1 := fn_ge h1
        rw [fz, show (0 : Int32).toInt = 0 from rfl] at g1
        exact absurd g1 (by decide)
      · have g1 := fn_nge h1
        show ∃ R, cm_Lc cm_ms 193 [.ref 124, .ref (1001 + 2 * 27), .int 1] (fm D) R ∧ ∀ v M', R v M' → _
        refine ⟨_, m_beg1a (t := 27) (by decide) h h0 hF td hw, ?_⟩
        rintro v M' ⟨rfl, D1, rfl, r1, f1⟩
        have y1 := cF_fail_9n (x := 6) (C := C) (by decide)
        show (ev_cmp 0 1 0 = true → _) ∧ (ev_cmp 0 1 0 = false → _)
        refine ⟨fun h2 => ?_, fun h2 => ?_⟩
        · exact absurd h2 (by decide)
        · show ∃ R, cm_Lc cm_ms 199 [.ref 124] (fm D1) R ∧ ∀ v M', R v M' → _
          refine ⟨_, m_amendsLine (me := me) (mo := mo) (ch := ch) hT hT2 r1 (fun q => absurd q y1), ?_⟩
          rintro v M' ⟨rfl, D2, rfl, r2, f2⟩
          rw [am_id y1] at r2
          show mr_K T N (rl_F T N C) none (fm D2)
          have ed : rl_F T N C = cF_fail 6 C := (rl_at4 hl).trans (rl_G0 td)
          exact ⟨rfl, D2, rfl, by rw [ed]; exact r2, fun q => absurd q (by rw [ed]; exact y1)⟩
    · have td1 : C.1 2 8 = 1 := a1.resolve_left td
      show (ev_cmp 3 (D.1 128 6) 6 = true → _) ∧ (ev_cmp 3 (D.1 128 6) 6 = false → _)
      refine ⟨fun h1 => ?_, fun h1 => ?_⟩
      · have g1 := fn_ge h1
        show ∃ R, cm_Lc cm_ms 193 [.ref 124, .ref (1001 + 2 * 27), .int 0] (fm D) R ∧ ∀ v M', R v M' → _
        refine ⟨_, m_beg0 (t := 27) (by decide) h h0 hF hw, ?_⟩
        rintro v M' ⟨rfl, D1, rfl, r1, f1⟩
        have y1 := cF_fail_9n (x := 5) (C := C) (by decide)
        show (ev_cmp 0 1 0 = true → _) ∧ (ev_cmp 0 1 0 = false → _)
        refine ⟨fun h2 => ?_, fun h2 => ?_⟩
        · exact absurd h2 (by decide)
        · show ∃ R, cm_Lc cm_ms 199 [.ref 124] (fm D1) R ∧ ∀ v M', R v M' → _
          refine ⟨_, m_amendsLine (me := me) (mo := mo) (ch := ch) hT hT2 r1 (fun q => absurd q y1), ?_⟩
          rintro v M' ⟨rfl, D2, rfl, r2, f2⟩
          rw [am_id y1] at r2
          show mr_K T N (rl_F T N C) none (fm D2)
          have ed : rl_F T N C = cF_fail 5 C := (rl_at4 hl).trans (rl_G1 td (fu_t (by rw [tq]; exact g1)))
          exact ⟨rfl, D2, rfl, by rw [ed]; exact r2, fun q => absurd q (by rw [ed]; exact y1)⟩
      · have g1 := fn_nge h1
        show ∃ R, cm_Lc cm_ms 193 [.ref 124, .ref (1001 + 2 * 27), .int 1] (fm D) R ∧ ∀ v M', R v M' → _
        refine ⟨_, m_beg1b (t := 27) (by decide) h h0 hF td hw, ?_⟩
        rintro v M' ⟨rfl, D1, rfl, r1, f1⟩
        have y1 : (cF_step N C).1 2 9 = 0 := cF_step_9.trans h0
        have d1 : DT T me mo ch (cF_step N C) (D1.1 128) := by rw [f1]; exact DT_cg hT hd (K_step N C)
        show (ev_cmp 0 1 0 = true → _) ∧ (ev_cmp 0 1 0 = false → _)
        refine ⟨fun h3 => ?_, fun h3 => ?_⟩
        · exact absurd h3 (by decide)
        · show ∃ R, cm_Lc cm_ms 199 [.ref 124] (fm D1) R ∧ ∀ v M', R v M' → _
          refine ⟨_, m_amendsLine hT hT2 r1 (fun _ => d1), ?_⟩
          rintro v M' ⟨rfl, D2, rfl, r2, f2⟩
          show mr_K T N (rl_F T N C) none (fm D2)
          have ed : rl_F T N C = cF_amends T N (cF_step N C) := (rl_at4 hl).trans (rl_G2 td (fu_f (by rw [tq]; exact g1)))
          refine ⟨rfl, D2, rfl, by rw [ed]; exact r2, fun q => ?_⟩
          rw [ed] at q ⊢
          exact ⟨(amends_8 hT).trans ((K_step N C).1.2.trans td1), _, _, _, f2 q⟩
  · have hwj : wt 4 C = false := Bool.eq_false_iff.mpr hwj
    have hw : wt 27 C = false := by rw [wt_27]; exact hwj
    show (ev_cmp 3 (D.1 128 6) 6 = true → _) ∧ (ev_cmp 3 (D.1 128 6) 6 = false → _)
    refine ⟨fun h1 => ?_, fun h1 => ?_⟩
    · have g1 := fn_ge h1
      show ∃ R, cm_Lc cm_ms 193 [.ref 124, .ref (1001 + 2 * 27), .int 0] (fm D) R ∧ ∀ v M', R v M' → _
      refine ⟨_, m_begN (t := 27) (by decide) h h0 hw 0, ?_⟩
      rintro v M' ⟨rfl, rfl⟩
      show (ev_cmp 0 0 0 = true → _) ∧ (ev_cmp 0 0 0 = false → _)
      refine ⟨fun h2 => ?_, fun h2 => ?_⟩
      · show rj_J C D (144, [(0, .ref 124)], [], fm D)
        exact ⟨5, by omega, by omega, rfl, wt_lt hb hwj⟩
      · exact absurd h2 (by decide)
    · have g1 := fn_nge h1
      show ∃ R, cm_Lc cm_ms 193 [.ref 124, .ref (1001 + 2 * 27), .int 1] (fm D) R ∧ ∀ v M', R v M' → _
      refine ⟨_, m_begN (t := 27) (by decide) h h0 hw 1, ?_⟩
      rintro v M' ⟨rfl, rfl⟩
      show (ev_cmp 0 0 0 = true → _) ∧ (ev_cmp 0 0 0 = false → _)
      refine ⟨fun h3 => ?_, fun h3 => ?_⟩
      · show rj_J C D (144, [(0, .ref 124)], [], fm D)
        exact ⟨5, by omega, by omega, rfl, wt_lt hb hwj⟩
      · exact absurd h3 (by decide)
set_option maxRecDepth 100000 in
set_option maxHeartbeats 1000000 in
theorem rj_5 {T N me mo ch : Nat} {C D : cm_M} (hT : 6 ≤ T) (hT2 : T ≤ 19) (h : Rq N C D) (h0 : C.1 2 9 = 0) (hd : DT T me mo ch C (D.1 128)) (hz : C.1 2 8 = 0 → me = 0 ∧ mo = 0 ∧ ch = 0) {S : cm_S} (hS : S = (144, [(0, .ref 124)], [], fm D)) (hb : ∀ i, i < 5 → wt i C = false) : lb_ cm_ms none (cm_P mr_194) mr_194.2.2.2.2.2.2 rj_st (rj_J C D) (cm_rl (mr_K T N (rl_F T N C))) 60 S := by
  subst hS
  obtain ⟨⟨a1, hF, -⟩, ⟨-, b2, -, b4, -, b6⟩, -⟩ := id hd.2
  obtain ⟨-, -, c3, c4, c5, -⟩ := id hd.1
  have tq : toC T C 5 = D.1 128 7 := toC_5 hd
  by_cases hwj : wt 5 C = true
  · have hl : cF_line C = 5 := ln_at (i := 5) (by omega) hwj hb
    have hw : wt 28 C = true := by rw [wt_28]; exact hwj
    by_cases td : C.1 2 8 = 0
    · have fz : D.1 128 7 = 0 := DT_z7 hd (hz td)
      show (ev_cmp 3 (D.1 128 7) 9 = true → _) ∧ (ev_cmp 3 (D.1 128 7) 9 = false → _)
      refine ⟨fun h1 => ?_, fun h1 => ?_⟩
      · have g1 := fn_ge h1
        rw [fz, show (0 : Int32).toInt = 0 from rfl] at g1
        exact absurd g1 (by decide)
      · have g1 := fn_nge h1
        show ∃ R, cm_Lc cm_ms 193 [.ref 124, .ref (1001 + 2 * 28), .int 1] (fm D) R ∧ ∀ v M', R v M' → _
        refine ⟨_, m_beg1a (t := 28) (by decide) h h0 hF td hw, ?_⟩
        rintro v M' ⟨rfl, D1, rfl, r1, f1⟩
        have y1 := cF_fail_9n (x := 6) (C := C) (by decide)
        show (ev_cmp 0 1 0 = true → _) ∧ (ev_cmp 0 1 0 = false → _)
        refine ⟨fun h2 => ?_, fun h2 => ?_⟩
        · exact absurd h2 (by decide)
        · show ∃ R, cm_Lc cm_ms 200 [.ref 124] (fm D1) R ∧ ∀ v M', R v M' → _
          refine ⟨_, m_quarrelLine (me := me) (mo := mo) (ch := ch) hT hT2 r1 (fun q => absurd q y1), ?_⟩
          rintro v M' ⟨rfl, D2, rfl, r2, f2⟩
          rw [qr_id y1] at r2
          show mr_K T N (rl_F T N C) none (fm D2)
          have ed : rl_F T N C = cF_fail 6 C := (rl_at5 hl).trans (rl_G0 td)
          exact ⟨rfl, D2, rfl, by rw [ed]; exact r2, fun q => absurd q (by rw [ed]; exact y1)⟩
    · have td1 : C.1 2 8 = 1 := a1.resolve_left td
      show (ev_cmp 3 (D.1 128 7) 9 = true → _) ∧ (ev_cmp 3 (D.1 128 7) 9 = false → _)
      refine ⟨fun h1 => ?_, fun h1 => ?_⟩
      · have g1 := fn_ge h1
        show ∃ R, cm_Lc cm_ms 193 [.ref 124, .ref (1001 + 2 * 28), .int 0] (fm D) R ∧ ∀ v M', R v M' → _
        refine ⟨_, m_beg0 (t := 28) (by decide) h h0 hF hw, ?_⟩
        rintro v M' ⟨rfl, D1, rfl, r1, f1⟩
        have y1 := cF_fail_9n (x := 5) (C := C) (by decide)
        show (ev_cmp 0 1 0 = true → _) ∧ (ev_cmp 0 1 0 = false → _)
        refine ⟨fun h2 => ?_, fun h2 => ?_⟩
        · exact absurd h2 (by decide)
        · show ∃ R, cm_Lc cm_ms 200 [.ref 124] (fm D1) R ∧ ∀ v M', R v M' → _
          refine ⟨_, m_quarrelLine (me := me) (mo := mo) (ch := ch) hT hT2 r1 (fun q => absurd q y1), ?_⟩
          rintro v M' ⟨rfl, D2, rfl, r2, f2⟩
          rw [qr_id y1] at r2
          show mr_K T N (rl_F T N C) none (fm D2)
          have ed : rl_F T N C = cF_fail 5 C := (rl_at5 hl).trans (rl_G1 td (fu_t (by rw [tq]; exact g1)))
          exact ⟨rfl, D2, rfl, by rw [ed]; exact r2, fun q => absurd q (by rw [ed]; exact y1)⟩
      · have g1 := fn_nge h1
        show ∃ R, cm_Lc cm_ms 193 [.ref 124, .ref (1001 + 2 * 28), .int 1] (fm D) R ∧ ∀ v M', R v M' → _
        refine ⟨_, m_beg1b (t := 28) (by decide) h h0 hF td hw, ?_⟩
        rintro v M' ⟨rfl, D1, rfl, r1, f1⟩
        have y1 : (cF_step N C).1 2 9 = 0 := cF_step_9.trans h0
        have d1 : DT T me mo ch (cF_step N C) (D1.1 128) := by rw [f1]; exact DT_cg hT hd (K_step N C)
        show (ev_cmp 0 1 0 = true → _) ∧ (ev_cmp 0 1 0 = false → _)
        refine ⟨fun h3 => ?_, fun h3 => ?_⟩
        · exact absurd h3 (by decide)
        · show ∃ R, cm_Lc cm_ms 200 [.ref 124] (fm D1) R ∧ ∀ v M', R v M' → _
          refine ⟨_, m_quarrelLine hT hT2 r1 (fun _ => d1), ?_⟩
          rintro v M' ⟨rfl, D2, rfl, r2, f2⟩
          show mr_K T N (rl_F T N C) none (fm D2)
          have ed : rl_F T N C = cF_quarrel T N (cF_step N C) := (rl_at5 hl).trans (rl_G2 td (fu_f (by rw [tq]; exact g1)))
          refine ⟨rfl, D2, rfl, by rw [ed]; exact r2, fun q => ?_⟩
          rw [ed] at q ⊢
          exact ⟨(quarrel_8 hT).trans ((K_step N C).1.2.trans td1), _, _, _, f2 q⟩
  · have hwj : wt 5 C = false := Bool.eq_false_iff.mpr hwj
    have hw : wt 28 C = false := by rw [wt_28]; exact hwj
    show (ev_cmp 3 (D.1 128 7) 9 = true → _) ∧ (ev_cmp 3 (D.1 128 7) 9 = false → _)
    refine ⟨fun h1 => ?_, fun h1 => ?_⟩
    · have g1 := fn_ge h1
      show ∃ R, cm_Lc cm_ms 193 [.ref 124, .ref (1001 + 2 * 28), .int 0] (fm D) R ∧ ∀ v M', R v M' → _
      refine ⟨_, m_begN (t := 28) (by decide) h h0 hw 0, ?_⟩
      rintro v M' ⟨rfl, rfl⟩
      show (ev_cmp 0 0 0 = true → _) ∧ (ev_cmp 0 0 0 = false → _)
      refine ⟨fun h2 => ?_, fun h2 => ?_⟩
      · show rj_J C D (177, [(0, .ref 124)], [], fm D)
        exact ⟨6, by omega, by omega, rfl, wt_lt hb hwj⟩
      · exact absurd h2 (by decide)
    · have g1 := fn_nge h1
      show ∃ R, cm_Lc cm_ms 193 [.ref 124, .ref (1001 + 2 * 28), .int 1] (fm D) R ∧ ∀ v M', R v M' → _
      refine ⟨_, m_begN (t := 28) (by decide) h h0 hw 1, ?_⟩
      rintro v M' ⟨rfl, rfl⟩
      show (ev_cmp 0 0 0 = true → _) ∧ (ev_cmp 0 0 0 = false → _)
      refine ⟨fun h3 => ?_, fun h3 => ?_⟩
      · show rj_J C D (177, [(0, .ref 124)], [], fm D)
        exact ⟨6, by omega, by omega, rfl, wt_lt hb hwj⟩
      · exact absurd h3 (by decide)
set_option maxRecDepth 100000 in
set_option maxHeartbeats 1000000 in
theorem rj_6 {T N me mo ch : Nat} {C D : cm_M} (hT : 6 ≤ T) (hT2 : T ≤ 19) (h : Rq N C D) (h0 : C.1 2 9 = 0) (hd : DT T me mo ch C (D.1 128)) (hz : C.1 2 8 = 0 → me = 0 ∧ mo = 0 ∧ ch = 0) {S : cm_S} (hS : S = (177, [(0, .ref 124)], [], fm D)) (hb : ∀ i, i < 6 → wt i C = false) : lb_ cm_ms none (cm_P mr_194) mr_194.2.2.2.2.2.2 rj_st (rj_J C D) (cm_rl (mr_K T N (rl_F T N C))) 60 S := by
  subst hS
  obtain ⟨⟨a1, hF, -⟩, ⟨-, b2, -, b4, -, b6⟩, -⟩ := id hd.2
  obtain ⟨-, -, c3, c4, c5, -⟩ := id hd.1
  have tq : toC T C 6 = D.1 128 8 := (toC_1 hd).2.2
  by_cases hwj : wt 6 C = true
  · have hl : cF_line C = 6 := ln_at (i := 6) (by omega) hwj hb
    have hw : wt 29 C = true := by rw [wt_29]; exact hwj
    by_cases td : C.1 2 8 = 0
    · have fz : D.1 128 8 = 0 := b6.trans (by rw [(hz td).2.2]; try rfl)
      show (ev_cmp 3 (D.1 128 8) 5 = true → _) ∧ (ev_cmp 3 (D.1 128 8) 5 = false → _)
      refine ⟨fun h1 => ?_, fun h1 => ?_⟩
      · have g1 := fn_ge h1
        rw [fz, show (0 : Int32).toInt = 0 from rfl] at g1
        exact absurd g1 (by decide)
      · have g1 := fn_nge h1
        show ∃ R, cm_Lc cm_ms 193 [.ref 124, .ref (1001 + 2 * 29), .int 1] (fm D) R ∧ ∀ v M', R v M' → _
        refine ⟨_, m_beg1a (t := 29) (by decide) h h0 hF td hw, ?_⟩
        rintro v M' ⟨rfl, D1, rfl, r1, f1⟩
        have y1 := cF_fail_9n (x := 6) (C := C) (by decide)
        show (ev_cmp 0 1 0 = true → _) ∧ (ev_cmp 0 1 0 = false → _)
        refine ⟨fun h2 => ?_, fun h2 => ?_⟩
        · exact absurd h2 (by decide)
        · show ∃ R, cm_Lc cm_ms 201 [.ref 124] (fm D1) R ∧ ∀ v M', R v M' → _
          refine ⟨_, m_chairLine_f r1 y1, ?_⟩
          rintro v M' ⟨rfl, D2, rfl, r2, f2⟩
          show mr_K T N (rl_F T N C) none (fm D2)
          have ed : rl_F T N C = cF_fail 6 C := (rl_at6 hl).trans (rl_G0 td)
          exact ⟨rfl, D2, rfl, by rw [ed]; exact r2, fun q => absurd q (by rw [ed]; exact y1)⟩
    · have td1 : C.1 2 8 = 1 := a1.resolve_left td
      show (ev_cmp 3 (D.1 128 8) 5 = true → _) ∧ (ev_cmp 3 (D.1 128 8) 5 = false → _)
      refine ⟨fun h1 => ?_, fun h1 => ?_⟩
      · have g1 := fn_ge h1
        show ∃ R, cm_Lc cm_ms 193 [.ref 124, .ref (1001 + 2 * 29), .int 0] (fm D) R ∧ ∀ v M', R v M' → _
        refine ⟨_, m_beg0 (t := 29) (by decide) h h0 hF hw, ?_⟩
        rintro v M' ⟨rfl, D1, rfl, r1, f1⟩
        have y1 := cF_fail_9n (x := 5) (C := C) (by decide)
        show (ev_cmp 0 1 0 = true → _) ∧ (ev_cmp 0 1 0 = false → _)
        refine ⟨fun h2 => ?_, fun h2 => ?_⟩
        · exact absurd h2 (by decide)
        · show ∃ R, cm_Lc cm_ms 201 [.ref 124] (fm D1) R ∧ ∀ v M', R v M' → _
          refine ⟨_, m_chairLine_f r1 y1, ?_⟩
          rintro v M' ⟨rfl, D2, rfl, r2, f2⟩
          show mr_K T N (rl_F T N C) none (fm D2)
          have ed : rl_F T N C = cF_fail 5 C := (rl_at6 hl).trans (rl_G1 td (fu_t (by rw [tq]; exact g1)))
          exact ⟨rfl, D2, rfl, by rw [ed]; exact r2, fun q => absurd q (by rw [ed]; exact y1)⟩
      · have g1 := fn_nge h1
        show ∃ R, cm_Lc cm_ms 193 [.ref 124, .ref (1001 + 2 * 29), .int 1] (fm D) R ∧ ∀ v M', R v M' → _
        refine ⟨_, m_beg1b (t := 29) (by decide) h h0 hF td hw, ?_⟩
        rintro v M' ⟨rfl, D1, rfl, r1, f1⟩
        have y1 : (cF_step N C).1 2 9 = 0 := cF_step_9.trans h0
        have d1 : DT T me mo ch (cF_step N C) (D1.1 128) := by rw [f1]; exact DT_cg hT hd (K_step N C)
        have hch : ch < 5 := by
          rw [b6, fn_toInt (by omega)] at g1
          have e6 : (5 : Int32).toInt = 5 := by decide
          omega
        show (ev_cmp 0 1 0 = true → _) ∧ (ev_cmp 0 1 0 = false → _)
        refine ⟨fun h3 => ?_, fun h3 => ?_⟩
        · exact absurd h3 (by decide)
        · show ∃ R, cm_Lc cm_ms 201 [.ref 124] (fm D1) R ∧ ∀ v M', R v M' → _
          refine ⟨_, m_chairLine hT hT2 r1 y1 d1 hch, ?_⟩
          rintro v M' ⟨rfl, D2, rfl, r2, f2⟩
          show mr_K T N (rl_F T N C) none (fm D2)
          have ed : rl_F T N C = cF_chair T N (cF_step N C) := (rl_at6 hl).trans (rl_G2 td (fu_f (by rw [tq]; exact g1)))
          refine ⟨rfl, D2, rfl, by rw [ed]; exact r2, fun q => ?_⟩
          rw [ed] at q ⊢
          exact ⟨(chair_8 hT).trans ((K_step N C).1.2.trans td1), _, _, _, f2 q⟩
  · have hwj : wt 6 C = false := Bool.eq_false_iff.mpr hwj
    have hw : wt 29 C = false := by rw [wt_29]; exact hwj
    show (ev_cmp 3 (D.1 128 8) 5 = true → _) ∧ (ev_cmp 3 (D.1 128 8) 5 = false → _)
    refine ⟨fun h1 => ?_, fun h1 => ?_⟩
    · have g1 := fn_ge h1
      show ∃ R, cm_Lc cm_ms 193 [.ref 124, .ref (1001 + 2 * 29), .int 0] (fm D) R ∧ ∀ v M', R v M' → _
      refine ⟨_, m_begN (t := 29) (by decide) h h0 hw 0, ?_⟩
      rintro v M' ⟨rfl, rfl⟩
      show (ev_cmp 0 0 0 = true → _) ∧ (ev_cmp 0 0 0 = false → _)
      refine ⟨fun h2 => ?_, fun h2 => ?_⟩
      · show rj_J C D (209, [(0, .ref 124)], [], fm D)
        exact ⟨7, by omega, by omega, rfl, wt_lt hb hwj⟩
      · exact absurd h2 (by decide)
    · have g1 := fn_nge h1
      show ∃ R, cm_Lc cm_ms 193 [.ref 124, .ref (1001 + 2 * 29), .int 1] (fm D) R ∧ ∀ v M', R v M' → _
      refine ⟨_, m_begN (t := 29) (by decide) h h0 hw 1, ?_⟩
      rintro v M' ⟨rfl, rfl⟩
      show (ev_cmp 0 0 0 = true → _) ∧ (ev_cmp 0 0 0 = false → _)
      refine ⟨fun h3 => ?_, fun h3 => ?_⟩
      · show rj_J C D (209, [(0, .ref 124)], [], fm D)
        exact ⟨7, by omega, by omega, rfl, wt_lt hb hwj⟩
      · exact absurd h3 (by decide)
set_option maxRecDepth 100000 in
set_option maxHeartbeats 1000000 in
theorem rj_7 {T N me mo ch : Nat} {C D : cm_M} (hT : 6 ≤ T) (hT2 : T ≤ 19) (h : Rq N C D) (h0 : C.1 2 9 = 0) (hd : DT T me mo ch C (D.1 128)) (hz : C.1 2 8 = 0 → me = 0 ∧ mo = 0 ∧ ch = 0) {S : cm_S} (hS : S = (209, [(0, .ref 124)], [], fm D)) (hb : ∀ i, i < 7 → wt i C = false) : lb_ cm_ms none (cm_P mr_194) mr_194.2.2.2.2.2.2 rj_st (rj_J C D) (cm_rl (mr_K T N (rl_F T N C))) 60 S := by
  subst hS
  obtain ⟨⟨a1, hF, -⟩, ⟨-, b2, -, b4, -, b6⟩, -⟩ := id hd.2
  obtain ⟨-, -, c3, c4, c5, -⟩ := id hd.1
  by_cases hwj : wt 7 C = true
  · have hl : cF_line C = 7 := ln_at (i := 7) (by omega) hwj hb
    have hw : wt 30 C = true := by rw [wt_30]; exact hwj
    by_cases td : C.1 2 8 = 0
    · have fz : True := trivial
      show ∃ R, cm_Lc cm_ms 193 [.ref 124, .ref (1001 + 2 * 30), .int 1] (fm D) R ∧ ∀ v M', R v M' → _
      refine ⟨_, m_beg1a (t := 30) (by decide) h h0 hF td hw, ?_⟩
      rintro v M' ⟨rfl, D1, rfl, r1, f1⟩
      have y1 := cF_fail_9n (x := 6) (C := C) (by decide)
      show (ev_cmp 0 1 0 = true → _) ∧ (ev_cmp 0 1 0 = false → _)
      refine ⟨fun h1 => ?_, fun h1 => ?_⟩
      · exact absurd h1 (by decide)
      · show ∃ R, cm_Lc cm_ms 202 [.ref 124] (fm D1) R ∧ ∀ v M', R v M' → _
        refine ⟨_, m_heapLine (me := me) (mo := mo) (ch := ch) hT hT2 r1 (fun q => absurd q y1), ?_⟩
        rintro v M' ⟨rfl, D2, rfl, r2, f2⟩
        rw [hp_id y1] at r2
        show mr_K T N (rl_F T N C) none (fm D2)
        have ed : rl_F T N C = cF_fail 6 C := (rl_at7 hl).trans (rl_G0 td)
        exact ⟨rfl, D2, rfl, by rw [ed]; exact r2, fun q => absurd q (by rw [ed]; exact y1)⟩
    · have td1 : C.1 2 8 = 1 := a1.resolve_left td
      show ∃ R, cm_Lc cm_ms 193 [.ref 124, .ref (1001 + 2 * 30), .int 1] (fm D) R ∧ ∀ v M', R v M' → _
      refine ⟨_, m_beg1b (t := 30) (by decide) h h0 hF td hw, ?_⟩
      rintro v M' ⟨rfl, D1, rfl, r1, f1⟩
      have y1 : (cF_step N C).1 2 9 = 0 := cF_step_9.trans h0
      have d1 : DT T me mo ch (cF_step N C) (D1.1 128) := by rw [f1]; exact DT_cg hT hd (K_step N C)
      show (ev_cmp 0 1 0 = true → _) ∧ (ev_cmp 0 1 0 = false → _)
      refine ⟨fun h1 => ?_, fun h1 => ?_⟩
      · exact absurd h1 (by decide)
      · show ∃ R, cm_Lc cm_ms 202 [.ref 124] (fm D1) R ∧ ∀ v M', R v M' → _
        refine ⟨_, m_heapLine hT hT2 r1 (fun _ => d1), ?_⟩
        rintro v M' ⟨rfl, D2, rfl, r2, f2⟩
        rw [hp_h y1] at r2 f2
        show mr_K T N (rl_F T N C) none (fm D2)
        have ed : rl_F T N C = cF_heap T N (cF_step N C) := (rl_at7 hl).trans (rl_G2 td (fu_f (show (0 : Int32).toInt < (900 : Int32).toInt from by decide)))
        refine ⟨rfl, D2, rfl, by rw [ed]; exact r2, fun q => ?_⟩
        rw [ed] at q ⊢
        exact ⟨(heap_8 hT).trans ((K_step N C).1.2.trans td1), _, _, _, f2 q⟩
  · have hwj : wt 7 C = false := Bool.eq_false_iff.mpr hwj
    have hw : wt 30 C = false := by rw [wt_30]; exact hwj
    show ∃ R, cm_Lc cm_ms 193 [.ref 124, .ref (1001 + 2 * 30), .int 1] (fm D) R ∧ ∀ v M', R v M' → _
    refine ⟨_, m_begN (t := 30) (by decide) h h0 hw 1, ?_⟩
    rintro v M' ⟨rfl, rfl⟩
    show (ev_cmp 0 0 0 = true → _) ∧ (ev_cmp 0 0 0 = false → _)
    refine ⟨fun h1 => ?_, fun h1 => ?_⟩
    · show rj_J C D (226, [(0, .ref 124)], [], fm D)
      exact ⟨8, by omega, by omega, rfl, wt_lt hb hwj⟩
    · exact absurd h1 (by decide)
set_option maxRecDepth 100000 in
set_option maxHeartbeats 1000000 in
theorem rj_8 {T N : Nat} {C D : cm_M} (h : Rq N C D) (hb : ∀ i, i < 8 → wt i C = false) {S : cm_S} (hS : S = (226, [(0, .ref 124)], [], fm D)) : lb_ cm_ms none (cm_P mr_194) mr_194.2.2.2.2.2.2 rj_st (rj_J C D) (cm_rl (mr_K T N (rl_F T N C))) 60 S := by
  subst hS
  have ed : rl_F T N C = cF_fail 1 C := rl_atn (ln_none 8 0 (fun i _ hi => hb i (by omega)))
  show ∃ R, cm_Lc cm_ms 177 [.ref 124, .int 1, .int (D.1 124 4)] (fm D) R ∧ ∀ v M', R v M' → _
  refine ⟨_, m_wrong h (x := 1) (by decide), ?_⟩
  rintro v M' ⟨rfl, D1, rfl, r1, f1⟩
  show mr_K T N (rl_F T N C) none (fm D1)
  exact ⟨rfl, D1, rfl, by rw [ed]; exact r1, fun q => absurd q (by rw [ed]; exact cF_fail_9n (by decide))⟩
set_option maxRecDepth 100000 in
set_option maxHeartbeats 1000000 in
theorem m_readLine {T N me mo ch : Nat} {C D : cm_M} (hT : 6 ≤ T) (hT2 : T ≤ 19) (h : Rq N C D) (h0 : C.1 2 9 = 0) (hd : DT T me mo ch C (D.1 128)) (hz : C.1 2 8 = 0 → me = 0 ∧ mo = 0 ∧ ch = 0) : cm_Lc cm_ms 194 [.ref 124] (fm D) (mr_K T N (rl_F T N C)) := by
  refine lb_of (mi := mr_194) rfl rj_st (rj_J C D) 60 (fun S hS => ?_) 60 ?_
  · obtain ⟨j, h1, h8, rfl, hb⟩ := hS
    rcases (by omega : j = 1 ∨ j = 2 ∨ j = 3 ∨ j = 4 ∨ j = 5 ∨ j = 6 ∨ j = 7 ∨ j = 8) with rfl | rfl | rfl | rfl | rfl | rfl | rfl | rfl
    · exact rj_1 hT hT2 h h0 hd hz rfl hb
    · exact rj_2 hT hT2 h h0 hd hz rfl hb
    · exact rj_3 hT hT2 h h0 hd hz rfl hb
    · exact rj_4 hT hT2 h h0 hd hz rfl hb
    · exact rj_5 hT hT2 h h0 hd hz rfl hb
    · exact rj_6 hT hT2 h h0 hd hz rfl hb
    · exact rj_7 hT hT2 h h0 hd hz rfl hb
    · exact rj_8 h hb rfl
  · by_cases hwj : wt 0 C = true
    · have hl : cF_line C = 0 := ln_at (i := 0) (by omega) hwj (fun k hk => by omega)
      show ∃ R, cm_Lc cm_ms 178 [.ref 124, .ref (1001 + 2 * 20)] (fm D) R ∧ ∀ v M', R v M' → _
      refine ⟨_, m_isW1 (t := 20) (by decide) h h0 (by rw [wt_20]; exact hwj), ?_⟩
      rintro v M' ⟨rfl, rfl⟩
      show (ev_cmp 0 1 0 = true → _) ∧ (ev_cmp 0 1 0 = false → _)
      refine ⟨fun q => absurd q (by decide), fun _ => ?_⟩
      show ∃ R, cm_Lc cm_ms 195 [.ref 124] (fm D) R ∧ ∀ v M', R v M' → _
      refine ⟨_, m_townLine hT hT2 h h0 hd, ?_⟩
      rintro v M' ⟨rfl, D1, rfl, r1, f1⟩
      show mr_K T N (rl_F T N C) none (fm D1)
      refine ⟨rfl, D1, rfl, by rw [rl_at0 hl]; exact r1, fun q => ?_⟩
      rw [rl_at0 hl] at q ⊢
      exact ⟨tl_8 q, _, _, _, f1 q⟩
    · have hwj : wt 0 C = false := Bool.eq_false_iff.mpr hwj
      show ∃ R, cm_Lc cm_ms 178 [.ref 124, .ref (1001 + 2 * 20)] (fm D) R ∧ ∀ v M', R v M' → _
      refine ⟨_, m_isW0 (t := 20) (by decide) h h0 (by rw [wt_20]; exact hwj), ?_⟩
      rintro v M' ⟨rfl, rfl⟩
      show (ev_cmp 0 0 0 = true → _) ∧ (ev_cmp 0 0 0 = false → _)
      refine ⟨fun _ => ?_, fun q => absurd q (by decide)⟩
      show rj_J C D (16, [(0, .ref 124)], [], fm D)
      exact ⟨1, by omega, by omega, rfl, fun i hi => by
        have : i = 0 := by omega
        rw [this]
        exact hwj⟩
/-- the place grows; what stays -/
noncomputable def PG (T N : Nat) (C C' : cm_M) : Prop := (RC N C → RC N C' ∧ (C.1 2 2).toNatClampNeg ≤ (C'.1 2 2).toNatClampNeg) ∧ C'.2.2 = C.2.2 ∧ ∀ c j, ¬ (2 ≤ c ∧ c ≤ 5) → ¬ (T ≤ c ∧ c ≤ T + 12) → C'.1 c j = C.1 c j
theorem PG_rfl {T N : Nat} {C : cm_M} : PG T N C C := ⟨fun h => ⟨h, Nat.le_refl _⟩, rfl, fun _ _ _ _ => rfl⟩
theorem PG_tr {T N : Nat} {A B C : cm_M} (h : PG T N A B) (h2 : PG T N B C) : PG T N A C := ⟨fun q => ⟨(h2.1 (h.1 q).1).1, Nat.le_trans (h.1 q).2 (h2.1 (h.1 q).1).2⟩, h2.2.1.trans h.2.1, fun c j a b => (h2.2.2 c j a b).trans (h.2.2 c j a b)⟩
theorem wi_ne {C : cm_M} {c i x y : Nat} {v : Int32} (h : x ≠ c) : (cm_wi C c i v).1 x y = C.1 x y := by
  show (if x = c ∧ y = i then _ else _) = _
  rw [if_neg (fun q => h q.1)]
theorem PG_fail {T N : Nat} {x : Int32} {C : cm_M} : PG T N C (cF_fail x C) := by
  refine ⟨fun h => ⟨RC_fail x h, ?_⟩, ?_, fun c j a b => ?_⟩
  · unfold cF_fail
    split <;> exact Nat.le_refl _
  · unfold cF_fail
    split <;> rfl
  · unfold cF_fail
    split
    · exact wi_ne (by omega)
    · rfl
/-- a token: where it ends -/
theorem step_nx {N : Nat} {C : cm_M} (h : rs_ok N C) (h0 : C.1 2 9 = 0) : (C.1 2 2).toNatClampNeg ≤ ((cF_step N C).1 2 2).toNatClampNeg ∧ ((cF_step N C).1 2 3 ≠ 0 → (C.1 2 2).toNatClampNeg < ((cF_step N C).1 2 2).toNatClampNeg) := by
  obtain ⟨h1, h2, h3, k, h4, h5⟩ := h
  have ht : tk_Q (C.1 1) N k (cF_tok N C) := by
    unfold cF_tok
    rw [h5, fn_nat (by omega)]
    exact tk_of_ok h4
  have es : cF_step N C = tk_m C (cF_tok N C).1 (cF_tok N C).2.1 (cF_tok N C).2.2.1 (cF_tok N C).2.2.2.1 (cF_tok N C).2.2.2.2 := by
    unfold cF_step
    rw [if_pos h0]
  rw [es, h5, fn_nat (by omega)]
  generalize cF_tok N C = t at ht
  obtain ⟨s, e, kd, va, wd⟩ := t
  obtain ⟨q1, q2⟩ := ht
  dsimp only at q1 q2 ⊢
  have eN : e ≤ N := tk_k_e q1.2.1 q2
  show k ≤ (Int32.ofNat e).toNatClampNeg ∧ (kd ≠ 0 → k < (Int32.ofNat e).toNatClampNeg)
  rw [fn_nat (by omega)]
  have ks := q1.1
  rcases q2 with ⟨a1, rfl, a3, -⟩ | ⟨a1, a2, a3, -⟩ | ⟨a1, a2, a3, a4, -⟩ | ⟨a1, a2, a3, rfl, -⟩
  · exact ⟨ks, fun q => absurd a3 q⟩
  · have hse : s < e := by
      rcases Nat.lt_or_ge s e with q | q
      · exact q
      · have e1 : s = e := Nat.le_antisymm a3.1 q
        have h6 := a3.2.2.2 (by omega)
        rw [← e1, a2] at h6
        cases h6
    exact ⟨by omega, fun _ => by omega⟩
  · have hse : s < e := by
      rcases Nat.lt_or_ge s e with q | q
      · exact q
      · have e1 : s = e := Nat.le_antisymm a4.1 q
        have h6 := a4.2.2.2 (by omega)
        rw [← e1, a3] at h6
        cases h6
    exact ⟨by omega, fun _ => by omega⟩
  · exact ⟨by omega, fun _ => by omega⟩
theorem PG_step {T N : Nat} {C : cm_M} : PG T N C (cF_step N C) := by
  refine ⟨fun h => ⟨RC_step h, ?_⟩, ?_, fun c j a b => ?_⟩
  · by_cases h0 : C.1 2 9 = 0
    · exact (step_nx h.1 h0).1
    · rw [cF_step_id h0]
      exact Nat.le_refl _
  · unfold cF_step
    split <;> rfl
  · unfold cF_step
    split
    · show (cm_wi (cm_wi (cm_wi (cm_wi C 2 4 _) 2 5 _) 2 2 _) 2 3 _).1 c j = _
      rw [wi_ne (by omega), wi_ne (by omega), wi_ne (by omega), wi_ne (by omega)]
    · rfl
theorem PG_w {T N c i : Nat} {v : Int32} {C : cm_M} (hc : 6 ≤ T ∧ T ≤ c ∧ c ≤ T + 12) : PG T N C (cm_wi C c i v) := by
  have e : ∀ j, (cm_wi C c i v).1 2 j = C.1 2 j := fun j => wi_ne (by omega)
  refine ⟨fun h => ?_, rfl, fun x j a b => wi_ne (by omega)⟩
  obtain ⟨⟨h1, h2, h3, k, h4, h5⟩, nn, h6, h7⟩ := h
  exact ⟨⟨⟨h1, (e 1).trans h2, h3, k, h4, (e 2).trans h5⟩, nn, h6, (e 10).trans h7⟩, by rw [e]; exact Nat.le_refl _⟩
theorem PG_8 {T N : Nat} {v : Int32} {C : cm_M} : PG T N C (cm_wi C 2 8 v) := ⟨fun h => ⟨h, Nat.le_refl _⟩, rfl, fun c j a b => wi_ne (by omega)⟩
theorem PG_takeWord {T N t : Nat} {C : cm_M} : PG T N C (cF_takeWord N t C) := by
  unfold cF_takeWord cF_due
  split
  · exact PG_step
  · exact PG_tr PG_fail PG_step
theorem PG_takeWhole {T N : Nat} {lo hi : Int32} {C : cm_M} : PG T N C (cF_takeWhole N lo hi C) := by
  unfold cF_takeWhole cF_whole
  split
  · split
    · exact PG_tr PG_fail PG_step
    · exact PG_step
  · exact PG_tr PG_fail PG_step
theorem PG_colour {T N : Nat} {C : cm_M} : PG T N C (cF_colour C) := by
  rcases col_cs C with q | q
  · rw [q.1]
    exact PG_rfl
  · rw [q.1]
    exact PG_fail
theorem PG_told {T N : Nat} {so : Int32} {C : cm_M} : PG T N C (cF_told so C) := by
  unfold cF_told
  split
  · split
    · exact PG_fail
    · exact PG_rfl
  · exact PG_fail
theorem PG_chk {T N : Nat} {C : cm_M} : PG T N C (cF_newChk C) := by
  unfold cF_newChk
  split
  · split
    · exact PG_rfl
    · exact PG_fail
  · exact PG_fail
theorem PG_newName {T N : Nat} {so nu : Int32} {C : cm_M} : PG T N C (cF_newName N so nu C) := by
  have h2 : (cF_put so nu (cF_newChk C)).1 2 2 = (cF_newChk C).1 2 2 := by
    unfold cF_put
    split <;> rfl
  have h3 : (cF_newChk C).1 2 2 = C.1 2 2 := by
    unfold cF_newChk cF_fail
    repeat' split
    all_goals rfl
  refine ⟨fun h => ⟨RC_newName h, ?_⟩, ?_, fun c j a b => ?_⟩
  · have r1 : rs_ok N (cF_newChk C) := ((PG_chk (T := T) (N := N) (C := C)).1 h).1.1
    unfold cF_newName
    rw [← h3, ← h2]
    by_cases h0 : (cF_put so nu (cF_newChk C)).1 2 9 = 0
    · exact (step_nx (rs_put so nu r1) h0).1
    · rw [cF_step_id h0]
      exact Nat.le_refl _
  · unfold cF_newName
    rw [(PG_step (T := T)).2.1]
    refine Eq.trans ?_ (PG_chk (T := T) (N := N)).2.1
    unfold cF_put
    split <;> rfl
  · unfold cF_newName
    rw [(PG_step (T := T)).2.2 c j a b]
    refine Eq.trans ?_ ((PG_chk (T := T) (N := N)).2.2 c j a b)
    unfold cF_put
    split
    · show (cm_wi (cm_wi (cm_wi (cm_wl (cF_newChk C) 3 _ _) 4 _ _) 5 _ _) 2 10 _).1 c j = _
      rw [wi_ne (by omega), wi_ne (by omega), wi_ne (by omega)]
      try rfl
    · rfl
theorem PG_man {T N : Nat} {C : cm_M} (hT : 6 ≤ T) : PG T N C (cF_man T N C) := by
  have k : PG T N C (cF_takeWhole N 0 9 (cF_takeWord N 15 (cF_takeWhole N 0 99 (cF_takeWord N 14 (cF_step N (cF_colour (cF_newName N 1 (C.1 T 3) C))))))) := PG_tr PG_newName (PG_tr PG_colour (PG_tr PG_step (PG_tr PG_takeWord (PG_tr PG_takeWhole (PG_tr PG_takeWord PG_takeWhole)))))
  unfold cF_man
  dsimp only
  split
  · refine PG_tr k ?_
    unfold cF_addMan
    split
    · exact PG_rfl
    · exact PG_tr (PG_tr (PG_tr (PG_tr (PG_tr (PG_w (by omega)) (PG_w (by omega))) (PG_w (by omega))) (PG_w (by omega))) (PG_w (by omega))) (PG_w (by omega))
  · exact k
theorem PG_motion {T N : Nat} {C : cm_M} (hT : 6 ≤ T) : PG T N C (cF_motion T N C) := by
  have k : PG T N C (cF_takeWhole N 0 99 (cF_takeWord N 18 (cF_takeWhole N 0 54 (cF_takeWord N 17 (cF_takeWhole N 1 30 (cF_takeWord N 16 (cF_newName N 2 (C.1 T 9) C))))))) := PG_tr PG_newName (PG_tr PG_takeWord (PG_tr PG_takeWhole (PG_tr PG_takeWord (PG_tr PG_takeWhole (PG_tr PG_takeWord PG_takeWhole)))))
  unfold cF_motion
  dsimp only
  split
  · refine PG_tr k ?_
    unfold cF_addMotion
    split
    · exact PG_rfl
    · exact PG_tr (PG_tr (PG_tr (PG_tr (PG_w (by omega)) (PG_w (by omega))) (PG_w (by omega))) (PG_w (by omega))) (PG_w (by omega))
  · exact k
theorem PG_chair {T N : Nat} {C : cm_M} (hT : 6 ≤ T) : PG T N C (cF_chair T N C) := by
  have k : PG T N C (cF_takeWhole N 0 99 (cF_takeWord N 19 (cF_newName N 6 (C.1 T 15) C))) := PG_tr PG_newName (PG_tr PG_takeWord PG_takeWhole)
  unfold cF_chair
  dsimp only
  split
  · refine PG_tr k ?_
    unfold cF_addChair
    split
    · exact PG_rfl
    · exact PG_tr (PG_w (by omega)) (PG_w (by omega))
  · exact k
theorem PG_town {T N : Nat} {C : cm_M} (hT : 6 ≤ T) : PG T N C (cF_town T N C) := by
  unfold cF_town
  dsimp only
  exact PG_tr (PG_tr (PG_tr (PG_tr PG_takeWord PG_takeWhole) (PG_tr (PG_w (by omega)) (PG_tr PG_takeWord PG_takeWhole))) (PG_tr (PG_w (by omega)) (PG_tr PG_takeWord PG_takeWhole))) (PG_tr (PG_w (by omega)) PG_8)
theorem PG_against {T N : Nat} {C : cm_M} (hT : 6 ≤ T) : PG T N C (cF_against T N C) := by
  have k : PG T N C (cF_told 2 (cF_step N (cF_told 1 C))) := PG_tr PG_told (PG_tr PG_step PG_told)
  unfold cF_against
  dsimp only
  split
  · exact k
  · split
    · exact k
    · split
      · exact PG_tr k (PG_tr (PG_w (by omega)) PG_step)
      · exact PG_tr k PG_fail
theorem PG_amends {T N : Nat} {C : cm_M} (hT : 6 ≤ T) : PG T N C (cF_amends T N C) := by
  have k : PG T N C (cF_told 2 (cF_step N (cF_told 2 C))) := PG_tr PG_told (PG_tr PG_step PG_told)
  unfold cF_amends
  dsimp only
  split
  · exact k
  · split
    · exact k
    · split
      · split
        · exact PG_tr k PG_fail
        · exact PG_tr k (PG_tr (PG_w (by omega)) PG_step)
      · exact PG_tr k PG_fail
theorem PG_quarrel {T N : Nat} {C : cm_M} (hT : 6 ≤ T) : PG T N C (cF_quarrel T N C) := by
  have k : PG T N C (cF_told 1 (cF_step N (cF_told 1 C))) := PG_tr PG_told (PG_tr PG_step PG_told)
  unfold cF_quarrel
  dsimp only
  split
  · exact k
  · split
    · exact k
    · split
      · exact PG_tr k PG_fail
      · split
        · refine PG_tr k (PG_tr ?_ PG_step)
          unfold cF_qput
          exact PG_tr (PG_w (by omega)) (PG_w (by omega))
        · exact PG_tr k PG_fail
theorem PG_heap {T N : Nat} {C : cm_M} (hT : 6 ≤ T) : PG T N C (cF_heap T N C) := by
  have k2 : PG T N C (cF_takeWhole N 0 999 (cF_step N (cF_colour C))) := PG_tr PG_colour (PG_tr PG_step PG_takeWhole)
  unfold cF_heap
  dsimp only
  split
  · exact PG_colour
  · split
    · split
      · split
        · exact k2
        · refine PG_tr k2 ?_
          unfold cF_hput
          exact PG_tr (PG_w (by omega)) (PG_w (by omega))
      · exact k2
    · exact PG_tr PG_colour PG_fail
theorem PG_G {T N : Nat} {b : Bool} {g : Nat → cm_M → cm_M} {C : cm_M} (h : ∀ X, PG T N X (g N X)) : PG T N C (rl_G g N b C) := by
  unfold rl_G
  split
  · exact PG_fail
  · split
    · exact PG_fail
    · exact PG_tr PG_step (h _)
theorem PG_rl {T N : Nat} {C : cm_M} (hT : 6 ≤ T) : PG T N C (rl_F T N C) := by
  unfold rl_F
  split
  · exact PG_fail
  · split
    · unfold tl_F
      split
      · exact PG_tr PG_step (PG_town hT)
      · exact PG_fail
    · split
      · exact PG_G (fun _ => PG_man hT)
      · split
        · exact PG_G (fun _ => PG_motion hT)
        · split
          · exact PG_G (fun _ => PG_against hT)
          · split
            · exact PG_G (fun _ => PG_amends hT)
            · split
              · exact PG_G (fun _ => PG_quarrel hT)
              · split
                · exact PG_G (fun _ => PG_chair hT)
                · exact PG_G (fun _ => PG_heap hT)
noncomputable def rB (T N : Nat) (C : cm_M) : cm_M := rl_F T N (cF_step N C)
noncomputable def itr (T N : Nat) (C : cm_M) : Nat → cm_M
  | 0 => C
  | k + 1 => rB T N (itr T N C k)
theorem wt_k {t : Nat} {C : cm_M} (h : wt t C = true) : C.1 2 3 = 1 := of_decide_eq_true (and_l h)
theorem ln_k {C : cm_M} (h : C.1 2 3 ≠ 1) : cF_line C = -1 := ln_none 8 0 (fun i _ _ => Bool.eq_false_iff.mpr (fun q => h (wt_k q)))
theorem rB_nx {T N : Nat} {C : cm_M} (hT : 6 ≤ T) (h : RC N C) (h0 : C.1 2 9 = 0) (h1 : (rB T N C).1 2 9 = 0) : (C.1 2 2).toNatClampNeg < ((rB T N C).1 2 2).toNatClampNeg := by
  have hk : (cF_step N C).1 2 3 ≠ 0 := fun q => by
    unfold rB at h1
    rw [rl_atn (ln_k (by rw [q]; decide))] at h1
    exact absurd h1 (cF_fail_9n (by decide))
  exact Nat.lt_of_lt_of_le ((step_nx h.1 h0).2 hk) ((PG_rl hT).1 (RC_step h)).2
theorem itr_rs {T N : Nat} {C : cm_M} (hT : 6 ≤ T) (h : RC N C) : ∀ k, RC N (itr T N C k)
  | 0 => h
  | k + 1 => ((PG_rl hT).1 (RC_step (itr_rs hT h k))).1
theorem itr_nx {T N : Nat} {C : cm_M} (hT : 6 ≤ T) (h : RC N C) : ∀ k, (∀ i, i ≤ k → (itr T N C i).1 2 9 = 0) → k ≤ ((itr T N C k).1 2 2).toNatClampNeg
  | 0, _ => Nat.zero_le _
  | k + 1, ha => by
    have h1 := itr_nx hT h k (fun i hi => ha i (by omega))
    have h2 := rB_nx hT (itr_rs hT h k) (ha k (by omega)) (ha (k + 1) (Nat.le_refl _))
    have h3 : itr T N C (k + 1) = rB T N (itr T N C k) := rfl
    rw [h3]
    omega
theorem rs_nx {N : Nat} {C : cm_M} (h : rs_ok N C) : (C.1 2 2).toNatClampNeg ≤ N ∧ N ≤ 900 := by
  obtain ⟨h1, h2, h3, k, h4, h5⟩ := h
  rw [h5, fn_nat (by omega)]
  exact ⟨h4, h3⟩
noncomputable def lc (C : cm_M) : Prop := C.1 2 9 = 0 ∧ C.1 2 3 = 3
/-- where the lines end -/
noncomputable def Ex (T N : Nat) (C X : cm_M) : Prop := ∃ k, X = itr T N C (k + 1) ∧ (∀ i, i < k → lc (itr T N C (i + 1))) ∧ ¬ lc X
theorem Ex_uni {T N : Nat} {C X Y : cm_M} (h : Ex T N C X) (h2 : Ex T N C Y) : X = Y := by
  obtain ⟨k, rfl, a2, a3⟩ := h
  obtain ⟨j, rfl, b2, b3⟩ := h2
  rcases Nat.lt_trichotomy k j with q | q | q
  · exact absurd (b2 k q) a3
  · rw [q]
  · exact absurd (a2 j q) b3
theorem itr_900 {T N : Nat} {C : cm_M} (hT : 6 ≤ T) (h : RC N C) (h0 : C.1 2 9 = 0) {k : Nat} (ha : ∀ i, i < k → lc (itr T N C (i + 1))) (hk : (itr T N C (k + 1)).1 2 9 = 0) : k < 900 := by
  have h1 := itr_nx hT h (k + 1) (fun i hi => by
    rcases (by omega : i = 0 ∨ i = k + 1 ∨ (0 < i ∧ i ≤ k)) with q | q | q
    · rw [q]; exact h0
    · rw [q]; exact hk
    · have := ha (i - 1) (by omega)
      rw [show i - 1 + 1 = i from by omega] at this
      exact this.1)
  have h2 := rs_nx (itr_rs hT h (k + 1)).1
  omega
theorem PG_itr {T N : Nat} {C : cm_M} (hT : 6 ≤ T) : ∀ k, PG T N C (itr T N C k)
  | 0 => PG_rfl
  | k + 1 => PG_tr (PG_itr hT k) (PG_tr PG_step (PG_rl hT))
theorem PG_Ex {T N : Nat} {C X : cm_M} (hT : 6 ≤ T) (h : Ex T N C X) : PG T N C X := by
  obtain ⟨k, rfl, -⟩ := h
  exact PG_itr hT _
noncomputable def fb (C : cm_M) : cm_M := (C.1, C.2.1, fun c i => if c = 2 then (if i = 11 then some 3 else if i = 12 then some 4 else if i = 13 then some 5 else C.2.2 2 i) else if c = 6 then (if i = 4 then some 7 else if i = 5 then some 8 else if i = 6 then some 9 else if i = 7 then some 10 else if i = 8 then some 11 else if i = 10 then some 12 else if i = 11 then some 13 else if i = 12 then some 14 else if i = 13 then some 15 else if i = 14 then some 16 else if i = 16 then some 17 else if i = 17 then some 18 else C.2.2 6 i) else if c = 19 then (if i = 4 then some 20 else if i = 5 then some 21 else if i = 6 then some 22 else if i = 7 then some 23 else if i = 8 then some 24 else if i = 10 then some 25 else if i = 11 then some 26 else if i = 12 then some 27 else if i = 13 then some 28 else if i = 14 then some 29 else if i = 16 then some 30 else if i = 17 then some 31 else C.2.2 19 i) else C.2.2 c i)
set_option maxRecDepth 100000 in
theorem fb_fr (T : Nat) (C : cm_M) (x y : Int32) : cm_wr (cm_wi (cm_wi (cm_wr (fb C) 2 0 (some 1)) 2 1 x) 2 2 y) 2 7 (some T) = fr T (cm_wi (cm_wi C 2 1 x) 2 2 y) := by
  refine Prod.ext rfl (Prod.ext rfl (funext fun c => funext fun i => ?_))
  by_cases hc : c = 2
  · subst hc
    by_cases h7 : i = 7
    · subst h7
      rfl
    · by_cases h0 : i = 0
      · subst h0
        rfl
      · show (if 2 = 2 ∧ i = 7 then some T else if 2 = 2 ∧ i = 0 then some 1 else (if i = 11 then some 3 else if i = 12 then some 4 else if i = 13 then some 5 else C.2.2 2 i)) = (if i = 7 then some T else if i = 0 then some 1 else if i = 11 then some 3 else if i = 12 then some 4 else if i = 13 then some 5 else C.2.2 2 i)
        rw [if_neg (fun q => h7 q.2), if_neg (fun q => h0 q.2), if_neg h7, if_neg h0]
  · show (if c = 2 ∧ i = 7 then some T else if c = 2 ∧ i = 0 then some 1 else (fb C).2.2 c i) = (fr T C).2.2 c i
    rw [if_neg (fun q => hc q.1), if_neg (fun q => hc q.1)]
    show (if c = 2 then _ else _) = (if c = 2 then _ else _)
    rw [if_neg hc, if_neg hc]
set_option maxRecDepth 100000 in
theorem fr_fr (T : Nat) (C : cm_M) : fr T (fr T C) = fr T C := by
  refine Prod.ext rfl (Prod.ext rfl (funext fun c => funext fun i => ?_))
  by_cases h2 : c = 2
  · subst h2
    show (if i = 7 then some T else if i = 0 then some 1 else if i = 11 then some 3 else if i = 12 then some 4 else if i = 13 then some 5 else (if i = 7 then some T else if i = 0 then some 1 else if i = 11 then some 3 else if i = 12 then some 4 else if i = 13 then some 5 else C.2.2 2 i)) = (if i = 7 then some T else if i = 0 then some 1 else if i = 11 then some 3 else if i = 12 then some 4 else if i = 13 then some 5 else C.2.2 2 i)
    repeat' split
    all_goals rfl
  · by_cases h6 : c = 6
    · subst h6
      show (if i = 4 then some 7 else if i = 5 then some 8 else if i = 6 then some 9 else if i = 7 then some 10 else if i = 8 then some 11 else if i = 10 then some 12 else if i = 11 then some 13 else if i = 12 then some 14 else if i = 13 then some 15 else if i = 14 then some 16 else if i = 16 then some 17 else if i = 17 then some 18 else  (if i = 4 then some 7 else if i = 5 then some 8 else if i = 6 then some 9 else if i = 7 then some 10 else if i = 8 then some 11 else if i = 10 then some 12 else if i = 11 then some 13 else if i = 12 then some 14 else if i = 13 then some 15 else if i = 14 then some 16 else if i = 16 then some 17 else if i = 17 then some 18 else  C.2.2 6 i)) = (if i = 4 then some 7 else if i = 5 then some 8 else if i = 6 then some 9 else if i = 7 then some 10 else if i = 8 then some 11 else if i = 10 then some 12 else if i = 11 then some 13 else if i = 12 then some 14 else if i = 13 then some 15 else if i = 14 then some 16 else if i = 16 then some 17 else if i = 17 then some 18 else  C.2.2 6 i)
      by_cases q4 : i = 4
      · rw [if_pos q4, if_pos q4]
      rw [if_neg q4, if_neg q4]
      by_cases q5 : i = 5
      · rw [if_pos q5, if_pos q5]
      rw [if_neg q5, if_neg q5]
      by_cases q6 : i = 6
      · rw [if_pos q6, if_pos q6]
      rw [if_neg q6, if_neg q6]
      by_cases q7 : i = 7
      · rw [if_pos q7, if_pos q7]
      rw [if_neg q7, if_neg q7]
      by_cases q8 : i = 8
      · rw [if_pos q8, if_pos q8]
      rw [if_neg q8, if_neg q8]
      by_cases q10 : i = 10
      · rw [if_pos q10, if_pos q10]
      rw [if_neg q10, if_neg q10]
      by_cases q11 : i = 11
      · rw [if_pos q11, if_pos q11]
      rw [if_neg q11, if_neg q11]
      by_cases q12 : i = 12
      · rw [if_pos q12, if_pos q12]
      rw [if_neg q12, if_neg q12]
      by_cases q13 : i = 13
      · rw [if_pos q13, if_pos q13]
      rw [if_neg q13, if_neg q13]
      by_cases q14 : i = 14
      · rw [if_pos q14, if_pos q14]
      rw [if_neg q14, if_neg q14]
      by_cases q16 : i = 16
      · rw [if_pos q16, if_pos q16]
      rw [if_neg q16, if_neg q16]
      by_cases q17 : i = 17
      · rw [if_pos q17, if_pos q17]
      rw [if_neg q17, if_neg q17]
    · by_cases h19 : c = 19
      · subst h19
        show (if i = 4 then some 20 else if i = 5 then some 21 else if i = 6 then some 22 else if i = 7 then some 23 else if i = 8 then some 24 else if i = 10 then some 25 else if i = 11 then some 26 else if i = 12 then some 27 else if i = 13 then some 28 else if i = 14 then some 29 else if i = 16 then some 30 else if i = 17 then some 31 else  (if i = 4 then some 20 else if i = 5 then some 21 else if i = 6 then some 22 else if i = 7 then some 23 else if i = 8 then some 24 else if i = 10 then some 25 else if i = 11 then some 26 else if i = 12 then some 27 else if i = 13 then some 28 else if i = 14 then some 29 else if i = 16 then some 30 else if i = 17 then some 31 else  C.2.2 19 i)) = (if i = 4 then some 20 else if i = 5 then some 21 else if i = 6 then some 22 else if i = 7 then some 23 else if i = 8 then some 24 else if i = 10 then some 25 else if i = 11 then some 26 else if i = 12 then some 27 else if i = 13 then some 28 else if i = 14 then some 29 else if i = 16 then some 30 else if i = 17 then some 31 else  C.2.2 19 i)
        by_cases q4 : i = 4
        · rw [if_pos q4, if_pos q4]
        rw [if_neg q4, if_neg q4]
        by_cases q5 : i = 5
        · rw [if_pos q5, if_pos q5]
        rw [if_neg q5, if_neg q5]
        by_cases q6 : i = 6
        · rw [if_pos q6, if_pos q6]
        rw [if_neg q6, if_neg q6]
        by_cases q7 : i = 7
        · rw [if_pos q7, if_pos q7]
        rw [if_neg q7, if_neg q7]
        by_cases q8 : i = 8
        · rw [if_pos q8, if_pos q8]
        rw [if_neg q8, if_neg q8]
        by_cases q10 : i = 10
        · rw [if_pos q10, if_pos q10]
        rw [if_neg q10, if_neg q10]
        by_cases q11 : i = 11
        · rw [if_pos q11, if_pos q11]
        rw [if_neg q11, if_neg q11]
        by_cases q12 : i = 12
        · rw [if_pos q12, if_pos q12]
        rw [if_neg q12, if_neg q12]
        by_cases q13 : i = 13
        · rw [if_pos q13, if_pos q13]
        rw [if_neg q13, if_neg q13]
        by_cases q14 : i = 14
        · rw [if_pos q14, if_pos q14]
        rw [if_neg q14, if_neg q14]
        by_cases q16 : i = 16
        · rw [if_pos q16, if_pos q16]
        rw [if_neg q16, if_neg q16]
        by_cases q17 : i = 17
        · rw [if_pos q17, if_pos q17]
        rw [if_neg q17, if_neg q17]
      · show (if c = 2 then _ else if c = 6 then _ else if c = 19 then _ else (if c = 2 then _ else if c = 6 then _ else if c = 19 then _ else C.2.2 c i)) = (if c = 2 then _ else if c = 6 then _ else if c = 19 then _ else C.2.2 c i)
        rw [if_neg h2, if_neg h6, if_neg h19, if_neg h2, if_neg h6, if_neg h19]
noncomputable def cF_clear (T : Nat) (C : cm_M) : cm_M := cm_wi (cm_wi (cm_wi (cm_wi (cm_wi (cm_wi (cm_wi (cm_wi (cm_wi (cm_wi (C) (T) 0 0) (T) 1 0) (T) 2 0) (T) 3 0) (T) 9 0) (T) 15 0) (T) 18 0) (T + 12) 0 0) (T + 12) 1 0) (T + 12) 2 0
set_option maxRecDepth 100000 in
set_option maxHeartbeats 4000000 in
theorem f_clear6 {U : Nat} (C : cm_M) : cm_Lc cm_ms 8 [.ref 6] (fr U C) (fq U none (cF_clear 6 C)) := by
  refine lb_st0 (mi := mr_8) rfl 120 ?_
  show (ev_cmp 3 (0 : Int32) 3 = true → _) ∧ (ev_cmp 3 (0 : Int32) 3 = false → _)
  refine ⟨fun q => absurd q (by decide), fun _ => ?_⟩
  show (ev_cmp 3 (1 : Int32) 3 = true → _) ∧ (ev_cmp 3 (1 : Int32) 3 = false → _)
  refine ⟨fun q => absurd q (by decide), fun _ => ?_⟩
  show (ev_cmp 3 (2 : Int32) 3 = true → _) ∧ (ev_cmp 3 (2 : Int32) 3 = false → _)
  refine ⟨fun q => absurd q (by decide), fun _ => ?_⟩
  show (ev_cmp 3 (3 : Int32) 3 = true → _) ∧ (ev_cmp 3 (3 : Int32) 3 = false → _)
  refine ⟨fun _ => ?_, fun q => absurd q (by decide)⟩
  show fq U none (cF_clear 6 C) none (cm_wi (cm_wi (cm_wi (cm_wi (cm_wi (cm_wi (cm_wi (cm_wi (cm_wi (cm_wi (fr U C) 6 0 0) 6 1 0) 6 2 0) 6 3 0) 6 9 0) 6 15 0) 6 18 0) 18 0 0) 18 1 0) 18 2 0)
  exact ⟨rfl, _, rfl, rfl⟩
set_option maxRecDepth 100000 in
set_option maxHeartbeats 4000000 in
theorem f_clear19 {U : Nat} (C : cm_M) : cm_Lc cm_ms 8 [.ref 19] (fr U C) (fq U none (cF_clear 19 C)) := by
  refine lb_st0 (mi := mr_8) rfl 120 ?_
  show (ev_cmp 3 (0 : Int32) 3 = true → _) ∧ (ev_cmp 3 (0 : Int32) 3 = false → _)
  refine ⟨fun q => absurd q (by decide), fun _ => ?_⟩
  show (ev_cmp 3 (1 : Int32) 3 = true → _) ∧ (ev_cmp 3 (1 : Int32) 3 = false → _)
  refine ⟨fun q => absurd q (by decide), fun _ => ?_⟩
  show (ev_cmp 3 (2 : Int32) 3 = true → _) ∧ (ev_cmp 3 (2 : Int32) 3 = false → _)
  refine ⟨fun q => absurd q (by decide), fun _ => ?_⟩
  show (ev_cmp 3 (3 : Int32) 3 = true → _) ∧ (ev_cmp 3 (3 : Int32) 3 = false → _)
  refine ⟨fun _ => ?_, fun q => absurd q (by decide)⟩
  show fq U none (cF_clear 19 C) none (cm_wi (cm_wi (cm_wi (cm_wi (cm_wi (cm_wi (cm_wi (cm_wi (cm_wi (cm_wi (fr U C) 19 0 0) 19 1 0) 19 2 0) 19 3 0) 19 9 0) 19 15 0) 19 18 0) 31 0 0) 31 1 0) 31 2 0)
  exact ⟨rfl, _, rfl, rfl⟩
noncomputable def rd0 (T : Nat) (n : Int32) (C : cm_M) : cm_M := cm_wi (cm_wi (cm_wi (fr T (cF_clear T (cm_wi (cm_wi C 2 1 n) 2 2 0))) 2 8 0) 2 9 0) 2 10 0
theorem clr_2 {T i : Nat} {C : cm_M} (hT : 6 ≤ T) : (cF_clear T C).1 2 i = C.1 2 i := by
  unfold cF_clear
  have e : ∀ (X : cm_M) (c j : Nat) (v : Int32), 6 ≤ c → (cm_wi X c j v).1 2 i = X.1 2 i := fun X c j v hc => by
    show (if 2 = c ∧ i = j then _ else _) = _
    rw [if_neg (by omega)]
  rw [e _ _ _ _ (by omega), e _ _ _ _ (by omega), e _ _ _ _ (by omega), e _ _ _ _ (by omega), e _ _ _ _ (by omega), e _ _ _ _ (by omega), e _ _ _ _ (by omega), e _ _ _ _ (by omega), e _ _ _ _ (by omega), e _ _ _ _ (by omega)]
theorem rd0_RC {T N : Nat} {C : cm_M} (hT : 6 ≤ T) (hN : N ≤ 900) : RC N (rd0 T (Int32.ofNat N) C) :=
  ⟨⟨rfl, (clr_2 hT : (cF_clear T (cm_wi (cm_wi C 2 1 (Int32.ofNat N)) 2 2 0)).1 2 1 = _), hN, 0, Nat.zero_le _, (clr_2 hT : (cF_clear T (cm_wi (cm_wi C 2 1 (Int32.ofNat N)) 2 2 0)).1 2 2 = _)⟩, 0, Nat.zero_le _, rfl⟩
noncomputable def fin (T : Nat) (X : cm_M) : cm_M := if (if X.1 2 3 = 0 then X else cF_fail 1 X).1 T 3 = 0 then cF_fail 6 (if X.1 2 3 = 0 then X else cF_fail 1 X) else (if X.1 2 3 = 0 then X else cF_fail 1 X)
theorem PG_fin {T N : Nat} {X : cm_M} : PG T N X (fin T X) := by
  have h : PG T N X (if X.1 2 3 = 0 then X else cF_fail 1 X) := by
    split
    · exact PG_rfl
    · exact PG_fail
  unfold fin
  generalize (if X.1 2 3 = 0 then X else cF_fail 1 X) = Y at h ⊢
  split
  · exact PG_tr h PG_fail
  · exact h
noncomputable abbrev rd_K (T N : Nat) (C0 : cm_M) : cm_K := fun v M' => ∃ X, Ex T N C0 X ∧ RC N X ∧ M' = fr T (fin T X) ∧ v = some (.int ((fin T X).1 2 9))
noncomputable def rd_J (T N : Nat) (C0 : cm_M) (S : cm_S) : Prop := (∃ k, k ≤ 900 ∧ S = (58, [(0, .ref 2), (4, .int (Int32.ofNat k))], [], fr T (itr T N C0 (k + 1))) ∧ ∀ i, i < k → lc (itr T N C0 (i + 1))) ∨ (∃ X, Ex T N C0 X ∧ RC N X ∧ S = (95, [(0, .ref 2)], [], fr T X)) ∨ (∃ X Y, Ex T N C0 X ∧ RC N X ∧ (if X.1 2 3 = 0 then X else cF_fail 1 X) = Y ∧ S = (107, [(0, .ref 2)], [], fr T Y))
noncomputable abbrev rd_st : List (Nat × List Nat) := [(58, [0, 4]), (95, [0]), (107, [0])]
theorem min9 {N : Nat} (hN : N ≤ 900) : (if (Int32.ofNat 900) < (Int32.ofNat N) then (Int32.ofNat 900) else (Int32.ofNat N)) = Int32.ofNat N := by
  rw [if_neg (fun q => ?_)]
  have := Int32.lt_iff_toInt_lt.mp q
  rw [fn_toInt (by omega), fn_toInt (by omega)] at this
  omega
set_option maxRecDepth 100000 in
set_option maxHeartbeats 4000000 in
theorem f_read6 {N : Nat} {C : cm_M} (hN : N ≤ 900) : cm_Lc cm_ms 64 [.ref 2, .ref 1, .int (Int32.ofNat N), .ref 6] (fb C) (rd_K 6 N (rd0 6 (Int32.ofNat N) C)) := by
  have hC0 : RC N (rd0 6 (Int32.ofNat N) C) := rd0_RC (by decide) hN
  have h00 : (rd0 6 (Int32.ofNat N) C).1 2 9 = 0 := rfl
  refine lb_of (mi := mr_64) rfl rd_st (rd_J 6 N (rd0 6 (Int32.ofNat N) C)) 60 (fun S hS => ?_) 60 ?_
  · generalize hg : rd0 6 (Int32.ofNat N) C = C0 at hC0 h00 hS ⊢
    rcases hS with ⟨k, hk, rfl, ha⟩ | ⟨X, hX, hR, rfl⟩ | ⟨X, Y, hX, hR, hY, rfl⟩
    · have hRk := itr_rs (T := 6) (by decide) hC0 (k + 1)
      have hlt := itr_900 (T := 6) (by decide) hC0 h00 ha
      generalize hgX : itr 6 N C0 (k + 1) = X at hRk hlt
      show (ev_cmp 3 (Int32.ofNat k) 900 = true → _) ∧ (ev_cmp 3 (Int32.ofNat k) 900 = false → (ev_cmp 1 (X.1 2 9) 0 = true → _) ∧ (ev_cmp 1 (X.1 2 9) 0 = false → (ev_cmp 1 (X.1 2 3) 3 = true → _) ∧ (ev_cmp 1 (X.1 2 3) 3 = false → ∃ R, cm_Lc cm_ms 88 [.ref 2] (fr 6 X) R ∧ ∀ v M', R v M' → _)))
      refine ⟨fun h1 => ?_, fun h1 => ⟨fun h2 => ?_, fun h2 => ⟨fun h3 => ?_, fun h3 => ⟨_, f_step hRk, ?_⟩⟩⟩⟩
      · have g := fn_ge h1
        rw [fn_toInt (by omega)] at g
        have e9 : (900 : Int32).toInt = 900 := by decide
        show rd_J 6 N C0 (95, [(0, .ref 2)], [], fr 6 X)
        exact Or.inr (Or.inl ⟨X, ⟨k, hgX.symm, ha, fun q => by have := hlt q.1; omega⟩, hRk, rfl⟩)
      · show rd_J 6 N C0 (95, [(0, .ref 2)], [], fr 6 X)
        exact Or.inr (Or.inl ⟨X, ⟨k, hgX.symm, ha, fun q => fn_ne h2 q.1⟩, hRk, rfl⟩)
      · show rd_J 6 N C0 (95, [(0, .ref 2)], [], fr 6 X)
        exact Or.inr (Or.inl ⟨X, ⟨k, hgX.symm, ha, fun q => fn_ne h3 q.2⟩, hRk, rfl⟩)
      · rintro v M' ⟨rfl, A, eA, rfl⟩
        have kA : RC N A := by rw [eA]; exact RC_step hRk
        have zA : A.1 2 9 = 0 := by rw [eA, cF_step_9]; exact fn_eq h2
        show ∃ R, cm_Lc cm_ms 67 [.ref 2] (fr 6 A) R ∧ ∀ v M', R v M' → _
        refine ⟨_, f_readLine6 kA zA, ?_⟩
        rintro v M' ⟨rfl, B, eB, rfl⟩
        show rd_J 6 N C0 (58, [(0, .ref 2), (4, .int (Int32.ofNat k + 1))], [], fr 6 B)
        have hk9 := hlt (fn_eq h2)
        have e2 : B = itr 6 N C0 (k + 1 + 1) := by
          rw [eB, eA, ← hgX]
          try rfl
        rw [fn_succ, e2]
        refine Or.inl ⟨k + 1, by omega, rfl, fun i hi => ?_⟩
        rcases (by omega : i < k ∨ i = k) with q | q
        · exact ha i q
        · rw [q, hgX]
          exact ⟨fn_eq h2, fn_eq h3⟩
    · show (ev_cmp 0 (X.1 2 3) 0 = true → _) ∧ (ev_cmp 0 (X.1 2 3) 0 = false → ∃ R, cm_Lc cm_ms 66 [.ref 2, .int 1] (fr 6 X) R ∧ ∀ v M', R v M' → _)
      refine ⟨fun h1 => ?_, fun h1 => ⟨_, f_fail 1 _, ?_⟩⟩
      · show rd_J 6 N C0 (107, [(0, .ref 2)], [], fr 6 X)
        exact Or.inr (Or.inr ⟨X, X, hX, hR, if_pos (fn_eq0 h1), rfl⟩)
      · rintro v M' ⟨rfl, Y, eY, rfl⟩
        show rd_J 6 N C0 (107, [(0, .ref 2)], [], fr 6 Y)
        exact Or.inr (Or.inr ⟨X, Y, hX, hR, by rw [if_neg (fn_ne0 h1), eY], rfl⟩)
    · show (ev_cmp 1 (Y.1 6 3) 0 = true → _) ∧ (ev_cmp 1 (Y.1 6 3) 0 = false → ∃ R, cm_Lc cm_ms 66 [.ref 2, .int 6] (fr 6 Y) R ∧ ∀ v M', R v M' → _)
      refine ⟨fun h1 => ?_, fun h1 => ⟨_, f_fail 6 _, ?_⟩⟩
      · have e : fin 6 X = Y := by
          unfold fin
          rw [hY, if_neg (fn_ne h1)]
        show rd_K 6 N C0 (some (.int (Y.1 2 9))) (fr 6 Y)
        exact ⟨X, hX, hR, by rw [e], by rw [e]⟩
      · rintro v M' ⟨rfl, Z, eZ, rfl⟩
        have e : fin 6 X = Z := by
          unfold fin
          rw [hY, if_pos (fn_eq h1), eZ]
        show rd_K 6 N C0 (some (.int (Z.1 2 9))) (fr 6 Z)
        exact ⟨X, hX, hR, by rw [e], by rw [e]⟩
  · show ∃ R, cm_Lc cm_ms 8 [.ref 6] (cm_wr (cm_wi (cm_wi (cm_wr (fb C) 2 0 (some 1)) 2 1 (if (Int32.ofNat 900) < (Int32.ofNat N) then (Int32.ofNat 900) else (Int32.ofNat N))) 2 2 0) 2 7 (some 6)) R ∧ ∀ v M', R v M' → _
    refine ⟨fun v M' => v = none ∧ ∃ A, A = fr 6 (cF_clear 6 (cm_wi (cm_wi C 2 1 (Int32.ofNat N)) 2 2 0)) ∧ M' = fr 6 A, ?_, ?_⟩
    · rw [min9 hN, fb_fr]
      refine cm_Lc_im (f_clear6 _) (fun v M' q => ?_)
      obtain ⟨q1, A, q2, q3⟩ := q
      exact ⟨q1, fr 6 A, by rw [q2], by rw [fr_fr, q3]⟩
    rintro v M' ⟨rfl, A, eA, rfl⟩
    have e0 : cm_wi (cm_wi (cm_wi A 2 8 0) 2 9 0) 2 10 0 = rd0 6 (Int32.ofNat N) C := by rw [eA]; try rfl
    show ∃ R, cm_Lc cm_ms 88 [.ref 2] (fr 6 (cm_wi (cm_wi (cm_wi A 2 8 0) 2 9 0) 2 10 0)) R ∧ ∀ v M', R v M' → _
    refine ⟨_, f_step (T := 6) (by rw [e0]; exact hC0), ?_⟩
    rintro v M' ⟨rfl, B, eB, rfl⟩
    rw [e0] at eB
    have kB : RC N B := by rw [eB]; exact RC_step hC0
    have zB : B.1 2 9 = 0 := by rw [eB, cF_step_9]; exact h00
    show ∃ R, cm_Lc cm_ms 67 [.ref 2] (fr 6 B) R ∧ ∀ v M', R v M' → _
    refine ⟨_, f_readLine6 kB zB, ?_⟩
    rintro v M' ⟨rfl, E, eE, rfl⟩
    show rd_J 6 N (rd0 6 (Int32.ofNat N) C) (58, [(0, .ref 2), (4, .int (Int32.ofNat 0))], [], fr 6 E)
    have e2 : E = itr 6 N (rd0 6 (Int32.ofNat N) C) (0 + 1) := by
      rw [eE, eB]
      try rfl
    rw [e2]
    exact Or.inl ⟨0, Nat.zero_le _, rfl, fun i hi => by omega⟩
set_option maxRecDepth 100000 in
set_option maxHeartbeats 4000000 in
theorem f_read19 {N : Nat} {C : cm_M} (hN : N ≤ 900) : cm_Lc cm_ms 64 [.ref 2, .ref 1, .int (Int32.ofNat N), .ref 19] (fb C) (rd_K 19 N (rd0 19 (Int32.ofNat N) C)) := by
  have hC0 : RC N (rd0 19 (Int32.ofNat N) C) := rd0_RC (by decide) hN
  have h00 : (rd0 19 (Int32.ofNat N) C).1 2 9 = 0 := rfl
  refine lb_of (mi := mr_64) rfl rd_st (rd_J 19 N (rd0 19 (Int32.ofNat N) C)) 60 (fun S hS => ?_) 60 ?_
  · generalize hg : rd0 19 (Int32.ofNat N) C = C0 at hC0 h00 hS ⊢
    rcases hS with ⟨k, hk, rfl, ha⟩ | ⟨X, hX, hR, rfl⟩ | ⟨X, Y, hX, hR, hY, rfl⟩
    · have hRk := itr_rs (T := 19) (by decide) hC0 (k + 1)
      have hlt := itr_900 (T := 19) (by decide) hC0 h00 ha
      generalize hgX : itr 19 N C0 (k + 1) = X at hRk hlt
      show (ev_cmp 3 (Int32.ofNat k) 900 = true → _) ∧ (ev_cmp 3 (Int32.ofNat k) 900 = false → (ev_cmp 1 (X.1 2 9) 0 = true → _) ∧ (ev_cmp 1 (X.1 2 9) 0 = false → (ev_cmp 1 (X.1 2 3) 3 = true → _) ∧ (ev_cmp 1 (X.1 2 3) 3 = false → ∃ R, cm_Lc cm_ms 88 [.ref 2] (fr 19 X) R ∧ ∀ v M', R v M' → _)))
      refine ⟨fun h1 => ?_, fun h1 => ⟨fun h2 => ?_, fun h2 => ⟨fun h3 => ?_, fun h3 => ⟨_, f_step hRk, ?_⟩⟩⟩⟩
      · have g := fn_ge h1
        rw [fn_toInt (by omega)] at g
        have e9 : (900 : Int32).toInt = 900 := by decide
        show rd_J 19 N C0 (95, [(0, .ref 2)], [], fr 19 X)
        exact Or.inr (Or.inl ⟨X, ⟨k, hgX.symm, ha, fun q => by have := hlt q.1; omega⟩, hRk, rfl⟩)
      · show rd_J 19 N C0 (95, [(0, .ref 2)], [], fr 19 X)
        exact Or.inr (Or.inl ⟨X, ⟨k, hgX.symm, ha, fun q => fn_ne h2 q.1⟩, hRk, rfl⟩)
      · show rd_J 19 N C0 (95, [(0, .ref 2)], [], fr 19 X)
        exact Or.inr (Or.inl ⟨X, ⟨k, hgX.symm, ha, fun q => fn_ne h3 q.2⟩, hRk, rfl⟩)
      · rintro v M' ⟨rfl, A, eA, rfl⟩
        have kA : RC N A := by rw [eA]; exact RC_step hRk
        have zA : A.1 2 9 = 0 := by rw [eA, cF_step_9]; exact fn_eq h2
        show ∃ R, cm_Lc cm_ms 67 [.ref 2] (fr 19 A) R ∧ ∀ v M', R v M' → _
        refine ⟨_, f_readLine19 kA zA, ?_⟩
        rintro v M' ⟨rfl, B, eB, rfl⟩
        show rd_J 19 N C0 (58, [(0, .ref 2), (4, .int (Int32.ofNat k + 1))], [], fr 19 B)
        have hk9 := hlt (fn_eq h2)
        have e2 : B = itr 19 N C0 (k + 1 + 1) := by
          rw [eB, eA, ← hgX]
          try rfl
        rw [fn_succ, e2]
        refine Or.inl ⟨k + 1, by omega, rfl, fun i hi => ?_⟩
        rcases (by omega : i < k ∨ i = k) with q | q
        · exact ha i q
        · rw [q, hgX]
          exact ⟨fn_eq h2, fn_eq h3⟩
    · show (ev_cmp 0 (X.1 2 3) 0 = true → _) ∧ (ev_cmp 0 (X.1 2 3) 0 = false → ∃ R, cm_Lc cm_ms 66 [.ref 2, .int 1] (fr 19 X) R ∧ ∀ v M', R v M' → _)
      refine ⟨fun h1 => ?_, fun h1 => ⟨_, f_fail 1 _, ?_⟩⟩
      · show rd_J 19 N C0 (107, [(0, .ref 2)], [], fr 19 X)
        exact Or.inr (Or.inr ⟨X, X, hX, hR, if_pos (fn_eq0 h1), rfl⟩)
      · rintro v M' ⟨rfl, Y, eY, rfl⟩
        show rd_J 19 N C0 (107, [(0, .ref 2)], [], fr 19 Y)
        exact Or.inr (Or.inr ⟨X, Y, hX, hR, by rw [if_neg (fn_ne0 h1), eY], rfl⟩)
    · show (ev_cmp 1 (Y.1 19 3) 0 = true → _) ∧ (ev_cmp 1 (Y.1 19 3) 0 = false → ∃ R, cm_Lc cm_ms 66 [.ref 2, .int 6] (fr 19 Y) R ∧ ∀ v M', R v M' → _)
      refine ⟨fun h1 => ?_, fun h1 => ⟨_, f_fail 6 _, ?_⟩⟩
      · have e : fin 19 X = Y := by
          unfold fin
          rw [hY, if_neg (fn_ne h1)]
        show rd_K 19 N C0 (some (.int (Y.1 2 9))) (fr 19 Y)
        exact ⟨X, hX, hR, by rw [e], by rw [e]⟩
      · rintro v M' ⟨rfl, Z, eZ, rfl⟩
        have e : fin 19 X = Z := by
          unfold fin
          rw [hY, if_pos (fn_eq h1), eZ]
        show rd_K 19 N C0 (some (.int (Z.1 2 9))) (fr 19 Z)
        exact ⟨X, hX, hR, by rw [e], by rw [e]⟩
  · show ∃ R, cm_Lc cm_ms 8 [.ref 19] (cm_wr (cm_wi (cm_wi (cm_wr (fb C) 2 0 (some 1)) 2 1 (if (Int32.ofNat 900) < (Int32.ofNat N) then (Int32.ofNat 900) else (Int32.ofNat N))) 2 2 0) 2 7 (some 19)) R ∧ ∀ v M', R v M' → _
    refine ⟨fun v M' => v = none ∧ ∃ A, A = fr 19 (cF_clear 19 (cm_wi (cm_wi C 2 1 (Int32.ofNat N)) 2 2 0)) ∧ M' = fr 19 A, ?_, ?_⟩
    · rw [min9 hN, fb_fr]
      refine cm_Lc_im (f_clear19 _) (fun v M' q => ?_)
      obtain ⟨q1, A, q2, q3⟩ := q
      exact ⟨q1, fr 19 A, by rw [q2], by rw [fr_fr, q3]⟩
    rintro v M' ⟨rfl, A, eA, rfl⟩
    have e0 : cm_wi (cm_wi (cm_wi A 2 8 0) 2 9 0) 2 10 0 = rd0 19 (Int32.ofNat N) C := by rw [eA]; try rfl
    show ∃ R, cm_Lc cm_ms 88 [.ref 2] (fr 19 (cm_wi (cm_wi (cm_wi A 2 8 0) 2 9 0) 2 10 0)) R ∧ ∀ v M', R v M' → _
    refine ⟨_, f_step (T := 19) (by rw [e0]; exact hC0), ?_⟩
    rintro v M' ⟨rfl, B, eB, rfl⟩
    rw [e0] at eB
    have kB : RC N B := by rw [eB]; exact RC_step hC0
    have zB : B.1 2 9 = 0 := by rw [eB, cF_step_9]; exact h00
    show ∃ R, cm_Lc cm_ms 67 [.ref 2] (fr 19 B) R ∧ ∀ v M', R v M' → _
    refine ⟨_, f_readLine19 kB zB, ?_⟩
    rintro v M' ⟨rfl, E, eE, rfl⟩
    show rd_J 19 N (rd0 19 (Int32.ofNat N) C) (58, [(0, .ref 2), (4, .int (Int32.ofNat 0))], [], fr 19 E)
    have e2 : E = itr 19 N (rd0 19 (Int32.ofNat N) C) (0 + 1) := by
      rw [eE, eB]
      try rfl
    rw [e2]
    exact Or.inl ⟨0, Nat.zero_le _, rfl, fun i hi => by omega⟩
