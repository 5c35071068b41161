theorem m_isW1 {N t : Nat} (ht : t < 40) {C D : cm_M} (h : Rq N C D) (h0 : C.1 2 9 = 0) (hw : wt t C = true) : cm_Lc cm_ms 178 [.ref 124, .ref (1001 + 2 * t)] (fm D) (fun v M' => v = some (.int 1) ∧ M' = fm D) := by
  refine cm_Lc_im (m_isWord ht h) (fun v M' q => ⟨?_, q.2⟩)
  rw [q.1, hw, decide_eq_true h0]
  try rfl
theorem m_isW0 {N t : Nat} (ht : t < 40) {C D : cm_M} (h : Rq N C D) (h0 : C.1 2 9 = 0) (hw : wt t C = false) : cm_Lc cm_ms 178 [.ref 124, .ref (1001 + 2 * t)] (fm D) (fun v M' => v = some (.int 0) ∧ M' = fm D) := by
  refine cm_Lc_im (m_isWord ht h) (fun v M' q => ⟨?_, q.2⟩)
  rw [q.1, hw, decide_eq_true h0]
  try rfl
noncomputable abbrev bg_K (N : Nat) (X D : cm_M) : cm_K := fun v M' => v = some (.int 1) ∧ ∃ D', M' = fm D' ∧ Rq N X D' ∧ D'.1 128 = D.1 128
set_option maxRecDepth 100000 in
set_option maxHeartbeats 1000000 in
theorem m_beg0 {N t : Nat} (ht : t < 40) {C D : cm_M} (h : Rq N C D) (h0 : C.1 2 9 = 0) (hF : D.1 128 10 = C.1 2 8) (hw : wt t C = true) : cm_Lc cm_ms 193 [.ref 124, .ref (1001 + 2 * t), .int 0] (fm D) (bg_K N (cF_fail 5 C) D) := by
  refine lb_st0 (mi := mr_193) rfl 60 ?_
  show ∃ R, cm_Lc cm_ms 178 [.ref 124, .ref (1001 + 2 * t)] (fm D) R ∧ ∀ v M', R v M' → _
  refine ⟨_, m_isW1 (t := t) ht h h0 hw, ?_⟩
  rintro v M' ⟨rfl, rfl⟩
  show (ev_cmp 1 1 0 = true → _) ∧ (ev_cmp 1 1 0 = false → _)
  refine ⟨fun h1 => ?_, fun h1 => ?_⟩
  · show (ev_cmp 1 0 0 = true → _) ∧ (ev_cmp 1 0 0 = false → _)
    refine ⟨fun h2 => ?_, fun h2 => ?_⟩
    · exact absurd h2 (by decide)
    · show ∃ R, cm_Lc cm_ms 177 [.ref 124, .int 5, .int (D.1 124 4)] (fm D) R ∧ ∀ v M', R v M' → _
      refine ⟨_, cm_Lc_nm (R := fun X => mq N X D) (cF_fail 5 C) (m_wrong h (x := 5) (by decide)), ?_⟩
      rintro v M' ⟨C1, e1, rfl, D1, rfl, r1, f1⟩
      show (ev_cmp 1 (D1.1 128 10) 0 = true → _) ∧ (ev_cmp 1 (D1.1 128 10) 0 = false → _)
      refine ⟨fun h3 => ?_, fun h3 => ?_⟩
      · have g3 := fn_ne h3
        show ∃ R, cm_Lc cm_ms 187 [.ref 124] (fm D1) R ∧ ∀ v M', R v M' → _
        refine ⟨_, cm_Lc_nm (R := fun X => mq N X D1) (cF_step N C1) (m_pass r1), ?_⟩
        rintro v M' ⟨C2, e2, rfl, D2, rfl, r2, f2⟩
        show bg_K N (cF_fail 5 C) D (some (.int 1)) (fm D2)
        have y1 : C1.1 2 9 ≠ 0 := by rw [e1]; exact cF_fail_9n (by decide)
        have e : C2 = cF_fail 5 C := by
          rw [e2, cF_step_id y1, e1]
        exact ⟨rfl, D2, rfl, e ▸ r2, f2.trans (f1)⟩
      · have g3 := fn_eq h3
        show ∃ R, cm_Lc cm_ms 177 [.ref 124, .int 6, .int (D1.1 124 4)] (fm D1) R ∧ ∀ v M', R v M' → _
        refine ⟨_, cm_Lc_nm (R := fun X => mq N X D1) (cF_fail 6 C1) (m_wrong r1 (x := 6) (by decide)), ?_⟩
        rintro v M' ⟨C2, e2, rfl, D2, rfl, r2, f2⟩
        show ∃ R, cm_Lc cm_ms 187 [.ref 124] (fm D2) R ∧ ∀ v M', R v M' → _
        refine ⟨_, cm_Lc_nm (R := fun X => mq N X D2) (cF_step N C2) (m_pass r2), ?_⟩
        rintro v M' ⟨C3, e3, rfl, D3, rfl, r3, f3⟩
        show bg_K N (cF_fail 5 C) D (some (.int 1)) (fm D3)
        have y1 : C1.1 2 9 ≠ 0 := by rw [e1]; exact cF_fail_9n (by decide)
        have e : C3 = cF_fail 5 C := by
          rw [e3, e2, cF_fail_id y1, cF_step_id y1, e1]
        exact ⟨rfl, D3, rfl, e ▸ r3, f3.trans (f2.trans (f1))⟩
  · exact absurd h1 (by decide)
set_option maxRecDepth 100000 in
set_option maxHeartbeats 1000000 in
theorem m_beg1a {N t : Nat} (ht : t < 40) {C D : cm_M} (h : Rq N C D) (h0 : C.1 2 9 = 0) (hF : D.1 128 10 = C.1 2 8) (td : C.1 2 8 = 0) (hw : wt t C = true) : cm_Lc cm_ms 193 [.ref 124, .ref (1001 + 2 * t), .int 1] (fm D) (bg_K N (cF_fail 6 C) D) := by
  refine lb_st0 (mi := mr_193) rfl 60 ?_
  show ∃ R, cm_Lc cm_ms 178 [.ref 124, .ref (1001 + 2 * t)] (fm D) R ∧ ∀ v M', R v M' → _
  refine ⟨_, m_isW1 (t := t) ht h h0 hw, ?_⟩
  rintro v M' ⟨rfl, rfl⟩
  show (ev_cmp 1 1 0 = true → _) ∧ (ev_cmp 1 1 0 = false → _)
  refine ⟨fun h1 => ?_, fun h1 => ?_⟩
  · show (ev_cmp 1 1 0 = true → _) ∧ (ev_cmp 1 1 0 = false → _)
    refine ⟨fun h2 => ?_, fun h2 => ?_⟩
    · show (ev_cmp 1 (D.1 128 10) 0 = true → _) ∧ (ev_cmp 1 (D.1 128 10) 0 = false → _)
      refine ⟨fun h3 => ?_, fun h3 => ?_⟩
      · have g3 := fn_ne h3
        show ∃ R, cm_Lc cm_ms 187 [.ref 124] (fm D) R ∧ ∀ v M', R v M' → _
        refine ⟨_, cm_Lc_nm (R := fun X => mq N X D) (cF_step N C) (m_pass h), ?_⟩
        rintro v M' ⟨C1, e1, rfl, D1, rfl, r1, f1⟩
        show bg_K N (cF_fail 6 C) D (some (.int 1)) (fm D1)
        exact absurd (hF.trans td) g3
      · have g3 := fn_eq h3
        show ∃ R, cm_Lc cm_ms 177 [.ref 124, .int 6, .int (D.1 124 4)] (fm D) R ∧ ∀ v M', R v M' → _
        refine ⟨_, cm_Lc_nm (R := fun X => mq N X D) (cF_fail 6 C) (m_wrong h (x := 6) (by decide)), ?_⟩
        rintro v M' ⟨C1, e1, rfl, D1, rfl, r1, f1⟩
        show ∃ R, cm_Lc cm_ms 187 [.ref 124] (fm D1) R ∧ ∀ v M', R v M' → _
        refine ⟨_, cm_Lc_nm (R := fun X => mq N X D1) (cF_step N C1) (m_pass r1), ?_⟩
        rintro v M' ⟨C2, e2, rfl, D2, rfl, r2, f2⟩
        show bg_K N (cF_fail 6 C) D (some (.int 1)) (fm D2)
        have y1 : C1.1 2 9 ≠ 0 := by rw [e1]; exact cF_fail_9n (by decide)
        have e : C2 = cF_fail 6 C := by
          rw [e2, cF_step_id y1, e1]
        exact ⟨rfl, D2, rfl, e ▸ r2, f2.trans (f1)⟩
    · exact absurd h2 (by decide)
  · exact absurd h1 (by decide)
set_option maxRecDepth 100000 in
set_option maxHeartbeats 1000000 in
theorem m_beg1b {N t : Nat} (ht : t < 40) {C D : cm_M} (h : Rq N C D) (h0 : C.1 2 9 = 0) (hF : D.1 128 10 = C.1 2 8) (td : C.1 2 8 ≠ 0) (hw : wt t C = true) : cm_Lc cm_ms 193 [.ref 124, .ref (1001 + 2 * t), .int 1] (fm D) (bg_K N (cF_step N C) D) := by
  refine lb_st0 (mi := mr_193) rfl 60 ?_
  show ∃ R, cm_Lc cm_ms 178 [.ref 124, .ref (1001 + 2 * t)] (fm D) R ∧ ∀ v M', R v M' → _
  refine ⟨_, m_isW1 (t := t) ht h h0 hw, ?_⟩
  rintro v M' ⟨rfl, rfl⟩
  show (ev_cmp 1 1 0 = true → _) ∧ (ev_cmp 1 1 0 = false → _)
  refine ⟨fun h1 => ?_, fun h1 => ?_⟩
  · show (ev_cmp 1 1 0 = true → _) ∧ (ev_cmp 1 1 0 = false → _)
    refine ⟨fun h2 => ?_, fun h2 => ?_⟩
    · show (ev_cmp 1 (D.1 128 10) 0 = true → _) ∧ (ev_cmp 1 (D.1 128 10) 0 = false → _)
      refine ⟨fun h3 => ?_, fun h3 => ?_⟩
      · have g3 := fn_ne h3
        show ∃ R, cm_Lc cm_ms 187 [.ref 124] (fm D) R ∧ ∀ v M', R v M' → _
        refine ⟨_, cm_Lc_nm (R := fun X => mq N X D) (cF_step N C) (m_pass h), ?_⟩
        rintro v M' ⟨C1, e1, rfl, D1, rfl, r1, f1⟩
        show bg_K N (cF_step N C) D (some (.int 1)) (fm D1)
        exact ⟨rfl, D1, rfl, e1 ▸ r1, f1⟩
      · have g3 := fn_eq h3
        show ∃ R, cm_Lc cm_ms 177 [.ref 124, .int 6, .int (D.1 124 4)] (fm D) R ∧ ∀ v M', R v M' → _
        refine ⟨_, cm_Lc_nm (R := fun X => mq N X D) (cF_fail 6 C) (m_wrong h (x := 6) (by decide)), ?_⟩
        rintro v M' ⟨C1, e1, rfl, D1, rfl, r1, f1⟩
        show ∃ R, cm_Lc cm_ms 187 [.ref 124] (fm D1) R ∧ ∀ v M', R v M' → _
        refine ⟨_, cm_Lc_nm (R := fun X => mq N X D1) (cF_step N C1) (m_pass r1), ?_⟩
        rintro v M' ⟨C2, e2, rfl, D2, rfl, r2, f2⟩
        show bg_K N (cF_step N C) D (some (.int 1)) (fm D2)
        exact absurd (hF.symm.trans g3) td
    · exact absurd h2 (by decide)
  · exact absurd h1 (by decide)
theorem m_begN {N t : Nat} (ht : t < 40) {C D : cm_M} (h : Rq N C D) (h0 : C.1 2 9 = 0) (hw : wt t C = false) (x : Int32) : cm_Lc cm_ms 193 [.ref 124, .ref (1001 + 2 * t), .int x] (fm D) (fun v M' => v = some (.int 0) ∧ M' = fm D) := by
  refine lb_st0 (mi := mr_193) rfl 60 ?_
  show ∃ R, cm_Lc cm_ms 178 [.ref 124, .ref (1001 + 2 * t)] (fm D) R ∧ ∀ v M', R v M' → _
  refine ⟨_, m_isW0 (t := t) ht h h0 hw, ?_⟩
  rintro v M' ⟨rfl, rfl⟩
  show (ev_cmp 1 0 0 = true → _) ∧ (ev_cmp 1 0 0 = false → _)
  refine ⟨fun h1 => ?_, fun h1 => ?_⟩
  · exact absurd h1 (by decide)
  · show (fun (v : Option Value) (M' : cm_M) => v = some (.int 0) ∧ M' = fm D) (some (.int 0)) (fm D)
    exact ⟨rfl, rfl⟩
theorem wt_lt {C : cm_M} {j : Nat} (hb : ∀ i, i < j → wt i C = false) (hj : wt j C = false) : ∀ i, i < j + 1 → wt i C = false := fun i hi => by
  rcases (by omega : i < j ∨ i = j) with q | q
  · exact hb i q
  · rw [q]
    exact hj
theorem rl_G0 {g : Nat → cm_M → cm_M} {N : Nat} {b : Bool} {C : cm_M} (td : C.1 2 8 = 0) : rl_G g N b C = cF_fail 6 C := by
  unfold rl_G
  rw [if_pos td]
theorem rl_G1 {g : Nat → cm_M → cm_M} {N : Nat} {b : Bool} {C : cm_M} (td : C.1 2 8 ≠ 0) (hb : b = true) : rl_G g N b C = cF_fail 5 C := by
  unfold rl_G
  rw [if_neg td, if_pos hb]
theorem rl_G2 {g : Nat → cm_M → cm_M} {N : Nat} {b : Bool} {C : cm_M} (td : C.1 2 8 ≠ 0) (hb : b = false) : rl_G g N b C = g N (cF_step N C) := by
  unfold rl_G
  rw [if_neg td, hb, if_neg (by decide)]
theorem rl_atn {T N : Nat} {C : cm_M} (hl : cF_line C = (-1)) : rl_F T N C = cF_fail 1 C := by
  unfold rl_F
  rw [hl, if_pos rfl]
theorem rl_at0 {T N : Nat} {C : cm_M} (hl : cF_line C = 0) : rl_F T N C = tl_F T N C := by
  unfold rl_F
  rw [hl, if_neg (c := (0 : Int32) = (-1)) (by decide), if_pos rfl]
theorem rl_at1 {T N : Nat} {C : cm_M} (hl : cF_line C = 1) : rl_F T N C = rl_G (cF_man T) N (fuC T C 1 6) C := by
  unfold rl_F
  rw [hl, if_neg (c := (1 : Int32) = (-1)) (by decide), if_neg (c := (1 : Int32) = 0) (by decide), if_pos rfl]
theorem rl_at2 {T N : Nat} {C : cm_M} (hl : cF_line C = 2) : rl_F T N C = rl_G (cF_motion T) N (fuC T C 2 5) C := by
  unfold rl_F
  rw [hl, if_neg (c := (2 : Int32) = (-1)) (by decide), if_neg (c := (2 : Int32) = 0) (by decide), if_neg (c := (2 : Int32) = 1) (by decide), if_pos rfl]
theorem rl_at3 {T N : Nat} {C : cm_M} (hl : cF_line C = 3) : rl_F T N C = rl_G (cF_against T) N (fuC T C 3 9) C := by
  unfold rl_F
  rw [hl, if_neg (c := (3 : Int32) = (-1)) (by decide), if_neg (c := (3 : Int32) = 0) (by decide), if_neg (c := (3 : Int32) = 1) (by decide), if_neg (c := (3 : Int32) = 2) (by decide), if_pos rfl]
theorem rl_at4 {T N : Nat} {C : cm_M} (hl : cF_line C = 4) : rl_F T N C = rl_G (cF_amends T) N (fuC T C 4 6) C := by
  unfold rl_F
  rw [hl, if_neg (c := (4 : Int32) = (-1)) (by decide), if_neg (c := (4 : Int32) = 0) (by decide), if_neg (c := (4 : Int32) = 1) (by decide), if_neg (c := (4 : Int32) = 2) (by decide), if_neg (c := (4 : Int32) = 3) (by decide), if_pos rfl]
theorem rl_at5 {T N : Nat} {C : cm_M} (hl : cF_line C = 5) : rl_F T N C = rl_G (cF_quarrel T) N (fuC T C 5 9) C := by
  unfold rl_F
  rw [hl, if_neg (c := (5 : Int32) = (-1)) (by decide), if_neg (c := (5 : Int32) = 0) (by decide), if_neg (c := (5 : Int32) = 1) (by decide), if_neg (c := (5 : Int32) = 2) (by decide), if_neg (c := (5 : Int32) = 3) (by decide), if_neg (c := (5 : Int32) = 4) (by decide), if_pos rfl]
theorem rl_at6 {T N : Nat} {C : cm_M} (hl : cF_line C = 6) : rl_F T N C = rl_G (cF_chair T) N (fuC T C 6 5) C := by
  unfold rl_F
  rw [hl, if_neg (c := (6 : Int32) = (-1)) (by decide), if_neg (c := (6 : Int32) = 0) (by decide), if_neg (c := (6 : Int32) = 1) (by decide), if_neg (c := (6 : Int32) = 2) (by decide), if_neg (c := (6 : Int32) = 3) (by decide), if_neg (c := (6 : Int32) = 4) (by decide), if_neg (c := (6 : Int32) = 5) (by decide), if_pos rfl]
theorem rl_at7 {T N : Nat} {C : cm_M} (hl : cF_line C = 7) : rl_F T N C = rl_G (cF_heap T) N (fuC T C 7 900) C := by
  unfold rl_F
  rw [hl, if_neg (c := (7 : Int32) = (-1)) (by decide), if_neg (c := (7 : Int32) = 0) (by decide), if_neg (c := (7 : Int32) = 1) (by decide), if_neg (c := (7 : Int32) = 2) (by decide), if_neg (c := (7 : Int32) = 3) (by decide), if_neg (c := (7 : Int32) = 4) (by decide), if_neg (c := (7 : Int32) = 5) (by decide), if_neg (c := (7 : Int32) = 6) (by decide)]
theorem ad_8 {T : Nat} {c h v : Int32} {X : cm_M} (hT : 6 ≤ T) : (cF_addMan T c h v X).1 2 8 = X.1 2 8 ∧ (cF_addMotion T c h v X).1 2 8 = X.1 2 8 ∧ (cF_addChair T c X).1 2 8 = X.1 2 8 := by
  refine ⟨?_, ?_, ?_⟩
  · unfold cF_addMan
    split
    · rfl
    · rw [w8 hT, w8 (by omega), w8 (by omega), w8 (by omega), w8 (by omega), w8 (by omega)]
  · unfold cF_addMotion
    split
    · rfl
    · rw [w8 hT, w8 (by omega), w8 (by omega), w8 (by omega), w8 (by omega)]
  · unfold cF_addChair
    split
    · rfl
    · rw [w8 hT, w8 (by omega)]
theorem man_8 {T N : Nat} {C : cm_M} (hT : 6 ≤ T) : (cF_man T N C).1 2 8 = C.1 2 8 := by
  have k := (KC_tr (K_newName N 1 (C.1 T 3) C) (K_and (K_and (K_and (K_colour _) (K_step N _)) (K_and (K_takeWord N 14 _) (K_takeWhole N 0 99 _))) (K_and (K_takeWord N 15 _) (K_takeWhole N 0 9 _))).1).2
  unfold cF_man
  dsimp only
  split
  · exact (ad_8 hT).1.trans k
  · exact k
theorem motion_8 {T N : Nat} {C : cm_M} (hT : 6 ≤ T) : (cF_motion T N C).1 2 8 = C.1 2 8 := by
  have k := (KC_tr (K_newName N 2 (C.1 T 9) C) (K_and (K_and (K_and (K_takeWord N 16 _) (K_takeWhole N 1 30 _)) (K_and (K_takeWord N 17 _) (K_takeWhole N 0 54 _))) (K_and (K_takeWord N 18 _) (K_takeWhole N 0 99 _))).1).2
  unfold cF_motion
  dsimp only
  split
  · exact (ad_8 hT).2.1.trans k
  · exact k
theorem chair_8 {T N : Nat} {C : cm_M} (hT : 6 ≤ T) : (cF_chair T N C).1 2 8 = C.1 2 8 := by
  have k := (KC_tr (K_newName N 6 (C.1 T 15) C) (K_and (K_takeWord N 19 _) (K_takeWhole N 0 99 _)).1).2
  unfold cF_chair
  dsimp only
  split
  · exact (ad_8 (h := 0) (v := 0) hT).2.2.trans k
  · exact k
theorem against_8 {T N : Nat} {C : cm_M} (hT : 6 ≤ T) : (cF_against T N C).1 2 8 = C.1 2 8 := by
  have k := (K_and (K_and (K_told 1 C) (K_step N _)) (K_told 2 _)).1.2
  unfold cF_against
  dsimp only
  split
  · exact k
  · split
    · exact k
    · split
      · exact ((K_step N _).1.2.trans (w8 (by omega))).trans k
      · exact (K_fail 3 _).1.2.trans k
theorem amends_8 {T N : Nat} {C : cm_M} (hT : 6 ≤ T) : (cF_amends T N C).1 2 8 = C.1 2 8 := by
  have k := (K_and (K_and (K_told 2 C) (K_step N _)) (K_told 2 _)).1.2
  unfold cF_amends
  dsimp only
  split
  · exact k
  · split
    · exact k
    · split
      · split
        · exact (K_fail 7 _).1.2.trans k
        · exact ((K_step N _).1.2.trans (w8 (by omega))).trans k
      · exact (K_fail 3 _).1.2.trans k
theorem quarrel_8 {T N : Nat} {C : cm_M} (hT : 6 ≤ T) : (cF_quarrel T N C).1 2 8 = C.1 2 8 := by
  have k := (K_and (K_and (K_told 1 C) (K_step N _)) (K_told 1 _)).1.2
  unfold cF_quarrel
  dsimp only
  split
  · exact k
  · split
    · exact k
    · split
      · exact (K_fail 3 _).1.2.trans k
      · split
        · refine (K_step N _).1.2.trans (Eq.trans ?_ k)
          unfold cF_qput
          rw [w8 (by omega), w8 (by omega)]
        · exact (K_fail 3 _).1.2.trans k
theorem heap_8 {T N : Nat} {C : cm_M} (hT : 6 ≤ T) : (cF_heap T N C).1 2 8 = C.1 2 8 := by
  have k := (K_colour C).1.2
  have k2 := (K_and (K_and (K_colour C) (K_step N _)) (K_takeWhole N 0 999 _)).1.2
  unfold cF_heap
  dsimp only
  split
  · exact k
  · split
    · split
      · split
        · exact k2
        · unfold cF_hput
          rw [w8 hT, w8 (by omega)]
          exact k2
      · exact k2
    · exact (K_fail 3 _).1.2.trans k
theorem tl_8 {T N : Nat} {C : cm_M} (h : (tl_F T N C).1 2 9 = 0) : (tl_F T N C).1 2 8 = 1 := by
  unfold tl_F at h ⊢
  split
  · rfl
  · rename_i q
    rw [if_neg q] at h
    exact absurd h (cF_fail_9n (by decide))
theorem ag_id {T N : Nat} {C : cm_M} (h : C.1 2 9 ≠ 0) : cF_against T N C = C := by
  have e : cF_told 2 (cF_step N (cF_told 1 C)) = C := by rw [told_id h, cF_step_id h, told_id h]
  rw [ag_bad (T := T) (N := N) (C := C) rfl rfl rfl (by rw [e]; exact h), e]
theorem am_id {T N : Nat} {C : cm_M} (h : C.1 2 9 ≠ 0) : cF_amends T N C = C := by
  have e : cF_told 2 (cF_step N (cF_told 2 C)) = C := by rw [told_id h, cF_step_id h, told_id h]
  rw [am_bad (T := T) (N := N) (C := C) rfl rfl rfl (by rw [e]; exact h), e]
theorem qr_id {T N : Nat} {C : cm_M} (h : C.1 2 9 ≠ 0) : cF_quarrel T N C = C := by
  have e : cF_told 1 (cF_step N (cF_told 1 C)) = C := by rw [told_id h, cF_step_id h, told_id h]
  rw [qr_bad (T := T) (N := N) (C := C) rfl rfl rfl (by rw [e]; exact h), e]
theorem hp_id {T N : Nat} {C : cm_M} (h : C.1 2 9 ≠ 0) : hp_F T N C = C := by
  unfold hp_F
  rw [if_neg h]
theorem hp_h {T N : Nat} {C : cm_M} (h : C.1 2 9 = 0) : hp_F T N C = cF_heap T N C := by
  unfold hp_F
  rw [if_pos h]
noncomputable abbrev mr_K (T N : Nat) (X : cm_M) : cm_K := fun v M' => v = none ∧ ∃ D', M' = fm D' ∧ Rq N X D' ∧ (X.1 2 9 = 0 → X.1 2 8 = 1 ∧ ∃ me mo ch, DT T me mo ch X (D'.1 128))
noncomputable def rp : Nat → Nat
  | 1 => 16
  | 2 => 48
  | 3 => 79
  | 4 => 111
  | 5 => 144
  | 6 => 177
  | 7 => 209
  | _ => 226
noncomputable def rj_J (C D : cm_M) (S : cm_S) : Prop := ∃ j, 1 ≤ j ∧ j ≤ 8 ∧ S = (rp j, [(0, .ref 124)], [], fm D) ∧ ∀ i, i < j → wt i C = false
noncomputable abbrev rj_st : List (Nat × List Nat) := [(16, [0]), (48, [0]), (79, [0]), (111, [0]), (144, [0]), (177, [0]), (209, [0]), (226, [0])]
theorem su_0 {f : Nat → Nat} (h : ∀ j, 0 ≤ j → f j = 0) (n : Nat) : su f n = 0 := (su_zz h (Nat.zero_le n)).trans rfl
theorem DT_z5 {T me mo ch : Nat} {C : cm_M} {F : Nat → Int32} (hd : DT T me mo ch C F) (hz : me = 0 ∧ mo = 0 ∧ ch = 0) : F 5 = 0 := by
  obtain ⟨-, -, -, -, -, -, ⟨ag, am, qu, f1, f2, -, -, f5, -⟩, -⟩ := hd
  rw [f5, su_0 (fun j _ => (f2 j (by omega)).1)]
  try rfl
theorem DT_z6 {T me mo ch : Nat} {C : cm_M} {F : Nat → Int32} (hd : DT T me mo ch C F) (hz : me = 0 ∧ mo = 0 ∧ ch = 0) : F 6 = 0 := by
  obtain ⟨-, -, -, -, -, -, ⟨ag, am, qu, -, -, f3, f4, -, f6, -⟩, -⟩ := hd
  rw [f6, su_0 (fun j _ => f4 j (by omega))]
  try rfl
theorem DT_z7 {T me mo ch : Nat} {C : cm_M} {F : Nat → Int32} (hd : DT T me mo ch C F) (hz : me = 0 ∧ mo = 0 ∧ ch = 0) : F 7 = 0 := by
  obtain ⟨-, -, -, -, -, -, ⟨ag, am, qu, f1, f2, -, -, -, -, q, f7, f8, -⟩, -⟩ := hd
  rw [su_0 (fun j _ => (f2 j (by omega)).2)] at f8
  have : q = 0 := by omega
  rw [f7, this]
  try rfl
set_option maxRecDepth 100000 in
set_option maxHeartbeats 1000000 in
theorem rj_1 {T N me mo ch : Nat} {C D : cm_M} (hT : 6 ≤ T) (hT2 : T ≤ 19) (h : Rq N C D) (h0 : C.1 2 9 = 0) (hd : DT T me mo ch C (D.1 128)) (hz : C.1 2 8 = 0 → me = 0 ∧ mo = 0 ∧ ch = 0) {S : cm_S} (hS : S = (16, [(0, .ref 124)], [], fm D)) (hb : ∀ i, i < 1 → wt i C = false) : lb_ cm_ms none (cm_P mr_194) mr_194.2.2.2.2.2.2 rj_st (rj_J C D) (cm_rl (mr_K T N (rl_F T N C))) 60 S := by
  subst hS
  obtain ⟨⟨a1, hF, -⟩, ⟨-, b2, -, b4, -, b6⟩, -⟩ := id hd.2
  obtain ⟨-, -, c3, c4, c5, -⟩ := id hd.1
  have tq : toC T C 1 = D.1 128 3 := (toC_1 hd).1
  by_cases hwj : wt 1 C = true
  · have hl : cF_line C = 1 := ln_at (i := 1) (by omega) hwj hb
    have hw : wt 24 C = true := by rw [wt_24]; exact hwj
    by_cases td : C.1 2 8 = 0
    · have fz : D.1 128 3 = 0 := b2.trans (by rw [(hz td).1]; try rfl)
      show (ev_cmp 3 (D.1 128 3) 6 = true → _) ∧ (ev_cmp 3 (D.1 128 3) 6 = false → _)
      refine ⟨fun h1 => ?_, fun h1 => ?_⟩
      · have g1 := fn_ge h1
        rw [fz, show (0 : Int32).toInt = 0 from rfl] at g1
        exact absurd g1 (by decide)
      · have g1 := fn_nge h1
        show ∃ R, cm_Lc cm_ms 193 [.ref 124, .ref (1001 + 2 * 24), .int 1] (fm D) R ∧ ∀ v M', R v M' → _
        refine ⟨_, m_beg1a (t := 24) (by decide) h h0 hF td hw, ?_⟩
        rintro v M' ⟨rfl, D1, rfl, r1, f1⟩
        have y1 := cF_fail_9n (x := 6) (C := C) (by decide)
        show (ev_cmp 0 1 0 = true → _) ∧ (ev_cmp 0 1 0 = false → _)
        refine ⟨fun h2 => ?_, fun h2 => ?_⟩
        · exact absurd h2 (by decide)
        · show ∃ R, cm_Lc cm_ms 196 [.ref 124] (fm D1) R ∧ ∀ v M', R v M' → _
          refine ⟨_, m_manLine_f r1 y1, ?_⟩
          rintro v M' ⟨rfl, D2, rfl, r2, f2⟩
          show mr_K T N (rl_F T N C) none (fm D2)
          have ed : rl_F T N C = cF_fail 6 C := (rl_at1 hl).trans (rl_G0 td)
          exact ⟨rfl, D2, rfl, by rw [ed]; exact r2, fun q => absurd q (by rw [ed]; exact y1)⟩
    · have td1 : C.1 2 8 = 1 := a1.resolve_left td
      show (ev_cmp 3 (D.1 128 3) 6 = true → _) ∧ (ev_cmp 3 (D.1 128 3) 6 = false → _)
      refine ⟨fun h1 => ?_, fun h1 => ?_⟩
      · have g1 := fn_ge h1
        show ∃ R, cm_Lc cm_ms 193 [.ref 124, .ref (1001 + 2 * 24), .int 0] (fm D) R ∧ ∀ v M', R v M' → _
        refine ⟨_, m_beg0 (t := 24) (by decide) h h0 hF hw, ?_⟩
        rintro v M' ⟨rfl, D1, rfl, r1, f1⟩
        have y1 := cF_fail_9n (x := 5) (C := C) (by decide)
        show (ev_cmp 0 1 0 = true → _) ∧ (ev_cmp 0 1 0 = false → _)
        refine ⟨fun h2 => ?_, fun h2 => ?_⟩
        · exact absurd h2 (by decide)
        · show ∃ R, cm_Lc cm_ms 196 [.ref 124] (fm D1) R ∧ ∀ v M', R v M' → _
          refine ⟨_, m_manLine_f r1 y1, ?_⟩
          rintro v M' ⟨rfl, D2, rfl, r2, f2⟩
          show mr_K T N (rl_F T N C) none (fm D2)
          have ed : rl_F T N C = cF_fail 5 C := (rl_at1 hl).trans (rl_G1 td (fu_t (by rw [tq]; exact g1)))
          exact ⟨rfl, D2, rfl, by rw [ed]; exact r2, fun q => absurd q (by rw [ed]; exact y1)⟩
      · have g1 := fn_nge h1
        show ∃ R, cm_Lc cm_ms 193 [.ref 124, .ref (1001 + 2 * 24), .int 1] (fm D) R ∧ ∀ v M', R v M' → _
        refine ⟨_, m_beg1b (t := 24) (by decide) h h0 hF td hw, ?_⟩
        rintro v M' ⟨rfl, D1, rfl, r1, f1⟩
        have y1 : (cF_step N C).1 2 9 = 0 := cF_step_9.trans h0
        have d1 : DT T me mo ch (cF_step N C) (D1.1 128) := by rw [f1]; exact DT_cg hT hd (K_step N C)
        have hme : me < 6 := by
          rw [b2, fn_toInt (by omega)] at g1
          have e6 : (6 : Int32).toInt = 6 := by decide
          omega
        show (ev_cmp 0 1 0 = true → _) ∧ (ev_cmp 0 1 0 = false → _)
        refine ⟨fun h3 => ?_, fun h3 => ?_⟩
        · exact absurd h3 (by decide)
        · show ∃ R, cm_Lc cm_ms 196 [.ref 124] (fm D1) R ∧ ∀ v M', R v M' → _
          refine ⟨_, m_manLine hT hT2 r1 y1 d1 hme, ?_⟩
          rintro v M' ⟨rfl, D2, rfl, r2, f2⟩
          show mr_K T N (rl_F T N C) none (fm D2)
          have ed : rl_F T N C = cF_man T N (cF_step N C) := (rl_at1 hl).trans (rl_G2 td (fu_f (by rw [tq]; exact g1)))
          refine ⟨rfl, D2, rfl, by rw [ed]; exact r2, fun q => ?_⟩
          rw [ed] at q ⊢
          exact ⟨(man_8 hT).trans ((K_step N C).1.2.trans td1), _, _, _, f2 q⟩
  · have hwj : wt 1 C = false := Bool.eq_false_iff.mpr hwj
    have hw : wt 24 C = false := by rw [wt_24]; exact hwj
    show (ev_cmp 3 (D.1 128 3) 6 = true → _) ∧ (ev_cmp 3 (D.1 128 3) 6 = false → _)
    refine ⟨fun h1 => ?_, fun h1 => ?_⟩
    · have g1 := fn_ge h1
      show ∃ R, cm_Lc cm_ms 193 [.ref 124, .ref (1001 + 2 * 24), .int 0] (fm D) R ∧ ∀ v M', R v M' → _
      refine ⟨_, m_begN (t := 24) (by decide) h h0 hw 0, ?_⟩
      rintro v M' ⟨rfl, rfl⟩
      show (ev_cmp 0 0 0 = true → _) ∧ (ev_cmp 0 0 0 = false → _)
      refine ⟨fun h2 => ?_, fun h2 => ?_⟩
      · show rj_J C D (48, [(0, .ref 124)], [], fm D)
        exact ⟨2, by omega, by omega, rfl, wt_lt hb hwj⟩
      · exact absurd h2 (by decide)
    · have g1 := fn_nge h1
      show ∃ R, cm_Lc cm_ms 193 [.ref 124, .ref (1001 + 2 * 24), .int 1] (fm D) R ∧ ∀ v M', R v M' → _
      refine ⟨_, m_begN (t := 24) (by decide) h h0 hw 1, ?_⟩
      rintro v M' ⟨rfl, rfl⟩
      show (ev_cmp 0 0 0 = true → _) ∧ (ev_cmp 0 0 0 = false → _)
      refine ⟨fun h3 => ?_, fun h3 => ?_⟩
      · show rj_J C D (48, [(0, .ref 124)], [], fm D)
        exact ⟨2, by omega, by omega, rfl, wt_lt hb hwj⟩
      · exact absurd h3 (by decide)
set_option maxRecDepth 100000 in
set_option maxHeartbeats 1000000 in
theorem rj_2 {T N me mo ch : Nat} {C D : cm_M} (hT : 6 ≤ T) (hT2 : T ≤ 19) (h : Rq N C D) (h0 : C.1 2 9 = 0) (hd : DT T me mo ch C (D.1 128)) (hz : C.1 2 8 = 0 → me = 0 ∧ mo = 0 ∧ ch = 0) {S : cm_S} (hS : S = (48, [(0, .ref 124)], [], fm D)) (hb : ∀ i, i < 2 → wt i C = false) : lb_ cm_ms none (cm_P mr_194) mr_194.2.2.2.2.2.2 rj_st (rj_J C D) (cm_rl (mr_K T N (rl_F T N C))) 60 S := by
  subst hS
  obtain ⟨⟨a1, hF, -⟩, ⟨-, b2, -, b4, -, b6⟩, -⟩ := id hd.2
  obtain ⟨-, -, c3, c4, c5, -⟩ := id hd.1
  have tq : toC T C 2 = D.1 128 4 := (toC_1 hd).2.1
  by_cases hwj : wt 2 C = true
  · have hl : cF_line C = 2 := ln_at (i := 2) (by omega) hwj hb
    have hw : wt 25 C = true := by rw [wt_25]; exact hwj
    by_cases td : C.1 2 8 = 0
    · have fz : D.1 128 4 = 0 := b4.trans (by rw [(hz td).2.1]; try rfl)
      show (ev_cmp 3 (D.1 128 4) 5 = true → _) ∧ (ev_cmp 3 (D.1 128 4) 5 = false → _)
      refine ⟨fun h1 => ?_, fun h1 => ?_⟩
      · have g1 := fn_ge h1
        rw [fz, show (0 : Int32).toInt = 0 from rfl] at g1
        exact absurd g1 (by decide)
      · have g1 := fn_nge h1
        show ∃ R, cm_Lc cm_ms 193 [.ref 124, .ref (1001 + 2 * 25), .int 1] (fm D) R ∧ ∀ v M', R v M' → _
        refine ⟨_, m_beg1a (t := 25) (by decide) h h0 hF td hw, ?_⟩
        rintro v M' ⟨rfl, D1, rfl, r1, f1⟩
        have y1 := cF_fail_9n (x := 6) (C := C) (by decide)
        show (ev_cmp 0 1 0 = true → _) ∧ (ev_cmp 0 1 0 = false → _)
        refine ⟨fun h2 => ?_, fun h2 => ?_⟩
        · exact absurd h2 (by decide)
        · show ∃ R, cm_Lc cm_ms 197 [.ref 124] (fm D1) R ∧ ∀ v M', R v M' → _
          refine ⟨_, m_motionLine_f r1 y1, ?_⟩
          rintro v M' ⟨rfl, D2, rfl, r2, f2⟩
          show mr_K T N (rl_F T N C) none (fm D2)
          have ed : rl_F T N C = cF_fail 6 C := (rl_at2 hl).trans (rl_G0 td)
          exact ⟨rfl, D2, rfl, by rw [ed]; exact r2, fun q => absurd q (by rw [ed]; exact y1)⟩
    · have td1 : C.1 2 8 = 1 := a1.resolve_left td
      show (ev_cmp 3 (D.1 128 4) 5 = true → _) ∧ (ev_cmp 3 (D.1 128 4) 5 = false → _)
      refine ⟨fun h1 => ?_, fun h1 => ?_⟩
      · have g1 := fn_ge h1
        show ∃ R, cm_Lc cm_ms 193 [.ref 124, .ref (1001 + 2 * 25), .int 0] (fm D) R ∧ ∀ v M', R v M' → _
        refine ⟨_, m_beg0 (t := 25) (by decide) h h0 hF hw, ?_⟩
        rintro v M' ⟨rfl, D1, rfl, r1, f1⟩
        have y1 := cF_fail_9n (x := 5) (C := C) (by decide)
        show (ev_cmp 0 1 0 = true → _) ∧ (ev_cmp 0 1 0 = false → _)
        refine ⟨fun h2 => ?_, fun h2 => ?_⟩
        · exact absurd h2 (by decide)
        · show ∃ R, cm_Lc cm_ms 197 [.ref 124] (fm D1) R ∧ ∀ v M', R v M' → _
          refine ⟨_, m_motionLine_f r1 y1, ?_⟩
          rintro v M' ⟨rfl, D2, rfl, r2, f2⟩
          show mr_K T N (rl_F T N C) none (fm D2)
          have ed : rl_F T N C = cF_fail 5 C := (rl_at2 hl).trans (rl_G1 td (fu_t (by rw [tq]; exact g1)))
          exact ⟨rfl, D2, rfl, by rw [ed]; exact r2, fun q => absurd q (by rw [ed]; exact y1)⟩
      · have g1 := fn_nge h1
        show ∃ R, cm_Lc cm_ms 193 [.ref 124, .ref (1001 + 2 * 25), .int 1] (fm D) R ∧ ∀ v M', R v M' → _
        refine ⟨_, m_beg1b (t := 25) (by decide) h h0 hF td hw, ?_⟩
        rintro v M' ⟨rfl, D1, rfl, r1, f1⟩
        have y1 : (cF_step N C).1 2 9 = 0 := cF_step_9.trans h0
        have d1 : DT T me mo ch (cF_step N C) (D1.1 128) := by rw [f1]; exact DT_cg hT hd (K_step N C)
        have hmo : mo < 5 := by
          rw [b4, fn_toInt (by omega)] at g1
          have e6 : (5 : Int32).toInt = 5 := by decide
          omega
        show (ev_cmp 0 1 0 = true → _) ∧ (ev_cmp 0 1 0 = false → _)
        refine ⟨fun h3 => ?_, fun h3 => ?_⟩
        · exact absurd h3 (by decide)
        · show ∃ R, cm_Lc cm_ms 197 [.ref 124] (fm D1) R ∧ ∀ v M', R v M' → _
          refine ⟨_, m_motionLine hT hT2 r1 y1 d1 hmo, ?_⟩
          rintro v M' ⟨rfl, D2, rfl, r2, f2⟩
          show mr_K T N (rl_F T N C) none (fm D2)
          have ed : rl_F T N C = cF_motion T N (cF_step N C) := (rl_at2 hl).trans (rl_G2 td (fu_f (by rw [tq]; exact g1)))
          refine ⟨rfl, D2, rfl, by rw [ed]; exact r2, fun q => ?_⟩
          rw [ed] at q ⊢
          exact ⟨(motion_8 hT).trans ((K_step N C).1.2.trans td1), _, _, _, f2 q⟩
  · have hwj : wt 2 C = false := Bool.eq_false_iff.mpr hwj
    have hw : wt 25 C = false := by rw [wt_25]; exact hwj
    show (ev_cmp 3 (D.1 128 4) 5 = true → _) ∧ (ev_cmp 3 (D.1 128 4) 5 = false → _)
    refine ⟨fun h1 => ?_, fun h1 => ?_⟩
    · have g1 := fn_ge h1
      show ∃ R, cm_Lc cm_ms 193 [.ref 124, .ref (1001 + 2 * 25), .int 0] (fm D) R ∧ ∀ v M', R v M' → _
      refine ⟨_, m_begN (t := 25) (by decide) h h0 hw 0, ?_⟩
      rintro v M' ⟨rfl, rfl⟩
      show (ev_cmp 0 0 0 = true → _) ∧ (ev_cmp 0 0 0 = false → _)
      refine ⟨fun h2 => ?_, fun h2 => ?_⟩
      · show rj_J C D (79, [(0, .ref 124)], [], fm D)
        exact ⟨3, by omega, by omega, rfl, wt_lt hb hwj⟩
      · exact absurd h2 (by decide)
    · have g1 := fn_nge h1
      show ∃ R, cm_Lc cm_ms 193 [.ref 124, .ref (1001 + 2 * 25), .int 1] (fm D) R ∧ ∀ v M', R v M' → _
      refine ⟨_, m_begN (t := 25) (by decide) h h0 hw 1, ?_⟩
      rintro v M' ⟨rfl, rfl⟩
      show (ev_cmp 0 0 0 = true → _) ∧ (ev_cmp 0 0 0 = false → _)
      refine ⟨fun h3 => ?_, fun h3 => ?_⟩
      · show rj_J C D (79, [(0, .ref 124)], [], fm D)
        exact ⟨3, by omega, by omega, rfl, wt_lt hb hwj⟩
      · exact absurd h3 (by decide)
set_option maxRecDepth 100000 in
set_option maxHeartbeats 1000000 in
theorem rj_3 {T N me mo ch : Nat} {C D : cm_M} (hT : 6 ≤ T) (hT2 : T ≤ 19) (h : Rq N C D) (h0 : C.1 2 9 = 0) (hd : DT T me mo ch C (D.1 128)) (hz : C.1 2 8 = 0 → me = 0 ∧ mo = 0 ∧ ch = 0) {S : cm_S} (hS : S = (79, [(0, .ref 124)], [], fm D)) (hb : ∀ i, i < 3 → wt i C = false) : lb_ cm_ms none (cm_P mr_194) mr_194.2.2.2.2.2.2 rj_st (rj_J C D) (cm_rl (mr_K T N (rl_F T N C))) 60 S := by
  subst hS
  obtain ⟨⟨a1, hF, -⟩, ⟨-, b2, -, b4, -, b6⟩, -⟩ := id hd.2
  obtain ⟨-, -, c3, c4, c5, -⟩ := id hd.1
  have tq : toC T C 3 = D.1 128 5 := toC_3 hd
  by_cases hwj : wt 3 C = true
  · have hl : cF_line C = 3 := ln_at (i := 3) (by omega) hwj hb
    have hw : wt 26 C = true := by rw [wt_26]; exact hwj
    by_cases td : C.1 2 8 = 0
    · have fz : D.1 128 5 = 0 := DT_z5 hd (hz td)
      show (ev_cmp 3 (D.1 128 5) 9 = true → _) ∧ (ev_cmp 3 (D.1 128 5) 9 = false → _)
      refine ⟨fun h1 => ?_, fun h1 => ?_⟩
      · have g1 := fn_ge h1
        rw [fz, show (0 : Int32).toInt = 0 from rfl] at g1
        exact absurd g1 (by decide)
      · have g1 := fn_nge h1
        show ∃ R, cm_Lc cm_ms 193 [.ref 124, .ref (1001 + 2 * 26), .int 1] (fm D) R ∧ ∀ v M', R v M' → _
        refine ⟨_, m_beg1a (t := 26) (by decide) h h0 hF td hw, ?_⟩
        rintro v M' ⟨rfl, D1, rfl, r1, f1⟩
        have y1 := cF_fail_9n (x := 6) (C := C) (by decide)
        show (ev_cmp 0 1 0 = true → _) ∧ (ev_cmp 0 1 0 = false → _)
        refine ⟨fun h2 => ?_, fun h2 => ?_⟩
        · exact absurd h2 (by decide)
        · show ∃ R, cm_Lc cm_ms 198 [.ref 124] (fm D1) R ∧ ∀ v M', R v M' → _
          refine ⟨_, m_againstLine (me := me) (mo := mo) (ch := ch) hT hT2 r1 (fun q => absurd q y1), ?_⟩
          rintro v M' ⟨rfl, D2, rfl, r2, f2⟩
          rw [ag_id y1] at r2
          show mr_K T N (rl_F T N C) none (fm D2)
          have ed : rl_F T N C = cF_fail 6 C := (rl_at3 hl).trans (rl_G0 td)
          exact ⟨rfl, D2, rfl, by rw [ed]; exact r2, fun q => absurd q (by rw [ed]; exact y1)⟩
    · have td1 : C.1 2 8 = 1 := a1.resolve_left td
      show (ev_cmp 3 (D.1 128 5) 9 = true → _) ∧ (ev_cmp 3 (D.1 128 5) 9 = false → _)
      refine ⟨fun h1 => ?_, fun h1 => ?_⟩
      · have g1 := fn_ge h1
        show ∃ R, cm_Lc cm_ms 193 [.ref 124, .ref (1001 + 2 * 26), .int 0] (fm D) R ∧ ∀ v M', R v M' → _
        refine ⟨_, m_beg0 (t := 26) (by decide) h h0 hF hw, ?_⟩
        rintro v M' ⟨rfl, D1, rfl, r1, f1⟩
        have y1 := cF_fail_9n (x := 5) (C := C) (by decide)
        show (ev_cmp 0 1 0 = true → _) ∧ (ev_cmp 0 1 0 = false → _)
        refine ⟨fun h2 => ?_, fun h2 => ?_⟩
        · exact absurd h2 (by decide)
        · show ∃ R, cm_Lc cm_ms 198 [.ref 124] (fm D1) R ∧ ∀ v M', R v M' → _
          refine ⟨_, m_againstLine (me := me) (mo := mo) (ch := ch) hT hT2 r1 (fun q => absurd q y1), ?_⟩
          rintro v M' ⟨rfl, D2, rfl, r2, f2⟩
          rw [ag_id y1] at r2
          show mr_K T N (rl_F T N C) none (fm D2)
          have ed : rl_F T N C = cF_fail 5 C := (rl_at3 hl).trans (rl_G1 td (fu_t (by rw [tq]; exact g1)))
          exact ⟨rfl, D2, rfl, by rw [ed]; exact r2, fun q => absurd q (by rw [ed]; exact y1)⟩
      · have g1 := fn_nge h1
        show ∃ R, cm_Lc cm_ms 193 [.ref 124, .ref (1001 + 2 * 26), .int 1] (fm D) R ∧ ∀ v M', R v M' → _
        refine ⟨_, m_beg1b (t := 26) (by decide) h h0 hF td hw, ?_⟩
        rintro v M' ⟨rfl, D1, rfl, r1, f1⟩
        have y1 : (cF_step N C).1 2 9 = 0 := cF_step_9.trans h0
        have d1 : DT T me mo ch (cF_step N C) (D1.1 128) := by rw [f1]; exact DT_cg hT hd (K_step N C)
        show (ev_cmp 0 1 0 = true → _) ∧ (ev_cmp 0 1 0 = false → _)
        refine ⟨fun h3 => ?_, fun h3 => ?_⟩
        · exact absurd h3 (by decide)
        · show ∃ R, cm_Lc cm_ms 198 [.ref 124] (fm D1) R ∧ ∀ v M', R v M' → _
          refine ⟨_, m_againstLine hT hT2 r1 (fun _ => d1), ?_⟩
          rintro v M' ⟨rfl, D2, rfl, r2, f2⟩
          show mr_K T N (rl_F T N C) none (fm D2)
          have ed : rl_F T N C = cF_against T N (cF_step N C) := (rl_at3 hl).trans (rl_G2 td (fu_f (by rw [tq]; exact g1)))
          refine ⟨rfl, D2, rfl, by rw [ed]; exact r2, fun q => ?_⟩
          rw [ed] at q ⊢
          exact ⟨(against_8 hT).trans ((K_step N C).1.2.trans td1), _, _, _, f2 q⟩
  · have hwj : wt 3 C = false := Bool.eq_false_iff.mpr hwj
    have hw : wt 26 C = false := by rw [wt_26]; exact hwj
    show (ev_cmp 3 (D.1 128 5) 9 = true → _) ∧ (ev_cmp 3 (D.1 128 5) 9 = false → _)
    refine ⟨fun h1 => ?_, fun h1 => ?_⟩
    · have g1 := fn_ge h1
      show ∃ R, cm_Lc cm_ms 193 [.ref 124, .ref (1001 + 2 * 26), .int 0] (fm D) R ∧ ∀ v M', R v M' → _
      refine ⟨_, m_begN (t := 26) (by decide) h h0 hw 0, ?_⟩
      rintro v M' ⟨rfl, rfl⟩
      show (ev_cmp 0 0 0 = true → _) ∧ (ev_cmp 0 0 0 = false → _)
      refine ⟨fun h2 => ?_, fun h2 => ?_⟩
      · show rj_J C D (111, [(0, .ref 124)], [], fm D)
        exact ⟨4, by omega, by omega, rfl, wt_lt hb hwj⟩
      · exact absurd h2 (by decide)
    · have g1 := fn_nge h1
      show ∃ R, cm_Lc cm_ms 193 [.ref 124, .ref (1001 + 2 * 26), .int 1] (fm D) R ∧ ∀ v M', R v M' → _
      refine ⟨_, m_begN (t := 26) (by decide) h h0 hw 1, ?_⟩
      rintro v M' ⟨rfl, rfl⟩
      show (ev_cmp 0 0 0 = true → _) ∧ (ev_cmp 0 0 0 = false → _)
      refine ⟨fun h3 => ?_, fun h3 => ?_⟩
      · show rj_J C D (111, [(0, .ref 124)], [], fm D)
        exact ⟨4, by omega, by omega, rfl, wt_lt hb hwj⟩
      · exact absurd h3 (by decide)
set_option maxRecDepth 100000 in
set_option maxHeartbeats 1000000 in
theorem rj_4 {T N me mo ch : Nat} {C D : cm_M} (hT : 6 ≤ T) (hT2 : T ≤ 19) (h : Rq N C D) (h0 : C.1 2 9 = 0) (hd : DT T me mo ch C (D.1 128)) (hz : C.1 2 8 = 0 → me = 0 ∧ mo = 0 ∧ ch = 0) {S : cm_S} (hS : S = (111, [(0, .ref 124)], [], fm D)) (hb : ∀ i, i < 4 → wt i C = false) : lb_ cm_ms none (cm_P mr_194) mr_194.2.2.2.2.2.2 rj_st (rj_J C D) (cm_rl (mr_K T N (rl_F T N C))) 60 S := by
  subst hS
  obtain ⟨⟨a1, hF, -⟩, ⟨-, b2, -, b4, -, b6⟩, -⟩ := id hd.2
  obtain ⟨-, -, c3, c4, c5, -⟩ := id hd.1
  have tq : toC T C 4 = D.1 128 6 := toC_4 hd
  by_cases hwj : wt 4 C = true
  · have hl : cF_line C = 4 := ln_at (i := 4) (by omega) hwj hb
    have hw : wt 27 C = true := by rw [wt_27]; exact hwj
    by_cases td : C.1 2 8 = 0
    · have fz : D.1 128 6 = 0 := DT_z6 hd (hz td)
      show (ev_cmp 3 (D.1 128 6) 6 = true → _) ∧ (ev_cmp 3 (D.1 128 6) 6 = false → _)
      refine ⟨fun h1 => ?_, fun h1 => ?_⟩
      · have g1 := fn_ge h1
        rw [fz, show (0 : Int32).toInt = 0 from rfl] at g1
        exact absurd g1 (by decide)
      · have g1 := fn_nge h1
        show ∃ R, cm_Lc cm_ms 193 [.ref 124, .ref (1001 + 2 * 27), .int 1] (fm D) R ∧ ∀ v M', R v M' → _
        refine ⟨_, m_beg1a (t := 27) (by decide) h h0 hF td hw, ?_⟩
        rintro v M' ⟨rfl, D1, rfl, r1, f1⟩
        have y1 := cF_fail_9n (x := 6) (C := C) (by decide)
        show (ev_cmp 0 1 0 = true → _) ∧ (ev_cmp 0 1 0 = false → _)
        refine ⟨fun h2 => ?_, fun h2 => ?_⟩
        · exact absurd h2 (by decide)
        · show ∃ R, cm_Lc cm_ms 199 [.ref 124] (fm D1) R ∧ ∀ v M', R v M' → _
          refine ⟨_, m_amendsLine (me := me) (mo := mo) (ch := ch) hT hT2 r1 (fun q => absurd q y1), ?_⟩
          rintro v M' ⟨rfl, D2, rfl, r2, f2⟩
          rw [am_id y1] at r2
          show mr_K T N (rl_F T N C) none (fm D2)
          have ed : rl_F T N C = cF_fail 6 C := (rl_at4 hl).trans (rl_G0 td)
          exact ⟨rfl, D2, rfl, by rw [ed]; exact r2, fun q => absurd q (by rw [ed]; exact y1)⟩
    · have td1 : C.1 2 8 = 1 := a1.resolve_left td
      show (ev_cmp 3 (D.1 128 6) 6 = true → _) ∧ (ev_cmp 3 (D.1 128 6) 6 = false → _)
      refine ⟨fun h1 => ?_, fun h1 => ?_⟩
      · have g1 := fn_ge h1
        show ∃ R, cm_Lc cm_ms 193 [.ref 124, .ref (1001 + 2 * 27), .int 0] (fm D) R ∧ ∀ v M', R v M' → _
        refine ⟨_, m_beg0 (t := 27) (by decide) h h0 hF hw, ?_⟩
        rintro v M' ⟨rfl, D1, rfl, r1, f1⟩
        have y1 := cF_fail_9n (x := 5) (C := C) (by decide)
        show (ev_cmp 0 1 0 = true → _) ∧ (ev_cmp 0 1 0 = false → _)
        refine ⟨fun h2 => ?_, fun h2 => ?_⟩
        · exact absurd h2 (by decide)
        · show ∃ R, cm_Lc cm_ms 199 [.ref 124] (fm D1) R ∧ ∀ v M', R v M' → _
          refine ⟨_, m_amendsLine (me := me) (mo := mo) (ch := ch) hT hT2 r1 (fun q => absurd q y1), ?_⟩
          rintro v M' ⟨rfl, D2, rfl, r2, f2⟩
          rw [am_id y1] at r2
          show mr_K T N (rl_F T N C) none (fm D2)
          have ed : rl_F T N C = cF_fail 5 C := (rl_at4 hl).trans (rl_G1 td (fu_t (by rw [tq]; exact g1)))
          exact ⟨rfl, D2, rfl, by rw [ed]; exact r2, fun q => absurd q (by rw [ed]; exact y1)⟩
      · have g1 := fn_nge h1
        show ∃ R, cm_Lc cm_ms 193 [.ref 124, .ref (1001 + 2 * 27), .int 1] (fm D) R ∧ ∀ v M', R v M' → _
        refine ⟨_, m_beg1b (t := 27) (by decide) h h0 hF td hw, ?_⟩
        rintro v M' ⟨rfl, D1, rfl, r1, f1⟩
        have y1 : (cF_step N C).1 2 9 = 0 := cF_step_9.trans h0
        have d1 : DT T me mo ch (cF_step N C) (D1.1 128) := by rw [f1]; exact DT_cg hT hd (K_step N C)
        show (ev_cmp 0 1 0 = true → _) ∧ (ev_cmp 0 1 0 = false → _)
        refine ⟨fun h3 => ?_, fun h3 => ?_⟩
        · exact absurd h3 (by decide)
        · show ∃ R, cm_Lc cm_ms 199 [.ref 124] (fm D1) R ∧ ∀ v M', R v M' → _
          refine ⟨_, m_amendsLine hT hT2 r1 (fun _ => d1), ?_⟩
          rintro v M' ⟨rfl, D2, rfl, r2, f2⟩
          show mr_K T N (rl_F T N C) none (fm D2)
          have ed : rl_F T N C = cF_amends T N (cF_step N C) := (rl_at4 hl).trans (rl_G2 td (fu_f (by rw [tq]; exact g1)))
          refine ⟨rfl, D2, rfl, by rw [ed]; exact r2, fun q => ?_⟩
          rw [ed] at q ⊢
          exact ⟨(amends_8 hT).trans ((K_step N C).1.2.trans td1), _, _, _, f2 q⟩
  · have hwj : wt 4 C = false := Bool.eq_false_iff.mpr hwj
    have hw : wt 27 C = false := by rw [wt_27]; exact hwj
    show (ev_cmp 3 (D.1 128 6) 6 = true → _) ∧ (ev_cmp 3 (D.1 128 6) 6 = false → _)
    refine ⟨fun h1 => ?_, fun h1 => ?_⟩
    · have g1 := fn_ge h1
      show ∃ R, cm_Lc cm_ms 193 [.ref 124, .ref (1001 + 2 * 27), .int 0] (fm D) R ∧ ∀ v M', R v M' → _
      refine ⟨_, m_begN (t := 27) (by decide) h h0 hw 0, ?_⟩
      rintro v M' ⟨rfl, rfl⟩
      show (ev_cmp 0 0 0 = true → _) ∧ (ev_cmp 0 0 0 = false → _)
      refine ⟨fun h2 => ?_, fun h2 => ?_⟩
      · show rj_J C D (144, [(0, .ref 124)], [], fm D)
        exact ⟨5, by omega, by omega, rfl, wt_lt hb hwj⟩
      · exact absurd h2 (by decide)
    · have g1 := fn_nge h1
      show ∃ R, cm_Lc cm_ms 193 [.ref 124, .ref (1001 + 2 * 27), .int 1] (fm D) R ∧ ∀ v M', R v M' → _
      refine ⟨_, m_begN (t := 27) (by decide) h h0 hw 1, ?_⟩
      rintro v M' ⟨rfl, rfl⟩
      show (ev_cmp 0 0 0 = true → _) ∧ (ev_cmp 0 0 0 = false → _)
      refine ⟨fun h3 => ?_, fun h3 => ?_⟩
      · show rj_J C D (144, [(0, .ref 124)], [], fm D)
        exact ⟨5, by omega, by omega, rfl, wt_lt hb hwj⟩
      · exact absurd h3 (by decide)
set_option maxRecDepth 100000 in
set_option maxHeartbeats 1000000 in
theorem rj_5 {T N me mo ch : Nat} {C D : cm_M} (hT : 6 ≤ T) (hT2 : T ≤ 19) (h : Rq N C D) (h0 : C.1 2 9 = 0) (hd : DT T me mo ch C (D.1 128)) (hz : C.1 2 8 = 0 → me = 0 ∧ mo = 0 ∧ ch = 0) {S : cm_S} (hS : S = (144, [(0, .ref 124)], [], fm D)) (hb : ∀ i, i < 5 → wt i C = false) : lb_ cm_ms none (cm_P mr_194) mr_194.2.2.2.2.2.2 rj_st (rj_J C D) (cm_rl (mr_K T N (rl_F T N C))) 60 S := by
  subst hS
  obtain ⟨⟨a1, hF, -⟩, ⟨-, b2, -, b4, -, b6⟩, -⟩ := id hd.2
  obtain ⟨-, -, c3, c4, c5, -⟩ := id hd.1
  have tq : toC T C 5 = D.1 128 7 := toC_5 hd
  by_cases hwj : wt 5 C = true
  · have hl : cF_line C = 5 := ln_at (i := 5) (by omega) hwj hb
    have hw : wt 28 C = true := by rw [wt_28]; exact hwj
    by_cases td : C.1 2 8 = 0
    · have fz : D.1 128 7 = 0 := DT_z7 hd (hz td)
      show (ev_cmp 3 (D.1 128 7) 9 = true → _) ∧ (ev_cmp 3 (D.1 128 7) 9 = false → _)
      refine ⟨fun h1 => ?_, fun h1 => ?_⟩
      · have g1 := fn_ge h1
        rw [fz, show (0 : Int32).toInt = 0 from rfl] at g1
        exact absurd g1 (by decide)
      · have g1 := fn_nge h1
        show ∃ R, cm_Lc cm_ms 193 [.ref 124, .ref (1001 + 2 * 28), .int 1] (fm D) R ∧ ∀ v M', R v M' → _
        refine ⟨_, m_beg1a (t := 28) (by decide) h h0 hF td hw, ?_⟩
        rintro v M' ⟨rfl, D1, rfl, r1, f1⟩
        have y1 := cF_fail_9n (x := 6) (C := C) (by decide)
        show (ev_cmp 0 1 0 = true → _) ∧ (ev_cmp 0 1 0 = false → _)
        refine ⟨fun h2 => ?_, fun h2 => ?_⟩
        · exact absurd h2 (by decide)
        · show ∃ R, cm_Lc cm_ms 200 [.ref 124] (fm D1) R ∧ ∀ v M', R v M' → _
          refine ⟨_, m_quarrelLine (me := me) (mo := mo) (ch := ch) hT hT2 r1 (fun q => absurd q y1), ?_⟩
          rintro v M' ⟨rfl, D2, rfl, r2, f2⟩
          rw [qr_id y1] at r2
          show mr_K T N (rl_F T N C) none (fm D2)
          have ed : rl_F T N C = cF_fail 6 C := (rl_at5 hl).trans (rl_G0 td)
          exact ⟨rfl, D2, rfl, by rw [ed]; exact r2, fun q => absurd q (by rw [ed]; exact y1)⟩
    · have td1 : C.1 2 8 = 1 := a1.resolve_left td
      show (ev_cmp 3 (D.1 128 7) 9 = true → _) ∧ (ev_cmp 3 (D.1 128 7) 9 = false → _)
      refine ⟨fun h1 => ?_, fun h1 => ?_⟩
      · have g1 := fn_ge h1
        show ∃ R, cm_Lc cm_ms 193 [.ref 124, .ref (1001 + 2 * 28), .int 0] (fm D) R ∧ ∀ v M', R v M' → _
        refine ⟨_, m_beg0 (t := 28) (by decide) h h0 hF hw, ?_⟩
        rintro v M' ⟨rfl, D1, rfl, r1, f1⟩
        have y1 := cF_fail_9n (x := 5) (C := C) (by decide)
        show (ev_cmp 0 1 0 = true → _) ∧ (ev_cmp 0 1 0 = false → _)
        refine ⟨fun h2 => ?_, fun h2 => ?_⟩
        · exact absurd h2 (by decide)
        · show ∃ R, cm_Lc cm_ms 200 [.ref 124] (fm D1) R ∧ ∀ v M', R v M' → _
          refine ⟨_, m_quarrelLine (me := me) (mo := mo) (ch := ch) hT hT2 r1 (fun q => absurd q y1), ?_⟩
          rintro v M' ⟨rfl, D2, rfl, r2, f2⟩
          rw [qr_id y1] at r2
          show mr_K T N (rl_F T N C) none (fm D2)
          have ed : rl_F T N C = cF_fail 5 C := (rl_at5 hl).trans (rl_G1 td (fu_t (by rw [tq]; exact g1)))
          exact ⟨rfl, D2, rfl, by rw [ed]; exact r2, fun q => absurd q (by rw [ed]; exact y1)⟩
      · have g1 := fn_nge h1
        show ∃ R, cm_Lc cm_ms 193 [.ref 124, .ref (1001 + 2 * 28), .int 1] (fm D) R ∧ ∀ v M', R v M' → _
        refine ⟨_, m_beg1b (t := 28) (by decide) h h0 hF td hw, ?_⟩
        rintro v M' ⟨rfl, D1, rfl, r1, f1⟩
        have y1 : (cF_step N C).1 2 9 = 0 := cF_step_9.trans h0
        have d1 : DT T me mo ch (cF_step N C) (D1.1 128) := by rw [f1]; exact DT_cg hT hd (K_step N C)
        show (ev_cmp 0 1 0 = true → _) ∧ (ev_cmp 0 1 0 = false → _)
        refine ⟨fun h3 => ?_, fun h3 => ?_⟩
        · exact absurd h3 (by decide)
        · show ∃ R, cm_Lc cm_ms 200 [.ref 124] (fm D1) R ∧ ∀ v M', R v M' → _
          refine ⟨_, m_quarrelLine hT hT2 r1 (fun _ => d1), ?_⟩
          rintro v M' ⟨rfl, D2, rfl, r2, f2⟩
          show mr_K T N (rl_F T N C) none (fm D2)
          have ed : rl_F T N C = cF_quarrel T N (cF_step N C) := (rl_at5 hl).trans (rl_G2 td (fu_f (by rw [tq]; exact g1)))
          refine ⟨rfl, D2, rfl, by rw [ed]; exact r2, fun q => ?_⟩
          rw [ed] at q ⊢
          exact ⟨(quarrel_8 hT).trans ((K_step N C).1.2.trans td1), _, _, _, f2 q⟩
  · have hwj : wt 5 C = false := Bool.eq_false_iff.mpr hwj
    have hw : wt 28 C = false := by rw [wt_28]; exact hwj
    show (ev_cmp 3 (D.1 128 7) 9 = true → _) ∧ (ev_cmp 3 (D.1 128 7) 9 = false → _)
    refine ⟨fun h1 => ?_, fun h1 => ?_⟩
    · have g1 := fn_ge h1
      show ∃ R, cm_Lc cm_ms 193 [.ref 124, .ref (1001 + 2 * 28), .int 0] (fm D) R ∧ ∀ v M', R v M' → _
      refine ⟨_, m_begN (t := 28) (by decide) h h0 hw 0, ?_⟩
      rintro v M' ⟨rfl, rfl⟩
      show (ev_cmp 0 0 0 = true → _) ∧ (ev_cmp 0 0 0 = false → _)
      refine ⟨fun h2 => ?_, fun h2 => ?_⟩
      · show rj_J C D (177, [(0, .ref 124)], [], fm D)
        exact ⟨6, by omega, by omega, rfl, wt_lt hb hwj⟩
      · exact absurd h2 (by decide)
    · have g1 := fn_nge h1
      show ∃ R, cm_Lc cm_ms 193 [.ref 124, .ref (1001 + 2 * 28), .int 1] (fm D) R ∧ ∀ v M', R v M' → _
      refine ⟨_, m_begN (t := 28) (by decide) h h0 hw 1, ?_⟩
      rintro v M' ⟨rfl, rfl⟩
      show (ev_cmp 0 0 0 = true → _) ∧ (ev_cmp 0 0 0 = false → _)
      refine ⟨fun h3 => ?_, fun h3 => ?_⟩
      · show rj_J C D (177, [(0, .ref 124)], [], fm D)
        exact ⟨6, by omega, by omega, rfl, wt_lt hb hwj⟩
      · exact absurd h3 (by decide)
set_option maxRecDepth 100000 in
set_option maxHeartbeats 1000000 in
theorem rj_6 {T N me mo ch : Nat} {C D : cm_M} (hT : 6 ≤ T) (hT2 : T ≤ 19) (h : Rq N C D) (h0 : C.1 2 9 = 0) (hd : DT T me mo ch C (D.1 128)) (hz : C.1 2 8 = 0 → me = 0 ∧ mo = 0 ∧ ch = 0) {S : cm_S} (hS : S = (177, [(0, .ref 124)], [], fm D)) (hb : ∀ i, i < 6 → wt i C = false) : lb_ cm_ms none (cm_P mr_194) mr_194.2.2.2.2.2.2 rj_st (rj_J C D) (cm_rl (mr_K T N (rl_F T N C))) 60 S := by
  subst hS
  obtain ⟨⟨a1, hF, -⟩, ⟨-, b2, -, b4, -, b6⟩, -⟩ := id hd.2
  obtain ⟨-, -, c3, c4, c5, -⟩ := id hd.1
  have tq : toC T C 6 = D.1 128 8 := (toC_1 hd).2.2
  by_cases hwj : wt 6 C = true
  · have hl : cF_line C = 6 := ln_at (i := 6) (by omega) hwj hb
    have hw : wt 29 C = true := by rw [wt_29]; exact hwj
    by_cases td : C.1 2 8 = 0
    · have fz : D.1 128 8 = 0 := b6.trans (by rw [(hz td).2.2]; try rfl)
      show (ev_cmp 3 (D.1 128 8) 5 = true → _) ∧ (ev_cmp 3 (D.1 128 8) 5 = false → _)
      refine ⟨fun h1 => ?_, fun h1 => ?_⟩
      · have g1 := fn_ge h1
        rw [fz, show (0 : Int32).toInt = 0 from rfl] at g1
        exact absurd g1 (by decide)
      · have g1 := fn_nge h1
        show ∃ R, cm_Lc cm_ms 193 [.ref 124, .ref (1001 + 2 * 29), .int 1] (fm D) R ∧ ∀ v M', R v M' → _
        refine ⟨_, m_beg1a (t := 29) (by decide) h h0 hF td hw, ?_⟩
        rintro v M' ⟨rfl, D1, rfl, r1, f1⟩
        have y1 := cF_fail_9n (x := 6) (C := C) (by decide)
        show (ev_cmp 0 1 0 = true → _) ∧ (ev_cmp 0 1 0 = false → _)
        refine ⟨fun h2 => ?_, fun h2 => ?_⟩
        · exact absurd h2 (by decide)
        · show ∃ R, cm_Lc cm_ms 201 [.ref 124] (fm D1) R ∧ ∀ v M', R v M' → _
          refine ⟨_, m_chairLine_f r1 y1, ?_⟩
          rintro v M' ⟨rfl, D2, rfl, r2, f2⟩
          show mr_K T N (rl_F T N C) none (fm D2)
          have ed : rl_F T N C = cF_fail 6 C := (rl_at6 hl).trans (rl_G0 td)
          exact ⟨rfl, D2, rfl, by rw [ed]; exact r2, fun q => absurd q (by rw [ed]; exact y1)⟩
    · have td1 : C.1 2 8 = 1 := a1.resolve_left td
      show (ev_cmp 3 (D.1 128 8) 5 = true → _) ∧ (ev_cmp 3 (D.1 128 8) 5 = false → _)
      refine ⟨fun h1 => ?_, fun h1 => ?_⟩
      · have g1 := fn_ge h1
        show ∃ R, cm_Lc cm_ms 193 [.ref 124, .ref (1001 + 2 * 29), .int 0] (fm D) R ∧ ∀ v M', R v M' → _
        refine ⟨_, m_beg0 (t := 29) (by decide) h h0 hF hw, ?_⟩
        rintro v M' ⟨rfl, D1, rfl, r1, f1⟩
        have y1 := cF_fail_9n (x := 5) (C := C) (by decide)
        show (ev_cmp 0 1 0 = true → _) ∧ (ev_cmp 0 1 0 = false → _)
        refine ⟨fun h2 => ?_, fun h2 => ?_⟩
        · exact absurd h2 (by decide)
        · show ∃ R, cm_Lc cm_ms 201 [.ref 124] (fm D1) R ∧ ∀ v M', R v M' → _
          refine ⟨_, m_chairLine_f r1 y1, ?_⟩
          rintro v M' ⟨rfl, D2, rfl, r2, f2⟩
          show mr_K T N (rl_F T N C) none (fm D2)
          have ed : rl_F T N C = cF_fail 5 C := (rl_at6 hl).trans (rl_G1 td (fu_t (by rw [tq]; exact g1)))
          exact ⟨rfl, D2, rfl, by rw [ed]; exact r2, fun q => absurd q (by rw [ed]; exact y1)⟩
      · have g1 := fn_nge h1
        show ∃ R, cm_Lc cm_ms 193 [.ref 124, .ref (1001 + 2 * 29), .int 1] (fm D) R ∧ ∀ v M', R v M' → _
        refine ⟨_, m_beg1b (t := 29) (by decide) h h0 hF td hw, ?_⟩
        rintro v M' ⟨rfl, D1, rfl, r1, f1⟩
        have y1 : (cF_step N C).1 2 9 = 0 := cF_step_9.trans h0
        have d1 : DT T me mo ch (cF_step N C) (D1.1 128) := by rw [f1]; exact DT_cg hT hd (K_step N C)
        have hch : ch < 5 := by
          rw [b6, fn_toInt (by omega)] at g1
          have e6 : (5 : Int32).toInt = 5 := by decide
          omega
        show (ev_cmp 0 1 0 = true → _) ∧ (ev_cmp 0 1 0 = false → _)
        refine ⟨fun h3 => ?_, fun h3 => ?_⟩
        · exact absurd h3 (by decide)
        · show ∃ R, cm_Lc cm_ms 201 [.ref 124] (fm D1) R ∧ ∀ v M', R v M' → _
          refine ⟨_, m_chairLine hT hT2 r1 y1 d1 hch, ?_⟩
          rintro v M' ⟨rfl, D2, rfl, r2, f2⟩
          show mr_K T N (rl_F T N C) none (fm D2)
          have ed : rl_F T N C = cF_chair T N (cF_step N C) := (rl_at6 hl).trans (rl_G2 td (fu_f (by rw [tq]; exact g1)))
          refine ⟨rfl, D2, rfl, by rw [ed]; exact r2, fun q => ?_⟩
          rw [ed] at q ⊢
          exact ⟨(chair_8 hT).trans ((K_step N C).1.2.trans td1), _, _, _, f2 q⟩
  · have hwj : wt 6 C = false := Bool.eq_false_iff.mpr hwj
    have hw : wt 29 C = false := by rw [wt_29]; exact hwj
    show (ev_cmp 3 (D.1 128 8) 5 = true → _) ∧ (ev_cmp 3 (D.1 128 8) 5 = false → _)
    refine ⟨fun h1 => ?_, fun h1 => ?_⟩
    · have g1 := fn_ge h1
      show ∃ R, cm_Lc cm_ms 193 [.ref 124, .ref (1001 + 2 * 29), .int 0] (fm D) R ∧ ∀ v M', R v M' → _
      refine ⟨_, m_begN (t := 29) (by decide) h h0 hw 0, ?_⟩
      rintro v M' ⟨rfl, rfl⟩
      show (ev_cmp 0 0 0 = true → _) ∧ (ev_cmp 0 0 0 = false → _)
      refine ⟨fun h2 => ?_, fun h2 => ?_⟩
      · show rj_J C D (209, [(0, .ref 124)], [], fm D)
        exact ⟨7, by omega, by omega, rfl, wt_lt hb hwj⟩
      · exact absurd h2 (by decide)
    · have g1 := fn_nge h1
      show ∃ R, cm_Lc cm_ms 193 [.ref 124, .ref (1001 + 2 * 29), .int 1] (fm D) R ∧ ∀ v M', R v M' → _
      refine ⟨_, m_begN (t := 29) (by decide) h h0 hw 1, ?_⟩
      rintro v M' ⟨rfl, rfl⟩
      show (ev_cmp 0 0 0 = true → _) ∧ (ev_cmp 0 0 0 = false → _)
      refine ⟨fun h3 => ?_, fun h3 => ?_⟩
      · show rj_J C D (209, [(0, .ref 124)], [], fm D)
        exact ⟨7, by omega, by omega, rfl, wt_lt hb hwj⟩
      · exact absurd h3 (by decide)
set_option maxRecDepth 100000 in
set_option maxHeartbeats 1000000 in
theorem rj_7 {T N me mo ch : Nat} {C D : cm_M} (hT : 6 ≤ T) (hT2 : T ≤ 19) (h : Rq N C D) (h0 : C.1 2 9 = 0) (hd : DT T me mo ch C (D.1 128)) (hz : C.1 2 8 = 0 → me = 0 ∧ mo = 0 ∧ ch = 0) {S : cm_S} (hS : S = (209, [(0, .ref 124)], [], fm D)) (hb : ∀ i, i < 7 → wt i C = false) : lb_ cm_ms none (cm_P mr_194) mr_194.2.2.2.2.2.2 rj_st (rj_J C D) (cm_rl (mr_K T N (rl_F T N C))) 60 S := by
  subst hS
  obtain ⟨⟨a1, hF, -⟩, ⟨-, b2, -, b4, -, b6⟩, -⟩ := id hd.2
  obtain ⟨-, -, c3, c4, c5, -⟩ := id hd.1
  by_cases hwj : wt 7 C = true
  · have hl : cF_line C = 7 := ln_at (i := 7) (by omega) hwj hb
    have hw : wt 30 C = true := by rw [wt_30]; exact hwj
    by_cases td : C.1 2 8 = 0
    · have fz : True := trivial
      show ∃ R, cm_Lc cm_ms 193 [.ref 124, .ref (1001 + 2 * 30), .int 1] (fm D) R ∧ ∀ v M', R v M' → _
      refine ⟨_, m_beg1a (t := 30) (by decide) h h0 hF td hw, ?_⟩
      rintro v M' ⟨rfl, D1, rfl, r1, f1⟩
      have y1 := cF_fail_9n (x := 6) (C := C) (by decide)
      show (ev_cmp 0 1 0 = true → _) ∧ (ev_cmp 0 1 0 = false → _)
      refine ⟨fun h1 => ?_, fun h1 => ?_⟩
      · exact absurd h1 (by decide)
      · show ∃ R, cm_Lc cm_ms 202 [.ref 124] (fm D1) R ∧ ∀ v M', R v M' → _
        refine ⟨_, m_heapLine (me := me) (mo := mo) (ch := ch) hT hT2 r1 (fun q => absurd q y1), ?_⟩
        rintro v M' ⟨rfl, D2, rfl, r2, f2⟩
        rw [hp_id y1] at r2
        show mr_K T N (rl_F T N C) none (fm D2)
        have ed : rl_F T N C = cF_fail 6 C := (rl_at7 hl).trans (rl_G0 td)
        exact ⟨rfl, D2, rfl, by rw [ed]; exact r2, fun q => absurd q (by rw [ed]; exact y1)⟩
    · have td1 : C.1 2 8 = 1 := a1.resolve_left td
      show ∃ R, cm_Lc cm_ms 193 [.ref 124, .ref (1001 + 2 * 30), .int 1] (fm D) R ∧ ∀ v M', R v M' → _
      refine ⟨_, m_beg1b (t := 30) (by decide) h h0 hF td hw, ?_⟩
      rintro v M' ⟨rfl, D1, rfl, r1, f1⟩
      have y1 : (cF_step N C).1 2 9 = 0 := cF_step_9.trans h0
      have d1 : DT T me mo ch (cF_step N C) (D1.1 128) := by rw [f1]; exact DT_cg hT hd (K_step N C)
      show (ev_cmp 0 1 0 = true → _) ∧ (ev_cmp 0 1 0 = false → _)
      refine ⟨fun h1 => ?_, fun h1 => ?_⟩
      · exact absurd h1 (by decide)
      · show ∃ R, cm_Lc cm_ms 202 [.ref 124] (fm D1) R ∧ ∀ v M', R v M' → _
        refine ⟨_, m_heapLine hT hT2 r1 (fun _ => d1), ?_⟩
        rintro v M' ⟨rfl, D2, rfl, r2, f2⟩
        rw [hp_h y1] at r2 f2
        show mr_K T N (rl_F T N C) none (fm D2)
        have ed : rl_F T N C = cF_heap T N (cF_step N C) := (rl_at7 hl).trans (rl_G2 td (fu_f (show (0 : Int32).toInt < (900 : Int32).toInt from by decide)))
        refine ⟨rfl, D2, rfl, by rw [ed]; exact r2, fun q => ?_⟩
        rw [ed] at q ⊢
        exact ⟨(heap_8 hT).trans ((K_step N C).1.2.trans td1), _, _, _, f2 q⟩
  · have hwj : wt 7 C = false := Bool.eq_false_iff.mpr hwj
    have hw : wt 30 C = false := by rw [wt_30]; exact hwj
    show ∃ R, cm_Lc cm_ms 193 [.ref 124, .ref (1001 + 2 * 30), .int 1] (fm D) R ∧ ∀ v M', R v M' → _
    refine ⟨_, m_begN (t := 30) (by decide) h h0 hw 1, ?_⟩
    rintro v M' ⟨rfl, rfl⟩
    show (ev_cmp 0 0 0 = true → _) ∧ (ev_cmp 0 0 0 = false → _)
    refine ⟨fun h1 => ?_, fun h1 => ?_⟩
    · show rj_J C D (226, [(0, .ref 124)], [], fm D)
      exact ⟨8, by omega, by omega, rfl, wt_lt hb hwj⟩
    · exact absurd h1 (by decide)
set_option maxRecDepth 100000 in
set_option maxHeartbeats 1000000 in
theorem rj_8 {T N : Nat} {C D : cm_M} (h : Rq N C D) (hb : ∀ i, i < 8 → wt i C = false) {S : cm_S} (hS : S = (226, [(0, .ref 124)], [], fm D)) : lb_ cm_ms none (cm_P mr_194) mr_194.2.2.2.2.2.2 rj_st (rj_J C D) (cm_rl (mr_K T N (rl_F T N C))) 60 S := by
  subst hS
  have ed : rl_F T N C = cF_fail 1 C := rl_atn (ln_none 8 0 (fun i _ hi => hb i (by omega)))
  show ∃ R, cm_Lc cm_ms 177 [.ref 124, .int 1, .int (D.1 124 4)] (fm D) R ∧ ∀ v M', R v M' → _
  refine ⟨_, m_wrong h (x := 1) (by decide), ?_⟩
  rintro v M' ⟨rfl, D1, rfl, r1, f1⟩
  show mr_K T N (rl_F T N C) none (fm D1)
  exact ⟨rfl, D1, rfl, by rw [ed]; exact r1, fun q => absurd q (by rw [ed]; exact cF_fail_9n (by decide))⟩
set_option maxRecDepth 100000 in
set_option maxHeartbeats 1000000 in
theorem m_readLine {T N me mo ch : Nat} {C D : cm_M} (hT : 6 ≤ T) (hT2 : T ≤ 19) (h : Rq N C D) (h0 : C.1 2 9 = 0) (hd : DT T me mo ch C (D.1 128)) (hz : C.1 2 8 = 0 → me = 0 ∧ mo = 0 ∧ ch = 0) : cm_Lc cm_ms 194 [.ref 124] (fm D) (mr_K T N (rl_F T N C)) := by
  refine lb_of (mi := mr_194) rfl rj_st (rj_J C D) 60 (fun S hS => ?_) 60 ?_
  · obtain ⟨j, h1, h8, rfl, hb⟩ := hS
    rcases (by omega : j = 1 ∨ j = 2 ∨ j = 3 ∨ j = 4 ∨ j = 5 ∨ j = 6 ∨ j = 7 ∨ j = 8) with rfl | rfl | rfl | rfl | rfl | rfl | rfl | rfl
    · exact rj_1 hT hT2 h h0 hd hz rfl hb
    · exact rj_2 hT hT2 h h0 hd hz rfl hb
    · exact rj_3 hT hT2 h h0 hd hz rfl hb
    · exact rj_4 hT hT2 h h0 hd hz rfl hb
    · exact rj_5 hT hT2 h h0 hd hz rfl hb
    · exact rj_6 hT hT2 h h0 hd hz rfl hb
    · exact rj_7 hT hT2 h h0 hd hz rfl hb
    · exact rj_8 h hb rfl
  · by_cases hwj : wt 0 C = true
    · have hl : cF_line C = 0 := ln_at (i := 0) (by omega) hwj (fun k hk => by omega)
      show ∃ R, cm_Lc cm_ms 178 [.ref 124, .ref (1001 + 2 * 20)] (fm D) R ∧ ∀ v M', R v M' → _
      refine ⟨_, m_isW1 (t := 20) (by decide) h h0 (by rw [wt_20]; exact hwj), ?_⟩
      rintro v M' ⟨rfl, rfl⟩
      show (ev_cmp 0 1 0 = true → _) ∧ (ev_cmp 0 1 0 = false → _)
      refine ⟨fun q => absurd q (by decide), fun _ => ?_⟩
      show ∃ R, cm_Lc cm_ms 195 [.ref 124] (fm D) R ∧ ∀ v M', R v M' → _
      refine ⟨_, m_townLine hT hT2 h h0 hd, ?_⟩
      rintro v M' ⟨rfl, D1, rfl, r1, f1⟩
      show mr_K T N (rl_F T N C) none (fm D1)
      refine ⟨rfl, D1, rfl, by rw [rl_at0 hl]; exact r1, fun q => ?_⟩
      rw [rl_at0 hl] at q ⊢
      exact ⟨tl_8 q, _, _, _, f1 q⟩
    · have hwj : wt 0 C = false := Bool.eq_false_iff.mpr hwj
      show ∃ R, cm_Lc cm_ms 178 [.ref 124, .ref (1001 + 2 * 20)] (fm D) R ∧ ∀ v M', R v M' → _
      refine ⟨_, m_isW0 (t := 20) (by decide) h h0 (by rw [wt_20]; exact hwj), ?_⟩
      rintro v M' ⟨rfl, rfl⟩
      show (ev_cmp 0 0 0 = true → _) ∧ (ev_cmp 0 0 0 = false → _)
      refine ⟨fun _ => ?_, fun q => absurd q (by decide)⟩
      show rj_J C D (16, [(0, .ref 124)], [], fm D)
      exact ⟨1, by omega, by omega, rfl, fun i hi => by
        have : i = 0 := by omega
        rw [this]
        exact hwj⟩
