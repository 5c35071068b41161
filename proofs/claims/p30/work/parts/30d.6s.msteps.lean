/-! THE REFERENCE'S READER, beside the class's: small steps -/
set_option maxRecDepth 100000 in
set_option maxHeartbeats 4000000 in
theorem m_wrong {N : Nat} {C D : cm_M} (h : Rq N C D) {x : Int32} (hx : x ≠ 0) : cm_Lc cm_ms 177 [.ref 124, .int x, .int (D.1 124 4)] (fm D) (mq N (cF_fail x C) D) := by
  refine lb_st0 (mi := mr_177) rfl 60 ?_
  show (ev_cmp 0 (D.1 124 13) 0 = true → _) ∧ (ev_cmp 0 (D.1 124 13) 0 = false → _)
  refine ⟨fun h1 => ?_, fun h1 => ?_⟩
  · have z1 : C.1 2 9 = 0 := fl_0 h.2 (fn_eq0 h1)
    show mq N (cF_fail x C) D none (cm_wi (cm_wi (cm_wi (fm D) 124 13 1) 124 9 x) 124 10 (D.1 124 4))
    exact ⟨rfl, _, rfl, Rq_fail h z1 hx, rfl⟩
  · have z1 : C.1 2 9 ≠ 0 := fl_1 h.2 (fn_ne0 h1)
    show mq N (cF_fail x C) D none (fm D)
    refine ⟨rfl, D, rfl, ?_, rfl⟩
    rw [cF_fail_id z1]
    exact h
set_option maxRecDepth 100000 in
set_option maxHeartbeats 4000000 in
theorem m_pass {N : Nat} {C D : cm_M} (h : Rq N C D) : cm_Lc cm_ms 187 [.ref 124] (fm D) (mq N (cF_step N C) D) := by
  refine lb_st0 (mi := mr_187) rfl 60 ?_
  show (ev_cmp 1 (D.1 124 13) 0 = true → _) ∧ (ev_cmp 1 (D.1 124 13) 0 = false → _)
  refine ⟨fun h1 => ?_, fun h1 => ?_⟩
  · have z1 : C.1 2 9 ≠ 0 := fl_1 h.2 (fn_ne h1)
    show mq N (cF_step N C) D none (fm D)
    refine ⟨rfl, D, rfl, ?_, rfl⟩
    rw [cF_step_id z1]
    exact h
  · have z1 : C.1 2 9 = 0 := fl_0 h.2 (fn_eq h1)
    show ∃ R, cm_Lc cm_ms 176 [.ref 124] (fm D) R ∧ ∀ v M', R v M' → _
    refine ⟨_, m_next h z1, ?_⟩
    rintro v M' ⟨rfl, D1, rfl, r1, f1⟩
    show mq N (cF_step N C) D none (fm D1)
    exact ⟨rfl, D1, rfl, r1, f1⟩
abbrev mt_R (N t : Nat) (C D : cm_M) : cm_K := fun v M' => v = some (.int (bi (decide (C.1 2 9 = 0) && wt t C))) ∧ ∃ D', M' = fm D' ∧ Rq N (if (decide (C.1 2 9 = 0) && wt t C) = true then cF_step N C else C) D' ∧ D'.1 128 = D.1 128
theorem and_l {a b : Bool} (h : (a && b) = true) : a = true := by
  cases a
  · cases h
  · rfl
theorem and_r {a b : Bool} (h : (a && b) = true) : b = true := by
  cases a
  · cases h
  · exact h
theorem and_f {a b : Bool} (h : (a && b) = false) (ha : a = true) : b = false := by
  rw [ha] at h
  exact h
set_option maxRecDepth 100000 in
set_option maxHeartbeats 4000000 in
theorem m_takesWord {N t : Nat} (ht : t < 40) {C D : cm_M} (h : Rq N C D) : cm_Lc cm_ms 179 [.ref 124, .ref (1001 + 2 * t)] (fm D) (mt_R N t C D) := by
  refine lb_st0 (mi := mr_179) rfl 60 ?_
  show ∃ R, cm_Lc cm_ms 178 [.ref 124, .ref (1001 + 2 * t)] (fm D) R ∧ ∀ v M', R v M' → _
  refine ⟨_, m_isWord (t := t) ht h, ?_⟩
  rintro v M' ⟨rfl, rfl⟩
  show (ev_cmp 1 (bi (decide (C.1 2 9 = 0) && wt t C)) 0 = true → _) ∧ (ev_cmp 1 (bi (decide (C.1 2 9 = 0) && wt t C)) 0 = false → _)
  refine ⟨fun h1 => ?_, fun h1 => ?_⟩
  · have w1 : (decide (C.1 2 9 = 0) && wt t C) = true := bi_n1 h1
    show ∃ R, cm_Lc cm_ms 176 [.ref 124] (fm D) R ∧ ∀ v M', R v M' → _
    refine ⟨_, m_next h (of_decide_eq_true (and_l w1)), ?_⟩
    rintro v M' ⟨rfl, D1, rfl, r1, f1⟩
    show mt_R N t C D (some (.int 1)) (fm D1)
    refine ⟨by rw [w1]; rfl, D1, rfl, ?_, f1⟩
    rw [if_pos w1]
    exact r1
  · have w1 : (decide (C.1 2 9 = 0) && wt t C) = false := bi_n0 h1
    show mt_R N t C D (some (.int 0)) (fm D)
    refine ⟨by rw [w1]; rfl, D, rfl, ?_, rfl⟩
    rw [if_neg (by rw [w1]; decide)]
    exact h
theorem tkw_id {N t : Nat} {C : cm_M} (h : C.1 2 9 ≠ 0) : cF_takeWord N t C = C := by
  unfold cF_takeWord cF_due
  split
  · exact cF_step_id h
  · rw [cF_fail_id h]
    exact cF_step_id h
theorem tkw_ok {N t : Nat} {C : cm_M} (h : wt t C = true) : cF_takeWord N t C = cF_step N C := by
  unfold cF_takeWord cF_due
  rw [if_pos h]
theorem tkw_no {N t : Nat} {C : cm_M} (h : wt t C = false) : cF_takeWord N t C = cF_fail 1 C := by
  unfold cF_takeWord cF_due
  rw [if_neg (by rw [h]; decide)]
  exact cF_step_id (cF_fail_9n (by decide))
set_option maxRecDepth 100000 in
set_option maxHeartbeats 4000000 in
theorem m_must {N t : Nat} (ht : t < 40) {C D : cm_M} (h : Rq N C D) : cm_Lc cm_ms 180 [.ref 124, .ref (1001 + 2 * t)] (fm D) (mq N (cF_takeWord N t C) D) := by
  refine lb_st0 (mi := mr_180) rfl 60 ?_
  show (ev_cmp 1 (D.1 124 13) 0 = true → _) ∧ (ev_cmp 1 (D.1 124 13) 0 = false → _)
  refine ⟨fun h1 => ?_, fun h1 => ?_⟩
  · have z1 : C.1 2 9 ≠ 0 := fl_1 h.2 (fn_ne h1)
    show mq N (cF_takeWord N t C) D none (fm D)
    refine ⟨rfl, D, rfl, ?_, rfl⟩
    rw [tkw_id z1]
    exact h
  · have z1 : C.1 2 9 = 0 := fl_0 h.2 (fn_eq h1)
    show ∃ R, cm_Lc cm_ms 179 [.ref 124, .ref (1001 + 2 * t)] (fm D) R ∧ ∀ v M', R v M' → _
    refine ⟨_, m_takesWord (t := t) ht h, ?_⟩
    rintro v M' ⟨rfl, D1, rfl, r1, f1⟩
    show (ev_cmp 1 (bi (decide (C.1 2 9 = 0) && wt t C)) 0 = true → _) ∧ (ev_cmp 1 (bi (decide (C.1 2 9 = 0) && wt t C)) 0 = false → _)
    refine ⟨fun h2 => ?_, fun h2 => ?_⟩
    · have w2 : (decide (C.1 2 9 = 0) && wt t C) = true := bi_n1 h2
      show mq N (cF_takeWord N t C) D none (fm D1)
      refine ⟨rfl, D1, rfl, ?_, f1⟩
      rw [tkw_ok (and_r w2)]
      rw [if_pos w2] at r1
      exact r1
    · have w2 : (decide (C.1 2 9 = 0) && wt t C) = false := bi_n0 h2
      show ∃ R, cm_Lc cm_ms 177 [.ref 124, .int 1, .int (D1.1 124 4)] (fm D1) R ∧ ∀ v M', R v M' → _
      refine ⟨_, m_wrong (x := 1) (C := C) (by rw [if_neg (by rw [w2]; decide)] at r1; exact r1) (by decide), ?_⟩
      rintro v M' ⟨rfl, D2, rfl, r2, f2⟩
      show mq N (cF_takeWord N t C) D none (fm D2)
      refine ⟨rfl, D2, rfl, ?_, f2.trans f1⟩
      rw [tkw_no (and_f w2 (decide_eq_true z1))]
      exact r2
theorem m_in (x lo hi : Int32) (M : cm_M) : cm_Lc cm_ms 167 [.int x, .int lo, .int hi] M (fun v M' => v = some (.int (bi (decide (lo ≤ x) && decide (x ≤ hi)))) ∧ M' = M) := by
  refine lb_st0 (mi := mr_167) rfl 20 ?_
  show (ev_cmp 2 x lo = true → _) ∧ (ev_cmp 2 x lo = false → (ev_cmp 4 x hi = true → _) ∧ (ev_cmp 4 x hi = false → _))
  refine ⟨fun h => ?_, fun h => ⟨fun h2 => ?_, fun h2 => ?_⟩⟩
  · have g := fn_lt h
    refine ⟨?_, rfl⟩
    rw [decide_eq_false (fun hh => by rw [Int32.le_iff_toInt_le] at hh; omega)]
    rfl
  · have g := fn_gt h2
    refine ⟨?_, rfl⟩
    rw [decide_eq_false (p := x ≤ hi) (fun hh => by rw [Int32.le_iff_toInt_le] at hh; omega), Bool.and_false]
    rfl
  · have g := fn_nlt h
    have g2 := fn_ngt h2
    refine ⟨?_, rfl⟩
    rw [decide_eq_true (Int32.le_iff_toInt_le.mpr g), decide_eq_true (Int32.le_iff_toInt_le.mpr g2)]
    rfl
theorem tw_0 {N : Nat} {C D : cm_M} (h : Rq N C D) : D.1 124 6 = 0 ↔ C.1 2 3 = 0 := by
  rcases h.1.2.2.2.2.2 with ⟨a, b⟩ | ⟨a, b, -⟩ | ⟨a, b, -⟩ | ⟨a, b⟩ | ⟨a, b⟩ <;> (rw [a, b] <;> decide)
theorem tw_1 {N : Nat} {C D : cm_M} (h : Rq N C D) : D.1 124 6 = 2 ↔ C.1 2 3 = 1 := by
  rcases h.1.2.2.2.2.2 with ⟨a, b⟩ | ⟨a, b, -⟩ | ⟨a, b, -⟩ | ⟨a, b⟩ | ⟨a, b⟩ <;> (rw [a, b] <;> decide)
theorem tw_2 {N : Nat} {C D : cm_M} (h : Rq N C D) : D.1 124 6 = 3 ↔ C.1 2 3 = 2 := by
  rcases h.1.2.2.2.2.2 with ⟨a, b⟩ | ⟨a, b, -⟩ | ⟨a, b, -⟩ | ⟨a, b⟩ | ⟨a, b⟩ <;> (rw [a, b] <;> decide)
theorem tw_3 {N : Nat} {C D : cm_M} (h : Rq N C D) : D.1 124 6 = 59 ↔ C.1 2 3 = 3 := by
  rcases h.1.2.2.2.2.2 with ⟨a, b⟩ | ⟨a, b, -⟩ | ⟨a, b, -⟩ | ⟨a, b⟩ | ⟨a, b⟩ <;> (rw [a, b] <;> decide)
theorem tw_v {N : Nat} {C D : cm_M} (h : Rq N C D) (h2 : C.1 2 3 = 2) : D.1 124 7 = C.1 2 5 := by
  rcases h.1.2.2.2.2.2 with ⟨a, b⟩ | ⟨a, b, -⟩ | ⟨a, b, c⟩ | ⟨a, b⟩ | ⟨a, b⟩
  · rw [a] at h2; exact absurd h2 (by decide)
  · rw [a] at h2; exact absurd h2 (by decide)
  · exact c
  · rw [a] at h2; exact absurd h2 (by decide)
  · rw [a] at h2; exact absurd h2 (by decide)
theorem tkn_id {N : Nat} {lo hi : Int32} {C : cm_M} (h : C.1 2 9 ≠ 0) : cF_takeWhole N lo hi C = C := by
  have : cF_whole lo hi C = C := by
    unfold cF_whole
    split
    · split
      · exact cF_fail_id h
      · rfl
    · exact cF_fail_id h
  unfold cF_takeWhole
  rw [this]
  exact cF_step_id h
theorem tkn_form {N : Nat} {lo hi : Int32} {C : cm_M} (h : C.1 2 3 ≠ 2) : cF_takeWhole N lo hi C = cF_fail 1 C := by
  unfold cF_takeWhole cF_whole
  rw [if_neg h]
  exact cF_step_id (cF_fail_9n (by decide))
theorem tkn_bd {N : Nat} {lo hi : Int32} {C : cm_M} (h : C.1 2 3 = 2) (hb : (decide (lo ≤ C.1 2 5) && decide (C.1 2 5 ≤ hi)) = false) : cF_takeWhole N lo hi C = cF_fail 4 C := by
  unfold cF_takeWhole cF_whole
  rw [if_pos h, if_pos]
  · exact cF_step_id (cF_fail_9n (by decide))
  · rw [Bool.and_eq_false_iff] at hb
    rcases hb with hb | hb
    · have := of_decide_eq_false hb
      left
      rw [Int32.le_iff_toInt_le] at this
      rw [Int32.lt_iff_toInt_lt]
      omega
    · have := of_decide_eq_false hb
      right
      rw [Int32.le_iff_toInt_le] at this
      rw [Int32.lt_iff_toInt_lt]
      omega
theorem tkn_ok {N : Nat} {lo hi : Int32} {C : cm_M} (h : C.1 2 3 = 2) (hb : (decide (lo ≤ C.1 2 5) && decide (C.1 2 5 ≤ hi)) = true) : cF_takeWhole N lo hi C = cF_step N C := by
  unfold cF_takeWhole cF_whole
  rw [if_pos h, if_neg]
  have h1 := of_decide_eq_true (and_l hb)
  have h2 := of_decide_eq_true (and_r hb)
  rw [Int32.le_iff_toInt_le] at h1 h2
  rintro (c | c)
  · rw [Int32.lt_iff_toInt_lt] at c
    omega
  · rw [Int32.lt_iff_toInt_lt] at c
    omega
abbrev mn_R (N : Nat) (lo hi : Int32) (C D : cm_M) : cm_K := fun v M' => ∃ x, v = some (.int x) ∧ ∃ D', M' = fm D' ∧ Rq N (cF_takeWhole N lo hi C) D' ∧ D'.1 128 = D.1 128 ∧ ((cF_takeWhole N lo hi C).1 2 9 = 0 → x = C.1 2 5)
set_option maxRecDepth 100000 in
set_option maxHeartbeats 4000000 in
theorem m_number {N : Nat} (lo hi : Int32) {C D : cm_M} (h : Rq N C D) : cm_Lc cm_ms 188 [.ref 124, .int lo, .int hi] (fm D) (mn_R N lo hi C D) := by
  refine lb_st0 (mi := mr_188) rfl 60 ?_
  show (ev_cmp 0 (D.1 124 13) 0 = true → _) ∧ (ev_cmp 0 (D.1 124 13) 0 = false → _)
  refine ⟨fun h1 => ?_, fun h1 => ?_⟩
  · have z1 : C.1 2 9 = 0 := fl_0 h.2 (fn_eq0 h1)
    show (ev_cmp 0 (D.1 124 6) 3 = true → _) ∧ (ev_cmp 0 (D.1 124 6) 3 = false → _)
    refine ⟨fun h2 => ?_, fun h2 => ?_⟩
    · show ∃ R, cm_Lc cm_ms 167 [.int (D.1 124 7), .int lo, .int hi] (fm D) R ∧ ∀ v M', R v M' → _
      refine ⟨_, m_in (D.1 124 7) lo hi _, ?_⟩
      rintro v M' ⟨rfl, rfl⟩
      show (ev_cmp 1 (bi (decide (lo ≤ (D.1 124 7)) && decide ((D.1 124 7) ≤ hi))) 0 = true → _) ∧ (ev_cmp 1 (bi (decide (lo ≤ (D.1 124 7)) && decide ((D.1 124 7) ≤ hi))) 0 = false → _)
      refine ⟨fun h3 => ?_, fun h3 => ?_⟩
      · have w3 : (decide (lo ≤ (D.1 124 7)) && decide ((D.1 124 7) ≤ hi)) = true := bi_n1 h3
        show (ev_cmp 0 (D.1 124 13) 0 = true → _) ∧ (ev_cmp 0 (D.1 124 13) 0 = false → _)
        refine ⟨fun h4 => ?_, fun h4 => ?_⟩
        · have z4 : C.1 2 9 = 0 := fl_0 h.2 (fn_eq0 h4)
          show ∃ R, cm_Lc cm_ms 176 [.ref 124] (fm D) R ∧ ∀ v M', R v M' → _
          refine ⟨_, m_next h z4, ?_⟩
          rintro v M' ⟨rfl, D1, rfl, r1, f1⟩
          show mn_R N lo hi C D (some (.int (D.1 124 7))) (fm D1)
          refine ⟨_, rfl, D1, rfl, ?_, f1, ?_⟩
          · rw [tkn_ok ((tw_2 h).mp (fn_eq0 h2)) (by rw [tw_v h ((tw_2 h).mp (fn_eq0 h2))] at w3; exact w3)]
            exact r1
          · exact fun _ => tw_v h ((tw_2 h).mp (fn_eq0 h2))
        · have z4 : C.1 2 9 ≠ 0 := fl_1 h.2 (fn_ne0 h4)
          show mn_R N lo hi C D (some (.int lo)) (fm D)
          exact absurd z1 z4
      · have w3 : (decide (lo ≤ (D.1 124 7)) && decide ((D.1 124 7) ≤ hi)) = false := bi_n0 h3
        show ∃ R, cm_Lc cm_ms 177 [.ref 124, .int 4, .int (D.1 124 4)] (fm D) R ∧ ∀ v M', R v M' → _
        refine ⟨_, m_wrong h (x := 4) (by decide), ?_⟩
        rintro v M' ⟨rfl, D1, rfl, r1, f1⟩
        show (ev_cmp 0 (D1.1 124 13) 0 = true → _) ∧ (ev_cmp 0 (D1.1 124 13) 0 = false → _)
        refine ⟨fun h5 => ?_, fun h5 => ?_⟩
        · have z5 : (cF_fail 4 C).1 2 9 = 0 := fl_0 r1.2 (fn_eq0 h5)
          show ∃ R, cm_Lc cm_ms 176 [.ref 124] (fm D1) R ∧ ∀ v M', R v M' → _
          refine ⟨_, m_next r1 z5, ?_⟩
          rintro v M' ⟨rfl, D9, rfl, r9, f9⟩
          show mn_R N lo hi C D (some (.int (D1.1 124 7))) (fm D9)
          exact absurd z5 (cF_fail_9n (by decide))
        · have z5 : (cF_fail 4 C).1 2 9 ≠ 0 := fl_1 r1.2 (fn_ne0 h5)
          show mn_R N lo hi C D (some (.int lo)) (fm D1)
          refine ⟨_, rfl, D1, rfl, ?_, f1, ?_⟩
          · rw [tkn_bd ((tw_2 h).mp (fn_eq0 h2)) (by rw [tw_v h ((tw_2 h).mp (fn_eq0 h2))] at w3; exact w3)]
            exact r1
          · rw [tkn_bd ((tw_2 h).mp (fn_eq0 h2)) (by rw [tw_v h ((tw_2 h).mp (fn_eq0 h2))] at w3; exact w3)]
            exact fun q => absurd q (cF_fail_9n (by decide))
    · show ∃ R, cm_Lc cm_ms 177 [.ref 124, .int 1, .int (D.1 124 4)] (fm D) R ∧ ∀ v M', R v M' → _
      refine ⟨_, m_wrong h (x := 1) (by decide), ?_⟩
      rintro v M' ⟨rfl, D1, rfl, r1, f1⟩
      show (ev_cmp 0 (D1.1 124 13) 0 = true → _) ∧ (ev_cmp 0 (D1.1 124 13) 0 = false → _)
      refine ⟨fun h6 => ?_, fun h6 => ?_⟩
      · have z6 : (cF_fail 1 C).1 2 9 = 0 := fl_0 r1.2 (fn_eq0 h6)
        show ∃ R, cm_Lc cm_ms 176 [.ref 124] (fm D1) R ∧ ∀ v M', R v M' → _
        refine ⟨_, m_next r1 z6, ?_⟩
        rintro v M' ⟨rfl, D9, rfl, r9, f9⟩
        show mn_R N lo hi C D (some (.int (D1.1 124 7))) (fm D9)
        exact absurd z6 (cF_fail_9n (by decide))
      · have z6 : (cF_fail 1 C).1 2 9 ≠ 0 := fl_1 r1.2 (fn_ne0 h6)
        show mn_R N lo hi C D (some (.int lo)) (fm D1)
        refine ⟨_, rfl, D1, rfl, ?_, f1, ?_⟩
        · rw [tkn_form (fun q => fn_ne0 h2 ((tw_2 h).mpr q))]
          exact r1
        · rw [tkn_form (fun q => fn_ne0 h2 ((tw_2 h).mpr q))]
          exact fun q => absurd q (cF_fail_9n (by decide))
  · have z1 : C.1 2 9 ≠ 0 := fl_1 h.2 (fn_ne0 h1)
    show mn_R N lo hi C D (some (.int lo)) (fm D)
    refine ⟨_, rfl, D, rfl, ?_, rfl, ?_⟩
    · rw [tkn_id z1]
      exact h
    · rw [tkn_id z1]
      exact fun q => absurd q z1
abbrev ma_R (N t : Nat) (lo hi : Int32) (C D : cm_M) : cm_K := fun v M' => ∃ x, v = some (.int x) ∧ ∃ D', M' = fm D' ∧ Rq N (cF_takeWhole N lo hi (cF_takeWord N t C)) D' ∧ D'.1 128 = D.1 128 ∧ ((cF_takeWhole N lo hi (cF_takeWord N t C)).1 2 9 = 0 → x = (cF_takeWord N t C).1 2 5)
set_option maxRecDepth 100000 in
set_option maxHeartbeats 4000000 in
theorem m_after {N t : Nat} (ht : t < 40) (lo hi : Int32) {C D : cm_M} (h : Rq N C D) : cm_Lc cm_ms 189 [.ref 124, .ref (1001 + 2 * t), .int lo, .int hi] (fm D) (ma_R N t lo hi C D) := by
  refine lb_st0 (mi := mr_189) rfl 60 ?_
  show ∃ R, cm_Lc cm_ms 180 [.ref 124, .ref (1001 + 2 * t)] (fm D) R ∧ ∀ v M', R v M' → _
  refine ⟨_, m_must (t := t) ht h, ?_⟩
  rintro v M' ⟨rfl, D1, rfl, r1, f1⟩
  show ∃ R, cm_Lc cm_ms 188 [.ref 124, .int lo, .int hi] (fm D1) R ∧ ∀ v M', R v M' → _
  refine ⟨_, m_number lo hi r1, ?_⟩
  rintro v M' ⟨x2, rfl, D2, rfl, r2, f2, v2⟩
  show ma_R N t lo hi C D (some (.int x2)) (fm D2)
  exact ⟨_, rfl, D2, rfl, r2, f2.trans f1, v2⟩
