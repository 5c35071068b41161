/-! THE REFERENCE'S READER, beside the class's: colours, what no name may be -/
set_option maxRecDepth 100000 in
theorem sn_20 : sn 20 = sn 0 := by decide +kernel
theorem wt_20 (C : cm_M) : wt 20 C = wt 0 C := by
  unfold wt
  rw [sn_20]
theorem tkw_20 (N : Nat) (C : cm_M) : cF_takeWord N 20 C = cF_takeWord N 0 C := by
  unfold cF_takeWord cF_due
  rw [wt_20]
set_option maxRecDepth 100000 in
theorem sn_21 : sn 21 = sn 8 := by decide +kernel
theorem wt_21 (C : cm_M) : wt 21 C = wt 8 C := by
  unfold wt
  rw [sn_21]
theorem tkw_21 (N : Nat) (C : cm_M) : cF_takeWord N 21 C = cF_takeWord N 8 C := by
  unfold cF_takeWord cF_due
  rw [wt_21]
set_option maxRecDepth 100000 in
theorem sn_22 : sn 22 = sn 9 := by decide +kernel
theorem wt_22 (C : cm_M) : wt 22 C = wt 9 C := by
  unfold wt
  rw [sn_22]
theorem tkw_22 (N : Nat) (C : cm_M) : cF_takeWord N 22 C = cF_takeWord N 9 C := by
  unfold cF_takeWord cF_due
  rw [wt_22]
set_option maxRecDepth 100000 in
theorem sn_23 : sn 23 = sn 10 := by decide +kernel
theorem wt_23 (C : cm_M) : wt 23 C = wt 10 C := by
  unfold wt
  rw [sn_23]
theorem tkw_23 (N : Nat) (C : cm_M) : cF_takeWord N 23 C = cF_takeWord N 10 C := by
  unfold cF_takeWord cF_due
  rw [wt_23]
set_option maxRecDepth 100000 in
theorem sn_24 : sn 24 = sn 1 := by decide +kernel
theorem wt_24 (C : cm_M) : wt 24 C = wt 1 C := by
  unfold wt
  rw [sn_24]
theorem tkw_24 (N : Nat) (C : cm_M) : cF_takeWord N 24 C = cF_takeWord N 1 C := by
  unfold cF_takeWord cF_due
  rw [wt_24]
set_option maxRecDepth 100000 in
theorem sn_25 : sn 25 = sn 2 := by decide +kernel
theorem wt_25 (C : cm_M) : wt 25 C = wt 2 C := by
  unfold wt
  rw [sn_25]
theorem tkw_25 (N : Nat) (C : cm_M) : cF_takeWord N 25 C = cF_takeWord N 2 C := by
  unfold cF_takeWord cF_due
  rw [wt_25]
set_option maxRecDepth 100000 in
theorem sn_26 : sn 26 = sn 3 := by decide +kernel
theorem wt_26 (C : cm_M) : wt 26 C = wt 3 C := by
  unfold wt
  rw [sn_26]
theorem tkw_26 (N : Nat) (C : cm_M) : cF_takeWord N 26 C = cF_takeWord N 3 C := by
  unfold cF_takeWord cF_due
  rw [wt_26]
set_option maxRecDepth 100000 in
theorem sn_27 : sn 27 = sn 4 := by decide +kernel
theorem wt_27 (C : cm_M) : wt 27 C = wt 4 C := by
  unfold wt
  rw [sn_27]
theorem tkw_27 (N : Nat) (C : cm_M) : cF_takeWord N 27 C = cF_takeWord N 4 C := by
  unfold cF_takeWord cF_due
  rw [wt_27]
set_option maxRecDepth 100000 in
theorem sn_28 : sn 28 = sn 5 := by decide +kernel
theorem wt_28 (C : cm_M) : wt 28 C = wt 5 C := by
  unfold wt
  rw [sn_28]
theorem tkw_28 (N : Nat) (C : cm_M) : cF_takeWord N 28 C = cF_takeWord N 5 C := by
  unfold cF_takeWord cF_due
  rw [wt_28]
set_option maxRecDepth 100000 in
theorem sn_29 : sn 29 = sn 6 := by decide +kernel
theorem wt_29 (C : cm_M) : wt 29 C = wt 6 C := by
  unfold wt
  rw [sn_29]
theorem tkw_29 (N : Nat) (C : cm_M) : cF_takeWord N 29 C = cF_takeWord N 6 C := by
  unfold cF_takeWord cF_due
  rw [wt_29]
set_option maxRecDepth 100000 in
theorem sn_30 : sn 30 = sn 7 := by decide +kernel
theorem wt_30 (C : cm_M) : wt 30 C = wt 7 C := by
  unfold wt
  rw [sn_30]
theorem tkw_30 (N : Nat) (C : cm_M) : cF_takeWord N 30 C = cF_takeWord N 7 C := by
  unfold cF_takeWord cF_due
  rw [wt_30]
set_option maxRecDepth 100000 in
theorem sn_31 : sn 31 = sn 11 := by decide +kernel
theorem wt_31 (C : cm_M) : wt 31 C = wt 11 C := by
  unfold wt
  rw [sn_31]
theorem tkw_31 (N : Nat) (C : cm_M) : cF_takeWord N 31 C = cF_takeWord N 11 C := by
  unfold cF_takeWord cF_due
  rw [wt_31]
set_option maxRecDepth 100000 in
theorem sn_32 : sn 32 = sn 12 := by decide +kernel
theorem wt_32 (C : cm_M) : wt 32 C = wt 12 C := by
  unfold wt
  rw [sn_32]
theorem tkw_32 (N : Nat) (C : cm_M) : cF_takeWord N 32 C = cF_takeWord N 12 C := by
  unfold cF_takeWord cF_due
  rw [wt_32]
set_option maxRecDepth 100000 in
theorem sn_33 : sn 33 = sn 13 := by decide +kernel
theorem wt_33 (C : cm_M) : wt 33 C = wt 13 C := by
  unfold wt
  rw [sn_33]
theorem tkw_33 (N : Nat) (C : cm_M) : cF_takeWord N 33 C = cF_takeWord N 13 C := by
  unfold cF_takeWord cF_due
  rw [wt_33]
set_option maxRecDepth 100000 in
theorem sn_34 : sn 34 = sn 14 := by decide +kernel
theorem wt_34 (C : cm_M) : wt 34 C = wt 14 C := by
  unfold wt
  rw [sn_34]
theorem tkw_34 (N : Nat) (C : cm_M) : cF_takeWord N 34 C = cF_takeWord N 14 C := by
  unfold cF_takeWord cF_due
  rw [wt_34]
set_option maxRecDepth 100000 in
theorem sn_35 : sn 35 = sn 15 := by decide +kernel
theorem wt_35 (C : cm_M) : wt 35 C = wt 15 C := by
  unfold wt
  rw [sn_35]
theorem tkw_35 (N : Nat) (C : cm_M) : cF_takeWord N 35 C = cF_takeWord N 15 C := by
  unfold cF_takeWord cF_due
  rw [wt_35]
set_option maxRecDepth 100000 in
theorem sn_36 : sn 36 = sn 16 := by decide +kernel
theorem wt_36 (C : cm_M) : wt 36 C = wt 16 C := by
  unfold wt
  rw [sn_36]
theorem tkw_36 (N : Nat) (C : cm_M) : cF_takeWord N 36 C = cF_takeWord N 16 C := by
  unfold cF_takeWord cF_due
  rw [wt_36]
set_option maxRecDepth 100000 in
theorem sn_37 : sn 37 = sn 17 := by decide +kernel
theorem wt_37 (C : cm_M) : wt 37 C = wt 17 C := by
  unfold wt
  rw [sn_37]
theorem tkw_37 (N : Nat) (C : cm_M) : cF_takeWord N 37 C = cF_takeWord N 17 C := by
  unfold cF_takeWord cF_due
  rw [wt_37]
set_option maxRecDepth 100000 in
theorem sn_38 : sn 38 = sn 18 := by decide +kernel
theorem wt_38 (C : cm_M) : wt 38 C = wt 18 C := by
  unfold wt
  rw [sn_38]
theorem tkw_38 (N : Nat) (C : cm_M) : cF_takeWord N 38 C = cF_takeWord N 18 C := by
  unfold cF_takeWord cF_due
  rw [wt_38]
set_option maxRecDepth 100000 in
theorem sn_39 : sn 39 = sn 19 := by decide +kernel
theorem wt_39 (C : cm_M) : wt 39 C = wt 19 C := by
  unfold wt
  rw [sn_39]
theorem tkw_39 (N : Nat) (C : cm_M) : cF_takeWord N 39 C = cF_takeWord N 19 C := by
  unfold cF_takeWord cF_due
  rw [wt_39]
theorem ln_some {C : cm_M} : ∀ (f j i : Nat), j ≤ i → i < j + f → wt i C = true → j + f ≤ 8 → ln_f C f j ≠ -1
  | 0, j, i, h1, h2, _, _ => by omega
  | f + 1, j, i, h1, h2, hw, h8 => by
    unfold ln_f
    by_cases hj : wt j C = true
    · rw [if_pos hj]
      intro hh
      have := congrArg Int32.toInt hh
      rw [fn_toInt (by omega)] at this
      have e : (-1 : Int32).toInt = -1 := by decide
      rw [e] at this
      omega
    · rw [if_neg hj]
      have : j ≠ i := fun e => hj (e ▸ hw)
      exact ln_some f (j + 1) i (by omega) (by omega) hw (by omega)
theorem ln_none {C : cm_M} : ∀ (f j : Nat), (∀ i, j ≤ i → i < j + f → wt i C = false) → ln_f C f j = -1
  | 0, j, _ => rfl
  | f + 1, j, h => by
    unfold ln_f
    rw [if_neg (by rw [h j (by omega) (by omega)]; decide)]
    exact ln_none f (j + 1) (fun i a b => h i (by omega) (by omega))
def cF_nm (C : cm_M) : cm_M := if C.1 2 3 = 1 ∧ cF_line C = -1 then C else cF_fail 1 C
theorem nm_no {C : cm_M} {i : Nat} (h8 : i < 8) (h : wt i C = true) : cF_nm C = cF_fail 1 C := by
  unfold cF_nm
  rw [if_neg (fun hh => ln_some 8 0 i (by omega) (by omega) h (by omega) hh.2)]
theorem nm_no2 {C : cm_M} (h : C.1 2 3 ≠ 1) : cF_nm C = cF_fail 1 C := by
  unfold cF_nm
  rw [if_neg (fun hh => h hh.1)]
theorem nm_ok {C : cm_M} (h : C.1 2 3 = 1) (h0 : wt 0 C = false) (h1 : wt 1 C = false) (h2 : wt 2 C = false) (h3 : wt 3 C = false) (h4 : wt 4 C = false) (h5 : wt 5 C = false) (h6 : wt 6 C = false) (h7 : wt 7 C = false) : cF_nm C = C := by
  unfold cF_nm
  rw [if_pos ⟨h, ln_none 8 0 (fun i a b => by
    match i, b with
    | 0, _ => exact h0
    | 1, _ => exact h1
    | 2, _ => exact h2
    | 3, _ => exact h3
    | 4, _ => exact h4
    | 5, _ => exact h5
    | 6, _ => exact h6
    | 7, _ => exact h7
    | n + 8, b => omega)⟩]
set_option maxRecDepth 100000 in
set_option maxHeartbeats 4000000 in
theorem m_mustName {N : Nat} {C D : cm_M} (h : Rq N C D) (h0 : C.1 2 9 = 0) : cm_Lc cm_ms 181 [.ref 124] (fm D) (mq N (cF_nm C) D) := by
  refine lb_st0 (mi := mr_181) rfl 80 ?_
  show (ev_cmp 1 (D.1 124 6) 2 = true → _) ∧ (ev_cmp 1 (D.1 124 6) 2 = false → _)
  refine ⟨fun h1 => ?_, fun h1 => ?_⟩
  · show ∃ R, cm_Lc cm_ms 177 [.ref 124, .int 1, .int (D.1 124 4)] (fm D) R ∧ ∀ v M', R v M' → _
    refine ⟨_, m_wrong h (x := 1) (by decide), ?_⟩
    rintro v M' ⟨rfl, D1, rfl, r1, f1⟩
    show mq N (cF_nm C) D none (fm D1)
    refine ⟨rfl, D1, rfl, ?_, f1⟩
    rw [nm_no2 (fun q => fn_ne h1 ((tw_1 h).mpr q))]
    exact r1
  · show ∃ R, cm_Lc cm_ms 178 [.ref 124, .ref (1001 + 2 * 20)] (fm D) R ∧ ∀ v M', R v M' → _
    refine ⟨_, m_isWord (t := 20) (by decide) h, ?_⟩
    rintro v M' ⟨rfl, rfl⟩
    show (ev_cmp 1 (bi (decide (C.1 2 9 = 0) && wt 20 C)) 0 = true → _) ∧ (ev_cmp 1 (bi (decide (C.1 2 9 = 0) && wt 20 C)) 0 = false → _)
    refine ⟨fun h2 => ?_, fun h2 => ?_⟩
    · have w2 : (decide (C.1 2 9 = 0) && wt 20 C) = true := bi_n1 h2
      show ∃ R, cm_Lc cm_ms 177 [.ref 124, .int 1, .int (D.1 124 4)] (fm D) R ∧ ∀ v M', R v M' → _
      refine ⟨_, m_wrong h (x := 1) (by decide), ?_⟩
      rintro v M' ⟨rfl, D1, rfl, r1, f1⟩
      show mq N (cF_nm C) D none (fm D1)
      refine ⟨rfl, D1, rfl, ?_, f1⟩
      rw [nm_no (i := 0) (by decide) ((wt_20 C).symm.trans (and_r w2))]
      exact r1
    · have w2 : (decide (C.1 2 9 = 0) && wt 20 C) = false := bi_n0 h2
      show ∃ R, cm_Lc cm_ms 178 [.ref 124, .ref (1001 + 2 * 24)] (fm D) R ∧ ∀ v M', R v M' → _
      refine ⟨_, m_isWord (t := 24) (by decide) h, ?_⟩
      rintro v M' ⟨rfl, rfl⟩
      show (ev_cmp 1 (bi (decide (C.1 2 9 = 0) && wt 24 C)) 0 = true → _) ∧ (ev_cmp 1 (bi (decide (C.1 2 9 = 0) && wt 24 C)) 0 = false → _)
      refine ⟨fun h3 => ?_, fun h3 => ?_⟩
      · have w3 : (decide (C.1 2 9 = 0) && wt 24 C) = true := bi_n1 h3
        show ∃ R, cm_Lc cm_ms 177 [.ref 124, .int 1, .int (D.1 124 4)] (fm D) R ∧ ∀ v M', R v M' → _
        refine ⟨_, m_wrong h (x := 1) (by decide), ?_⟩
        rintro v M' ⟨rfl, D1, rfl, r1, f1⟩
        show mq N (cF_nm C) D none (fm D1)
        refine ⟨rfl, D1, rfl, ?_, f1⟩
        rw [nm_no (i := 1) (by decide) ((wt_24 C).symm.trans (and_r w3))]
        exact r1
      · have w3 : (decide (C.1 2 9 = 0) && wt 24 C) = false := bi_n0 h3
        show ∃ R, cm_Lc cm_ms 178 [.ref 124, .ref (1001 + 2 * 25)] (fm D) R ∧ ∀ v M', R v M' → _
        refine ⟨_, m_isWord (t := 25) (by decide) h, ?_⟩
        rintro v M' ⟨rfl, rfl⟩
        show (ev_cmp 1 (bi (decide (C.1 2 9 = 0) && wt 25 C)) 0 = true → _) ∧ (ev_cmp 1 (bi (decide (C.1 2 9 = 0) && wt 25 C)) 0 = false → _)
        refine ⟨fun h4 => ?_, fun h4 => ?_⟩
        · have w4 : (decide (C.1 2 9 = 0) && wt 25 C) = true := bi_n1 h4
          show ∃ R, cm_Lc cm_ms 177 [.ref 124, .int 1, .int (D.1 124 4)] (fm D) R ∧ ∀ v M', R v M' → _
          refine ⟨_, m_wrong h (x := 1) (by decide), ?_⟩
          rintro v M' ⟨rfl, D1, rfl, r1, f1⟩
          show mq N (cF_nm C) D none (fm D1)
          refine ⟨rfl, D1, rfl, ?_, f1⟩
          rw [nm_no (i := 2) (by decide) ((wt_25 C).symm.trans (and_r w4))]
          exact r1
        · have w4 : (decide (C.1 2 9 = 0) && wt 25 C) = false := bi_n0 h4
          show ∃ R, cm_Lc cm_ms 178 [.ref 124, .ref (1001 + 2 * 26)] (fm D) R ∧ ∀ v M', R v M' → _
          refine ⟨_, m_isWord (t := 26) (by decide) h, ?_⟩
          rintro v M' ⟨rfl, rfl⟩
          show (ev_cmp 1 (bi (decide (C.1 2 9 = 0) && wt 26 C)) 0 = true → _) ∧ (ev_cmp 1 (bi (decide (C.1 2 9 = 0) && wt 26 C)) 0 = false → _)
          refine ⟨fun h5 => ?_, fun h5 => ?_⟩
          · have w5 : (decide (C.1 2 9 = 0) && wt 26 C) = true := bi_n1 h5
            show ∃ R, cm_Lc cm_ms 177 [.ref 124, .int 1, .int (D.1 124 4)] (fm D) R ∧ ∀ v M', R v M' → _
            refine ⟨_, m_wrong h (x := 1) (by decide), ?_⟩
            rintro v M' ⟨rfl, D1, rfl, r1, f1⟩
            show mq N (cF_nm C) D none (fm D1)
            refine ⟨rfl, D1, rfl, ?_, f1⟩
            rw [nm_no (i := 3) (by decide) ((wt_26 C).symm.trans (and_r w5))]
            exact r1
          · have w5 : (decide (C.1 2 9 = 0) && wt 26 C) = false := bi_n0 h5
            show ∃ R, cm_Lc cm_ms 178 [.ref 124, .ref (1001 + 2 * 27)] (fm D) R ∧ ∀ v M', R v M' → _
            refine ⟨_, m_isWord (t := 27) (by decide) h, ?_⟩
            rintro v M' ⟨rfl, rfl⟩
            show (ev_cmp 1 (bi (decide (C.1 2 9 = 0) && wt 27 C)) 0 = true → _) ∧ (ev_cmp 1 (bi (decide (C.1 2 9 = 0) && wt 27 C)) 0 = false → _)
            refine ⟨fun h6 => ?_, fun h6 => ?_⟩
            · have w6 : (decide (C.1 2 9 = 0) && wt 27 C) = true := bi_n1 h6
              show ∃ R, cm_Lc cm_ms 177 [.ref 124, .int 1, .int (D.1 124 4)] (fm D) R ∧ ∀ v M', R v M' → _
              refine ⟨_, m_wrong h (x := 1) (by decide), ?_⟩
              rintro v M' ⟨rfl, D1, rfl, r1, f1⟩
              show mq N (cF_nm C) D none (fm D1)
              refine ⟨rfl, D1, rfl, ?_, f1⟩
              rw [nm_no (i := 4) (by decide) ((wt_27 C).symm.trans (and_r w6))]
              exact r1
            · have w6 : (decide (C.1 2 9 = 0) && wt 27 C) = false := bi_n0 h6
              show ∃ R, cm_Lc cm_ms 178 [.ref 124, .ref (1001 + 2 * 28)] (fm D) R ∧ ∀ v M', R v M' → _
              refine ⟨_, m_isWord (t := 28) (by decide) h, ?_⟩
              rintro v M' ⟨rfl, rfl⟩
              show (ev_cmp 1 (bi (decide (C.1 2 9 = 0) && wt 28 C)) 0 = true → _) ∧ (ev_cmp 1 (bi (decide (C.1 2 9 = 0) && wt 28 C)) 0 = false → _)
              refine ⟨fun h7 => ?_, fun h7 => ?_⟩
              · have w7 : (decide (C.1 2 9 = 0) && wt 28 C) = true := bi_n1 h7
                show ∃ R, cm_Lc cm_ms 177 [.ref 124, .int 1, .int (D.1 124 4)] (fm D) R ∧ ∀ v M', R v M' → _
                refine ⟨_, m_wrong h (x := 1) (by decide), ?_⟩
                rintro v M' ⟨rfl, D1, rfl, r1, f1⟩
                show mq N (cF_nm C) D none (fm D1)
                refine ⟨rfl, D1, rfl, ?_, f1⟩
                rw [nm_no (i := 5) (by decide) ((wt_28 C).symm.trans (and_r w7))]
                exact r1
              · have w7 : (decide (C.1 2 9 = 0) && wt 28 C) = false := bi_n0 h7
                show ∃ R, cm_Lc cm_ms 178 [.ref 124, .ref (1001 + 2 * 29)] (fm D) R ∧ ∀ v M', R v M' → _
                refine ⟨_, m_isWord (t := 29) (by decide) h, ?_⟩
                rintro v M' ⟨rfl, rfl⟩
                show (ev_cmp 1 (bi (decide (C.1 2 9 = 0) && wt 29 C)) 0 = true → _) ∧ (ev_cmp 1 (bi (decide (C.1 2 9 = 0) && wt 29 C)) 0 = false → _)
                refine ⟨fun h8 => ?_, fun h8 => ?_⟩
                · have w8 : (decide (C.1 2 9 = 0) && wt 29 C) = true := bi_n1 h8
                  show ∃ R, cm_Lc cm_ms 177 [.ref 124, .int 1, .int (D.1 124 4)] (fm D) R ∧ ∀ v M', R v M' → _
                  refine ⟨_, m_wrong h (x := 1) (by decide), ?_⟩
                  rintro v M' ⟨rfl, D1, rfl, r1, f1⟩
                  show mq N (cF_nm C) D none (fm D1)
                  refine ⟨rfl, D1, rfl, ?_, f1⟩
                  rw [nm_no (i := 6) (by decide) ((wt_29 C).symm.trans (and_r w8))]
                  exact r1
                · have w8 : (decide (C.1 2 9 = 0) && wt 29 C) = false := bi_n0 h8
                  show ∃ R, cm_Lc cm_ms 178 [.ref 124, .ref (1001 + 2 * 30)] (fm D) R ∧ ∀ v M', R v M' → _
                  refine ⟨_, m_isWord (t := 30) (by decide) h, ?_⟩
                  rintro v M' ⟨rfl, rfl⟩
                  show (ev_cmp 0 (bi (decide (C.1 2 9 = 0) && wt 30 C)) 0 = true → _) ∧ (ev_cmp 0 (bi (decide (C.1 2 9 = 0) && wt 30 C)) 0 = false → _)
                  refine ⟨fun h9 => ?_, fun h9 => ?_⟩
                  · have w9 : (decide (C.1 2 9 = 0) && wt 30 C) = false := bi_0 h9
                    show mq N (cF_nm C) D none (fm D)
                    refine ⟨rfl, D, rfl, ?_, rfl⟩
                    rw [nm_ok ((tw_1 h).mp (fn_eq h1)) ((wt_20 C).symm.trans (and_f w2 (decide_eq_true h0))) ((wt_24 C).symm.trans (and_f w3 (decide_eq_true h0))) ((wt_25 C).symm.trans (and_f w4 (decide_eq_true h0))) ((wt_26 C).symm.trans (and_f w5 (decide_eq_true h0))) ((wt_27 C).symm.trans (and_f w6 (decide_eq_true h0))) ((wt_28 C).symm.trans (and_f w7 (decide_eq_true h0))) ((wt_29 C).symm.trans (and_f w8 (decide_eq_true h0))) ((wt_30 C).symm.trans (and_f w9 (decide_eq_true h0)))]
                    exact h
                  · have w9 : (decide (C.1 2 9 = 0) && wt 30 C) = true := bi_1 h9
                    show ∃ R, cm_Lc cm_ms 177 [.ref 124, .int 1, .int (D.1 124 4)] (fm D) R ∧ ∀ v M', R v M' → _
                    refine ⟨_, m_wrong h (x := 1) (by decide), ?_⟩
                    rintro v M' ⟨rfl, D1, rfl, r1, f1⟩
                    show mq N (cF_nm C) D none (fm D1)
                    refine ⟨rfl, D1, rfl, ?_, f1⟩
                    rw [nm_no (i := 7) (by decide) ((wt_30 C).symm.trans (and_r w9))]
                    exact r1
abbrev mc_R (N : Nat) (C D : cm_M) : cm_K := fun v M' => ∃ x, v = some (.int x) ∧ ∃ D', M' = fm D' ∧ Rq N (cF_colour C) D' ∧ D'.1 128 = D.1 128 ∧ ((cF_colour C).1 2 9 = 0 → x = cF_col C)
theorem col_no {C : cm_M} (h1 : (decide (C.1 2 9 = 0) && wt 31 C) = false) (h2 : (decide (C.1 2 9 = 0) && wt 32 C) = false) (h3 : (decide (C.1 2 9 = 0) && wt 33 C) = false) : cF_colour C = cF_fail 1 C := by
  unfold cF_colour
  by_cases hf : C.1 2 9 = 0
  · rw [← wt_31, ← wt_32, ← wt_33, and_f h1 (decide_eq_true hf), and_f h2 (decide_eq_true hf), and_f h3 (decide_eq_true hf)]
    rfl
  · rw [cF_fail_id hf]
    split
    · rfl
    · split
      · rfl
      · split <;> rfl
theorem col_0 {C : cm_M} (h : wt 31 C = true) : cF_colour C = C ∧ cF_col C = 0 := by
  unfold cF_colour cF_col
  rw [← wt_31, h]
  exact ⟨rfl, rfl⟩
theorem col_1 {C : cm_M} (h : wt 31 C = false) (h2 : wt 32 C = true) : cF_colour C = C ∧ cF_col C = 1 := by
  unfold cF_colour cF_col
  rw [← wt_31, ← wt_32, h, h2]
  exact ⟨rfl, rfl⟩
theorem col_2 {C : cm_M} (h : wt 31 C = false) (h2 : wt 32 C = false) (h3 : wt 33 C = true) : cF_colour C = C ∧ cF_col C = 2 := by
  unfold cF_colour cF_col
  rw [← wt_31, ← wt_32, ← wt_33, h, h2, h3]
  exact ⟨rfl, rfl⟩
set_option maxRecDepth 100000 in
set_option maxHeartbeats 4000000 in
theorem m_colour {N : Nat} {C D : cm_M} (h : Rq N C D) : cm_Lc cm_ms 190 [.ref 124] (fm D) (mc_R N C D) := by
  refine lb_st0 (mi := mr_190) rfl 80 ?_
  show ∃ R, cm_Lc cm_ms 178 [.ref 124, .ref (1001 + 2 * 31)] (fm D) R ∧ ∀ v M', R v M' → _
  refine ⟨_, m_isWord (t := 31) (by decide) h, ?_⟩
  rintro v M' ⟨rfl, rfl⟩
  show (ev_cmp 0 (bi (decide (C.1 2 9 = 0) && wt 31 C)) 0 = true → _) ∧ (ev_cmp 0 (bi (decide (C.1 2 9 = 0) && wt 31 C)) 0 = false → _)
  refine ⟨fun h1 => ?_, fun h1 => ?_⟩
  · have w1 : (decide (C.1 2 9 = 0) && wt 31 C) = false := bi_0 h1
    show ∃ R, cm_Lc cm_ms 178 [.ref 124, .ref (1001 + 2 * 32)] (fm D) R ∧ ∀ v M', R v M' → _
    refine ⟨_, m_isWord (t := 32) (by decide) h, ?_⟩
    rintro v M' ⟨rfl, rfl⟩
    show (ev_cmp 0 (bi (decide (C.1 2 9 = 0) && wt 32 C)) 0 = true → _) ∧ (ev_cmp 0 (bi (decide (C.1 2 9 = 0) && wt 32 C)) 0 = false → _)
    refine ⟨fun h2 => ?_, fun h2 => ?_⟩
    · have w2 : (decide (C.1 2 9 = 0) && wt 32 C) = false := bi_0 h2
      show ∃ R, cm_Lc cm_ms 178 [.ref 124, .ref (1001 + 2 * 33)] (fm D) R ∧ ∀ v M', R v M' → _
      refine ⟨_, m_isWord (t := 33) (by decide) h, ?_⟩
      rintro v M' ⟨rfl, rfl⟩
      show (ev_cmp 0 (bi (decide (C.1 2 9 = 0) && wt 33 C)) 0 = true → _) ∧ (ev_cmp 0 (bi (decide (C.1 2 9 = 0) && wt 33 C)) 0 = false → _)
      refine ⟨fun h3 => ?_, fun h3 => ?_⟩
      · have w3 : (decide (C.1 2 9 = 0) && wt 33 C) = false := bi_0 h3
        show (ev_cmp 3 (-1) 0 = true → _) ∧ (ev_cmp 3 (-1) 0 = false → _)
        refine ⟨fun h4 => ?_, fun h4 => ?_⟩
        · exact absurd h4 (by decide)
        · show ∃ R, cm_Lc cm_ms 177 [.ref 124, .int 1, .int (D.1 124 4)] (fm D) R ∧ ∀ v M', R v M' → _
          refine ⟨_, m_wrong h (x := 1) (by decide), ?_⟩
          rintro v M' ⟨rfl, D1, rfl, r1, f1⟩
          show (ev_cmp 0 (D1.1 124 13) 0 = true → _) ∧ (ev_cmp 0 (D1.1 124 13) 0 = false → _)
          refine ⟨fun h5 => ?_, fun h5 => ?_⟩
          · have z5 : (cF_fail 1 C).1 2 9 = 0 := fl_0 r1.2 (fn_eq0 h5)
            show mc_R N C D (some (.int (-1))) (fm D1)
            exact absurd z5 (cF_fail_9n (by decide))
          · have z5 : (cF_fail 1 C).1 2 9 ≠ 0 := fl_1 r1.2 (fn_ne0 h5)
            show mc_R N C D (some (.int 0)) (fm D1)
            refine ⟨_, rfl, D1, rfl, ?_, f1, ?_⟩
            · rw [col_no w1 w2 w3]
              exact r1
            · rw [col_no w1 w2 w3]
              exact fun q => absurd q (cF_fail_9n (by decide))
      · have w3 : (decide (C.1 2 9 = 0) && wt 33 C) = true := bi_1 h3
        show (ev_cmp 3 2 0 = true → _) ∧ (ev_cmp 3 2 0 = false → _)
        refine ⟨fun h6 => ?_, fun h6 => ?_⟩
        · show (ev_cmp 0 (D.1 124 13) 0 = true → _) ∧ (ev_cmp 0 (D.1 124 13) 0 = false → _)
          refine ⟨fun h7 => ?_, fun h7 => ?_⟩
          · have z7 : C.1 2 9 = 0 := fl_0 h.2 (fn_eq0 h7)
            show mc_R N C D (some (.int 2)) (fm D)
            refine ⟨_, rfl, D, rfl, ?_, rfl, ?_⟩
            · rw [(col_2 (and_f w1 (and_l w3)) (and_f w2 (and_l w3)) (and_r w3)).1]
              exact h
            · exact fun _ => (col_2 (and_f w1 (and_l w3)) (and_f w2 (and_l w3)) (and_r w3)).2.symm
          · have z7 : C.1 2 9 ≠ 0 := fl_1 h.2 (fn_ne0 h7)
            show mc_R N C D (some (.int 0)) (fm D)
            exact absurd (of_decide_eq_true (and_l w3)) z7
        · exact absurd h6 (by decide)
    · have w2 : (decide (C.1 2 9 = 0) && wt 32 C) = true := bi_1 h2
      show (ev_cmp 3 1 0 = true → _) ∧ (ev_cmp 3 1 0 = false → _)
      refine ⟨fun h8 => ?_, fun h8 => ?_⟩
      · show (ev_cmp 0 (D.1 124 13) 0 = true → _) ∧ (ev_cmp 0 (D.1 124 13) 0 = false → _)
        refine ⟨fun h9 => ?_, fun h9 => ?_⟩
        · have z9 : C.1 2 9 = 0 := fl_0 h.2 (fn_eq0 h9)
          show mc_R N C D (some (.int 1)) (fm D)
          refine ⟨_, rfl, D, rfl, ?_, rfl, ?_⟩
          · rw [(col_1 (and_f w1 (and_l w2)) (and_r w2)).1]
            exact h
          · exact fun _ => (col_1 (and_f w1 (and_l w2)) (and_r w2)).2.symm
        · have z9 : C.1 2 9 ≠ 0 := fl_1 h.2 (fn_ne0 h9)
          show mc_R N C D (some (.int 0)) (fm D)
          exact absurd (of_decide_eq_true (and_l w2)) z9
      · exact absurd h8 (by decide)
  · have w1 : (decide (C.1 2 9 = 0) && wt 31 C) = true := bi_1 h1
    show (ev_cmp 3 0 0 = true → _) ∧ (ev_cmp 3 0 0 = false → _)
    refine ⟨fun h10 => ?_, fun h10 => ?_⟩
    · show (ev_cmp 0 (D.1 124 13) 0 = true → _) ∧ (ev_cmp 0 (D.1 124 13) 0 = false → _)
      refine ⟨fun h11 => ?_, fun h11 => ?_⟩
      · have z11 : C.1 2 9 = 0 := fl_0 h.2 (fn_eq0 h11)
        show mc_R N C D (some (.int 0)) (fm D)
        refine ⟨_, rfl, D, rfl, ?_, rfl, ?_⟩
        · rw [(col_0 (and_r w1)).1]
          exact h
        · exact fun _ => (col_0 (and_r w1)).2.symm
      · have z11 : C.1 2 9 ≠ 0 := fl_1 h.2 (fn_ne0 h11)
        show mc_R N C D (some (.int 0)) (fm D)
        exact absurd (of_decide_eq_true (and_l w1)) z11
    · exact absurd h10 (by decide)
