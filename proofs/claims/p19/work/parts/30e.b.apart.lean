/-! ANSWERS OF BOTH SIDES: apart -/
def outB (v n : Int32) : Bool := decide (v.toInt < 0) || decide (n.toInt ≤ v.toInt)
theorem c_lacksChair {M : cm_M} {T' : Nat} (h3 : M.2.2 0 3 = some T') (c : Int32) : cm_Lc cm_ms 163 [.ref 0, .int c] M (fun v M' => M' = M ∧ v = some (.int (bi (outB c (M.1 T' 15))))) := by
  have z : (0 : Int32).toInt = 0 := by decide
  refine lb_st0 (mi := mr_163) rfl 400 ?_
  show (ev_cmp 2 c 0 = true → _) ∧ (ev_cmp 2 c 0 = false → _)
  refine ⟨fun h => ⟨rfl, ?_⟩, fun h => lb_to (T := (6, [(0, .ref 0), (1, .int c)], [.ref 0, .int c], M)) 6 [0, 1] rfl rfl rfl (fun J' h => h) (lb_g0 rfl rfl h3 ?_)⟩
  · have := fn_lt h
    unfold outB
    rw [decide_eq_true (by omega), Bool.true_or]
    try rfl
  · show (ev_cmp 2 c (M.1 T' 15) = true → _) ∧ (ev_cmp 2 c (M.1 T' 15) = false → _)
    have g := fn_nlt h
    refine ⟨fun h2 => ⟨rfl, ?_⟩, fun h2 => ⟨rfl, ?_⟩⟩
    · have := fn_lt h2
      unfold outB
      rw [decide_eq_false (by omega), decide_eq_false (by omega)]
      try rfl
    · have := fn_nlt h2
      unfold outB
      rw [decide_eq_true (p := (M.1 T' 15).toInt ≤ c.toInt) (by omega), Bool.or_true]
      try rfl
/-- the way from chair to chair, of the difference -/
def wayF (x : Int32) : Int32 := if 100 - (if 0 ≤ x then x else 0 - x) < (if 0 ≤ x then x else 0 - x) then 100 - (if 0 ≤ x then x else 0 - x) else (if 0 ≤ x then x else 0 - x)
def wayM (x : Int32) : Int32 := if 50 < (if x.toInt < 0 then -x else x).toInt then 100 - (if x.toInt < 0 then -x else x) else (if x.toInt < 0 then -x else x)
theorem way_1 (y : Int32) (h : 0 ≤ y.toInt ∨ y = -2147483648) : (100 - y < y) ↔ 50 < y.toInt := by
  have e100 : (100 : Int32).toInt = 100 := by decide
  rcases h with h | rfl
  · have := ev_hi y
    rw [Int32.lt_iff_toInt_lt, Int32.toInt_sub, e100, ev_bm (by omega) (by omega)]
    omega
  · exact ⟨fun q => absurd q (by decide), fun q => absurd q (by decide)⟩
theorem way_eq (x : Int32) : wayF x = wayM x := by
  have z : (0 : Int32).toInt = 0 := by decide
  have k : (if 0 ≤ x then x else 0 - x) = (if x.toInt < 0 then -x else x) := by
    by_cases h : x.toInt < 0
    · rw [if_pos h, if_neg (fun q => by
        have := Int32.le_iff_toInt_le.mp q
        omega), Int32.zero_sub]
    · rw [if_neg h, if_pos (Int32.le_iff_toInt_le.mpr (by omega))]
  unfold wayF wayM
  rw [k]
  have k2 : 0 ≤ (if x.toInt < 0 then -x else x).toInt ∨ (if x.toInt < 0 then -x else x) = -2147483648 := by
    by_cases h : x.toInt < 0
    · rw [if_pos h]
      by_cases h2 : x.toInt = -2147483648
      · have : x = -2147483648 := Int32.toInt_inj.mp (h2.trans (by decide))
        subst this
        exact Or.inr (by decide)
      · have := ev_lo x
        refine Or.inl ?_
        rw [Int32.toInt_neg, ev_bm (by omega) (by omega)]
        omega
    · rw [if_neg h]
      exact Or.inl (by omega)
  generalize (if x.toInt < 0 then -x else x) = y at k2
  by_cases h : 50 < y.toInt
  · rw [if_pos h, if_pos ((way_1 y k2).mpr h)]
  · rw [if_neg h, if_neg (fun q => h ((way_1 y k2).mp q))]
theorem c_way {M : cm_M} {T' : Nat} (h16 : M.2.2 T' 16 = some (T' + 11)) {c o : Int32} (hc : outB c (M.1 T' 15) = false) (ho : outB o (M.1 T' 15) = false) : cm_Lc cm_ms 21 [.ref T', .int c, .int o] M (fun v M' => M' = M ∧ v = some (.int (wayF (M.1 (T' + 11) c.toNatClampNeg - M.1 (T' + 11) o.toNatClampNeg)))) := by
  have z : (0 : Int32).toInt = 0 := by decide
  unfold outB at hc ho
  rw [Bool.or_eq_false_iff, decide_eq_false_iff_not, decide_eq_false_iff_not] at hc ho
  refine lb_st0 (mi := mr_21) rfl 400 ?_
  show (ev_cmp 2 c 0 = true → _) ∧ (ev_cmp 2 c 0 = false → (ev_cmp 3 c (M.1 T' 15) = true → _) ∧ (ev_cmp 3 c (M.1 T' 15) = false → (ev_cmp 2 o 0 = true → _) ∧ (ev_cmp 2 o 0 = false → (ev_cmp 2 o (M.1 T' 15) = true → _) ∧ (ev_cmp 2 o (M.1 T' 15) = false → _))))
  refine ⟨fun h => ?_, fun h => ⟨fun h2 => ?_, fun h2 => ⟨fun h4 => ?_, fun h4 => ⟨fun h5 => lb_to (T := (27, [(0, .ref T'), (1, .int c), (2, .int o)], [.ref T'], M)) 27 [0, 1, 2] rfl rfl rfl (fun J' h => h) (lb_g0 rfl rfl h16 ?_), fun h5 => ?_⟩⟩⟩⟩
  · have := fn_lt h
    omega
  · have := fn_ge h2
    omega
  · have := fn_lt h4
    omega
  · first | refine lb_to (T := (33, [(0, .ref T'), (1, .int c), (2, .int o)], [.ref T', .int (M.1 (T' + 11) c.toNatClampNeg)], M)) 33 [0, 1, 2] rfl rfl rfl (fun J' h => h) (lb_g0 rfl rfl h16 ?_) | refine lb_to0 (T := (33, [(0, .ref T'), (1, .int c), (2, .int o)], [.ref T', .int (M.1 (T' + 11) c.toNatClampNeg)], M)) 33 [0, 1, 2] rfl rfl rfl (fun J' h => h) (lb_g0 rfl rfl h16 ?_)
    exact ⟨rfl, rfl⟩
  · have := fn_nlt h5
    omega
def apF (M : cm_M) (T' : Nat) (c o : Int32) : Int32 := if (outB c (M.1 T' 15) || outB o (M.1 T' 15)) = true then -1 else wayF (M.1 (T' + 11) c.toNatClampNeg - M.1 (T' + 11) o.toNatClampNeg)
set_option maxRecDepth 100000 in
theorem c_apart {M : cm_M} {T' : Nat} (h3 : M.2.2 0 3 = some T') (h16 : M.2.2 T' 16 = some (T' + 11)) (c o : Int32) : cm_Lc cm_ms 128 [.ref 0, .int c, .int o] M (fun v _ => v = some (.int (apF M T' c o))) := by
  refine lb_st0 (mi := mr_128) rfl 400 ?_
  show ∃ R, cm_Lc cm_ms 163 [.ref 0, .int c] M R ∧ ∀ v M', R v M' → _
  refine ⟨_, c_lacksChair h3 c, ?_⟩
  rintro v M1 ⟨rfl, rfl⟩
  show (ev_cmp 1 (bi (outB c (M1.1 T' 15))) 0 = true → ∃ R, cm_Lc cm_ms 157 [.ref 0, .int 1] M1 R ∧ ∀ v M', R v M' → _) ∧ (ev_cmp 1 (bi (outB c (M1.1 T' 15))) 0 = false → ∃ R, cm_Lc cm_ms 163 [.ref 0, .int o] M1 R ∧ ∀ v M', R v M' → _)
  refine ⟨fun h => ⟨_, c_refused 1 M1, ?_⟩, fun h => ⟨_, c_lacksChair h3 o, ?_⟩⟩
  · rintro v M2 ⟨rfl, rfl⟩
    show some (Value.int (-1)) = _
    have e : outB c (M1.1 T' 15) = true := by
      cases q : outB c (M1.1 T' 15) <;> rw [q] at h <;> first | rfl | exact absurd h (by decide)
    unfold apF
    rw [e, Bool.true_or, if_pos rfl]
  · rintro v M2 ⟨rfl, rfl⟩
    have e : outB c (M2.1 T' 15) = false := by
      cases q : outB c (M2.1 T' 15) <;> rw [q] at h <;> first | rfl | exact absurd h (by decide)
    show (ev_cmp 0 (bi (outB o (M2.1 T' 15))) 0 = true → _) ∧ (ev_cmp 0 (bi (outB o (M2.1 T' 15))) 0 = false → ∃ R, cm_Lc cm_ms 157 [.ref 0, .int 1] M2 R ∧ ∀ v M', R v M' → _)
    refine ⟨fun h2 => lb_to (T := (24, [(0, .ref 0), (1, .int c), (2, .int o)], [.ref 0, .ref 0], M2)) 24 [0, 1, 2] rfl rfl rfl (fun J' h => h) (lb_g0 rfl rfl h3 ?_), fun h2 => ⟨_, c_refused 1 M2, ?_⟩⟩
    · show ∃ R, cm_Lc cm_ms 21 [.ref T', .int c, .int o] M2 R ∧ ∀ v M', R v M' → _
      refine ⟨_, c_way h16 e (bi_0 h2), ?_⟩
      rintro v M3 ⟨rfl, rfl⟩
      show ∃ R, cm_Lc cm_ms 159 [.ref 0, .int (wayF (M3.1 (T' + 11) c.toNatClampNeg - M3.1 (T' + 11) o.toNatClampNeg))] M3 R ∧ ∀ v M', R v M' → _
      refine ⟨_, c_granted _ M3, ?_⟩
      rintro v M4 ⟨rfl, rfl⟩
      show some (Value.int (wayF (M3.1 (T' + 11) c.toNatClampNeg - M3.1 (T' + 11) o.toNatClampNeg))) = _
      unfold apF
      rw [e, bi_0 h2, Bool.or_false, if_neg Bool.false_ne_true]
    · rintro v M3 ⟨rfl, rfl⟩
      show some (Value.int (-1)) = _
      unfold apF
      rw [bi_1 h2, Bool.or_true, if_pos rfl]
/-! the reference's -/
theorem bi_t {b : Bool} (h : ev_cmp 1 (bi b) 0 = true) : b = true := by
  cases b
  · exact absurd h (by decide)
  · rfl
theorem bi_f {b : Bool} (h : ev_cmp 1 (bi b) 0 = false) : b = false := by
  cases b
  · rfl
  · exact absurd h (by decide)
theorem m_isChair {M : cm_M} {a : Bool} (ha : M.1 124 14 = bi a) (h15 : M.2.2 124 15 = some 127) (c : Int32) : cm_Lc cm_ms 207 [.ref 124, .int c] M (fun v M' => M' = M ∧ v = some (.int (bi (a && inB c 0 (M.1 127 8 - 1))))) := by
  refine lb_st0 (mi := mr_207) rfl 400 ?_
  show (ev_cmp 0 (M.1 124 14) 0 = true → _) ∧ (ev_cmp 0 (M.1 124 14) 0 = false → _)
  refine ⟨fun h => ⟨rfl, ?_⟩, fun h => lb_to (T := (10, [(0, .ref 124), (1, .int c)], [.ref 124, .int 0, .int c], M)) 10 [0, 1] rfl rfl rfl (fun J' h => h) (lb_g0 rfl rfl h15 ?_)⟩
  · rw [ha] at h
    rw [bi_0 h]
    try rfl
  · rw [ha] at h
    show ∃ R, cm_Lc cm_ms 167 [.int c, .int 0, .int (M.1 127 8 - 1)] M R ∧ ∀ v M', R v M' → _
    refine ⟨_, m_in2 c 0 _ M, ?_⟩
    rintro v M1 ⟨rfl, rfl⟩
    have e := bi_1 h
    show (ev_cmp 0 (bi (inB c 0 (M1.1 127 8 - 1))) 0 = true → _) ∧ (ev_cmp 0 (bi (inB c 0 (M1.1 127 8 - 1))) 0 = false → _)
    refine ⟨fun h2 => ⟨rfl, ?_⟩, fun h2 => ⟨rfl, ?_⟩⟩
    · rw [e, bi_0 h2]
      try rfl
    · rw [e, bi_1 h2]
      try rfl
theorem m_apartOf {M : cm_M} (h15 : M.2.2 124 15 = some 127) (c o : Int32) : cm_Lc cm_ms 259 [.ref 124, .int c, .int o] M (fun v M' => M' = M ∧ v = some (.int (wayM (M.1 127 (61 + c).toNatClampNeg - M.1 127 (61 + o).toNatClampNeg)))) := by
  have z : (0 : Int32).toInt = 0 := by decide
  have z5 : (50 : Int32).toInt = 50 := by decide
  refine lb_st0 (mi := mr_259) rfl 400 ?_
  first | refine lb_to (T := (1, [(0, .ref 124), (1, .int c), (2, .int o)], [.ref 124], M)) 1 [0, 1, 2] rfl rfl rfl (fun J' h => h) (lb_g0 rfl rfl h15 ?_) | refine lb_to0 (T := (1, [(0, .ref 124), (1, .int c), (2, .int o)], [.ref 124], M)) 1 [0, 1, 2] rfl rfl rfl (fun J' h => h) (lb_g0 rfl rfl h15 ?_)
  first | refine lb_to (T := (10, [(0, .ref 124), (1, .int c), (2, .int o)], [.ref 124, .int (M.1 127 (61 + c).toNatClampNeg)], M)) 10 [0, 1, 2] rfl rfl rfl (fun J' h => h) (lb_g0 rfl rfl h15 ?_) | refine lb_to0 (T := (10, [(0, .ref 124), (1, .int c), (2, .int o)], [.ref 124, .int (M.1 127 (61 + c).toNatClampNeg)], M)) 10 [0, 1, 2] rfl rfl rfl (fun J' h => h) (lb_g0 rfl rfl h15 ?_)
  generalize hx : M.1 127 (61 + c).toNatClampNeg - M.1 127 (61 + o).toNatClampNeg = x
  show (ev_cmp 3 (M.1 127 (61 + c).toNatClampNeg - M.1 127 (61 + o).toNatClampNeg) 0 = true → (ev_cmp 5 (M.1 127 (61 + c).toNatClampNeg - M.1 127 (61 + o).toNatClampNeg) 50 = true → _) ∧ (ev_cmp 5 (M.1 127 (61 + c).toNatClampNeg - M.1 127 (61 + o).toNatClampNeg) 50 = false → _)) ∧ (ev_cmp 3 (M.1 127 (61 + c).toNatClampNeg - M.1 127 (61 + o).toNatClampNeg) 0 = false → (ev_cmp 5 (-(M.1 127 (61 + c).toNatClampNeg - M.1 127 (61 + o).toNatClampNeg)) 50 = true → _) ∧ (ev_cmp 5 (-(M.1 127 (61 + c).toNatClampNeg - M.1 127 (61 + o).toNatClampNeg)) 50 = false → _))
  refine ⟨fun h => ⟨fun h2 => ⟨rfl, ?_⟩, fun h2 => ⟨rfl, ?_⟩⟩, fun h => ⟨fun h2 => ⟨rfl, ?_⟩, fun h2 => ⟨rfl, ?_⟩⟩⟩
  · have g := fn_ge h
    have g2 := fn_le h2
    rw [hx] at g g2
    show some (Value.int (M.1 127 (61 + c).toNatClampNeg - M.1 127 (61 + o).toNatClampNeg)) = _
    rw [hx]
    unfold wayM
    rw [if_neg (show ¬ x.toInt < 0 by omega), if_neg (show ¬ 50 < x.toInt by omega)]
  · have g := fn_ge h
    have g2 := fn_nle h2
    rw [hx] at g g2
    show some (Value.int (100 - (M.1 127 (61 + c).toNatClampNeg - M.1 127 (61 + o).toNatClampNeg))) = _
    rw [hx]
    unfold wayM
    rw [if_neg (show ¬ x.toInt < 0 by omega), if_pos (show 50 < x.toInt by omega)]
  · have g := fn_nge h
    have g2 := fn_le h2
    rw [hx] at g g2
    show some (Value.int (-(M.1 127 (61 + c).toNatClampNeg - M.1 127 (61 + o).toNatClampNeg))) = _
    rw [hx]
    unfold wayM
    rw [if_pos (show x.toInt < 0 by omega), if_neg (show ¬ 50 < (-x).toInt by omega)]
  · have g := fn_nge h
    have g2 := fn_nle h2
    rw [hx] at g g2
    show some (Value.int (100 - -(M.1 127 (61 + c).toNatClampNeg - M.1 127 (61 + o).toNatClampNeg))) = _
    rw [hx]
    unfold wayM
    rw [if_pos (show x.toInt < 0 by omega), if_pos (show 50 < (-x).toInt by omega)]
def apM (M : cm_M) (a : Bool) (c o : Int32) : Int32 := if ((a && inB c 0 (M.1 127 8 - 1)) && (a && inB o 0 (M.1 127 8 - 1))) = true then wayM (M.1 127 (61 + c).toNatClampNeg - M.1 127 (61 + o).toNatClampNeg) else -1
theorem m_apart {M : cm_M} {a : Bool} (ha : M.1 124 14 = bi a) (h15 : M.2.2 124 15 = some 127) (c o : Int32) : cm_Lc cm_ms 260 [.ref 124, .int c, .int o] M (fun v _ => v = some (.int (apM M a c o))) := by
  refine lb_st0 (mi := mr_260) rfl 400 ?_
  show ∃ R, cm_Lc cm_ms 164 [.ref 124] M R ∧ ∀ v M', R v M' → _
  refine ⟨_, m_good2 M, ?_⟩
  rintro v M1 ⟨rfl, rfl⟩
  have c1 := m_isChair (M := cm_wi (cm_wi M 124 0 0) 124 11 0) (a := a) ha h15
  have e8 : (cm_wi (cm_wi M 124 0 0) 124 11 0).1 127 8 = M.1 127 8 := rfl
  rw [e8] at c1
  show ∃ R, cm_Lc cm_ms 207 [.ref 124, .int c] (cm_wi (cm_wi M 124 0 0) 124 11 0) R ∧ ∀ v M', R v M' → _
  refine ⟨_, c1 c, ?_⟩
  rintro v M1 ⟨rfl, rfl⟩
  show (ev_cmp 0 (bi (a && inB c 0 (M.1 127 8 - 1))) 0 = true → ∃ R, cm_Lc cm_ms 165 [.ref 124, .int 1] (cm_wi (cm_wi M 124 0 0) 124 11 0) R ∧ ∀ v M', R v M' → _) ∧ (ev_cmp 0 (bi (a && inB c 0 (M.1 127 8 - 1))) 0 = false → ∃ R, cm_Lc cm_ms 207 [.ref 124, .int o] (cm_wi (cm_wi M 124 0 0) 124 11 0) R ∧ ∀ v M', R v M' → _)
  refine ⟨fun h => ⟨_, m_no2 _ _, ?_⟩, fun h => ⟨_, c1 o, ?_⟩⟩
  · rintro v M1 ⟨rfl, -⟩
    show some (Value.int (-1)) = _
    unfold apM
    rw [bi_0 h, Bool.false_and, if_neg Bool.false_ne_true]
  · rintro v M1 ⟨rfl, rfl⟩
    show (ev_cmp 0 (bi (a && inB o 0 (M.1 127 8 - 1))) 0 = true → ∃ R, cm_Lc cm_ms 165 [.ref 124, .int 1] (cm_wi (cm_wi M 124 0 0) 124 11 0) R ∧ ∀ v M', R v M' → _) ∧ (ev_cmp 0 (bi (a && inB o 0 (M.1 127 8 - 1))) 0 = false → ∃ R, cm_Lc cm_ms 259 [.ref 124, .int c, .int o] (cm_wi (cm_wi M 124 0 0) 124 11 0) R ∧ ∀ v M', R v M' → _)
    refine ⟨fun h2 => ⟨_, m_no2 _ _, ?_⟩, fun h2 => ⟨_, m_apartOf (M := cm_wi (cm_wi M 124 0 0) 124 11 0) h15 c o, ?_⟩⟩
    · rintro v M1 ⟨rfl, -⟩
      show some (Value.int (-1)) = _
      unfold apM
      rw [bi_0 h2, Bool.and_false, if_neg Bool.false_ne_true]
    · rintro v M1 ⟨-, rfl⟩
      show some (Value.int (wayM (M.1 127 (61 + c).toNatClampNeg - M.1 127 (61 + o).toNatClampNeg))) = _
      unfold apM
      rw [bi_1 h, bi_1 h2, Bool.and_true, if_pos rfl]
set_option maxRecDepth 100000 in
theorem ofn_p : ∀ n, n < 100 → (Int32.ofNat n - 1).toInt = (n : Int) - 1 := by decide +kernel
theorem out_in {c : Int32} {n : Nat} (hn : n < 100) : inB c 0 (Int32.ofNat n - 1) = !outB c (Int32.ofNat n) := by
  have z : (0 : Int32).toInt = 0 := by decide
  unfold inB outB
  rw [z, ofn_p n hn, fn_toInt (by omega)]
  by_cases h1 : c.toInt < 0
  · rw [decide_eq_true h1, decide_eq_false (by omega)]
    try rfl
  · by_cases h2 : (n : Int) ≤ c.toInt
    · rw [decide_eq_false h1, decide_eq_true h2, decide_eq_false (p := c.toInt ≤ (n : Int) - 1) (by omega), Bool.and_false]
      try rfl
    · rw [decide_eq_false h1, decide_eq_false h2, decide_eq_true (by omega), decide_eq_true (by omega)]
      try rfl
theorem out_0 (c : Int32) : outB c 0 = true := by
  have z : (0 : Int32).toInt = 0 := by decide
  unfold outB
  rw [z]
  by_cases h1 : c.toInt < 0
  · rw [decide_eq_true h1]
    try rfl
  · rw [decide_eq_true (p := 0 ≤ c.toInt) (by omega), Bool.or_true]
