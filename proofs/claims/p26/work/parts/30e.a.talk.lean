/-- the same but for the trouble -/
noncomputable def sT (M M' : cm_M) : Prop := M'.2 = M.2 ∧ ∀ c j, c ≠ 0 → c ≠ 124 → M'.1 c j = M.1 c j
theorem sT_0 (M : cm_M) : sT M M := ⟨rfl, fun _ _ _ _ => rfl⟩
theorem sT_w {M M' : cm_M} {j : Nat} {x : Int32} (h : sT M M') : sT M (cm_wi M' 0 j x) := ⟨h.1, fun c i h0 h1 => by
  rw [wi_n2 (by omega)]
  exact h.2 c i h0 h1⟩
theorem c_noTown {M : cm_M} {T' : Nat} (h3 : M.2.2 0 3 = some T') : cm_Lc cm_ms 160 [.ref 0] M (fun v M' => M' = M ∧ v = some (.int (bi (decide (M.1 T' 3 = 0))))) := by
  refine lb_st0 (mi := mr_160) rfl 400 ?_
  first | refine lb_to (T := (1, [(0, .ref 0)], [.ref 0], M)) 1 [0] rfl rfl rfl (fun J' h => h) (lb_g0 rfl rfl h3 ?_) | refine lb_to0 (T := (1, [(0, .ref 0)], [.ref 0], M)) 1 [0] rfl rfl rfl (fun J' h => h) (lb_g0 rfl rfl h3 ?_)
  show (ev_cmp 1 (M.1 T' 3) 0 = true → _) ∧ (ev_cmp 1 (M.1 T' 3) 0 = false → _)
  refine ⟨fun h => ⟨rfl, ?_⟩, fun h => ⟨rfl, ?_⟩⟩
  · rw [decide_eq_false (fn_ne h)]
    try rfl
  · rw [decide_eq_true (fn_eq h)]
    try rfl
theorem c_refused (x : Int32) (M : cm_M) : cm_Lc cm_ms 157 [.ref 0, .int x] M (fun v M' => M' = cm_wi M 0 14 x ∧ v = some (.int (-1))) := by
  refine lb_st0 (mi := mr_157) rfl 400 ?_
  exact ⟨rfl, rfl⟩
theorem c_granted (x : Int32) (M : cm_M) : cm_Lc cm_ms 159 [.ref 0, .int x] M (fun v M' => M' = cm_wi M 0 14 0 ∧ v = some (.int x)) := by
  refine lb_st0 (mi := mr_159) rfl 400 ?_
  exact ⟨rfl, rfl⟩
theorem c_refusedOf {M : cm_M} {T' : Nat} (hT : 6 ≤ T') (h3 : M.2.2 0 3 = some T') (b : Bool) : cm_Lc cm_ms 158 [.ref 0, .int (bi b)] M (fun v M' => v = some (.int (bi (b || decide (M.1 T' 3 = 0)))) ∧ (sT M M' ∧ M'.1 0 14 = if M.1 T' 3 = 0 then 1 else if b = true then 2 else M.1 0 14)) := by
  refine lb_st0 (mi := mr_158) rfl 400 ?_
  show ∃ R, cm_Lc cm_ms 160 [.ref 0] M R ∧ ∀ v M', R v M' → _
  refine ⟨_, c_noTown h3, ?_⟩
  rintro v M' ⟨rfl, rfl⟩
  show (ev_cmp 0 (bi (decide (M'.1 T' 3 = 0))) 0 = true → (ev_cmp 0 (bi b) 0 = true → (ev_cmp 1 (bi b) 0 = true → _) ∧ (ev_cmp 1 (bi b) 0 = false → ∃ R, cm_Lc cm_ms 160 [.ref 0] M' R ∧ ∀ v M1, R v M1 → _)) ∧ (ev_cmp 0 (bi b) 0 = false → ∃ R, cm_Lc cm_ms 157 [.ref 0, .int 2] M' R ∧ ∀ v M1, R v M1 → _)) ∧ (ev_cmp 0 (bi (decide (M'.1 T' 3 = 0))) 0 = false → ∃ R, cm_Lc cm_ms 157 [.ref 0, .int 1] M' R ∧ ∀ v M1, R v M1 → _)
  refine ⟨fun h => ⟨fun h2 => ⟨fun h3' => ?_, fun h3' => ⟨_, c_noTown h3, ?_⟩⟩, fun h2 => ⟨_, c_refused 2 M', ?_⟩⟩, fun h => ⟨_, c_refused 1 M', ?_⟩⟩
  · rw [bi_0 h2] at h3'
    exact absurd h3' (by decide)
  · rintro v M1 ⟨rfl, rfl⟩
    have e := bi_0 h
    show (ev_cmp 0 (bi (decide (M1.1 T' 3 = 0))) 0 = true → _) ∧ (ev_cmp 0 (bi (decide (M1.1 T' 3 = 0))) 0 = false → _)
    refine ⟨fun h4 => ⟨?_, sT_0 M1, ?_⟩, fun h4 => ?_⟩
    · rw [bi_0 h2, e]
      try rfl
    · rw [if_neg (of_decide_eq_false e), bi_0 h2]
      try rfl
    · rw [e] at h4
      exact absurd h4 (by decide)
  · rintro v M1 ⟨rfl, rfl⟩
    have e := bi_0 h
    show (ev_cmp 1 (bi b) 0 = true → _) ∧ (ev_cmp 1 (bi b) 0 = false → _)
    refine ⟨fun h4 => ⟨?_, sT_w (sT_0 M'), ?_⟩, fun h4 => ?_⟩
    · rw [bi_1 h2]
      try rfl
    · rw [if_neg (of_decide_eq_false e), bi_1 h2]
      try rfl
    · rw [bi_1 h2] at h4
      exact absurd h4 (by decide)
  · rintro v M1 ⟨rfl, rfl⟩
    have e := bi_1 h
    show (ev_cmp 1 (bi b) 0 = true → _) ∧ (ev_cmp 1 (bi b) 0 = false → ∃ R, cm_Lc cm_ms 160 [.ref 0] (cm_wi M' 0 14 1) R ∧ ∀ v M1, R v M1 → _)
    refine ⟨fun h4 => ⟨?_, sT_w (sT_0 M'), ?_⟩, fun h4 => ⟨_, c_noTown (M := cm_wi M' 0 14 1) h3, ?_⟩⟩
    · rw [e, Bool.or_true]
      try rfl
    · rw [if_pos (of_decide_eq_true e)]
      try rfl
    · rintro v M1 ⟨rfl, rfl⟩
      have e2 : (cm_wi M' 0 14 1).1 T' 3 = M'.1 T' 3 := wi_n2 (by omega)
      rw [e2]
      show (ev_cmp 0 (bi (decide (M'.1 T' 3 = 0))) 0 = true → _) ∧ (ev_cmp 0 (bi (decide (M'.1 T' 3 = 0))) 0 = false → _)
      refine ⟨fun h5 => ?_, fun h5 => ⟨?_, sT_w (sT_0 M'), ?_⟩⟩
      · rw [e] at h5
        exact absurd h5 (by decide)
      · rw [e, Bool.or_true]
        try rfl
      · rw [if_pos (of_decide_eq_true e)]
        try rfl
theorem m_good2 (M : cm_M) : cm_Lc cm_ms 164 [.ref 124] M (fun v M' => v = none ∧ M' = cm_wi (cm_wi M 124 0 0) 124 11 0) := by
  refine lb_st0 (mi := mr_164) rfl 400 ?_
  exact ⟨rfl, rfl⟩
theorem m_no2 (x : Int32) (M : cm_M) : cm_Lc cm_ms 165 [.ref 124, .int x] M (fun v M' => v = some (.int (-1)) ∧ M' = cm_wi M 124 11 x) := by
  refine lb_st0 (mi := mr_165) rfl 400 ?_
  exact ⟨rfl, rfl⟩
noncomputable def inB (v a b : Int32) : Bool := decide (a.toInt ≤ v.toInt) && decide (v.toInt ≤ b.toInt)
theorem m_in2 (v a b : Int32) (M : cm_M) : cm_Lc cm_ms 167 [.int v, .int a, .int b] M (fun w M' => M' = M ∧ w = some (.int (bi (inB v a b)))) := by
  refine lb_st0 (mi := mr_167) rfl 400 ?_
  show (ev_cmp 2 v a = true → _) ∧ (ev_cmp 2 v a = false → (ev_cmp 4 v b = true → _) ∧ (ev_cmp 4 v b = false → _))
  refine ⟨fun h => ⟨rfl, ?_⟩, fun h => ⟨fun h2 => ⟨rfl, ?_⟩, fun h2 => ⟨rfl, ?_⟩⟩⟩
  · have := fn_lt h
    unfold inB
    rw [decide_eq_false (by omega), Bool.false_and]
    try rfl
  · have := fn_gt h2
    unfold inB
    rw [decide_eq_false (p := v.toInt ≤ b.toInt) (by omega), Bool.and_false]
    try rfl
  · have := fn_nlt h
    have := fn_ngt h2
    unfold inB
    rw [decide_eq_true (by omega), decide_eq_true (by omega)]
    try rfl
noncomputable def whyF (a b : Bool) : Int32 := if a = true then (if b = true then 0 else 2) else 1
theorem m_why (a b : Bool) (M : cm_M) : cm_Lc cm_ms 233 [.ref 124, .int (bi a), .int (bi b)] M (fun v M' => M' = M ∧ v = some (.int (whyF a b))) := by
  refine lb_st0 (mi := mr_233) rfl 400 ?_
  show (ev_cmp 1 (bi a) 0 = true → (ev_cmp 0 (bi b) 0 = true → _) ∧ (ev_cmp 0 (bi b) 0 = false → _)) ∧ (ev_cmp 1 (bi a) 0 = false → _)
  cases a <;> cases b
  · exact ⟨fun h => absurd h (by decide), fun _ => ⟨rfl, rfl⟩⟩
  · exact ⟨fun h => absurd h (by decide), fun _ => ⟨rfl, rfl⟩⟩
  · exact ⟨fun _ => ⟨fun _ => ⟨rfl, rfl⟩, fun h => absurd h (by decide)⟩, fun h => absurd h (by decide)⟩
  · exact ⟨fun _ => ⟨fun h => absurd h (by decide), fun _ => ⟨rfl, rfl⟩⟩, fun h => absurd h (by decide)⟩
theorem ofn_s1 (p : Nat) : Int32.ofNat p + 1 = Int32.ofNat (p + 1) := fn_succ p
noncomputable def outB (v n : Int32) : Bool := decide (v.toInt < 0) || decide (n.toInt ≤ v.toInt)
theorem bi_t {b : Bool} (h : ev_cmp 1 (bi b) 0 = true) : b = true := by
  cases b
  · exact absurd h (by decide)
  · rfl
theorem bi_f {b : Bool} (h : ev_cmp 1 (bi b) 0 = false) : b = false := by
  cases b
  · rfl
  · exact absurd h (by decide)
set_option maxRecDepth 100000 in
theorem ofn_p : ∀ n, n < 100 → (Int32.ofNat n - 1).toInt = (n : Int) - 1 := by decide +kernel
theorem out_in {c : Int32} {n : Nat} (hn : n < 100) : inB c 0 (Int32.ofNat n - 1) = !outB c (Int32.ofNat n) := by
  have z : (0 : Int32).toInt = 0 := by decide
  unfold inB outB
  rw [z, ofn_p n hn, fn_toInt (by omega)]
  by_cases h1 : c.toInt < 0
  · rw [decide_eq_true h1, decide_eq_false (by omega)]
    try rfl
  · by_cases h2 : (n : Int) ≤ c.toInt
    · rw [decide_eq_false h1, decide_eq_true h2, decide_eq_false (p := c.toInt ≤ (n : Int) - 1) (by omega), Bool.and_false]
      try rfl
    · rw [decide_eq_false h1, decide_eq_false h2, decide_eq_true (by omega), decide_eq_true (by omega)]
      try rfl
theorem out_0 (c : Int32) : outB c 0 = true := by
  have z : (0 : Int32).toInt = 0 := by decide
  unfold outB
  rw [z]
  by_cases h1 : c.toInt < 0
  · rw [decide_eq_true h1]
    try rfl
  · rw [decide_eq_true (p := 0 ≤ c.toInt) (by omega), Bool.or_true]
theorem c_lacksMotion {M : cm_M} {T' : Nat} (h3 : M.2.2 0 3 = some T') (c : Int32) : cm_Lc cm_ms 162 [.ref 0, .int c] M (fun v M' => M' = M ∧ v = some (.int (bi (outB c (M.1 T' 9))))) := by
  have z : (0 : Int32).toInt = 0 := by decide
  refine lb_st0 (mi := mr_162) rfl 400 ?_
  show (ev_cmp 2 c 0 = true → _) ∧ (ev_cmp 2 c 0 = false → _)
  refine ⟨fun h => ⟨rfl, ?_⟩, fun h => lb_to (T := (6, [(0, .ref 0), (1, .int c)], [.ref 0, .int c], M)) 6 [0, 1] rfl rfl rfl (fun J' h => h) (lb_g0 rfl rfl h3 ?_)⟩
  · have := fn_lt h
    unfold outB
    rw [decide_eq_true (by omega), Bool.true_or]
    try rfl
  · show (ev_cmp 2 c (M.1 T' 9) = true → _) ∧ (ev_cmp 2 c (M.1 T' 9) = false → _)
    have g := fn_nlt h
    refine ⟨fun h2 => ⟨rfl, ?_⟩, fun h2 => ⟨rfl, ?_⟩⟩
    · have := fn_lt h2
      unfold outB
      rw [decide_eq_false (by omega), decide_eq_false (by omega)]
      try rfl
    · have := fn_nlt h2
      unfold outB
      rw [decide_eq_true (p := (M.1 T' 9).toInt ≤ c.toInt) (by omega), Bool.or_true]
      try rfl
theorem m_isMotion {M : cm_M} {a : Bool} (ha : M.1 124 14 = bi a) (h15 : M.2.2 124 15 = some 127) (c : Int32) : cm_Lc cm_ms 206 [.ref 124, .int c] M (fun v M' => M' = M ∧ v = some (.int (bi (a && inB c 0 (M.1 127 4 - 1))))) := by
  refine lb_st0 (mi := mr_206) rfl 400 ?_
  show (ev_cmp 0 (M.1 124 14) 0 = true → _) ∧ (ev_cmp 0 (M.1 124 14) 0 = false → _)
  refine ⟨fun h => ⟨rfl, ?_⟩, fun h => lb_to (T := (10, [(0, .ref 124), (1, .int c)], [.ref 124, .int 0, .int c], M)) 10 [0, 1] rfl rfl rfl (fun J' h => h) (lb_g0 rfl rfl h15 ?_)⟩
  · rw [ha] at h
    rw [bi_0 h]
    try rfl
  · rw [ha] at h
    show ∃ R, cm_Lc cm_ms 167 [.int c, .int 0, .int (M.1 127 4 - 1)] M R ∧ ∀ v M', R v M' → _
    refine ⟨_, m_in2 c 0 _ M, ?_⟩
    rintro v M1 ⟨rfl, rfl⟩
    have e := bi_1 h
    show (ev_cmp 0 (bi (inB c 0 (M1.1 127 4 - 1))) 0 = true → _) ∧ (ev_cmp 0 (bi (inB c 0 (M1.1 127 4 - 1))) 0 = false → _)
    refine ⟨fun h2 => ⟨rfl, ?_⟩, fun h2 => ⟨rfl, ?_⟩⟩
    · rw [e, bi_0 h2]
      try rfl
    · rw [e, bi_1 h2]
      try rfl
/-- a number that is in is a small one -/
theorem out_nat {x : Int32} {n : Nat} (hn : n < 1000) (h : outB x (Int32.ofNat n) = false) : ∃ k, k < n ∧ x = Int32.ofNat k := by
  unfold outB at h
  rw [Bool.or_eq_false_iff, decide_eq_false_iff_not, decide_eq_false_iff_not, fn_toInt (by omega)] at h
  refine ⟨x.toInt.toNat, by omega, Int32.toInt_inj.mp ?_⟩
  rw [fn_toInt (by omega)]
  omega
noncomputable def sB (k : Nat) : Int32 := (1 : Int32) <<< (Int32.ofNat k &&& 31)
theorem wi_at (M : cm_M) (c i : Nat) (x : Int32) : (cm_wi M c i x).1 c i = x := by
  show (if c = c ∧ i = i then x else _) = x
  rw [if_pos ⟨rfl, rfl⟩]
noncomputable def cpl (s a : Nat) : Nat := a &&& (63 ^^^ s)
set_option maxRecDepth 100000 in
theorem and_t : ∀ a, a < 64 → ∀ s, s < 64 → Int32.ofNat a &&& (Int32.ofNat s ^^^ -1) = Int32.ofNat (cpl s a) ∧ cpl s a < 64 := by decide +kernel
set_option maxRecDepth 100000 in
theorem sB_t : ∀ k, k < 7 → sB k = Int32.ofNat (2 ^ k) := by decide +kernel
/-- how many even sets -/
noncomputable def hv (me : Nat) : Nat := 2 ^ me / 2
theorem m_allMen {M : cm_M} {me : Nat} (h15 : M.2.2 124 15 = some 127) (h3 : M.1 127 3 = Int32.ofNat me) (hme : me ≤ 6) : cm_Lc cm_ms 208 [.ref 124] M (fun v M' => M' = M ∧ v = some (.int (Int32.ofNat (2 ^ me - 1)))) := by
  refine lb_st0 (mi := mr_208) rfl 400 ?_
  first | refine lb_to (T := (2, [(0, .ref 124)], [.ref 124, .int 1], M)) 2 [0] rfl rfl rfl (fun J' h => h) (lb_g0 rfl rfl h15 ?_) | refine lb_to0 (T := (2, [(0, .ref 124)], [.ref 124, .int 1], M)) 2 [0] rfl rfl rfl (fun J' h => h) (lb_g0 rfl rfl h15 ?_)
  refine ⟨rfl, ?_⟩
  show some (Value.int ((1 : Int32) <<< (M.1 127 3 &&& 31) - 1)) = _
  have e : (1 : Int32) <<< (M.1 127 3 &&& 31) = Int32.ofNat (2 ^ me) := by
    rw [h3]
    exact sB_t me (by omega)
  have t : ∀ k, k < 7 → Int32.ofNat (2 ^ k) - 1 = Int32.ofNat (2 ^ k - 1) := by decide +kernel
  rw [e, t me (by omega)]
theorem ofn_0 {a : Nat} (ha : a < 2147483648) : Int32.ofNat a = 0 ↔ a = 0 := ⟨fun h => ofn_inj (b := 0) ha (by omega) h, fun h => by rw [h]; try rfl⟩
