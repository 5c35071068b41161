/-! ANSWERS OF BOTH SIDES: fault, talk, rests, rest -/
/-- the same but for the trouble -/
def sT (M M' : cm_M) : Prop := M'.2 = M.2 ∧ ∀ c j, c ≠ 0 → c ≠ 124 → M'.1 c j = M.1 c j
theorem sT_0 (M : cm_M) : sT M M := ⟨rfl, fun _ _ _ _ => rfl⟩
theorem sT_w {M M' : cm_M} {j : Nat} {x : Int32} (h : sT M M') : sT M (cm_wi M' 0 j x) := ⟨h.1, fun c i h0 h1 => by
  rw [wi_n2 (by omega)]
  exact h.2 c i h0 h1⟩
theorem c_noTown {M : cm_M} {T' : Nat} (h3 : M.2.2 0 3 = some T') : cm_Lc cm_ms 160 [.ref 0] M (fun v M' => M' = M ∧ v = some (.int (bi (decide (M.1 T' 3 = 0))))) := by
  refine lb_st0 (mi := mr_160) rfl 400 ?_
  first | refine lb_to (T := (1, [(0, .ref 0)], [.ref 0], M)) 1 [0] rfl rfl rfl (fun J' h => h) (lb_g0 rfl rfl h3 ?_) | refine lb_to0 (T := (1, [(0, .ref 0)], [.ref 0], M)) 1 [0] rfl rfl rfl (fun J' h => h) (lb_g0 rfl rfl h3 ?_)
  show (ev_cmp 1 (M.1 T' 3) 0 = true → _) ∧ (ev_cmp 1 (M.1 T' 3) 0 = false → _)
  refine ⟨fun h => ⟨rfl, ?_⟩, fun h => ⟨rfl, ?_⟩⟩
  · rw [decide_eq_false (fn_ne h)]
    try rfl
  · rw [decide_eq_true (fn_eq h)]
    try rfl
theorem c_refused (x : Int32) (M : cm_M) : cm_Lc cm_ms 157 [.ref 0, .int x] M (fun v M' => M' = cm_wi M 0 14 x ∧ v = some (.int (-1))) := by
  refine lb_st0 (mi := mr_157) rfl 400 ?_
  exact ⟨rfl, rfl⟩
theorem c_granted (x : Int32) (M : cm_M) : cm_Lc cm_ms 159 [.ref 0, .int x] M (fun v M' => M' = cm_wi M 0 14 0 ∧ v = some (.int x)) := by
  refine lb_st0 (mi := mr_159) rfl 400 ?_
  exact ⟨rfl, rfl⟩
theorem c_refusedOf {M : cm_M} {T' : Nat} (hT : 6 ≤ T') (h3 : M.2.2 0 3 = some T') (b : Bool) : cm_Lc cm_ms 158 [.ref 0, .int (bi b)] M (fun v M' => v = some (.int (bi (b || decide (M.1 T' 3 = 0)))) ∧ (sT M M' ∧ M'.1 0 14 = if M.1 T' 3 = 0 then 1 else if b = true then 2 else M.1 0 14)) := by
  refine lb_st0 (mi := mr_158) rfl 400 ?_
  show ∃ R, cm_Lc cm_ms 160 [.ref 0] M R ∧ ∀ v M', R v M' → _
  refine ⟨_, c_noTown h3, ?_⟩
  rintro v M' ⟨rfl, rfl⟩
  show (ev_cmp 0 (bi (decide (M'.1 T' 3 = 0))) 0 = true → (ev_cmp 0 (bi b) 0 = true → (ev_cmp 1 (bi b) 0 = true → _) ∧ (ev_cmp 1 (bi b) 0 = false → ∃ R, cm_Lc cm_ms 160 [.ref 0] M' R ∧ ∀ v M1, R v M1 → _)) ∧ (ev_cmp 0 (bi b) 0 = false → ∃ R, cm_Lc cm_ms 157 [.ref 0, .int 2] M' R ∧ ∀ v M1, R v M1 → _)) ∧ (ev_cmp 0 (bi (decide (M'.1 T' 3 = 0))) 0 = false → ∃ R, cm_Lc cm_ms 157 [.ref 0, .int 1] M' R ∧ ∀ v M1, R v M1 → _)
  refine ⟨fun h => ⟨fun h2 => ⟨fun h3' => ?_, fun h3' => ⟨_, c_noTown h3, ?_⟩⟩, fun h2 => ⟨_, c_refused 2 M', ?_⟩⟩, fun h => ⟨_, c_refused 1 M', ?_⟩⟩
  · rw [bi_0 h2] at h3'
    exact absurd h3' (by decide)
  · rintro v M1 ⟨rfl, rfl⟩
    have e := bi_0 h
    show (ev_cmp 0 (bi (decide (M1.1 T' 3 = 0))) 0 = true → _) ∧ (ev_cmp 0 (bi (decide (M1.1 T' 3 = 0))) 0 = false → _)
    refine ⟨fun h4 => ⟨?_, sT_0 M1, ?_⟩, fun h4 => ?_⟩
    · rw [bi_0 h2, e]
      try rfl
    · rw [if_neg (of_decide_eq_false e), bi_0 h2]
      try rfl
    · rw [e] at h4
      exact absurd h4 (by decide)
  · rintro v M1 ⟨rfl, rfl⟩
    have e := bi_0 h
    show (ev_cmp 1 (bi b) 0 = true → _) ∧ (ev_cmp 1 (bi b) 0 = false → _)
    refine ⟨fun h4 => ⟨?_, sT_w (sT_0 M'), ?_⟩, fun h4 => ?_⟩
    · rw [bi_1 h2]
      try rfl
    · rw [if_neg (of_decide_eq_false e), bi_1 h2]
      try rfl
    · rw [bi_1 h2] at h4
      exact absurd h4 (by decide)
  · rintro v M1 ⟨rfl, rfl⟩
    have e := bi_1 h
    show (ev_cmp 1 (bi b) 0 = true → _) ∧ (ev_cmp 1 (bi b) 0 = false → ∃ R, cm_Lc cm_ms 160 [.ref 0] (cm_wi M' 0 14 1) R ∧ ∀ v M1, R v M1 → _)
    refine ⟨fun h4 => ⟨?_, sT_w (sT_0 M'), ?_⟩, fun h4 => ⟨_, c_noTown (M := cm_wi M' 0 14 1) h3, ?_⟩⟩
    · rw [e, Bool.or_true]
      try rfl
    · rw [if_pos (of_decide_eq_true e)]
      try rfl
    · rintro v M1 ⟨rfl, rfl⟩
      have e2 : (cm_wi M' 0 14 1).1 T' 3 = M'.1 T' 3 := wi_n2 (by omega)
      rw [e2]
      show (ev_cmp 0 (bi (decide (M'.1 T' 3 = 0))) 0 = true → _) ∧ (ev_cmp 0 (bi (decide (M'.1 T' 3 = 0))) 0 = false → _)
      refine ⟨fun h5 => ?_, fun h5 => ⟨?_, sT_w (sT_0 M'), ?_⟩⟩
      · rw [e] at h5
        exact absurd h5 (by decide)
      · rw [e, Bool.or_true]
        try rfl
      · rw [if_pos (of_decide_eq_true e)]
        try rfl
/-- a lather that there is none of -/
def laB (l : Int32) : Bool := decide (l.toInt < 0) || decide (9 < l.toInt)
theorem c_lather {M : cm_M} {T' : Nat} (hT : 6 ≤ T') (h3 : M.2.2 0 3 = some T') (l : Int32) : cm_Lc cm_ms 141 [.ref 0, .int l] M (fun v M' => v = some (.int (bi (laB l || decide (M.1 T' 3 = 0)))) ∧ (sT M M' ∧ M'.1 0 14 = if M.1 T' 3 = 0 then 1 else if laB l = true then 2 else M.1 0 14)) := by
  have z : (0 : Int32).toInt = 0 := by decide
  have z9 : (9 : Int32).toInt = 9 := by decide
  refine lb_st0 (mi := mr_141) rfl 400 ?_
  show (ev_cmp 2 l 0 = true → ∃ R, cm_Lc cm_ms 158 [.ref 0, .int (bi true)] M R ∧ ∀ v M1, R v M1 → _) ∧ (ev_cmp 2 l 0 = false → (ev_cmp 5 l 9 = true → ∃ R, cm_Lc cm_ms 158 [.ref 0, .int (bi false)] M R ∧ ∀ v M1, R v M1 → _) ∧ (ev_cmp 5 l 9 = false → ∃ R, cm_Lc cm_ms 158 [.ref 0, .int (bi true)] M R ∧ ∀ v M1, R v M1 → _))
  refine ⟨fun h => ⟨_, c_refusedOf hT h3 true, ?_⟩, fun h => ⟨fun h2 => ⟨_, c_refusedOf hT h3 false, ?_⟩, fun h2 => ⟨_, c_refusedOf hT h3 true, ?_⟩⟩⟩
  · have e : laB l = true := by
      have := fn_lt h
      unfold laB
      rw [decide_eq_true (by omega), Bool.true_or]
    rintro v M1 ⟨rfl, q⟩
    rw [e]
    exact ⟨rfl, q⟩
  · have e : laB l = false := by
      have := fn_nlt h
      have := fn_le h2
      unfold laB
      rw [decide_eq_false (by omega), decide_eq_false (by omega), Bool.false_or]
    rintro v M1 ⟨rfl, q⟩
    rw [e]
    exact ⟨rfl, q⟩
  · have e : laB l = true := by
      have := fn_nle h2
      unfold laB
      rw [decide_eq_true (p := 9 < l.toInt) (by omega), Bool.or_true]
    rintro v M1 ⟨rfl, q⟩
    rw [e]
    exact ⟨rfl, q⟩
/-- what one has -/
def shF (l : Int32) (a b : Bool) : Int32 := if a = true then (if b = true then 1 else 4) else if b = true then -l else 2
theorem c_share (l : Int32) (a b : Bool) (M : cm_M) : cm_Lc cm_ms 142 [.int l, .int (bi a), .int (bi b)] M (fun v M' => M' = M ∧ v = some (.int (shF l a b))) := by
  refine lb_st0 (mi := mr_142) rfl 400 ?_
  show (ev_cmp 0 (bi a) 0 = true → (ev_cmp 0 (bi b) 0 = true → _) ∧ (ev_cmp 0 (bi b) 0 = false → _)) ∧ (ev_cmp 0 (bi a) 0 = false → (ev_cmp 0 (bi b) 0 = true → _) ∧ (ev_cmp 0 (bi b) 0 = false → _))
  refine ⟨fun h => ⟨fun h2 => ⟨rfl, ?_⟩, fun h2 => ⟨rfl, ?_⟩⟩, fun h => ⟨fun h2 => ⟨rfl, ?_⟩, fun h2 => ⟨rfl, ?_⟩⟩⟩
  · rw [bi_0 h, bi_0 h2]; try rfl
  · rw [bi_0 h, bi_1 h2]; try rfl
  · rw [bi_1 h, bi_0 h2]; try rfl
  · rw [bi_1 h, bi_1 h2]; try rfl
theorem m_share (l : Int32) (a b : Bool) (M : cm_M) : cm_Lc cm_ms 275 [.int l, .int (bi a), .int (bi b)] M (fun v M' => M' = M ∧ v = some (.int (shF l a b))) := by
  refine lb_st0 (mi := mr_275) rfl 400 ?_
  show (ev_cmp 0 (bi a) 0 = true → (ev_cmp 0 (bi b) 0 = true → _) ∧ (ev_cmp 0 (bi b) 0 = false → _)) ∧ (ev_cmp 0 (bi a) 0 = false → (ev_cmp 0 (bi b) 0 = true → _) ∧ (ev_cmp 0 (bi b) 0 = false → _))
  refine ⟨fun h => ⟨fun h2 => ⟨rfl, ?_⟩, fun h2 => ⟨rfl, ?_⟩⟩, fun h => ⟨fun h2 => ⟨rfl, ?_⟩, fun h2 => ⟨rfl, ?_⟩⟩⟩
  · rw [bi_0 h, bi_0 h2]; try rfl
  · rw [bi_0 h, bi_1 h2]; try rfl
  · rw [bi_1 h, bi_0 h2]; try rfl
  · rw [bi_1 h, bi_1 h2]; try rfl
def taF (l : Int32) (s t o z : Bool) : Int32 := if (laB l || z) = true then -100 else if o = true then shF l t s else shF l s t
theorem c_talk {M : cm_M} {T' : Nat} (hT : 6 ≤ T') (h3 : M.2.2 0 3 = some T') (l : Int32) (s t o : Bool) : cm_Lc cm_ms 138 [.ref 0, .int l, .int (bi s), .int (bi t), .int (bi o)] M (fun v _ => v = some (.int (taF l s t o (decide (M.1 T' 3 = 0))))) := by
  refine lb_st0 (mi := mr_138) rfl 400 ?_
  show ∃ R, cm_Lc cm_ms 141 [.ref 0, .int l] M R ∧ ∀ v M', R v M' → _
  refine ⟨_, c_lather hT h3 l, ?_⟩
  rintro v M1 ⟨rfl, -⟩
  show (ev_cmp 0 (bi (laB l || decide (M.1 T' 3 = 0))) 0 = true → (ev_cmp 0 (bi o) 0 = true → ∃ R, cm_Lc cm_ms 142 [.int l, .int (bi s), .int (bi t)] M1 R ∧ ∀ v M', R v M' → _) ∧ (ev_cmp 0 (bi o) 0 = false → ∃ R, cm_Lc cm_ms 142 [.int l, .int (bi t), .int (bi s)] M1 R ∧ ∀ v M', R v M' → _)) ∧ (ev_cmp 0 (bi (laB l || decide (M.1 T' 3 = 0))) 0 = false → _)
  refine ⟨fun h => ⟨fun h2 => ⟨_, c_share l s t M1, ?_⟩, fun h2 => ⟨_, c_share l t s M1, ?_⟩⟩, fun h => ?_⟩
  · rintro v M2 ⟨rfl, rfl⟩
    show ∃ R, cm_Lc cm_ms 159 [.ref 0, .int (shF l s t)] M2 R ∧ ∀ v M', R v M' → _
    refine ⟨_, c_granted _ M2, ?_⟩
    rintro v M3 ⟨-, rfl⟩
    show some (Value.int (shF l s t)) = _
    unfold taF
    rw [bi_0 h, bi_0 h2]
    try rfl
  · rintro v M2 ⟨rfl, rfl⟩
    show ∃ R, cm_Lc cm_ms 159 [.ref 0, .int (shF l t s)] M2 R ∧ ∀ v M', R v M' → _
    refine ⟨_, c_granted _ M2, ?_⟩
    rintro v M3 ⟨-, rfl⟩
    show some (Value.int (shF l t s)) = _
    unfold taF
    rw [bi_0 h, bi_1 h2]
    try rfl
  · show some (Value.int (-100)) = _
    unfold taF
    rw [bi_1 h]
    try rfl
/-! the reference's -/
theorem m_good2 (M : cm_M) : cm_Lc cm_ms 164 [.ref 124] M (fun v M' => v = none ∧ M' = cm_wi (cm_wi M 124 0 0) 124 11 0) := by
  refine lb_st0 (mi := mr_164) rfl 400 ?_
  exact ⟨rfl, rfl⟩
theorem m_no2 (x : Int32) (M : cm_M) : cm_Lc cm_ms 165 [.ref 124, .int x] M (fun v M' => v = some (.int (-1)) ∧ M' = cm_wi M 124 11 x) := by
  refine lb_st0 (mi := mr_165) rfl 400 ?_
  exact ⟨rfl, rfl⟩
def inB (v a b : Int32) : Bool := decide (a.toInt ≤ v.toInt) && decide (v.toInt ≤ b.toInt)
theorem m_in2 (v a b : Int32) (M : cm_M) : cm_Lc cm_ms 167 [.int v, .int a, .int b] M (fun w M' => M' = M ∧ w = some (.int (bi (inB v a b)))) := by
  refine lb_st0 (mi := mr_167) rfl 400 ?_
  show (ev_cmp 2 v a = true → _) ∧ (ev_cmp 2 v a = false → (ev_cmp 4 v b = true → _) ∧ (ev_cmp 4 v b = false → _))
  refine ⟨fun h => ⟨rfl, ?_⟩, fun h => ⟨fun h2 => ⟨rfl, ?_⟩, fun h2 => ⟨rfl, ?_⟩⟩⟩
  · have := fn_lt h
    unfold inB
    rw [decide_eq_false (by omega), Bool.false_and]
    try rfl
  · have := fn_gt h2
    unfold inB
    rw [decide_eq_false (p := v.toInt ≤ b.toInt) (by omega), Bool.and_false]
    try rfl
  · have := fn_nlt h
    have := fn_ngt h2
    unfold inB
    rw [decide_eq_true (by omega), decide_eq_true (by omega)]
    try rfl
def whyF (a b : Bool) : Int32 := if a = true then (if b = true then 0 else 2) else 1
theorem m_why (a b : Bool) (M : cm_M) : cm_Lc cm_ms 233 [.ref 124, .int (bi a), .int (bi b)] M (fun v M' => M' = M ∧ v = some (.int (whyF a b))) := by
  refine lb_st0 (mi := mr_233) rfl 400 ?_
  show (ev_cmp 1 (bi a) 0 = true → (ev_cmp 0 (bi b) 0 = true → _) ∧ (ev_cmp 0 (bi b) 0 = false → _)) ∧ (ev_cmp 1 (bi a) 0 = false → _)
  cases a <;> cases b
  · exact ⟨fun h => absurd h (by decide), fun _ => ⟨rfl, rfl⟩⟩
  · exact ⟨fun h => absurd h (by decide), fun _ => ⟨rfl, rfl⟩⟩
  · exact ⟨fun _ => ⟨fun _ => ⟨rfl, rfl⟩, fun h => absurd h (by decide)⟩, fun h => absurd h (by decide)⟩
  · exact ⟨fun _ => ⟨fun h => absurd h (by decide), fun _ => ⟨rfl, rfl⟩⟩, fun h => absurd h (by decide)⟩
theorem in_la (l : Int32) : inB l 0 9 = !laB l := by
  have z : (0 : Int32).toInt = 0 := by decide
  have z9 : (9 : Int32).toInt = 9 := by decide
  unfold inB laB
  rw [z, z9]
  by_cases h1 : l.toInt < 0
  · rw [decide_eq_true h1, decide_eq_false (by omega)]
    try rfl
  · by_cases h2 : 9 < l.toInt
    · rw [decide_eq_false h1, decide_eq_true h2, decide_eq_false (p := l.toInt ≤ 9) (by omega), Bool.and_false]
      try rfl
    · rw [decide_eq_false h1, decide_eq_false h2, decide_eq_true (by omega), decide_eq_true (by omega)]
      try rfl
theorem whyF_0 {a b : Bool} (h : ev_cmp 1 (whyF a b) 0 = false) : a = true ∧ b = true := by
  cases a <;> cases b <;> first | exact ⟨rfl, rfl⟩ | exact absurd h (by decide)
theorem whyF_1 {a b : Bool} (h : ev_cmp 1 (whyF a b) 0 = true) : (a && b) = false := by
  cases a <;> cases b <;> first | rfl | exact absurd h (by decide)
theorem m_talk {M : cm_M} {a : Bool} (ha : M.1 124 14 = bi a) (l : Int32) (s t o : Bool) : cm_Lc cm_ms 276 [.ref 124, .int l, .int (bi s), .int (bi t), .int (bi o)] M (fun v _ => v = some (.int (taF l s t o (!a)))) := by
  refine lb_st0 (mi := mr_276) rfl 400 ?_
  show ∃ R, cm_Lc cm_ms 164 [.ref 124] M R ∧ ∀ v M', R v M' → _
  refine ⟨_, m_good2 M, ?_⟩
  rintro v M1 ⟨rfl, rfl⟩
  show ∃ R, cm_Lc cm_ms 167 [.int l, .int 0, .int 9] (cm_wi (cm_wi M 124 0 0) 124 11 0) R ∧ ∀ v M', R v M' → _
  refine ⟨_, m_in2 l 0 9 _, ?_⟩
  rintro v M1 ⟨rfl, rfl⟩
  show ∃ R, cm_Lc cm_ms 233 [.ref 124, .int (M.1 124 14), .int (bi (inB l 0 9))] (cm_wi (cm_wi M 124 0 0) 124 11 0) R ∧ ∀ v M', R v M' → _
  have ew := m_why a (inB l 0 9) (cm_wi (cm_wi M 124 0 0) 124 11 0)
  rw [← ha] at ew
  refine ⟨_, ew, ?_⟩
  rintro v M1 ⟨rfl, rfl⟩
  have eb := in_la l
  generalize inB l 0 9 = b at eb
  show (ev_cmp 1 (whyF a b) 0 = true → _) ∧ (ev_cmp 1 (whyF a b) 0 = false → (ev_cmp 0 (bi o) 0 = true → ∃ R, cm_Lc cm_ms 275 [.int l, .int (bi s), .int (bi t)] (cm_wi (cm_wi M 124 0 0) 124 11 0) R ∧ ∀ v M', R v M' → _) ∧ (ev_cmp 0 (bi o) 0 = false → ∃ R, cm_Lc cm_ms 275 [.int l, .int (bi t), .int (bi s)] (cm_wi (cm_wi M 124 0 0) 124 11 0) R ∧ ∀ v M', R v M' → _))
  refine ⟨fun h => ?_, fun h => ⟨fun h2 => ⟨_, m_share l s t _, ?_⟩, fun h2 => ⟨_, m_share l t s _, ?_⟩⟩⟩
  · show some (Value.int (-100)) = _
    have e := whyF_1 h
    have e2 : (laB l || !a) = true := by
      rw [eb] at e
      cases a <;> cases hl : laB l <;> rw [hl] at e <;> first | rfl | cases e
    unfold taF
    rw [e2]
    try rfl
  · rintro v M1 ⟨rfl, rfl⟩
    show some (Value.int (shF l s t)) = _
    obtain ⟨e1, e2⟩ := whyF_0 h
    have e3 : laB l = false := by
      rw [eb] at e2
      cases hl : laB l <;> rw [hl] at e2 <;> first | rfl | cases e2
    unfold taF
    rw [e1, e3, bi_0 h2]
    try rfl
  · rintro v M1 ⟨rfl, rfl⟩
    show some (Value.int (shF l t s)) = _
    obtain ⟨e1, e2⟩ := whyF_0 h
    have e3 : laB l = false := by
      rw [eb] at e2
      cases hl : laB l <;> rw [hl] at e2 <;> first | rfl | cases e2
    unfold taF
    rw [e1, e3, bi_1 h2]
    try rfl
/-! rests -/
def gtB (x y : Int32) : Bool := decide (y.toInt < x.toInt)
def isR (l : Int32) (s t : Bool) : Bool := !gtB (shF l (!s) t) (shF l s t) && !gtB (shF l (!t) s) (shF l t s)
theorem gt_lt {x y : Int32} (h : ev_cmp 2 x y = true) : gtB y x = true := decide_eq_true (fn_lt h)
theorem gt_nlt {x y : Int32} (h : ev_cmp 2 x y = false) : gtB y x = false := decide_eq_false (by have := fn_nlt h; omega)
theorem gt_gt {x y : Int32} (h : ev_cmp 4 x y = true) : gtB x y = true := decide_eq_true (fn_gt h)
theorem gt_ngt {x y : Int32} (h : ev_cmp 4 x y = false) : gtB x y = false := decide_eq_false (by have := fn_ngt h; omega)
def ir_L (l p : Int32) (s t : Bool) : List (Nat × Value) := [(0, .int l), (1, .int p), (2, .int (bi s)), (3, .int (bi t))]
def ir_J (l p : Int32) (s t : Bool) (M : cm_M) (S : cm_S) : Prop := S = (24, ir_L l p s t, [], M) ∨ S = (40, ir_L l p s t, [.int (bi !s), .int l, .int (shF l s t)], M) ∨ (gtB (shF l (!s) t) (shF l s t) = false ∧ S = (63, ir_L l p s t, [.int (bi !t), .int l, .int (shF l t s)], M))
/-- from the two sides known -/
theorem c_isRest2 (l p : Int32) (s t : Bool) (hs : ev_cmp 0 (p &&& 2) 0 = !s) (ht : ev_cmp 0 (p &&& 1) 0 = !t) (M : cm_M) : cm_Lc cm_ms 143 [.int l, .int p] M (fun v M' => M' = M ∧ v = some (.int (bi (isR l s t)))) := by
  refine lb_of (mi := mr_143) rfl [(24, [0, 1, 2, 3]), (40, [0, 1, 2, 3]), (63, [0, 1, 2, 3])] (ir_J l p s t M) 400 (fun S hS => ?_) 400 ?_
  · rcases hS with rfl | rfl | ⟨hg, rfl⟩
    · show ∃ R, cm_Lc cm_ms 142 [.int l, .int (bi s), .int (bi t)] M R ∧ ∀ v M', R v M' → _
      refine ⟨_, c_share l s t M, ?_⟩
      rintro v M1 ⟨rfl, rfl⟩
      show (ev_cmp 1 (bi s) 0 = true → ir_J l p s t M1 (40, ir_L l p s t, [.int 0, .int l, .int (shF l s t)], M1)) ∧ (ev_cmp 1 (bi s) 0 = false → ir_J l p s t M1 (40, ir_L l p s t, [.int 1, .int l, .int (shF l s t)], M1))
      cases s
      · exact ⟨fun h2 => absurd h2 (by decide), fun _ => Or.inr (Or.inl rfl)⟩
      · exact ⟨fun _ => Or.inr (Or.inl rfl), fun h2 => absurd h2 (by decide)⟩
    · show ∃ R, cm_Lc cm_ms 142 [.int l, .int (bi !s), .int (bi t)] M R ∧ ∀ v M', R v M' → _
      refine ⟨_, c_share l (!s) t M, ?_⟩
      rintro v M1 ⟨rfl, rfl⟩
      show (ev_cmp 2 (shF l s t) (shF l (!s) t) = true → _) ∧ (ev_cmp 2 (shF l s t) (shF l (!s) t) = false → ∃ R, cm_Lc cm_ms 142 [.int l, .int (bi t), .int (bi s)] M1 R ∧ ∀ v M', R v M' → _)
      refine ⟨fun h => ⟨rfl, ?_⟩, fun h => ⟨_, c_share l t s M1, ?_⟩⟩
      · unfold isR
        rw [gt_lt h]
        try rfl
      · rintro v M2 ⟨rfl, rfl⟩
        have hg := gt_nlt h
        show (ev_cmp 1 (bi t) 0 = true → ir_J l p s t M2 (63, ir_L l p s t, [.int 0, .int l, .int (shF l t s)], M2)) ∧ (ev_cmp 1 (bi t) 0 = false → ir_J l p s t M2 (63, ir_L l p s t, [.int 1, .int l, .int (shF l t s)], M2))
        cases t
        · exact ⟨fun h2 => absurd h2 (by decide), fun _ => Or.inr (Or.inr ⟨hg, rfl⟩)⟩
        · exact ⟨fun _ => Or.inr (Or.inr ⟨hg, rfl⟩), fun h2 => absurd h2 (by decide)⟩
    · show ∃ R, cm_Lc cm_ms 142 [.int l, .int (bi !t), .int (bi s)] M R ∧ ∀ v M', R v M' → _
      refine ⟨_, c_share l (!t) s M, ?_⟩
      rintro v M1 ⟨rfl, rfl⟩
      show (ev_cmp 2 (shF l t s) (shF l (!t) s) = true → _) ∧ (ev_cmp 2 (shF l t s) (shF l (!t) s) = false → _)
      refine ⟨fun h2 => ⟨rfl, ?_⟩, fun h2 => ⟨rfl, ?_⟩⟩
      · unfold isR
        rw [gt_lt h2, Bool.not_true, Bool.and_false]
        try rfl
      · unfold isR
        rw [hg, gt_nlt h2]
        try rfl
  · have e0 : ∀ x y : Int32, (x = bi s) → (y = bi t) → ir_J l p s t M (24, [(0, .int l), (1, .int p), (2, .int x), (3, .int y)], [], M) := fun x y hx hy => Or.inl (by rw [hx, hy]; try rfl)
    show (ev_cmp 0 (p &&& 2) 0 = true → (ev_cmp 0 (p &&& 1) 0 = true → ir_J l p s t M (24, [(0, .int l), (1, .int p), (2, .int 0), (3, .int 0)], [], M)) ∧ (ev_cmp 0 (p &&& 1) 0 = false → ir_J l p s t M (24, [(0, .int l), (1, .int p), (2, .int 0), (3, .int 1)], [], M))) ∧ (ev_cmp 0 (p &&& 2) 0 = false → (ev_cmp 0 (p &&& 1) 0 = true → ir_J l p s t M (24, [(0, .int l), (1, .int p), (2, .int 1), (3, .int 0)], [], M)) ∧ (ev_cmp 0 (p &&& 1) 0 = false → ir_J l p s t M (24, [(0, .int l), (1, .int p), (2, .int 1), (3, .int 1)], [], M)))
    rw [hs, ht]
    refine ⟨fun h => ⟨fun h2 => e0 0 0 ?_ ?_, fun h2 => e0 0 1 ?_ ?_⟩, fun h => ⟨fun h2 => e0 1 0 ?_ ?_, fun h2 => e0 1 1 ?_ ?_⟩⟩ <;> first | (rw [(by simpa using h : s = false)]; try rfl) | (rw [(by simpa using h : s = true)]; try rfl) | (rw [(by simpa using h2 : t = false)]; try rfl) | (rw [(by simpa using h2 : t = true)]; try rfl)
theorem m_isRest2 (l : Int32) (s t : Bool) (M : cm_M) : cm_Lc cm_ms 277 [.int l, .int (bi s), .int (bi t)] M (fun v M' => M' = M ∧ v = some (.int (bi (isR l s t)))) := by
  refine lb_of (mi := mr_277) rfl [(10, [0, 1, 2]), (33, [0, 1, 2])] (fun S => S = (10, [(0, .int l), (1, .int (bi s)), (2, .int (bi t))], [.int (bi !s), .int l], M) ∨ (gtB (shF l (!s) t) (shF l s t) = false ∧ S = (33, [(0, .int l), (1, .int (bi s)), (2, .int (bi t))], [.int (bi !t), .int l], M))) 400 (fun S hS => ?_) 400 ?_
  · rcases hS with rfl | ⟨hg, rfl⟩
    · show ∃ R, cm_Lc cm_ms 275 [.int l, .int (bi !s), .int (bi t)] M R ∧ ∀ v M', R v M' → _
      refine ⟨_, m_share l (!s) t M, ?_⟩
      rintro v M1 ⟨rfl, rfl⟩
      show ∃ R, cm_Lc cm_ms 275 [.int l, .int (bi s), .int (bi t)] M1 R ∧ ∀ v M', R v M' → _
      refine ⟨_, m_share l s t M1, ?_⟩
      rintro v M2 ⟨rfl, rfl⟩
      show (ev_cmp 4 (shF l (!s) t) (shF l s t) = true → _) ∧ (ev_cmp 4 (shF l (!s) t) (shF l s t) = false → (ev_cmp 1 (bi t) 0 = true → (_ ∨ (_ ∧ ((33, [(0, Value.int l), (1, Value.int (bi s)), (2, Value.int (bi t))], [Value.int 0, Value.int l], M2) : cm_S) = _))) ∧ (ev_cmp 1 (bi t) 0 = false → (_ ∨ (_ ∧ ((33, [(0, Value.int l), (1, Value.int (bi s)), (2, Value.int (bi t))], [Value.int 1, Value.int l], M2) : cm_S) = _))))
      refine ⟨fun h => ⟨rfl, ?_⟩, fun h => ?_⟩
      · unfold isR
        rw [gt_gt h]
        try rfl
      · have hg := gt_ngt h
        cases t
        · exact ⟨fun h2 => absurd h2 (by decide), fun _ => Or.inr ⟨hg, rfl⟩⟩
        · exact ⟨fun _ => Or.inr ⟨hg, rfl⟩, fun h2 => absurd h2 (by decide)⟩
    · show ∃ R, cm_Lc cm_ms 275 [.int l, .int (bi !t), .int (bi s)] M R ∧ ∀ v M', R v M' → _
      refine ⟨_, m_share l (!t) s M, ?_⟩
      rintro v M1 ⟨rfl, rfl⟩
      show ∃ R, cm_Lc cm_ms 275 [.int l, .int (bi t), .int (bi s)] M1 R ∧ ∀ v M', R v M' → _
      refine ⟨_, m_share l t s M1, ?_⟩
      rintro v M2 ⟨rfl, rfl⟩
      show (ev_cmp 4 (shF l (!t) s) (shF l t s) = true → _) ∧ (ev_cmp 4 (shF l (!t) s) (shF l t s) = false → _)
      refine ⟨fun h => ⟨rfl, ?_⟩, fun h => ⟨rfl, ?_⟩⟩
      · unfold isR
        rw [gt_gt h, Bool.not_true, Bool.and_false]
        try rfl
      · unfold isR
        rw [hg, gt_ngt h]
        try rfl
  · show (ev_cmp 1 (bi s) 0 = true → (((10, [(0, Value.int l), (1, Value.int (bi s)), (2, Value.int (bi t))], [Value.int 0, Value.int l], M) : cm_S) = _ ∨ _)) ∧ (ev_cmp 1 (bi s) 0 = false → (((10, [(0, Value.int l), (1, Value.int (bi s)), (2, Value.int (bi t))], [Value.int 1, Value.int l], M) : cm_S) = _ ∨ _))
    cases s
    · exact ⟨fun h2 => absurd h2 (by decide), fun _ => Or.inl rfl⟩
    · exact ⟨fun _ => Or.inl rfl, fun h2 => absurd h2 (by decide)⟩
/-- of the pairs by numbers: how many rests, the first -/
def pS (p : Nat) : Bool := decide (2 ≤ p)
def pT (p : Nat) : Bool := p % 2 == 1
def rsN (l : Int32) : Nat → Nat
  | 0 => 0
  | p + 1 => rsN l p + if isR l (pS p) (pT p) = true then 1 else 0
theorem rsN_le (l : Int32) : ∀ p, rsN l p ≤ p
  | 0 => Nat.le_refl _
  | p + 1 => by
    have := rsN_le l p
    unfold rsN
    split <;> omega
theorem c_isRest (l : Int32) {p : Nat} (hp4 : p < 4) (M : cm_M) : cm_Lc cm_ms 143 [.int l, .int (Int32.ofNat p)] M (fun v M' => M' = M ∧ v = some (.int (bi (isR l (pS p) (pT p))))) := by
  rcases (by omega : p = 0 ∨ p = 1 ∨ p = 2 ∨ p = 3) with rfl | rfl | rfl | rfl
  · exact c_isRest2 l _ false false (by decide) (by decide) M
  · exact c_isRest2 l _ false true (by decide) (by decide) M
  · exact c_isRest2 l _ true false (by decide) (by decide) M
  · exact c_isRest2 l _ true true (by decide) (by decide) M
theorem ofn_s1 (p : Nat) : Int32.ofNat p + 1 = Int32.ofNat (p + 1) := fn_succ p
def reF (l : Int32) (z : Bool) : Int32 := if (laB l || z) = true then -1 else Int32.ofNat (rsN l 4)
set_option maxRecDepth 100000 in
theorem c_rests {M : cm_M} {T' : Nat} (hT : 6 ≤ T') (h3 : M.2.2 0 3 = some T') (l : Int32) : cm_Lc cm_ms 139 [.ref 0, .int l] M (fun v _ => v = some (.int (reF l (decide (M.1 T' 3 = 0))))) := by
  refine lb_of (mi := mr_139) rfl [(14, [0, 1, 2, 3])] (fun S => (laB l || decide (M.1 T' 3 = 0)) = false ∧ ∃ p M1, p ≤ 4 ∧ S = (14, [(0, .ref 0), (1, .int l), (2, .int (Int32.ofNat (rsN l p))), (3, .int (Int32.ofNat p))], [], M1)) 400 (fun S hS => ?_) 400 ?_
  · obtain ⟨hz, p, M1, hp4, rfl⟩ := hS
    have hle := rsN_le l p
    have e4 : (4 : Int32).toInt = 4 := by decide
    show (ev_cmp 3 (Int32.ofNat p) 4 = true → ∃ R, cm_Lc cm_ms 159 [.ref 0, .int (Int32.ofNat (rsN l p))] M1 R ∧ ∀ v M', R v M' → _) ∧ (ev_cmp 3 (Int32.ofNat p) 4 = false → ∃ R, cm_Lc cm_ms 143 [.int l, .int (Int32.ofNat p)] M1 R ∧ ∀ v M', R v M' → _)
    refine ⟨fun h => ⟨_, c_granted _ M1, ?_⟩, fun h => ?_⟩
    · have g := fn_ge h
      rw [e4, fn_toInt (by omega)] at g
      have : p = 4 := by omega
      subst this
      rintro v M2 ⟨-, rfl⟩
      show some (Value.int (Int32.ofNat (rsN l 4))) = _
      unfold reF
      rw [hz]
      try rfl
    · have g := fn_nge h
      rw [e4, fn_toInt (by omega)] at g
      refine ⟨_, c_isRest l (by omega) M1, ?_⟩
      rintro v M2 ⟨rfl, rfl⟩
      have es : rsN l (p + 1) = rsN l p + if isR l (pS p) (pT p) = true then 1 else 0 := rfl
      show (ev_cmp 0 (bi (isR l (pS p) (pT p))) 0 = true → (_ ∧ ∃ p' M1, p' ≤ 4 ∧ (14, [(0, Value.ref 0), (1, .int l), (2, .int (Int32.ofNat (rsN l p))), (3, .int (Int32.ofNat p + 1))], [], M2) = _)) ∧ (ev_cmp 0 (bi (isR l (pS p) (pT p))) 0 = false → (_ ∧ ∃ p' M1, p' ≤ 4 ∧ (14, [(0, Value.ref 0), (1, .int l), (2, .int (Int32.ofNat (rsN l p) + 1)), (3, .int (Int32.ofNat p + 1))], [], M2) = _))
      refine ⟨fun h2 => ⟨hz, p + 1, M2, by omega, ?_⟩, fun h2 => ⟨hz, p + 1, M2, by omega, ?_⟩⟩
      · rw [es, if_neg (by rw [bi_0 h2]; decide), ofn_s1, Nat.add_zero (rsN l p)]
      · rw [es, if_pos (bi_1 h2), ofn_s1, ofn_s1]
  · show ∃ R, cm_Lc cm_ms 141 [.ref 0, .int l] M R ∧ ∀ v M', R v M' → _
    refine ⟨_, c_lather hT h3 l, ?_⟩
    rintro v M1 ⟨rfl, -⟩
    show (ev_cmp 0 (bi (laB l || decide (M.1 T' 3 = 0))) 0 = true → (_ ∧ ∃ p' M1', p' ≤ 4 ∧ (14, [(0, Value.ref 0), (1, .int l), (2, .int (Int32.ofNat 0)), (3, .int (Int32.ofNat 0))], [], M1) = _)) ∧ (ev_cmp 0 (bi (laB l || decide (M.1 T' 3 = 0))) 0 = false → _)
    refine ⟨fun h => ⟨bi_0 h, 0, M1, by omega, rfl⟩, fun h => ?_⟩
    show some (Value.int (-1)) = _
    unfold reF
    rw [bi_1 h]
    try rfl
def rsV (p : Nat) : Int32 := Int32.ofNat (p / 2 * 10 + p % 2)
def rsF (l : Int32) : Nat → Int32
  | 0 => -2
  | p + 1 => if rsN l p = 0 then (if isR l (pS p) (pT p) = true then rsV p else -2) else rsF l p
theorem rsF_0 (l : Int32) : ∀ p, rsN l p = 0 → rsF l p = -2
  | 0, _ => rfl
  | p + 1, h => by
    unfold rsN at h
    have h1 : rsN l p = 0 := by omega
    have h2 : ¬ isR l (pS p) (pT p) = true := fun q => by
      rw [if_pos q] at h
      omega
    unfold rsF
    rw [if_pos h1, if_neg h2]
theorem rsF_s (l : Int32) (p : Nat) (h : rsN l p ≠ 0) : ∀ d, rsF l (p + d) = rsF l p ∧ rsN l (p + d) ≠ 0
  | 0 => ⟨rfl, h⟩
  | d + 1 => by
    obtain ⟨a, b⟩ := rsF_s l p h d
    refine ⟨?_, ?_⟩
    · show (if rsN l (p + d) = 0 then _ else rsF l (p + d)) = _
      rw [if_neg b, a]
    · show rsN l (p + d) + _ ≠ 0
      omega
theorem rsF_e (l : Int32) {p : Nat} (h : rsN l p ≠ 0) (hp4 : p ≤ 4) : rsF l 4 = rsF l p := by
  have := (rsF_s l p h (4 - p)).1
  rwa [Nat.add_sub_of_le hp4] at this
theorem rsV_c {p : Nat} (hp4 : p < 4) : (Int32.ofNat p >>> ((1 : Int32) &&& 31)) * 10 + (Int32.ofNat p &&& 1) = rsV p := by
  rcases (by omega : p = 0 ∨ p = 1 ∨ p = 2 ∨ p = 3) with rfl | rfl | rfl | rfl <;> decide
theorem rsV_m {p : Nat} (hp4 : p < 4) : 10 * (Int32.ofNat p / 2) + (Int32.ofNat p - Int32.ofNat p / 2 * 2) = rsV p := by
  rcases (by omega : p = 0 ∨ p = 1 ∨ p = 2 ∨ p = 3) with rfl | rfl | rfl | rfl <;> decide
def rtF (l : Int32) (z : Bool) : Int32 := if (laB l || z) = true then -1 else rsF l 4
set_option maxRecDepth 100000 in
theorem c_rest {M : cm_M} {T' : Nat} (hT : 6 ≤ T') (h3 : M.2.2 0 3 = some T') (l : Int32) : cm_Lc cm_ms 140 [.ref 0, .int l] M (fun v _ => v = some (.int (rtF l (decide (M.1 T' 3 = 0))))) := by
  refine lb_of (mi := mr_140) rfl [(12, [0, 1, 2])] (fun S => (laB l || decide (M.1 T' 3 = 0)) = false ∧ ∃ p M1, p ≤ 4 ∧ rsN l p = 0 ∧ S = (12, [(0, .ref 0), (1, .int l), (2, .int (Int32.ofNat p))], [], M1)) 400 (fun S hS => ?_) 400 ?_
  · obtain ⟨hz, p, M1, hp4, h0, rfl⟩ := hS
    have e4 : (4 : Int32).toInt = 4 := by decide
    show (ev_cmp 3 (Int32.ofNat p) 4 = true → ∃ R, cm_Lc cm_ms 159 [.ref 0, .int (-2)] M1 R ∧ ∀ v M', R v M' → _) ∧ (ev_cmp 3 (Int32.ofNat p) 4 = false → ∃ R, cm_Lc cm_ms 143 [.int l, .int (Int32.ofNat p)] M1 R ∧ ∀ v M', R v M' → _)
    refine ⟨fun h => ⟨_, c_granted _ M1, ?_⟩, fun h => ?_⟩
    · have g := fn_ge h
      rw [e4, fn_toInt (by omega)] at g
      have : p = 4 := by omega
      subst this
      rintro v M2 ⟨-, rfl⟩
      show some (Value.int (-2)) = _
      unfold rtF
      rw [hz, rsF_0 l 4 h0]
      try rfl
    · have g := fn_nge h
      rw [e4, fn_toInt (by omega)] at g
      refine ⟨_, c_isRest l (by omega) M1, ?_⟩
      rintro v M2 ⟨rfl, rfl⟩
      have es : rsN l (p + 1) = rsN l p + if isR l (pS p) (pT p) = true then 1 else 0 := rfl
      show (ev_cmp 0 (bi (isR l (pS p) (pT p))) 0 = true → (_ ∧ ∃ p' M1, p' ≤ 4 ∧ _ ∧ (12, [(0, Value.ref 0), (1, .int l), (2, .int (Int32.ofNat p + 1))], [], M2) = _)) ∧ (ev_cmp 0 (bi (isR l (pS p) (pT p))) 0 = false → ∃ R, cm_Lc cm_ms 159 [.ref 0, .int ((Int32.ofNat p >>> ((1 : Int32) &&& 31)) * 10 + (Int32.ofNat p &&& 1))] M2 R ∧ ∀ v M', R v M' → _)
      refine ⟨fun h2 => ⟨hz, p + 1, M2, by omega, ?_, ?_⟩, fun h2 => ⟨_, c_granted _ M2, ?_⟩⟩
      · rw [es, h0, if_neg (by rw [bi_0 h2]; decide)]
      · rw [ofn_s1]
      · rintro v M3 ⟨-, rfl⟩
        show some (Value.int ((Int32.ofNat p >>> ((1 : Int32) &&& 31)) * 10 + (Int32.ofNat p &&& 1))) = _
        have e1 : rsN l (p + 1) ≠ 0 := by rw [es, if_pos (bi_1 h2)]; omega
        have e2 : rsF l (p + 1) = rsV p := by
          unfold rsF
          rw [if_pos h0, if_pos (bi_1 h2)]
        unfold rtF
        rw [hz, rsV_c (by omega), rsF_e l e1 (by omega), e2]
        try rfl
  · show ∃ R, cm_Lc cm_ms 141 [.ref 0, .int l] M R ∧ ∀ v M', R v M' → _
    refine ⟨_, c_lather hT h3 l, ?_⟩
    rintro v M1 ⟨rfl, -⟩
    show (ev_cmp 0 (bi (laB l || decide (M.1 T' 3 = 0))) 0 = true → (_ ∧ ∃ p' M1', p' ≤ 4 ∧ _ ∧ (12, [(0, Value.ref 0), (1, .int l), (2, .int (Int32.ofNat 0))], [], M1) = _)) ∧ (ev_cmp 0 (bi (laB l || decide (M.1 T' 3 = 0))) 0 = false → _)
    refine ⟨fun h => ⟨bi_0 h, 0, M1, by omega, rfl, rfl⟩, fun h => ?_⟩
    show some (Value.int (-1)) = _
    unfold rtF
    rw [bi_1 h]
    try rfl
/-- the reference's search of all four -/
def sk_L (l : Int32) (p : Nat) : List (Nat × Value) := [(0, .ref 124), (1, .int l), (2, .int (Int32.ofNat (rsN l p))), (3, .int (Int32.ofNat p))]
def sk_J (l : Int32) (S : cm_S) : Prop := ∃ p M1, M1.1 124 30 = rsF l p ∧ ((p ≤ 4 ∧ S = (10, sk_L l p, [], M1)) ∨ (p < 4 ∧ S = (38, sk_L l p, [.int (bi (pT p)), .int (bi (pS p)), .int l], M1)))
set_option maxRecDepth 100000 in
theorem m_seekRests (l : Int32) (M : cm_M) : cm_Lc cm_ms 278 [.ref 124, .int l] M (fun v M' => v = some (.int (Int32.ofNat (rsN l 4))) ∧ M'.1 124 30 = rsF l 4) := by
  refine lb_of (mi := mr_278) rfl [(10, [0, 1, 2, 3]), (38, [0, 1, 2, 3])] (sk_J l) 400 (fun S hS => ?_) 400 ?_
  · obtain ⟨p, M1, hf, ⟨hp4, rfl⟩ | ⟨hp4, rfl⟩⟩ := hS
    · have e4 : (4 : Int32).toInt = 4 := by decide
      show (ev_cmp 3 (Int32.ofNat p) 4 = true → _) ∧ (ev_cmp 3 (Int32.ofNat p) 4 = false → (ev_cmp 5 (Int32.ofNat p) 1 = true → (ev_cmp 1 (Int32.ofNat p - Int32.ofNat p / 2 * 2) 1 = true → sk_J l (38, sk_L l p, [.int 0, .int 0, .int l], M1)) ∧ (ev_cmp 1 (Int32.ofNat p - Int32.ofNat p / 2 * 2) 1 = false → sk_J l (38, sk_L l p, [.int 1, .int 0, .int l], M1))) ∧ (ev_cmp 5 (Int32.ofNat p) 1 = false → (ev_cmp 1 (Int32.ofNat p - Int32.ofNat p / 2 * 2) 1 = true → sk_J l (38, sk_L l p, [.int 0, .int 1, .int l], M1)) ∧ (ev_cmp 1 (Int32.ofNat p - Int32.ofNat p / 2 * 2) 1 = false → sk_J l (38, sk_L l p, [.int 1, .int 1, .int l], M1))))
      refine ⟨fun h => ?_, fun h => ?_⟩
      · have g := fn_ge h
        rw [e4, fn_toInt (by omega)] at g
        have : p = 4 := by omega
        subst this
        exact ⟨rfl, hf⟩
      · have g := fn_nge h
        rw [e4, fn_toInt (by omega)] at g
        rcases (by omega : p = 0 ∨ p = 1 ∨ p = 2 ∨ p = 3) with rfl | rfl | rfl | rfl
        · exact ⟨fun _ => ⟨fun _ => ⟨0, M1, hf, Or.inr ⟨by omega, rfl⟩⟩, fun q => absurd q (by decide)⟩, fun q => absurd q (by decide)⟩
        · exact ⟨fun _ => ⟨fun q => absurd q (by decide), fun _ => ⟨1, M1, hf, Or.inr ⟨by omega, rfl⟩⟩⟩, fun q => absurd q (by decide)⟩
        · exact ⟨fun q => absurd q (by decide), fun _ => ⟨fun _ => ⟨2, M1, hf, Or.inr ⟨by omega, rfl⟩⟩, fun q => absurd q (by decide)⟩⟩
        · exact ⟨fun q => absurd q (by decide), fun _ => ⟨fun q => absurd q (by decide), fun _ => ⟨3, M1, hf, Or.inr ⟨by omega, rfl⟩⟩⟩⟩
    · have hle := rsN_le l p
      have es : rsN l (p + 1) = rsN l p + if isR l (pS p) (pT p) = true then 1 else 0 := rfl
      have ef : rsF l (p + 1) = if rsN l p = 0 then (if isR l (pS p) (pT p) = true then rsV p else -2) else rsF l p := rfl
      show ∃ R, cm_Lc cm_ms 277 [.int l, .int (bi (pS p)), .int (bi (pT p))] M1 R ∧ ∀ v M', R v M' → _
      refine ⟨_, m_isRest2 l _ _ M1, ?_⟩
      rintro v M2 ⟨rfl, rfl⟩
      show (ev_cmp 1 (bi (isR l (pS p) (pT p))) 0 = true → (ev_cmp 1 (Int32.ofNat (rsN l p)) 0 = true → sk_J l (10, [(0, .ref 124), (1, .int l), (2, .int (Int32.ofNat (rsN l p) + 1)), (3, .int (Int32.ofNat p + 1))], [], M2)) ∧ (ev_cmp 1 (Int32.ofNat (rsN l p)) 0 = false → sk_J l (10, [(0, .ref 124), (1, .int l), (2, .int (Int32.ofNat (rsN l p) + 1)), (3, .int (Int32.ofNat p + 1))], [], cm_wi M2 124 30 (10 * (Int32.ofNat p / 2) + (Int32.ofNat p - Int32.ofNat p / 2 * 2))))) ∧ (ev_cmp 1 (bi (isR l (pS p) (pT p))) 0 = false → sk_J l (10, [(0, .ref 124), (1, .int l), (2, .int (Int32.ofNat (rsN l p))), (3, .int (Int32.ofNat p + 1))], [], M2))
      refine ⟨fun h => ?_, fun h => ?_⟩
      · have hi : isR l (pS p) (pT p) = true := by
          cases q : isR l (pS p) (pT p) with
          | true => rfl
          | false =>
            rw [q] at h
            exact absurd h (by decide)
        rw [if_pos hi] at es ef
        refine ⟨fun h2 => ⟨p + 1, M2, ?_, Or.inl ⟨by omega, ?_⟩⟩, fun h2 => ⟨p + 1, cm_wi M2 124 30 (10 * (Int32.ofNat p / 2) + (Int32.ofNat p - Int32.ofNat p / 2 * 2)), ?_, Or.inl ⟨by omega, ?_⟩⟩⟩
        · have hn : rsN l p ≠ 0 := fun q => fn_ne h2 (by rw [q]; try rfl)
          rw [ef, if_neg hn, hf]
        · unfold sk_L
          rw [es, ofn_s1, ofn_s1]
        · have hn : rsN l p = 0 := by
            have q := congrArg Int32.toInt (fn_eq h2)
            rw [fn_toInt (by omega)] at q
            have z : (0 : Int32).toInt = 0 := by decide
            omega
          rw [ef, if_pos hn, ← rsV_m hp4]
          try rfl
        · unfold sk_L
          rw [es, ofn_s1, ofn_s1]
      · have hi : ¬ isR l (pS p) (pT p) = true := fun q => by
          rw [q] at h
          exact absurd h (by decide)
        rw [if_neg hi] at es ef
        refine ⟨p + 1, M2, ?_, Or.inl ⟨by omega, ?_⟩⟩
        · rw [ef, hf]
          by_cases hn : rsN l p = 0
          · rw [if_pos hn, rsF_0 l p hn]
          · rw [if_neg hn]
        · unfold sk_L
          rw [es, ofn_s1]
          try rfl
  · show sk_J l (10, [(0, .ref 124), (1, .int l), (2, .int (Int32.ofNat 0)), (3, .int (Int32.ofNat 0))], [], cm_wi M 124 30 (-2))
    exact ⟨0, _, rfl, Or.inl ⟨by omega, rfl⟩⟩
theorem m_rests {M : cm_M} {a : Bool} (ha : M.1 124 14 = bi a) (l : Int32) : cm_Lc cm_ms 279 [.ref 124, .int l] M (fun v _ => v = some (.int (reF l (!a)))) := by
  refine lb_st0 (mi := mr_279) rfl 400 ?_
  show ∃ R, cm_Lc cm_ms 164 [.ref 124] M R ∧ ∀ v M', R v M' → _
  refine ⟨_, m_good2 M, ?_⟩
  rintro v M1 ⟨rfl, rfl⟩
  show ∃ R, cm_Lc cm_ms 167 [.int l, .int 0, .int 9] (cm_wi (cm_wi M 124 0 0) 124 11 0) R ∧ ∀ v M', R v M' → _
  refine ⟨_, m_in2 l 0 9 _, ?_⟩
  rintro v M1 ⟨rfl, rfl⟩
  show ∃ R, cm_Lc cm_ms 233 [.ref 124, .int (M.1 124 14), .int (bi (inB l 0 9))] (cm_wi (cm_wi M 124 0 0) 124 11 0) R ∧ ∀ v M', R v M' → _
  have ew := m_why a (inB l 0 9) (cm_wi (cm_wi M 124 0 0) 124 11 0)
  rw [← ha] at ew
  refine ⟨_, ew, ?_⟩
  rintro v M1 ⟨rfl, rfl⟩
  have eb := in_la l
  generalize inB l 0 9 = b at eb
  show (ev_cmp 0 (whyF a b) 0 = true → ∃ R, cm_Lc cm_ms 278 [.ref 124, .int l] (cm_wi (cm_wi M 124 0 0) 124 11 0) R ∧ ∀ v M', R v M' → _) ∧ (ev_cmp 0 (whyF a b) 0 = false → ∃ R, cm_Lc cm_ms 165 [.ref 124, .int (whyF a b)] (cm_wi (cm_wi M 124 0 0) 124 11 0) R ∧ ∀ v M', R v M' → _)
  refine ⟨fun h => ⟨_, m_seekRests l _, ?_⟩, fun h => ⟨_, m_no2 _ _, ?_⟩⟩
  · rintro v M1 ⟨rfl, -⟩
    show some (Value.int (Int32.ofNat (rsN l 4))) = _
    have e2 : (laB l || !a) = false := by
      subst eb
      cases a <;> cases hl : laB l <;> rw [hl] at h <;> first | rfl | exact absurd h (by decide)
    unfold reF
    rw [e2]
    try rfl
  · rintro v M1 ⟨rfl, -⟩
    show some (Value.int (-1)) = _
    have e2 : (laB l || !a) = true := by
      subst eb
      cases a <;> cases hl : laB l <;> rw [hl] at h <;> first | rfl | exact absurd h (by decide)
    unfold reF
    rw [e2]
    try rfl
theorem m_rest {M : cm_M} {a : Bool} (ha : M.1 124 14 = bi a) (l : Int32) : cm_Lc cm_ms 280 [.ref 124, .int l] M (fun v _ => v = some (.int (rtF l (!a)))) := by
  refine lb_st0 (mi := mr_280) rfl 400 ?_
  show ∃ R, cm_Lc cm_ms 164 [.ref 124] M R ∧ ∀ v M', R v M' → _
  refine ⟨_, m_good2 M, ?_⟩
  rintro v M1 ⟨rfl, rfl⟩
  show ∃ R, cm_Lc cm_ms 167 [.int l, .int 0, .int 9] (cm_wi (cm_wi M 124 0 0) 124 11 0) R ∧ ∀ v M', R v M' → _
  refine ⟨_, m_in2 l 0 9 _, ?_⟩
  rintro v M1 ⟨rfl, rfl⟩
  show ∃ R, cm_Lc cm_ms 233 [.ref 124, .int (M.1 124 14), .int (bi (inB l 0 9))] (cm_wi (cm_wi M 124 0 0) 124 11 0) R ∧ ∀ v M', R v M' → _
  have ew := m_why a (inB l 0 9) (cm_wi (cm_wi M 124 0 0) 124 11 0)
  rw [← ha] at ew
  refine ⟨_, ew, ?_⟩
  rintro v M1 ⟨rfl, rfl⟩
  have eb := in_la l
  generalize inB l 0 9 = b at eb
  show (ev_cmp 0 (whyF a b) 0 = true → ∃ R, cm_Lc cm_ms 278 [.ref 124, .int l] (cm_wi (cm_wi M 124 0 0) 124 11 0) R ∧ ∀ v M', R v M' → _) ∧ (ev_cmp 0 (whyF a b) 0 = false → ∃ R, cm_Lc cm_ms 165 [.ref 124, .int (whyF a b)] (cm_wi (cm_wi M 124 0 0) 124 11 0) R ∧ ∀ v M', R v M' → _)
  refine ⟨fun h => ⟨_, m_seekRests l _, ?_⟩, fun h => ⟨_, m_no2 _ _, ?_⟩⟩
  · rintro v M1 ⟨rfl, q⟩
    show some (Value.int (M1.1 124 30)) = _
    have e2 : (laB l || !a) = false := by
      subst eb
      cases a <;> cases hl : laB l <;> rw [hl] at h <;> first | rfl | exact absurd h (by decide)
    unfold rtF
    rw [e2, q]
    try rfl
  · rintro v M1 ⟨rfl, -⟩
    show some (Value.int (-1)) = _
    have e2 : (laB l || !a) = true := by
      subst eb
      cases a <;> cases hl : laB l <;> rw [hl] at h <;> first | rfl | exact absurd h (by decide)
    unfold rtF
    rw [e2]
    try rfl
