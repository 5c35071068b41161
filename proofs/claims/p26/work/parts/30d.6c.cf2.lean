theorem cs_fail (x : Int32) (M : cm_M) : cm_Lc cm_ms 66 [.ref 2, .int x] M (fun v M' => v = none ∧ M' = cF_fail x M) := by
  refine lb_st0 (mi := mr_66) rfl 20 ?_
  show (ev_cmp 1 (M.1 2 9) 0 = true → _) ∧ (ev_cmp 1 (M.1 2 9) 0 = false → _)
  refine ⟨fun h => ⟨rfl, ?_⟩, fun h => ⟨rfl, ?_⟩⟩
  · unfold cF_fail
    rw [if_neg (fn_ne h)]
    try rfl
  · unfold cF_fail
    rw [if_pos (fn_eq h)]
    try rfl
/-- the number of a text constant -/
noncomputable def sn (t : Nat) : Int64 := match ev_strs[t]? with
  | some r => sw r.2.2.2 r.2.2.2.length
  | none => 0
/-- the token is this word -/
noncomputable def wt (t : Nat) (M : cm_M) : Bool := decide (M.1 2 3 = 1) && decide (M.2.1 2 6 = sn t)
set_option maxRecDepth 1000000 in
theorem strs_len : ∀ r ∈ ev_strs, r.2.2.2.length < 1000 := by decide +kernel
set_option maxRecDepth 1000000 in
theorem strs_40 : ev_strs.length = 40 := by decide +kernel
theorem strs_at {t : Nat} (ht : t < 40) : ∃ r, ev_strs[(1001 + 2 * t + 1 - 1001) / 2]? = some r ∧ r.2.2.2.length < 1000 ∧ sn t = sw r.2.2.2 r.2.2.2.length := by
  have hl : t < ev_strs.length := by rw [strs_40]; exact ht
  have e : (1001 + 2 * t + 1 - 1001) / 2 = t := by omega
  have h1 := List.getElem?_eq_getElem hl
  refine ⟨ev_strs[t], by rw [e]; exact h1, strs_len _ (List.mem_of_getElem? h1), ?_⟩
  unfold sn
  rw [h1]
theorem cs_isWord {t : Nat} (ht : t < 40) (M : cm_M) : cm_Lc cm_ms 86 [.ref 2, .ref (1001 + 2 * t)] M (fun v M' => M' = M ∧ v = some (.int (bi (wt t M)))) := by
  obtain ⟨r, h1, h2, h3⟩ := strs_at ht
  refine cm_Lc_im (fn_isWord h1 h2 M) (fun v M' q => ⟨q.1, ?_⟩)
  unfold wt
  rw [h3]
  exact q.2
/-- a word that is due -/
noncomputable def cF_due (t : Nat) (M : cm_M) : cm_M := if wt t M = true then M else cF_fail 1 M
theorem bi_n1 {b : Bool} (h : ev_cmp 1 (bi b) 0 = true) : b = true := by
  cases b with
  | true => rfl
  | false => exact absurd h (by decide)
theorem bi_n0 {b : Bool} (h : ev_cmp 1 (bi b) 0 = false) : b = false := by
  cases b with
  | false => rfl
  | true => exact absurd h (by decide)
theorem cs_takeWord {N t : Nat} (ht : t < 40) {M : cm_M} (h : rs_ok N M) : cm_Lc cm_ms 78 [.ref 2, .ref (1001 + 2 * t)] M (fun v M' => v = none ∧ M' = cF_step N (cF_due t M)) := by
  refine lb_st0 (mi := mr_78) rfl 20 ?_
  show ∃ R, cm_Lc cm_ms 86 [.ref 2, .ref (1001 + 2 * t)] M R ∧ ∀ v M', R v M' → _
  refine ⟨_, cs_isWord ht M, ?_⟩
  rintro v M' ⟨rfl, rfl⟩
  show (ev_cmp 1 (bi (wt t M')) 0 = true → ∃ R, cm_Lc cm_ms 88 [.ref 2] M' R ∧ ∀ v M', R v M' → _) ∧ (ev_cmp 1 (bi (wt t M')) 0 = false → ∃ R, cm_Lc cm_ms 66 [.ref 2, .int 1] M' R ∧ ∀ v M', R v M' → _)
  refine ⟨fun h1 => ⟨_, cs_step h, ?_⟩, fun h1 => ⟨_, cs_fail 1 M', ?_⟩⟩
  · rintro v M2 ⟨rfl, rfl⟩
    refine ⟨rfl, ?_⟩
    show cF_step N M' = _
    unfold cF_due
    rw [if_pos (bi_n1 h1)]
  · rintro v M2 ⟨rfl, rfl⟩
    show ∃ R, cm_Lc cm_ms 88 [.ref 2] (cF_fail 1 M') R ∧ ∀ v M', R v M' → _
    refine ⟨_, cs_step (rs_fail 1 h), ?_⟩
    rintro v M3 ⟨rfl, rfl⟩
    refine ⟨rfl, ?_⟩
    show cF_step N (cF_fail 1 M') = _
    unfold cF_due
    rw [if_neg (by rw [bi_n0 h1]; decide)]
/-- a whole number within bounds -/
noncomputable def cF_whole (lo hi : Int32) (M : cm_M) : cm_M := if M.1 2 3 = 2 then (if M.1 2 5 < lo ∨ hi < M.1 2 5 then cF_fail 4 M else M) else cF_fail 1 M
theorem cF_fail_5 (x : Int32) (M : cm_M) : (cF_fail x M).1 2 5 = M.1 2 5 := by
  unfold cF_fail
  split
  · rfl
  · rfl
noncomputable abbrev cw_R (N : Nat) (lo hi : Int32) (M : cm_M) : cm_K := fun v M' => v = some (.int (M.1 2 5)) ∧ M' = cF_step N (cF_whole lo hi M)
set_option maxRecDepth 100000 in
theorem cs_takeWhole {N : Nat} (lo hi : Int32) {M : cm_M} (h : rs_ok N M) : cm_Lc cm_ms 79 [.ref 2, .int lo, .int hi] M (cw_R N lo hi M) := by
  refine lb_st0 (mi := mr_79) rfl 40 ?_
  have go : ∀ X : cm_M, X.1 2 5 = M.1 2 5 → X = cF_whole lo hi M → rs_ok N X → cm_Lc cm_ms 88 [.ref 2] X (fun v M' => v = none ∧ M' = cF_step N (cF_whole lo hi M)) := fun X h1 h2 h3 => by rw [← h2]; exact cs_step h3
  show (ev_cmp 0 (M.1 2 3) 2 = true → (ev_cmp 2 (M.1 2 5) lo = true → ∃ R, cm_Lc cm_ms 66 [.ref 2, .int 4] M R ∧ ∀ v M', R v M' → _) ∧ (ev_cmp 2 (M.1 2 5) lo = false → (ev_cmp 5 (M.1 2 5) hi = true → ∃ R, cm_Lc cm_ms 88 [.ref 2] M R ∧ ∀ v M', R v M' → _) ∧ (ev_cmp 5 (M.1 2 5) hi = false → ∃ R, cm_Lc cm_ms 66 [.ref 2, .int 4] M R ∧ ∀ v M', R v M' → _))) ∧ (ev_cmp 0 (M.1 2 3) 2 = false → ∃ R, cm_Lc cm_ms 66 [.ref 2, .int 1] M R ∧ ∀ v M', R v M' → _)
  have four : (M.1 2 3 = 2) → (M.1 2 5 < lo ∨ hi < M.1 2 5) → cF_fail 4 M = cF_whole lo hi M := fun a b => by unfold cF_whole; rw [if_pos a, if_pos b]
  refine ⟨fun h1 => ⟨fun h2 => ⟨_, cs_fail 4 M, ?_⟩, fun h2 => ⟨fun h3 => ⟨_, go M rfl ?_ h, ?_⟩, fun h3 => ⟨_, cs_fail 4 M, ?_⟩⟩⟩, fun h1 => ⟨_, cs_fail 1 M, ?_⟩⟩
  · rintro v M' ⟨rfl, rfl⟩
    show ∃ R, cm_Lc cm_ms 88 [.ref 2] (cF_fail 4 M) R ∧ ∀ v M', R v M' → _
    refine ⟨_, go (cF_fail 4 M) (cF_fail_5 4 M) (four (fn_eq0 h1) (Or.inl (of_decide_eq_true h2))) (rs_fail 4 h), ?_⟩
    have e5 := cF_fail_5 4 M
    rintro v2 M2 ⟨rfl, rfl⟩
    show cw_R N lo hi M (some (.int ((cF_fail 4 M).1 2 5))) (cF_step N (cF_whole lo hi M))
    exact ⟨by rw [e5], rfl⟩
  · unfold cF_whole
    rw [if_pos (fn_eq0 h1), if_neg]
    have g2 := fn_nlt h2
    have g3 := fn_le h3
    rintro (c | c)
    · rw [Int32.lt_iff_toInt_lt] at c; omega
    · rw [Int32.lt_iff_toInt_lt] at c; omega
  · rintro v2 M2 ⟨rfl, rfl⟩
    show cw_R N lo hi M (some (.int (M.1 2 5))) (cF_step N (cF_whole lo hi M))
    exact ⟨rfl, rfl⟩
  · rintro v M' ⟨rfl, rfl⟩
    show ∃ R, cm_Lc cm_ms 88 [.ref 2] (cF_fail 4 M) R ∧ ∀ v M', R v M' → _
    refine ⟨_, go (cF_fail 4 M) (cF_fail_5 4 M) (four (fn_eq0 h1) (Or.inr (Int32.lt_iff_toInt_lt.mpr (fn_nle h3)))) (rs_fail 4 h), ?_⟩
    have e5 := cF_fail_5 4 M
    rintro v2 M2 ⟨rfl, rfl⟩
    show cw_R N lo hi M (some (.int ((cF_fail 4 M).1 2 5))) (cF_step N (cF_whole lo hi M))
    exact ⟨by rw [e5], rfl⟩
  · rintro v M' ⟨rfl, rfl⟩
    show ∃ R, cm_Lc cm_ms 88 [.ref 2] (cF_fail 1 M) R ∧ ∀ v M', R v M' → _
    refine ⟨_, go (cF_fail 1 M) (cF_fail_5 1 M) (by unfold cF_whole; rw [if_neg (fn_ne0 h1)]) (rs_fail 1 h), ?_⟩
    have e5 := cF_fail_5 1 M
    rintro v2 M2 ⟨rfl, rfl⟩
    show cw_R N lo hi M (some (.int ((cF_fail 1 M).1 2 5))) (cF_step N (cF_whole lo hi M))
    exact ⟨by rw [e5], rfl⟩
/-- a colour's number, and what is told if there is none -/
noncomputable def cF_col (M : cm_M) : Int32 := if wt 11 M = true then 0 else if wt 12 M = true then 1 else if wt 13 M = true then 2 else -1
noncomputable def cF_colour (M : cm_M) : cm_M := if wt 11 M = true then M else if wt 12 M = true then M else if wt 13 M = true then M else cF_fail 1 M
theorem cs_colour (M : cm_M) : cm_Lc cm_ms 83 [.ref 2] M (fun v M' => v = some (.int (cF_col M)) ∧ M' = cF_colour M) := by
  refine lb_st0 (mi := mr_83) rfl 40 ?_
  show ∃ R, cm_Lc cm_ms 86 [.ref 2, .ref (1001 + 2 * 11)] M R ∧ ∀ v M', R v M' → _
  refine ⟨_, cs_isWord (by decide) M, ?_⟩
  rintro v M' ⟨rfl, rfl⟩
  show (ev_cmp 0 (bi (wt 11 M')) 0 = true → ∃ R, cm_Lc cm_ms 86 [.ref 2, .ref (1001 + 2 * 12)] M' R ∧ ∀ v M', R v M' → _) ∧ (ev_cmp 0 (bi (wt 11 M')) 0 = false → _)
  refine ⟨fun h => ⟨_, cs_isWord (by decide) M', ?_⟩, fun h => ?_⟩
  · have w1 := bi_0 h
    rintro v M' ⟨rfl, rfl⟩
    show (ev_cmp 0 (bi (wt 12 M')) 0 = true → ∃ R, cm_Lc cm_ms 86 [.ref 2, .ref (1001 + 2 * 13)] M' R ∧ ∀ v M', R v M' → _) ∧ (ev_cmp 0 (bi (wt 12 M')) 0 = false → _)
    refine ⟨fun h => ⟨_, cs_isWord (by decide) M', ?_⟩, fun h => ?_⟩
    · have w2 := bi_0 h
      rintro v M' ⟨rfl, rfl⟩
      show (ev_cmp 0 (bi (wt 13 M')) 0 = true → ∃ R, cm_Lc cm_ms 66 [.ref 2, .int 1] M' R ∧ ∀ v M', R v M' → _) ∧ (ev_cmp 0 (bi (wt 13 M')) 0 = false → _)
      refine ⟨fun h => ⟨_, cs_fail 1 M', ?_⟩, fun h => ?_⟩
      · have w3 := bi_0 h
        rintro v M2 ⟨rfl, rfl⟩
        refine ⟨?_, ?_⟩
        · unfold cF_col; rw [w1, w2, w3]; try rfl
        · unfold cF_colour; rw [w1, w2, w3]; try rfl
      · have w3 := bi_1 h
        refine ⟨?_, ?_⟩
        · unfold cF_col; rw [w1, w2, w3]; try rfl
        · unfold cF_colour; rw [w1, w2, w3]; try rfl
    · have w2 := bi_1 h
      refine ⟨?_, ?_⟩
      · unfold cF_col; rw [w1, w2]; try rfl
      · unfold cF_colour; rw [w1, w2]; try rfl
  · have w1 := bi_1 h
    refine ⟨?_, ?_⟩
    · unfold cF_col; rw [w1]; try rfl
    · unfold cF_colour; rw [w1]; try rfl
/-- the line's first word -/
theorem cs_first0 (M : cm_M) : cm_Lc cm_ms 85 [.int 0] M (fun v M' => M' = M ∧ v = some (.ref (1001 + 2 * 0))) := by
  refine lb_st0 (mi := mr_85) rfl 20 ?_
  refine ⟨fun h => ?_, fun j o ho hj => ?_⟩
  · exact absurd h (by decide)
  · have hj : (0 : Int) = 0 + (j : Int) := hj
    have : j = 0 := by omega
    subst this
    cases ho
    exact ⟨rfl, rfl⟩
theorem cs_first1 (M : cm_M) : cm_Lc cm_ms 85 [.int 1] M (fun v M' => M' = M ∧ v = some (.ref (1001 + 2 * 1))) := by
  refine lb_st0 (mi := mr_85) rfl 20 ?_
  refine ⟨fun h => ?_, fun j o ho hj => ?_⟩
  · exact absurd h (by decide)
  · have hj : (1 : Int) = 0 + (j : Int) := hj
    have : j = 1 := by omega
    subst this
    cases ho
    exact ⟨rfl, rfl⟩
theorem cs_first2 (M : cm_M) : cm_Lc cm_ms 85 [.int 2] M (fun v M' => M' = M ∧ v = some (.ref (1001 + 2 * 2))) := by
  refine lb_st0 (mi := mr_85) rfl 20 ?_
  refine ⟨fun h => ?_, fun j o ho hj => ?_⟩
  · exact absurd h (by decide)
  · have hj : (2 : Int) = 0 + (j : Int) := hj
    have : j = 2 := by omega
    subst this
    cases ho
    exact ⟨rfl, rfl⟩
theorem cs_first3 (M : cm_M) : cm_Lc cm_ms 85 [.int 3] M (fun v M' => M' = M ∧ v = some (.ref (1001 + 2 * 3))) := by
  refine lb_st0 (mi := mr_85) rfl 20 ?_
  refine ⟨fun h => ?_, fun j o ho hj => ?_⟩
  · exact absurd h (by decide)
  · have hj : (3 : Int) = 0 + (j : Int) := hj
    have : j = 3 := by omega
    subst this
    cases ho
    exact ⟨rfl, rfl⟩
theorem cs_first4 (M : cm_M) : cm_Lc cm_ms 85 [.int 4] M (fun v M' => M' = M ∧ v = some (.ref (1001 + 2 * 4))) := by
  refine lb_st0 (mi := mr_85) rfl 20 ?_
  refine ⟨fun h => ?_, fun j o ho hj => ?_⟩
  · exact absurd h (by decide)
  · have hj : (4 : Int) = 0 + (j : Int) := hj
    have : j = 4 := by omega
    subst this
    cases ho
    exact ⟨rfl, rfl⟩
theorem cs_first5 (M : cm_M) : cm_Lc cm_ms 85 [.int 5] M (fun v M' => M' = M ∧ v = some (.ref (1001 + 2 * 5))) := by
  refine lb_st0 (mi := mr_85) rfl 20 ?_
  refine ⟨fun h => ?_, fun j o ho hj => ?_⟩
  · exact absurd h (by decide)
  · have hj : (5 : Int) = 0 + (j : Int) := hj
    have : j = 5 := by omega
    subst this
    cases ho
    exact ⟨rfl, rfl⟩
theorem cs_first6 (M : cm_M) : cm_Lc cm_ms 85 [.int 6] M (fun v M' => M' = M ∧ v = some (.ref (1001 + 2 * 6))) := by
  refine lb_st0 (mi := mr_85) rfl 20 ?_
  refine ⟨fun h => ?_, fun j o ho hj => ?_⟩
  · exact absurd h (by decide)
  · have hj : (6 : Int) = 0 + (j : Int) := hj
    have : j = 6 := by omega
    subst this
    cases ho
    exact ⟨rfl, rfl⟩
theorem cs_first7 (M : cm_M) : cm_Lc cm_ms 85 [.int 7] M (fun v M' => M' = M ∧ v = some (.ref (1001 + 2 * 7))) := by
  refine lb_st0 (mi := mr_85) rfl 20 ?_
  refine ⟨fun h => ⟨rfl, rfl⟩, fun j o ho hj => ?_⟩
  have hj : (7 : Int) = 0 + (j : Int) := hj
  have : j = 7 := by omega
  subst this
  cases ho
theorem cs_first {j : Nat} (h : j < 8) (M : cm_M) : cm_Lc cm_ms 85 [.int (Int32.ofNat j)] M (fun v M' => M' = M ∧ v = some (.ref (1001 + 2 * j))) := by
  match j, h with
  | 0, _ => exact cs_first0 M
  | 1, _ => exact cs_first1 M
  | 2, _ => exact cs_first2 M
  | 3, _ => exact cs_first3 M
  | 4, _ => exact cs_first4 M
  | 5, _ => exact cs_first5 M
  | 6, _ => exact cs_first6 M
  | 7, _ => exact cs_first7 M
  | n + 8, h => omega
noncomputable def ln_f (M : cm_M) : Nat → Nat → Int32
  | 0, _ => -1
  | f + 1, j => if wt j M = true then Int32.ofNat j else ln_f M f (j + 1)
noncomputable def cF_line (M : cm_M) : Int32 := ln_f M 8 0
noncomputable def li_J (M : cm_M) (S : cm_S) : Prop := ∃ j, j ≤ 8 ∧ cF_line M = ln_f M (8 - j) j ∧ S = (2, [(0, .ref 2), (1, .int (Int32.ofNat j))], [], M)
set_option maxRecDepth 100000 in
theorem cs_line (M : cm_M) : cm_Lc cm_ms 84 [.ref 2] M (fun v M' => M' = M ∧ v = some (.int (cF_line M))) := by
  refine lb_of (mi := mr_84) rfl [(2, [0, 1])] (li_J M) 30 (fun S hS => ?_) 10 ?_
  · obtain ⟨j, hj, hl, rfl⟩ := hS
    have e8 : (8 : Int32).toInt = 8 := by decide
    show (ev_cmp 3 (Int32.ofNat j) 8 = true → _) ∧ (ev_cmp 3 (Int32.ofNat j) 8 = false → ∃ R, cm_Lc cm_ms 85 [.int (Int32.ofNat j)] M R ∧ ∀ v M', R v M' → _)
    refine ⟨fun h => ⟨rfl, ?_⟩, fun h => ?_⟩
    · have h1 := fn_ge h
      rw [fn_toInt (by omega)] at h1
      have : j = 8 := by omega
      subst this
      rw [hl]
      try rfl
    · have h1 := fn_nge h
      rw [fn_toInt (by omega)] at h1
      refine ⟨_, cs_first (by omega) M, ?_⟩
      rintro v M' ⟨rfl, rfl⟩
      show ∃ R, cm_Lc cm_ms 86 [.ref 2, .ref (1001 + 2 * j)] M' R ∧ ∀ v M', R v M' → _
      refine ⟨_, cs_isWord (by omega) M', ?_⟩
      rintro v M' ⟨rfl, rfl⟩
      have e : 8 - j = (8 - (j + 1)) + 1 := by omega
      rw [e] at hl
      unfold ln_f at hl
      show (ev_cmp 0 (bi (wt j M')) 0 = true → li_J M' (2, [(0, .ref 2), (1, .int (Int32.ofNat j + 1))], [], M')) ∧ (ev_cmp 0 (bi (wt j M')) 0 = false → _)
      refine ⟨fun h2 => ?_, fun h2 => ⟨rfl, ?_⟩⟩
      · rw [if_neg (by rw [bi_0 h2]; decide)] at hl
        rw [fn_succ]
        exact ⟨j + 1, by omega, hl, rfl⟩
      · rw [if_pos (bi_1 h2)] at hl
        rw [hl]
  · show li_J M (2, [(0, .ref 2), (1, .int 0)], [], M)
    exact ⟨0, by omega, rfl, rfl⟩
noncomputable def bt (x sh : Int32) : Int32 := vp_nar .byte ((x >>> (sh &&& 31)).toInt8.toInt32)
noncomputable def fd_f (M : cm_M) : cm_M := cm_wr M 0 0 (some 1)
/-- the memory behind c signs of a number -/
noncomputable def sb (M : cm_M) (x : Int32) (t : Nat) : Nat → cm_M
  | 0 => M
  | c + 1 => cm_wi (cm_wi (sb M x t c) 1 (t + c) (bt x (Int32.ofInt (24 - 8 * (c : Int))))) 0 1 (Int32.ofNat (t + c + 1))
theorem sb_t {M : cm_M} {x : Int32} {t : Nat} (h : M.1 0 1 = Int32.ofNat t) : ∀ c, (sb M x t c).1 0 1 = Int32.ofNat (t + c)
  | 0 => h
  | c + 1 => rfl
theorem sb_r (M : cm_M) (x : Int32) (t : Nat) : ∀ c, (sb M x t c).2 = M.2
  | 0 => rfl
  | c + 1 => sb_r M x t c
noncomputable def sb_J (M : cm_M) (x : Int32) (t : Nat) (S : cm_S) : Prop := ∃ c : Nat, c ≤ 4 ∧ S = (3, [(0, .ref 0), (1, .int x), (2, .int (Int32.ofInt (24 - 8 * (c : Int))))], [], fd_f (sb M x t c))
theorem fn_i32 {z : Int} (h1 : -2147483648 ≤ z) (h2 : z ≤ 2147483647) : (Int32.ofInt z).toInt = z := by
  rw [Int32.toInt_ofInt]
  exact ev_bm h1 h2
set_option maxRecDepth 100000 in
theorem fn_store {M : cm_M} {x : Int32} {t : Nat} (hr : M.2.2 0 0 = some 1) (ht : M.1 0 1 = Int32.ofNat t) (h9 : t + 4 ≤ 900) : cm_Lc cm_ms 94 [.ref 0, .int x] M (fun v M' => v = none ∧ M' = sb M x t 4) := by
  refine lb_of (mi := mr_94) rfl [(3, [0, 1, 2])] (sb_J M x t) 40 (fun S hS => ?_) 10 ?_
  · obtain ⟨c, hc, rfl⟩ := hS
    have e1 := sb_t (x := x) ht c
    have z0 : (0 : Int32).toInt = 0 := by decide
    have z9 : (900 : Int32).toInt = 900 := by decide
    have zs : (Int32.ofInt (24 - 8 * (c : Int))).toInt = 24 - 8 * (c : Int) := fn_i32 (by omega) (by omega)
    show (ev_cmp 2 (Int32.ofInt (24 - 8 * (c : Int))) 0 = true → _) ∧ (ev_cmp 2 (Int32.ofInt (24 - 8 * (c : Int))) 0 = false → (ev_cmp 3 ((sb M x t c).1 0 1) 900 = true → _) ∧ (ev_cmp 3 ((sb M x t c).1 0 1) 900 = false → sb_J M x t (3, [(0, .ref 0), (1, .int x), (2, .int (Int32.ofInt (24 - 8 * (c : Int)) + Int32.ofInt (-8)))], [], cm_wi (cm_wi (fd_f (sb M x t c)) 1 ((sb M x t c).1 0 1).toNatClampNeg (bt x (Int32.ofInt (24 - 8 * (c : Int))))) 0 1 ((sb M x t c).1 0 1 + 1))))
    refine ⟨fun h => ?_, fun h => ⟨fun h2 => ?_, fun h2 => ?_⟩⟩
    · have h1 := fn_lt h
      have : c = 4 := by omega
      subst this
      refine ⟨rfl, ?_⟩
      show fd_f (sb M x t 4) = sb M x t 4
      exact wr_id (by rw [sb_r]; exact hr)
    · have h1 := fn_nlt h
      have h3 := fn_ge h2
      rw [e1, fn_toInt (by omega)] at h3
      omega
    · have h1 := fn_nlt h
      rw [e1, fn_nat (by omega), fn_succ]
      refine ⟨c + 1, by omega, ?_⟩
      have e2 : Int32.ofInt (24 - 8 * (c : Int)) + Int32.ofInt (-8) = Int32.ofInt (24 - 8 * ((c + 1 : Nat) : Int)) := by
        apply Int32.toInt_inj.mp
        rw [Int32.toInt_add, zs, fn_i32 (by omega) (by omega), fn_i32 (by omega) (by omega), ev_bm (by omega) (by omega)]
        omega
      rw [e2]
      try rfl
  · show sb_J M x t (3, [(0, .ref 0), (1, .int x), (2, .int 24)], [], M)
    refine ⟨0, by omega, ?_⟩
    show _ = ((3, [(0, .ref 0), (1, .int x), (2, .int 24)], [], fd_f M) : cm_S)
    rw [show fd_f M = M from wr_id hr]
/-- the memory behind a feed -/
noncomputable def fd_m (M : cm_M) (t : Nat) (a b c d e : Int32) : cm_M := sb (sb (sb (sb (sb M a t 4) b (t + 4) 4) c (t + 8) 4) d (t + 12) 4) e (t + 16) 4
noncomputable abbrev fc_R (M : cm_M) (t : Nat) (a b c d e : Int32) : cm_K := fun v M' => (880 < t → v = some (.int (-1)) ∧ M' = M) ∧ (t ≤ 880 → v = some (.int (Int32.ofNat (t + 20))) ∧ M' = fd_m M t a b c d e)
set_option maxRecDepth 100000 in
set_option maxHeartbeats 4000000 in
theorem fn_feed {M : cm_M} {t : Nat} (hr : M.2.2 0 0 = some 1) (ht : M.1 0 1 = Int32.ofNat t) (h9 : t ≤ 900) (a b c d e : Int32) : cm_Lc cm_ms 93 [.ref 0, .int a, .int b, .int c, .int d, .int e] M (fc_R M t a b c d e) := by
  have z : (M.1 0 1 + 20).toInt = (t : Int) + 20 := by
    have h20 : (20 : Int32).toInt = 20 := by decide
    rw [ht, Int32.toInt_add, fn_toInt (by omega), h20, ev_bm (by omega) (by omega)]
  have z9 : (900 : Int32).toInt = 900 := by decide
  refine lb_st0 (mi := mr_93) rfl 60 ?_
  show (ev_cmp 5 (M.1 0 1 + 20) 900 = true → ∃ R, cm_Lc cm_ms 94 [.ref 0, .int a] M R ∧ ∀ v M', R v M' → _) ∧ (ev_cmp 5 (M.1 0 1 + 20) 900 = false → _)
  refine ⟨fun h => ?_, fun h => ?_⟩
  · have h1 := fn_le h
    have h8 : t ≤ 880 := by omega
    refine ⟨_, fn_store hr ht (by omega), ?_⟩
    rintro v M1 ⟨rfl, rfl⟩
    show ∃ R, cm_Lc cm_ms 94 [.ref 0, .int b] (sb M a t 4) R ∧ ∀ v M', R v M' → _
    refine ⟨_, fn_store (t := t + 4) (by rw [sb_r]; exact hr) (sb_t ht 4) (by omega), ?_⟩
    rintro v M1 ⟨rfl, rfl⟩
    show ∃ R, cm_Lc cm_ms 94 [.ref 0, .int c] (sb (sb M a t 4) b (t + 4) 4) R ∧ ∀ v M', R v M' → _
    refine ⟨_, fn_store (t := t + 8) (by rw [sb_r, sb_r]; exact hr) (sb_t (sb_t ht 4) 4) (by omega), ?_⟩
    rintro v M1 ⟨rfl, rfl⟩
    show ∃ R, cm_Lc cm_ms 94 [.ref 0, .int d] (sb (sb (sb M a t 4) b (t + 4) 4) c (t + 8) 4) R ∧ ∀ v M', R v M' → _
    refine ⟨_, fn_store (t := t + 12) (by rw [sb_r, sb_r, sb_r]; exact hr) (sb_t (sb_t (sb_t ht 4) 4) 4) (by omega), ?_⟩
    rintro v M1 ⟨rfl, rfl⟩
    show ∃ R, cm_Lc cm_ms 94 [.ref 0, .int e] (sb (sb (sb (sb M a t 4) b (t + 4) 4) c (t + 8) 4) d (t + 12) 4) R ∧ ∀ v M', R v M' → _
    refine ⟨_, fn_store (t := t + 16) (by rw [sb_r, sb_r, sb_r, sb_r]; exact hr) (sb_t (sb_t (sb_t (sb_t ht 4) 4) 4) 4) (by omega), ?_⟩
    rintro v M1 ⟨rfl, rfl⟩
    show fc_R M t a b c d e (some (.int ((fd_m M t a b c d e).1 0 1))) (fd_m M t a b c d e)
    exact ⟨fun h => by omega, fun _ => ⟨rfl, rfl⟩⟩
  · have h1 := fn_nle h
    show fc_R M t a b c d e (some (.int (-1))) M
    exact ⟨fun _ => ⟨rfl, rfl⟩, fun h => by omega⟩
noncomputable def mf_f (M : cm_M) : cm_M := cm_wr M 124 1 (some 125)
noncomputable def mt (x : Int32) (c : Nat) : Int32 := (x >>> ((24 - 8 * (Int32.ofNat c - Int32.ofNat c / 4 * 4)) &&& 31)) &&& 255
noncomputable def sm (M : cm_M) (w : Nat → Int32) (t : Nat) : Nat → cm_M
  | 0 => M
  | c + 1 => cm_wi (cm_wi (sm M w t c) 125 (t + c) (mt (w c) c)) 124 2 (Int32.ofNat (t + c + 1))
theorem sm_t {M : cm_M} {w : Nat → Int32} {t : Nat} (h : M.1 124 2 = Int32.ofNat t) : ∀ c, (sm M w t c).1 124 2 = Int32.ofNat (t + c)
  | 0 => h
  | c + 1 => rfl
theorem sm_r (M : cm_M) (w : Nat → Int32) (t : Nat) : ∀ c, (sm M w t c).2 = M.2
  | 0 => rfl
  | c + 1 => sm_r M w t c
noncomputable def w5 (a b c d e : Int32) (k : Nat) : Int32 := if k < 4 then a else if k < 8 then b else if k < 12 then c else if k < 16 then d else e
noncomputable abbrev mfd_m (M : cm_M) (t : Nat) (a b c d e : Int32) : cm_M := sm (cm_wi M 124 0 0) (w5 a b c d e) t 20
noncomputable abbrev fm_R (M : cm_M) (t : Nat) (a b c d e : Int32) : cm_K := fun v M' => (880 < t → v = some (.int (-1)) ∧ M' = cm_wi M 124 0 0) ∧ (t ≤ 880 → v = some (.int (Int32.ofNat (t + 20))) ∧ M' = mfd_m M t a b c d e)
noncomputable abbrev mfd_L (a b c d e k : Int32) : List (Nat × Value) := [(0, .ref 124), (1, .int a), (2, .int b), (3, .int c), (4, .int d), (5, .int e), (6, .int k)]
noncomputable def mfd_J (M : cm_M) (t : Nat) (a b c d e : Int32) (S : cm_S) : Prop := t ≤ 880 ∧ ∃ k : Nat, (k ≤ 20 ∧ S = (23, mfd_L a b c d e (Int32.ofNat k), [], mf_f (sm (cm_wi M 124 0 0) (w5 a b c d e) t k))) ∨ (k < 20 ∧ S = (76, mfd_L a b c d e (Int32.ofNat k), [.int (w5 a b c d e k)], mf_f (sm (cm_wi M 124 0 0) (w5 a b c d e) t k)))
noncomputable abbrev mfd_st : List (Nat × List Nat) := [(23, [0, 1, 2, 3, 4, 5, 6]), (76, [0, 1, 2, 3, 4, 5, 6])]
set_option maxRecDepth 100000 in
set_option maxHeartbeats 4000000 in
theorem fn_mfeed {M : cm_M} {t : Nat} (hr : M.2.2 124 1 = some 125) (ht : M.1 124 2 = Int32.ofNat t) (h9 : t ≤ 900) (a b c d e : Int32) : cm_Lc cm_ms 172 [.ref 124, .int a, .int b, .int c, .int d, .int e] M (fm_R M t a b c d e) := by
  have z : (M.1 124 2 + 20).toInt = (t : Int) + 20 := by
    have h20 : (20 : Int32).toInt = 20 := by decide
    rw [ht, Int32.toInt_add, fn_toInt (by omega), h20, ev_bm (by omega) (by omega)]
  have z9 : (900 : Int32).toInt = 900 := by decide
  have ht1 : (cm_wi M 124 0 0).1 124 2 = Int32.ofNat t := ht
  refine lb_of (mi := mr_172) rfl mfd_st (mfd_J M t a b c d e) 40 (fun S hS => ?_) 20 ?_
  · obtain ⟨h8, k, ⟨hk, rfl⟩ | ⟨hk, rfl⟩⟩ := hS
    · have e1 := sm_t (w := w5 a b c d e) ht1 k
      have z20 : (20 : Int32).toInt = 20 := by decide
      have z4 : (4 : Int32).toInt = 4 := by decide
      have z8 : (8 : Int32).toInt = 8 := by decide
      have z12 : (12 : Int32).toInt = 12 := by decide
      have z16 : (16 : Int32).toInt = 16 := by decide
      have zk : (Int32.ofNat k).toInt = (k : Int) := fn_toInt (by omega)
      show (ev_cmp 3 (Int32.ofNat k) 20 = true → _) ∧ (ev_cmp 3 (Int32.ofNat k) 20 = false → (ev_cmp 3 (Int32.ofNat k) 4 = true → (ev_cmp 3 (Int32.ofNat k) 8 = true → (ev_cmp 3 (Int32.ofNat k) 12 = true → (ev_cmp 3 (Int32.ofNat k) 16 = true → mfd_J M t a b c d e (76, mfd_L a b c d e (Int32.ofNat k), [.int e], mf_f (sm (cm_wi M 124 0 0) (w5 a b c d e) t k))) ∧ (ev_cmp 3 (Int32.ofNat k) 16 = false → mfd_J M t a b c d e (76, mfd_L a b c d e (Int32.ofNat k), [.int d], mf_f (sm (cm_wi M 124 0 0) (w5 a b c d e) t k)))) ∧ (ev_cmp 3 (Int32.ofNat k) 12 = false → mfd_J M t a b c d e (76, mfd_L a b c d e (Int32.ofNat k), [.int c], mf_f (sm (cm_wi M 124 0 0) (w5 a b c d e) t k)))) ∧ (ev_cmp 3 (Int32.ofNat k) 8 = false → mfd_J M t a b c d e (76, mfd_L a b c d e (Int32.ofNat k), [.int b], mf_f (sm (cm_wi M 124 0 0) (w5 a b c d e) t k)))) ∧ (ev_cmp 3 (Int32.ofNat k) 4 = false → mfd_J M t a b c d e (76, mfd_L a b c d e (Int32.ofNat k), [.int a], mf_f (sm (cm_wi M 124 0 0) (w5 a b c d e) t k))))
      have to76 : ∀ x : Int32, k < 20 → w5 a b c d e k = x → mfd_J M t a b c d e (76, mfd_L a b c d e (Int32.ofNat k), [.int x], mf_f (sm (cm_wi M 124 0 0) (w5 a b c d e) t k)) := fun x hk2 hx => ⟨h8, k, Or.inr ⟨hk2, by rw [hx]⟩⟩
      refine ⟨fun h => ?_, fun h => ⟨fun h2 => ⟨fun h3 => ⟨fun h4 => ⟨fun h5 => ?_, fun h5 => ?_⟩, fun h4 => ?_⟩, fun h3 => ?_⟩, fun h2 => ?_⟩⟩
      · have g := fn_ge h
        have : k = 20 := by omega
        subst this
        show fm_R M t a b c d e (some (.int ((sm (cm_wi M 124 0 0) (w5 a b c d e) t 20).1 124 2))) (mf_f (sm (cm_wi M 124 0 0) (w5 a b c d e) t 20))
        refine ⟨fun h => by omega, fun _ => ⟨by rw [e1], ?_⟩⟩
        exact wr_id (by rw [sm_r]; exact hr)
      · have g := fn_nge h
        have g5 := fn_ge h5
        exact to76 e (by omega) (by unfold w5; rw [if_neg (by omega), if_neg (by omega), if_neg (by omega), if_neg (by omega)])
      · have g := fn_nge h
        have g4 := fn_ge h4
        have g5 := fn_nge h5
        exact to76 d (by omega) (by unfold w5; rw [if_neg (by omega), if_neg (by omega), if_neg (by omega), if_pos (by omega)])
      · have g := fn_nge h
        have g4 := fn_nge h4
        have g3 := fn_ge h3
        exact to76 c (by omega) (by unfold w5; rw [if_neg (by omega), if_neg (by omega), if_pos (by omega)])
      · have g := fn_nge h
        have g3 := fn_nge h3
        have g2 := fn_ge h2
        exact to76 b (by omega) (by unfold w5; rw [if_neg (by omega), if_pos (by omega)])
      · have g := fn_nge h
        have g2 := fn_nge h2
        exact to76 a (by omega) (by unfold w5; rw [if_pos (by omega)])
    · have e1 := sm_t (w := w5 a b c d e) ht1 k
      show mfd_J M t a b c d e (23, mfd_L a b c d e (Int32.ofNat k + 1), [], cm_wi (cm_wi (mf_f (sm (cm_wi M 124 0 0) (w5 a b c d e) t k)) 125 ((sm (cm_wi M 124 0 0) (w5 a b c d e) t k).1 124 2).toNatClampNeg (mt (w5 a b c d e k) k)) 124 2 ((sm (cm_wi M 124 0 0) (w5 a b c d e) t k).1 124 2 + 1))
      rw [e1, fn_nat (by omega), fn_succ, fn_succ]
      exact ⟨h8, k + 1, Or.inl ⟨by omega, rfl⟩⟩
  · show (ev_cmp 5 (M.1 124 2 + 20) 900 = true → mfd_J M t a b c d e (23, mfd_L a b c d e 0, [], cm_wi M 124 0 0)) ∧ (ev_cmp 5 (M.1 124 2 + 20) 900 = false → _)
    refine ⟨fun h => ?_, fun h => ?_⟩
    · have g := fn_le h
      refine ⟨by omega, 0, Or.inl ⟨by omega, ?_⟩⟩
      show _ = (((23, mfd_L a b c d e 0, [], mf_f (cm_wi M 124 0 0)) : cm_S))
      rw [show mf_f (cm_wi M 124 0 0) = cm_wi M 124 0 0 from wr_id hr]
    · have g := fn_nle h
      show fm_R M t a b c d e (some (.int (-1))) (cm_wi M 124 0 0)
      exact ⟨fun _ => ⟨rfl, rfl⟩, fun h => by omega⟩
/-- a sign of the class's tape and of the reference's -/
noncomputable def tb (b m : Int32) : Prop := 0 ≤ m.toInt ∧ m.toInt ≤ 255 ∧ (b.toInt = m.toInt ∨ (128 ≤ m.toInt ∧ b.toInt = m.toInt - 256))
theorem and255 (y : Int32) : (y &&& 255).toInt = y.toInt % 256 := by
  have h1 : (y &&& 255).toBitVec.toNat = y.toBitVec.toNat % 256 := by
    show (y.toBitVec &&& (255 : Int32).toBitVec).toNat = _
    rw [BitVec.toNat_and, show (255 : Int32).toBitVec.toNat = 2 ^ 8 - 1 from by decide, Nat.and_two_pow_sub_one_eq_mod]
  have h2 : (y &&& 255).toInt = (y &&& 255).toBitVec.toInt := rfl
  have h3 : y.toInt = y.toBitVec.toInt := rfl
  have h4 := BitVec.toInt_eq_toNat_cond (y &&& 255).toBitVec
  have h5 := BitVec.toInt_eq_toNat_cond y.toBitVec
  have h6 := y.toBitVec.isLt
  rw [h2, h3, h4, h5, h1]
  split <;> split <;> omega
theorem narb (z : Int32) : (vp_nar .byte z).toInt = z.toInt.bmod 256 := by
  show (z.toInt8.toInt32).toInt = _
  rw [Int8.toInt_toInt32, Int32.toInt_toInt8]
theorem tb_y (y : Int32) : tb (vp_nar .byte y.toInt8.toInt32) (y &&& 255) := by
  have h1 := and255 y
  have h2 : (vp_nar .byte y.toInt8.toInt32).toInt = (y.toInt.bmod 256).bmod 256 := by
    rw [narb, Int8.toInt_toInt32, Int32.toInt_toInt8]
  rw [Int.bmod_bmod] at h2
  unfold tb
  rw [h1, h2]
  have h3 : y.toInt.bmod 256 = if y.toInt % 256 < (256 + 1) / 2 then y.toInt % 256 else y.toInt % 256 - 256 := Int.bmod_def ..
  rw [h3]
  split <;> omega
theorem tb_l {b m : Int32} (h : tb b m) : ch_l m = ch_l b := by
  obtain ⟨h1, h2, h3⟩ := h
  unfold ch_l
  rw [← Bool.decide_and, ← Bool.decide_and]
  exact decide_eq_decide.mpr (by omega)
theorem tb_d {b m : Int32} (h : tb b m) : ch_d m = ch_d b := by
  obtain ⟨h1, h2, h3⟩ := h
  unfold ch_d
  rw [← Bool.decide_and, ← Bool.decide_and]
  exact decide_eq_decide.mpr (by omega)
theorem tb_c {b m c : Int32} (hc : 0 ≤ c.toInt) (hc2 : c.toInt < 128) (h : tb b m) : (m = c) ↔ (b = c) := by
  obtain ⟨h1, h2, h3⟩ := h
  rw [← Int32.toInt_inj, ← Int32.toInt_inj]
  omega
theorem tb_s {b m : Int32} (h : tb b m) : ch_s m = ch_s b := decide_eq_decide.mpr (tb_c (by decide) (by decide) h)
/-- where the sign is a letter or a digit it is the same on both -/
theorem tb_eq {b m : Int32} (h : tb b m) (hb : ch_l b = true ∨ ch_d b = true) : m = b := by
  obtain ⟨h1, h2, h3⟩ := h
  have : 0 ≤ b.toInt := by
    rcases hb with hb | hb
    · unfold ch_l at hb
      simp only [Bool.and_eq_true, decide_eq_true_eq] at hb
      omega
    · unfold ch_d at hb
      simp only [Bool.and_eq_true, decide_eq_true_eq] at hb
      omega
  exact Int32.toInt_inj.mp (by omega)
theorem tk_e_tb {p : Int32 → Bool} {T T' : Nat → Int32} {N k e : Nat} (h : ∀ j, j < N → p (T' j) = p (T j)) (he : tk_e p T' N k e) : tk_e p T N k e := ⟨he.1, he.2.1, fun j a b => by rw [← h j (by have := he.2.1; omega)]; exact he.2.2.1 j a b, fun a => by rw [← h e a]; exact he.2.2.2 a⟩
theorem tk_v_tb {T T' : Nat → Int32} {s : Nat} : ∀ c, (∀ j, j < c → T' (s + j) = T (s + j)) → tk_v T' s c = tk_v T s c
  | 0, _ => rfl
  | c + 1, h => by rw [tk_v_succ, tk_v_succ, tk_v_tb c (fun j hj => h j (by omega)), h c (by omega)]
/-- the two tokens -/
noncomputable def tk_r (T : Nat → Int32) (s e : Nat) (kd va : Int32) (wd : Int64) (tok wh : Int32) (ns : Nat) : Prop :=
  (kd = 0 ∧ tok = 0) ∨ (kd = 1 ∧ tok = 2 ∧ ns = e - s ∧ ns ≤ 8 ∧ 0 < ns ∧ wd = tk_w T s ns ∧ ∀ j, s ≤ j → j < e → ch_l (T j) = true) ∨ (kd = 2 ∧ tok = 3 ∧ va = wh) ∨ (kd = 3 ∧ tok = 59) ∨ (kd = 4 ∧ tok = 1)
theorem tk_two {T T' : Nat → Int32} {N k s e s' e' : Nat} {kd va tok wh : Int32} {wd : Int64} {ns : Nat} (h : ∀ j, j < N → tb (T j) (T' j)) (a1 : tk_e ch_s T N k s) (a2 : tk_k T N s e kd va wd) (b1 : tk_e ch_s T' N k s') (b2 : mk_k T' N s' e' tok wh ns) : s' = s ∧ e' = e ∧ tk_r T s e kd va wd tok wh ns := by
  have hs : s' = s := tk_e_uni (tk_e_tb (fun j hj => tb_s (h j hj)) b1) a1
  subst hs
  refine ⟨rfl, ?_⟩
  rcases b2 with ⟨c1, rfl, rfl, rfl, rfl⟩ | ⟨c1, c2, c3, rfl, rfl, rfl⟩ | ⟨c1, c2, c3, c4, rfl, rfl, rfl⟩ | ⟨c1, c2, c3, rfl, rfl, rfl, rfl⟩
  · rcases a2 with ⟨d1, rfl, rfl, rfl, rfl⟩ | ⟨d1, -⟩ | ⟨d1, -⟩ | ⟨d1, -⟩
    · exact ⟨rfl, Or.inl ⟨rfl, rfl⟩⟩
    · omega
    · omega
    · omega
  · rw [tb_l (h s' c1)] at c2
    have c3' := tk_e_tb (fun j hj => tb_l (h j hj)) c3
    have hpos : s' < e' := by
      rcases Nat.lt_or_ge s' e' with hh | hh
      · exact hh
      · have : e' = s' := by have := c3'.1; omega
        have h4 := c3'.2.2.2 (by omega)
        rw [this, c2] at h4
        cases h4
    rcases a2 with ⟨d1, -⟩ | ⟨d1, d2, d3, rfl, rfl, rfl⟩ | ⟨d1, d2, -⟩ | ⟨d1, d2, -⟩
    · omega
    · have := tk_e_uni c3' d3
      subst this
      refine ⟨rfl, ?_⟩
      by_cases h8 : e' - s' ≤ 8
      · exact Or.inr (Or.inl ⟨if_pos h8, if_pos h8, rfl, h8, by omega, rfl, c3'.2.2.1⟩)
      · exact Or.inr (Or.inr (Or.inr (Or.inr ⟨if_neg h8, if_neg h8⟩)))
    · rw [c2] at d2; cases d2
    · rw [c2] at d2; cases d2
  · rw [tb_l (h s' c1)] at c2
    rw [tb_d (h s' c1)] at c3
    have c4' := tk_e_tb (fun j hj => tb_d (h j hj)) c4
    rcases a2 with ⟨d1, -⟩ | ⟨d1, d2, -⟩ | ⟨d1, d2, d3, d4, rfl, rfl, rfl⟩ | ⟨d1, d2, d3, -⟩
    · omega
    · rw [c2] at d2; cases d2
    · have := tk_e_uni c4' d4
      subst this
      refine ⟨rfl, ?_⟩
      by_cases h8 : e' - s' ≤ 3
      · refine Or.inr (Or.inr (Or.inl ⟨if_pos h8, if_pos h8, ?_⟩))
        rw [Nat.min_eq_left h8]
        refine (tk_v_tb _ (fun j hj => ?_)).symm
        have hj2 : s' + j < e' := by omega
        exact tb_eq (h _ (by have := c4'.2.1; omega)) (Or.inr (c4'.2.2.1 _ (by omega) hj2))
      · exact Or.inr (Or.inr (Or.inr (Or.inr ⟨if_neg h8, if_neg h8⟩)))
    · rw [c3] at d3; cases d3
  · rw [tb_l (h s' c1)] at c2
    rw [tb_d (h s' c1)] at c3
    rcases a2 with ⟨d1, -⟩ | ⟨d1, d2, -⟩ | ⟨d1, d2, d3, -⟩ | ⟨d1, d2, d3, rfl, rfl, rfl, rfl⟩
    · omega
    · rw [c2] at d2; cases d2
    · rw [c3] at d3; cases d3
    · refine ⟨rfl, ?_⟩
      have h59 := tb_c (c := 59) (by decide) (by decide) (h s' c1)
      by_cases hc : T s' = 59
      · exact Or.inr (Or.inr (Or.inr (Or.inl ⟨if_pos hc, if_pos (h59.mpr hc)⟩)))
      · exact Or.inr (Or.inr (Or.inr (Or.inr ⟨if_neg hc, if_neg (fun hh => hc (h59.mp hh))⟩)))
noncomputable def pk (f : Nat → Int) : Nat → Int
  | 0 => 0
  | c + 1 => pk f c * 32 + f c
theorem pk_bd {f : Nat → Int} : ∀ n, (∀ j, j < n → 1 ≤ f j ∧ f j ≤ 26) → 0 ≤ pk f n ∧ pk f n < 32 ^ n
  | 0, _ => ⟨Int.le_refl _, by show (0 : Int) < 32 ^ 0; decide⟩
  | n + 1, h => by
    obtain ⟨a, b⟩ := pk_bd n (fun j hj => h j (by omega))
    have hn := h n (by omega)
    have e : (32 : Int) ^ (n + 1) = 32 ^ n * 32 := Int.pow_succ 32 n
    unfold pk
    rw [e]
    omega
theorem pk_inj {f g : Nat → Int} : ∀ n m, (∀ j, j < n → 1 ≤ f j ∧ f j ≤ 26) → (∀ j, j < m → 1 ≤ g j ∧ g j ≤ 26) → pk f n = pk g m → n = m ∧ ∀ j, j < n → f j = g j
  | 0, 0, _, _, _ => ⟨rfl, fun j h => by omega⟩
  | 0, m + 1, _, hg, h => by
    have a := (pk_bd m (fun j hj => hg j (by omega))).1
    have b := hg m (by omega)
    have h : (0 : Int) = pk g m * 32 + g m := h
    omega
  | n + 1, 0, hf, _, h => by
    have a := (pk_bd n (fun j hj => hf j (by omega))).1
    have b := hf n (by omega)
    have h : pk f n * 32 + f n = 0 := h
    omega
  | n + 1, m + 1, hf, hg, h => by
    have h : pk f n * 32 + f n = pk g m * 32 + g m := h
    have b := hf n (by omega)
    have d := hg m (by omega)
    obtain ⟨e1, e2⟩ := pk_inj n m (fun j hj => hf j (by omega)) (fun j hj => hg j (by omega)) (by omega)
    subst e1
    refine ⟨rfl, fun j hj => ?_⟩
    rcases Nat.lt_or_ge j n with hh | hh
    · exact e2 j hh
    · have : j = n := by omega
      subst this
      omega
theorem ch_l_bd {x : Int32} (h : ch_l x = true) : 97 ≤ x.toInt ∧ x.toInt ≤ 122 := by
  unfold ch_l at h
  simp only [Bool.and_eq_true, decide_eq_true_eq] at h
  exact h
theorem lbm {n : Int} (h1 : -9223372036854775808 ≤ n) (h2 : n ≤ 9223372036854775807) : n.bmod (2 ^ 64) = n := Int.bmod_eq_of_le (by omega) (by omega)
theorem tk_w_pk {T : Nat → Int32} {s : Nat} : ∀ n, n ≤ 8 → (∀ j, j < n → ch_l (T (s + j)) = true) → (tk_w T s n).toInt = pk (fun j => (T (s + j)).toInt - 96) n
  | 0, _, _ => by show (0 : Int64).toInt = 0; decide
  | n + 1, h8, h => by
    have ih := tk_w_pk n (by omega) (fun j hj => h j (by omega))
    have bd := pk_bd (f := fun j => (T (s + j)).toInt - 96) n (fun j hj => by
      have := ch_l_bd (h j (by omega))
      omega)
    have hb : (32 : Int) ^ n ≤ 32 ^ 7 := by
      have : n = 0 ∨ n = 1 ∨ n = 2 ∨ n = 3 ∨ n = 4 ∨ n = 5 ∨ n = 6 ∨ n = 7 := by omega
      rcases this with rfl | rfl | rfl | rfl | rfl | rfl | rfl | rfl <;> decide
    have h7 : (32 : Int) ^ 7 = 34359738368 := by decide
    have hx := ch_l_bd (h n (by omega))
    have e32 : (32 : Int64).toInt = 32 := by decide
    have e97 : (97 : Int64).toInt = 97 := by decide
    have e1 : (1 : Int64).toInt = 1 := by decide
    rw [tk_w_succ, Int64.toInt_add, Int64.toInt_sub, Int64.toInt_add, Int64.toInt_mul, ih, Int32.toInt_toInt64, e32, e97, e1]
    show _ = pk (fun j => (T (s + j)).toInt - 96) n * 32 + ((T (s + n)).toInt - 96)
    generalize pk (fun j => (T (s + j)).toInt - 96) n = p at bd ⊢
    generalize (T (s + n)).toInt = x at hx ⊢
    rw [lbm (n := p * 32) (by omega) (by omega), lbm (n := p * 32 + x) (by omega) (by omega), lbm (n := p * 32 + x - 97) (by omega) (by omega), lbm (by omega) (by omega)]
    omega
/-- a word's number and its letters -/
noncomputable def wrep (W : Int64) (L : Nat → Int32) (n : Nat) : Prop := n ≤ 8 ∧ (∀ j, j < n → ch_l (L j) = true) ∧ W = tk_w L 0 n
theorem tk_w_sh (T : Nat → Int32) (s : Nat) : ∀ n, tk_w T s n = tk_w (fun j => T (s + j)) 0 n
  | 0 => rfl
  | n + 1 => by rw [tk_w_succ, tk_w_succ, tk_w_sh T s n, Nat.zero_add]
theorem tk_w_cg {L L' : Nat → Int32} : ∀ n, (∀ j, j < n → L j = L' j) → tk_w L 0 n = tk_w L' 0 n
  | 0, _ => rfl
  | n + 1, h => by rw [tk_w_succ, tk_w_succ, tk_w_cg n (fun j hj => h j (by omega)), Nat.zero_add, h n (by omega)]
theorem wrep_eq {W W' : Int64} {L L' : Nat → Int32} {n n' : Nat} (h : wrep W L n) (h' : wrep W' L' n') : W = W' ↔ (n = n' ∧ ∀ j, j < n → L j = L' j) := by
  obtain ⟨a1, a2, rfl⟩ := h
  obtain ⟨b1, b2, rfl⟩ := h'
  constructor
  · intro he
    have e1 := tk_w_pk (T := L) (s := 0) n a1 (fun j hj => by rw [Nat.zero_add]; exact a2 j hj)
    have e2 := tk_w_pk (T := L') (s := 0) n' b1 (fun j hj => by rw [Nat.zero_add]; exact b2 j hj)
    rw [he, e2] at e1
    obtain ⟨g1, g2⟩ := pk_inj n n' (fun j hj => by
        have := ch_l_bd (a2 j hj)
        rw [Nat.zero_add]
        omega) (fun j hj => by
        have := ch_l_bd (b2 j hj)
        rw [Nat.zero_add]
        omega) e1.symm
    refine ⟨g1, fun j hj => ?_⟩
    have := g2 j hj
    rw [Nat.zero_add] at this
    exact Int32.toInt_inj.mp (by omega)
  · rintro ⟨rfl, he⟩
    exact tk_w_cg n he
theorem sw_tk (B : List Int32) : ∀ n, sw B n = tk_w (fun j => chr (B.getD j 0)) 0 n
  | 0 => rfl
  | n + 1 => by
    rw [tk_w_succ, ← sw_tk B n, Nat.zero_add]
    try rfl
set_option maxRecDepth 1000000 in
theorem strs_rep : ∀ r ∈ ev_strs, r.2.2.2.length ≤ 8 ∧ ∀ j, j < r.2.2.2.length → ch_l (chr (r.2.2.2.getD j 0)) = true := by decide +kernel
theorem sn_rep {t : Nat} {r : String × Nat × String × List Int32} (h : ev_strs[t]? = some r) : wrep (sn t) (fun j => chr (r.2.2.2.getD j 0)) r.2.2.2.length := by
  obtain ⟨a, b⟩ := strs_rep r (List.mem_of_getElem? h)
  refine ⟨a, b, ?_⟩
  unfold sn
  rw [h]
  exact sw_tk _ _
noncomputable def rn_ok (M : cm_M) : Prop := M.2.2 2 11 = some 3 ∧ M.2.2 2 12 = some 4 ∧ M.2.2 2 13 = some 5 ∧ ∃ nn, nn ≤ 16 ∧ M.1 2 10 = Int32.ofNat nn
noncomputable def nm_f (M : cm_M) : Nat → Nat → Int32
  | 0, _ => -1
  | f + 1, i => if M.1 2 3 = 1 ∧ M.2.1 3 i = M.2.1 2 6 then Int32.ofNat i else nm_f M f (i + 1)
noncomputable def cF_name (M : cm_M) : Int32 := nm_f M (M.1 2 10).toNatClampNeg 0
noncomputable def nh_f (M : cm_M) : cm_M := cm_wr M 2 11 (some 3)
noncomputable def nh_J (M : cm_M) (nn : Nat) (S : cm_S) : Prop := ∃ i, i ≤ nn ∧ cF_name M = nm_f M (nn - i) i ∧ S = (2, [(0, .ref 2), (1, .int (Int32.ofNat i))], [], nh_f M)
set_option maxRecDepth 100000 in
theorem cs_nameHere {M : cm_M} (h : rn_ok M) : cm_Lc cm_ms 82 [.ref 2] M (fun v M' => M' = M ∧ v = some (.int (cF_name M))) := by
  obtain ⟨r11, r12, r13, nn, hn, hnn⟩ := h
  have hf : nh_f M = M := wr_id r11
  refine lb_of (mi := mr_82) rfl [(2, [0, 1])] (nh_J M nn) 40 (fun S hS => ?_) 10 ?_
  · obtain ⟨i, hi, hl, rfl⟩ := hS
    have hz : M.2.1 3 (Int32.ofNat i).toNatClampNeg = M.2.1 3 i := by rw [fn_nat (by omega)]
    show (ev_cmp 3 (Int32.ofNat i) (M.1 2 10) = true → _) ∧ (ev_cmp 3 (Int32.ofNat i) (M.1 2 10) = false → (ev_cmp 1 (M.1 2 3) 1 = true → nh_J M nn (2, [(0, .ref 2), (1, .int (Int32.ofNat i + 1))], [], nh_f M)) ∧ (ev_cmp 1 (M.1 2 3) 1 = false → (ev_cmp 1 (lg_cmp (M.2.1 3 (Int32.ofNat i).toNatClampNeg) (M.2.1 2 6)) 0 = true → nh_J M nn (2, [(0, .ref 2), (1, .int (Int32.ofNat i + 1))], [], nh_f M)) ∧ (ev_cmp 1 (lg_cmp (M.2.1 3 (Int32.ofNat i).toNatClampNeg) (M.2.1 2 6)) 0 = false → _)))
    have nxt : i < nn → ¬ (M.1 2 3 = 1 ∧ M.2.1 3 i = M.2.1 2 6) → nh_J M nn (2, [(0, .ref 2), (1, .int (Int32.ofNat i + 1))], [], nh_f M) := by
      intro hlt hne
      rw [fn_succ]
      refine ⟨i + 1, by omega, ?_, rfl⟩
      rw [hl, show nn - i = (nn - (i + 1)) + 1 by omega]
      show (if _ then _ else _) = _
      rw [if_neg hne]
    refine ⟨fun h1 => ⟨hf, ?_⟩, fun h1 => ?_⟩
    · have g := fn_ge h1
      rw [hnn, fn_toInt (by omega), fn_toInt (by omega)] at g
      have : i = nn := by omega
      subst this
      rw [hl, Nat.sub_self]
      try rfl
    · have g := fn_nge h1
      rw [hnn, fn_toInt (by omega), fn_toInt (by omega)] at g
      refine ⟨fun h2 => nxt (by omega) (fun hh => fn_ne h2 hh.1), fun h2 => ⟨fun h3 => ?_, fun h3 => ⟨hf, ?_⟩⟩⟩
      · rw [hz] at h3
        exact nxt (by omega) (fun hh => fn_lne h3 hh.2)
      · rw [hz] at h3
        rw [hl, show nn - i = (nn - (i + 1)) + 1 by omega]
        show _ = some (Value.int (if _ then _ else _))
        rw [if_pos ⟨fn_eq h2, fn_leq h3⟩]
  · show nh_J M nn (2, [(0, .ref 2), (1, .int 0)], [], M)
    refine ⟨0, Nat.zero_le _, ?_, ?_⟩
    · unfold cF_name
      rw [hnn, fn_nat (by omega)]
      try rfl
    · rw [hf]
      try rfl
theorem rn_fail {M : cm_M} (x : Int32) (h : rn_ok M) : rn_ok (cF_fail x M) := by
  unfold cF_fail
  split
  · exact h
  · exact h
/-- a name that is to be new -/
noncomputable def cF_newChk (M : cm_M) : cm_M := if M.1 2 3 = 1 ∧ cF_line M = -1 then (if cF_name M = -1 then M else cF_fail 3 M) else cF_fail 1 M
theorem rs_newChk {N : Nat} {M : cm_M} (h : rs_ok N M) : rs_ok N (cF_newChk M) := by
  unfold cF_newChk
  split
  · split
    · exact h
    · exact rs_fail 3 h
  · exact rs_fail 1 h
theorem rn_newChk {M : cm_M} (h : rn_ok M) : rn_ok (cF_newChk M) := by
  unfold cF_newChk
  split
  · split
    · exact h
    · exact rn_fail 3 h
  · exact rn_fail 1 h
noncomputable def cF_put (so nu : Int32) (X : cm_M) : cm_M := if X.1 2 9 = 0 ∧ (X.1 2 10).toInt < 16 then cm_wi (cm_wi (cm_wi (cm_wl X 3 (X.1 2 10).toNatClampNeg (X.2.1 2 6)) 4 (X.1 2 10).toNatClampNeg so) 5 (X.1 2 10).toNatClampNeg nu) 2 10 (X.1 2 10 + 1) else X
theorem rs_put {N : Nat} {X : cm_M} (so nu : Int32) (h : rs_ok N X) : rs_ok N (cF_put so nu X) := by
  unfold cF_put
  split
  · exact h
  · exact h
noncomputable def cF_newName (N : Nat) (so nu : Int32) (M : cm_M) : cm_M := cF_step N (cF_put so nu (cF_newChk M))
noncomputable def rn_f (M : cm_M) : cm_M := cm_wr (cm_wr (cm_wr M 2 11 (some 3)) 2 12 (some 4)) 2 13 (some 5)
theorem rn_f_eq {M : cm_M} (h : rn_ok M) : rn_f M = M := by
  unfold rn_f
  rw [wr_id h.1, wr_id h.2.1, wr_id h.2.2.1]
noncomputable def nn_J (M : cm_M) (so nu : Int32) (S : cm_S) : Prop := S = (37, [(0, .ref 2), (1, .int so), (2, .int nu)], [], rn_f (cF_newChk M)) ∨ S = (96, [(0, .ref 2)], [], cF_put so nu (cF_newChk M))
noncomputable abbrev nn_st : List (Nat × List Nat) := [(37, [0, 1, 2]), (96, [0])]
set_option maxRecDepth 100000 in
set_option maxHeartbeats 4000000 in
theorem cs_newName {N : Nat} (so nu : Int32) {M : cm_M} (h : rs_ok N M) (hn : rn_ok M) : cm_Lc cm_ms 80 [.ref 2, .int so, .int nu] M (fun v M' => v = none ∧ M' = cF_newName N so nu M) := by
  have hX := rn_f_eq (rn_newChk hn)
  refine lb_of (mi := mr_80) rfl nn_st (nn_J M so nu) 60 (fun S hS => ?_) 40 ?_
  · rcases hS with rfl | rfl
    · generalize hXX : cF_newChk M = X at hX
      have z16 : (16 : Int32).toInt = 16 := by decide
      show (ev_cmp 1 (X.1 2 9) 0 = true → nn_J M so nu (96, [(0, .ref 2)], [], rn_f X)) ∧ (ev_cmp 1 (X.1 2 9) 0 = false → (ev_cmp 3 (X.1 2 10) 16 = true → nn_J M so nu (96, [(0, .ref 2)], [], rn_f X)) ∧ (ev_cmp 3 (X.1 2 10) 16 = false → nn_J M so nu (96, [(0, .ref 2)], [], cm_wi (cm_wi (cm_wi (cm_wl (rn_f X) 3 (X.1 2 10).toNatClampNeg (X.2.1 2 6)) 4 (X.1 2 10).toNatClampNeg so) 5 (X.1 2 10).toNatClampNeg nu) 2 10 (X.1 2 10 + 1))))
      have fin : ∀ Y, Y = cF_put so nu X → nn_J M so nu (96, [(0, .ref 2)], [], Y) := fun Y hY => Or.inr (by rw [hY, hXX])
      refine ⟨fun h1 => fin _ ?_, fun h1 => ⟨fun h2 => fin _ ?_, fun h2 => fin _ ?_⟩⟩
      · rw [hX]
        unfold cF_put
        rw [if_neg (fun hh => fn_ne h1 hh.1)]
      · rw [hX]
        have g := fn_ge h2
        unfold cF_put
        rw [if_neg (fun hh => by have := hh.2; omega)]
      · rw [hX]
        have g := fn_nge h2
        unfold cF_put
        rw [if_pos ⟨fn_eq h1, by omega⟩]
    · show ∃ R, cm_Lc cm_ms 88 [.ref 2] (cF_put so nu (cF_newChk M)) R ∧ ∀ v M', R v M' → _
      refine ⟨_, cs_step (rs_put so nu (rs_newChk h)), ?_⟩
      rintro v M' ⟨rfl, rfl⟩
      exact ⟨rfl, rfl⟩
  · have to37 : ∀ Y, Y = cF_newChk M → nn_J M so nu (37, [(0, .ref 2), (1, .int so), (2, .int nu)], [], Y) := fun Y hY => Or.inl (by rw [hY, hX])
    show (ev_cmp 1 (M.1 2 3) 1 = true → ∃ R, cm_Lc cm_ms 66 [.ref 2, .int 1] M R ∧ ∀ v M', R v M' → _) ∧ (ev_cmp 1 (M.1 2 3) 1 = false → ∃ R, cm_Lc cm_ms 84 [.ref 2] M R ∧ ∀ v M', R v M' → _)
    refine ⟨fun h1 => ⟨_, cs_fail 1 M, ?_⟩, fun h1 => ⟨_, cs_line M, ?_⟩⟩
    · rintro v M' ⟨rfl, rfl⟩
      show nn_J M so nu (37, [(0, .ref 2), (1, .int so), (2, .int nu)], [], cF_fail 1 M)
      refine to37 _ ?_
      unfold cF_newChk
      rw [if_neg (fun hh => fn_ne h1 hh.1)]
    · rintro v M' ⟨rfl, rfl⟩
      show (ev_cmp 0 (cF_line M') (-1) = true → ∃ R, cm_Lc cm_ms 82 [.ref 2] M' R ∧ ∀ v M', R v M' → _) ∧ (ev_cmp 0 (cF_line M') (-1) = false → ∃ R, cm_Lc cm_ms 66 [.ref 2, .int 1] M' R ∧ ∀ v M', R v M' → _)
      refine ⟨fun h2 => ⟨_, cs_nameHere hn, ?_⟩, fun h2 => ⟨_, cs_fail 1 M', ?_⟩⟩
      · rintro v M' ⟨rfl, rfl⟩
        show (ev_cmp 0 (cF_name M') (-1) = true → nn_J M' so nu (37, [(0, .ref 2), (1, .int so), (2, .int nu)], [], M')) ∧ (ev_cmp 0 (cF_name M') (-1) = false → ∃ R, cm_Lc cm_ms 66 [.ref 2, .int 3] M' R ∧ ∀ v M', R v M' → _)
        refine ⟨fun h3 => to37 _ ?_, fun h3 => ⟨_, cs_fail 3 M', ?_⟩⟩
        · unfold cF_newChk
          rw [if_pos ⟨fn_eq h1, fn_eq0 h2⟩, if_pos (fn_eq0 h3)]
        · rintro v M2 ⟨rfl, rfl⟩
          show nn_J M' so nu (37, [(0, .ref 2), (1, .int so), (2, .int nu)], [], cF_fail 3 M')
          refine to37 _ ?_
          unfold cF_newChk
          rw [if_pos ⟨fn_eq h1, fn_eq0 h2⟩, if_neg (fn_ne0 h3)]
      · rintro v M2 ⟨rfl, rfl⟩
        show nn_J M' so nu (37, [(0, .ref 2), (1, .int so), (2, .int nu)], [], cF_fail 1 M')
        refine to37 _ ?_
        unfold cF_newChk
        rw [if_neg (fun hh => fn_ne0 h2 hh.2)]
noncomputable def cF_told (so : Int32) (M : cm_M) : cm_M := if M.1 2 3 = 1 ∧ cF_line M = -1 then (if cF_name M = -1 ∨ M.1 4 (cF_name M).toNatClampNeg ≠ so then cF_fail 2 M else M) else cF_fail 1 M
noncomputable def cF_toldV (so : Int32) (M : cm_M) : Int32 := if (cF_told so M).1 2 9 ≠ 0 ∨ cF_name M = -1 then -1 else (cF_told so M).1 5 (cF_name M).toNatClampNeg
theorem rn_told {M : cm_M} (so : Int32) (h : rn_ok M) : rn_ok (cF_told so M) := by
  unfold cF_told
  split
  · split
    · exact rn_fail 2 h
    · exact h
  · exact rn_fail 1 h
noncomputable def th_J (M : cm_M) (so : Int32) (S : cm_S) : Prop := S = (49, [(0, .ref 2), (2, .int (cF_name M))], [], rn_f (cF_told so M))
noncomputable abbrev th_R (so : Int32) (M : cm_M) : cm_K := fun v M' => v = some (.int (cF_toldV so M)) ∧ M' = cF_told so M
set_option maxRecDepth 100000 in
set_option maxHeartbeats 4000000 in
theorem cs_told0 (so : Int32) {M0 M : cm_M} (e0 : M = rn_f M0) (hn : rn_ok M) : cm_Lc cm_ms 81 [.ref 2, .int so] (rn_f M0) (th_R so M) := by
  have hX := rn_f_eq (rn_told so hn)
  refine lb_of (mi := mr_81) rfl [(49, [0, 2])] (th_J M so) 40 (fun S hS => ?_) 40 ?_
  · rcases hS with rfl
    have hv : cF_toldV so M = if (cF_told so M).1 2 9 ≠ 0 ∨ cF_name M = -1 then -1 else (cF_told so M).1 5 (cF_name M).toNatClampNeg := rfl
    generalize hXX : cF_told so M = X at hX hv
    show (ev_cmp 1 (X.1 2 9) 0 = true → _) ∧ (ev_cmp 1 (X.1 2 9) 0 = false → (ev_cmp 1 (cF_name M) (-1) = true → _) ∧ (ev_cmp 1 (cF_name M) (-1) = false → _))
    refine ⟨fun h1 => ?_, fun h1 => ⟨fun h2 => ?_, fun h2 => ?_⟩⟩
    · show th_R so M (some (.int (-1))) (rn_f X)
      exact ⟨by rw [hv, if_pos (Or.inl (fn_ne h1))], by rw [hX, hXX]⟩
    · show th_R so M (some (.int (X.1 5 (cF_name M).toNatClampNeg))) (rn_f X)
      exact ⟨by rw [hv, if_neg (fun hh => hh.elim (fun q => q (fn_eq h1)) (fun q => fn_ne h2 q))], by rw [hX, hXX]⟩
    · show th_R so M (some (.int (-1))) (rn_f X)
      exact ⟨by rw [hv, if_pos (Or.inr (fn_eq h2))], by rw [hX, hXX]⟩
  · have to49 : ∀ Y, Y = cF_told so M → th_J M so (49, [(0, .ref 2), (2, .int (cF_name M))], [], Y) := fun Y hY => by rw [hY]; show _ = _; rw [hX]
    show ∃ R, cm_Lc cm_ms 82 [.ref 2] (rn_f M0) R ∧ ∀ v M', R v M' → _
    refine ⟨_, (by rw [← e0]; exact cs_nameHere hn : cm_Lc cm_ms 82 [.ref 2] (rn_f M0) (fun v M' => M' = rn_f M0 ∧ v = some (.int (cF_name M)))), ?_⟩
    rintro v M' ⟨rfl, rfl⟩
    show (ev_cmp 1 (M0.1 2 3) 1 = true → ∃ R, cm_Lc cm_ms 66 [.ref 2, .int 1] (rn_f M0) R ∧ ∀ v M', R v M' → _) ∧ (ev_cmp 1 (M0.1 2 3) 1 = false → ∃ R, cm_Lc cm_ms 84 [.ref 2] (rn_f M0) R ∧ ∀ v M', R v M' → _)
    have e3 : M.1 2 3 = M0.1 2 3 := by rw [e0]; try rfl
    have e4 : ∀ j, M.1 4 j = M0.1 4 j := fun j => by rw [e0]; try rfl
    have f1 : ¬ (M.1 2 3 = 1 ∧ cF_line M = -1) → cF_fail 1 (rn_f M0) = cF_told so M := fun hh => by rw [← e0]; unfold cF_told; rw [if_neg hh]
    refine ⟨fun h1 => ⟨_, cs_fail 1 _, ?_⟩, fun h1 => ⟨_, (by rw [← e0]; exact cs_line M : cm_Lc cm_ms 84 [.ref 2] (rn_f M0) (fun v M' => M' = rn_f M0 ∧ v = some (.int (cF_line M)))), ?_⟩⟩
    · rintro v M' ⟨rfl, rfl⟩
      show th_J M so (49, [(0, .ref 2), (2, .int (cF_name M))], [], cF_fail 1 (rn_f M0))
      exact to49 _ (f1 (fun hh => fn_ne h1 (e3 ▸ hh.1)))
    · rintro v M' ⟨rfl, rfl⟩
      show (ev_cmp 0 (cF_line M) (-1) = true → (ev_cmp 0 (cF_name M) (-1) = true → ∃ R, cm_Lc cm_ms 66 [.ref 2, .int 2] (rn_f M0) R ∧ ∀ v M', R v M' → _) ∧ (ev_cmp 0 (cF_name M) (-1) = false → (ev_cmp 0 (M0.1 4 (cF_name M).toNatClampNeg) so = true → th_J M so (49, [(0, .ref 2), (2, .int (cF_name M))], [], rn_f M0)) ∧ (ev_cmp 0 (M0.1 4 (cF_name M).toNatClampNeg) so = false → ∃ R, cm_Lc cm_ms 66 [.ref 2, .int 2] (rn_f M0) R ∧ ∀ v M', R v M' → _))) ∧ (ev_cmp 0 (cF_line M) (-1) = false → ∃ R, cm_Lc cm_ms 66 [.ref 2, .int 1] (rn_f M0) R ∧ ∀ v M', R v M' → _)
      have a1 : M.1 2 3 = 1 := e3.trans (fn_eq h1)
      have f2 : cF_line M = -1 → (cF_name M = -1 ∨ M.1 4 (cF_name M).toNatClampNeg ≠ so) → cF_fail 2 (rn_f M0) = cF_told so M := fun h2 hh => by rw [← e0]; unfold cF_told; rw [if_pos ⟨a1, h2⟩, if_pos hh]
      refine ⟨fun h2 => ⟨fun h3 => ⟨_, cs_fail 2 _, ?_⟩, fun h3 => ⟨fun h4 => to49 _ ?_, fun h4 => ⟨_, cs_fail 2 _, ?_⟩⟩⟩, fun h2 => ⟨_, cs_fail 1 _, ?_⟩⟩
      · rintro v M' ⟨rfl, rfl⟩
        show th_J M so (49, [(0, .ref 2), (2, .int (cF_name M))], [], cF_fail 2 (rn_f M0))
        exact to49 _ (f2 (fn_eq0 h2) (Or.inl (fn_eq0 h3)))
      · rw [← e0]
        unfold cF_told
        rw [if_pos ⟨a1, fn_eq0 h2⟩, if_neg (fun hh => hh.elim (fun q => fn_ne0 h3 q) (fun q => q ((e4 _).trans (fn_eq0 h4))))]
      · rintro v M' ⟨rfl, rfl⟩
        show th_J M so (49, [(0, .ref 2), (2, .int (cF_name M))], [], cF_fail 2 (rn_f M0))
        exact to49 _ (f2 (fn_eq0 h2) (Or.inr (fun q => fn_ne0 h4 ((e4 _).symm.trans q))))
      · rintro v M' ⟨rfl, rfl⟩
        show th_J M so (49, [(0, .ref 2), (2, .int (cF_name M))], [], cF_fail 1 (rn_f M0))
        exact to49 _ (f1 (fun hh => fn_ne0 h2 hh.2))
theorem cs_told (so : Int32) {M : cm_M} (hn : rn_ok M) : cm_Lc cm_ms 81 [.ref 2, .int so] M (th_R so M) := by
  have h := cs_told0 so (M0 := M) (M := M) (rn_f_eq hn).symm hn
  rw [rn_f_eq hn] at h
  exact h
noncomputable def tn_f6 (M : cm_M) : cm_M := cm_wr (cm_wr (cm_wr (cm_wr (cm_wr (cm_wr (cm_wr (cm_wr (cm_wr (cm_wr (cm_wr (cm_wr M 6 4 (some 7)) 6 5 (some 8)) 6 6 (some 9)) 6 7 (some 10)) 6 8 (some 11)) 6 10 (some 12)) 6 11 (some 13)) 6 12 (some 14)) 6 13 (some 15)) 6 14 (some 16)) 6 16 (some 17)) 6 17 (some 18)
noncomputable def tn_ok6 (M : cm_M) : Prop := M.2.2 6 4 = some 7 ∧ M.2.2 6 5 = some 8 ∧ M.2.2 6 6 = some 9 ∧ M.2.2 6 7 = some 10 ∧ M.2.2 6 8 = some 11 ∧ M.2.2 6 10 = some 12 ∧ M.2.2 6 11 = some 13 ∧ M.2.2 6 12 = some 14 ∧ M.2.2 6 13 = some 15 ∧ M.2.2 6 14 = some 16 ∧ M.2.2 6 16 = some 17 ∧ M.2.2 6 17 = some 18
theorem tn_f6_eq {M : cm_M} (h : tn_ok6 M) : tn_f6 M = M := by
  unfold tn_f6
  rw [wr_id h.1, wr_id (h.2.1), wr_id (h.2.2.1), wr_id (h.2.2.2.1), wr_id (h.2.2.2.2.1), wr_id (h.2.2.2.2.2.1), wr_id (h.2.2.2.2.2.2.1), wr_id (h.2.2.2.2.2.2.2.1), wr_id (h.2.2.2.2.2.2.2.2.1), wr_id (h.2.2.2.2.2.2.2.2.2.1), wr_id (h.2.2.2.2.2.2.2.2.2.2.1), wr_id (h.2.2.2.2.2.2.2.2.2.2.2)]
noncomputable def cF_addMan6 (c h0 v0 : Int32) (M : cm_M) : cm_M := if 6 ≤ (M.1 6 3).toInt then M else cm_wi (cm_wi (cm_wi (cm_wi (cm_wi (cm_wi M 7 (M.1 6 3).toNatClampNeg c) 8 (M.1 6 3).toNatClampNeg h0) 9 (M.1 6 3).toNatClampNeg v0) 10 (M.1 6 3).toNatClampNeg 0) 11 (M.1 6 3).toNatClampNeg 0) 6 3 (M.1 6 3 + 1)
set_option maxRecDepth 100000 in
theorem cs_addMan6 (c h0 v0 : Int32) {M : cm_M} (h : tn_ok6 M) : cm_Lc cm_ms 9 [.ref 6, .int c, .int h0, .int v0] M (fun v M' => v = none ∧ M' = cF_addMan6 c h0 v0 M) := by
  have e := tn_f6_eq h
  have z : (6 : Int32).toInt = 6 := by decide
  have key : cm_Lc cm_ms 9 [.ref 6, .int c, .int h0, .int v0] (tn_f6 M) (fun v M' => v = none ∧ M' = cF_addMan6 c h0 v0 M) := by
    refine lb_st0 (mi := mr_9) rfl 80 ?_
    show (ev_cmp 2 (M.1 6 3) 6 = true → _) ∧ (ev_cmp 2 (M.1 6 3) 6 = false → _)
    refine ⟨fun h1 => ?_, fun h1 => ?_⟩
    · have g := fn_lt h1
      show (none : Option Value) = none ∧ cm_wi (cm_wi (cm_wi (cm_wi (cm_wi (cm_wi (tn_f6 M) 7 (M.1 6 3).toNatClampNeg c) 8 (M.1 6 3).toNatClampNeg h0) 9 (M.1 6 3).toNatClampNeg v0) 10 (M.1 6 3).toNatClampNeg 0) 11 (M.1 6 3).toNatClampNeg 0) 6 3 (M.1 6 3 + 1) = cF_addMan6 c h0 v0 M
      unfold cF_addMan6
      rw [if_neg (by omega), e]
      exact ⟨rfl, rfl⟩
    · have g := fn_nlt h1
      show (none : Option Value) = none ∧ tn_f6 M = cF_addMan6 c h0 v0 M
      unfold cF_addMan6
      rw [if_pos (by omega), e]
      exact ⟨rfl, rfl⟩
  rw [e] at key
  exact key
noncomputable def cF_addMotion6 (c n0 w0 : Int32) (M : cm_M) : cm_M := if 5 ≤ (M.1 6 9).toInt then M else cm_wi (cm_wi (cm_wi (cm_wi (cm_wi M 12 (M.1 6 9).toNatClampNeg c) 13 (M.1 6 9).toNatClampNeg n0) 14 (M.1 6 9).toNatClampNeg w0) 15 (M.1 6 9).toNatClampNeg 0) 6 9 (M.1 6 9 + 1)
set_option maxRecDepth 100000 in
theorem cs_addMotion6 (c n0 w0 : Int32) {M : cm_M} (h : tn_ok6 M) : cm_Lc cm_ms 10 [.ref 6, .int c, .int n0, .int w0] M (fun v M' => v = none ∧ M' = cF_addMotion6 c n0 w0 M) := by
  have e := tn_f6_eq h
  have z : (5 : Int32).toInt = 5 := by decide
  have key : cm_Lc cm_ms 10 [.ref 6, .int c, .int n0, .int w0] (tn_f6 M) (fun v M' => v = none ∧ M' = cF_addMotion6 c n0 w0 M) := by
    refine lb_st0 (mi := mr_10) rfl 80 ?_
    show (ev_cmp 2 (M.1 6 9) 5 = true → _) ∧ (ev_cmp 2 (M.1 6 9) 5 = false → _)
    refine ⟨fun h1 => ?_, fun h1 => ?_⟩
    · have g := fn_lt h1
      show (none : Option Value) = none ∧ cm_wi (cm_wi (cm_wi (cm_wi (cm_wi (tn_f6 M) 12 (M.1 6 9).toNatClampNeg c) 13 (M.1 6 9).toNatClampNeg n0) 14 (M.1 6 9).toNatClampNeg w0) 15 (M.1 6 9).toNatClampNeg 0) 6 9 (M.1 6 9 + 1) = cF_addMotion6 c n0 w0 M
      unfold cF_addMotion6
      rw [if_neg (by omega), e]
      exact ⟨rfl, rfl⟩
    · have g := fn_nlt h1
      show (none : Option Value) = none ∧ tn_f6 M = cF_addMotion6 c n0 w0 M
      unfold cF_addMotion6
      rw [if_pos (by omega), e]
      exact ⟨rfl, rfl⟩
  rw [e] at key
  exact key
noncomputable def cF_addChair6 (c : Int32) (M : cm_M) : cm_M := if 5 ≤ (M.1 6 15).toInt then M else cm_wi (cm_wi M 17 (M.1 6 15).toNatClampNeg c) 6 15 (M.1 6 15 + 1)
set_option maxRecDepth 100000 in
theorem cs_addChair6 (c : Int32) {M : cm_M} (h : tn_ok6 M) : cm_Lc cm_ms 11 [.ref 6, .int c] M (fun v M' => v = none ∧ M' = cF_addChair6 c M) := by
  have e := tn_f6_eq h
  have z : (5 : Int32).toInt = 5 := by decide
  have key : cm_Lc cm_ms 11 [.ref 6, .int c] (tn_f6 M) (fun v M' => v = none ∧ M' = cF_addChair6 c M) := by
    refine lb_st0 (mi := mr_11) rfl 80 ?_
    show (ev_cmp 3 (M.1 6 15) 5 = true → _) ∧ (ev_cmp 3 (M.1 6 15) 5 = false → _)
    refine ⟨fun h1 => ?_, fun h1 => ?_⟩
    · have g := fn_ge h1
      show (none : Option Value) = none ∧ tn_f6 M = cF_addChair6 c M
      unfold cF_addChair6
      rw [if_pos (by omega), e]
      exact ⟨rfl, rfl⟩
    · have g := fn_nge h1
      show (none : Option Value) = none ∧ cm_wi (cm_wi (tn_f6 M) 17 (M.1 6 15).toNatClampNeg c) 6 15 (M.1 6 15 + 1) = cF_addChair6 c M
      unfold cF_addChair6
      rw [if_neg (by omega), e]
      exact ⟨rfl, rfl⟩
  rw [e] at key
  exact key
noncomputable def tn_f19 (M : cm_M) : cm_M := cm_wr (cm_wr (cm_wr (cm_wr (cm_wr (cm_wr (cm_wr (cm_wr (cm_wr (cm_wr (cm_wr (cm_wr M 19 4 (some 20)) 19 5 (some 21)) 19 6 (some 22)) 19 7 (some 23)) 19 8 (some 24)) 19 10 (some 25)) 19 11 (some 26)) 19 12 (some 27)) 19 13 (some 28)) 19 14 (some 29)) 19 16 (some 30)) 19 17 (some 31)
noncomputable def tn_ok19 (M : cm_M) : Prop := M.2.2 19 4 = some 20 ∧ M.2.2 19 5 = some 21 ∧ M.2.2 19 6 = some 22 ∧ M.2.2 19 7 = some 23 ∧ M.2.2 19 8 = some 24 ∧ M.2.2 19 10 = some 25 ∧ M.2.2 19 11 = some 26 ∧ M.2.2 19 12 = some 27 ∧ M.2.2 19 13 = some 28 ∧ M.2.2 19 14 = some 29 ∧ M.2.2 19 16 = some 30 ∧ M.2.2 19 17 = some 31
theorem tn_f19_eq {M : cm_M} (h : tn_ok19 M) : tn_f19 M = M := by
  unfold tn_f19
  rw [wr_id h.1, wr_id (h.2.1), wr_id (h.2.2.1), wr_id (h.2.2.2.1), wr_id (h.2.2.2.2.1), wr_id (h.2.2.2.2.2.1), wr_id (h.2.2.2.2.2.2.1), wr_id (h.2.2.2.2.2.2.2.1), wr_id (h.2.2.2.2.2.2.2.2.1), wr_id (h.2.2.2.2.2.2.2.2.2.1), wr_id (h.2.2.2.2.2.2.2.2.2.2.1), wr_id (h.2.2.2.2.2.2.2.2.2.2.2)]
noncomputable def cF_addMan19 (c h0 v0 : Int32) (M : cm_M) : cm_M := if 6 ≤ (M.1 19 3).toInt then M else cm_wi (cm_wi (cm_wi (cm_wi (cm_wi (cm_wi M 20 (M.1 19 3).toNatClampNeg c) 21 (M.1 19 3).toNatClampNeg h0) 22 (M.1 19 3).toNatClampNeg v0) 23 (M.1 19 3).toNatClampNeg 0) 24 (M.1 19 3).toNatClampNeg 0) 19 3 (M.1 19 3 + 1)
set_option maxRecDepth 100000 in
theorem cs_addMan19 (c h0 v0 : Int32) {M : cm_M} (h : tn_ok19 M) : cm_Lc cm_ms 9 [.ref 19, .int c, .int h0, .int v0] M (fun v M' => v = none ∧ M' = cF_addMan19 c h0 v0 M) := by
  have e := tn_f19_eq h
  have z : (6 : Int32).toInt = 6 := by decide
  have key : cm_Lc cm_ms 9 [.ref 19, .int c, .int h0, .int v0] (tn_f19 M) (fun v M' => v = none ∧ M' = cF_addMan19 c h0 v0 M) := by
    refine lb_st0 (mi := mr_9) rfl 80 ?_
    show (ev_cmp 2 (M.1 19 3) 6 = true → _) ∧ (ev_cmp 2 (M.1 19 3) 6 = false → _)
    refine ⟨fun h1 => ?_, fun h1 => ?_⟩
    · have g := fn_lt h1
      show (none : Option Value) = none ∧ cm_wi (cm_wi (cm_wi (cm_wi (cm_wi (cm_wi (tn_f19 M) 20 (M.1 19 3).toNatClampNeg c) 21 (M.1 19 3).toNatClampNeg h0) 22 (M.1 19 3).toNatClampNeg v0) 23 (M.1 19 3).toNatClampNeg 0) 24 (M.1 19 3).toNatClampNeg 0) 19 3 (M.1 19 3 + 1) = cF_addMan19 c h0 v0 M
      unfold cF_addMan19
      rw [if_neg (by omega), e]
      exact ⟨rfl, rfl⟩
    · have g := fn_nlt h1
      show (none : Option Value) = none ∧ tn_f19 M = cF_addMan19 c h0 v0 M
      unfold cF_addMan19
      rw [if_pos (by omega), e]
      exact ⟨rfl, rfl⟩
  rw [e] at key
  exact key
noncomputable def cF_addMotion19 (c n0 w0 : Int32) (M : cm_M) : cm_M := if 5 ≤ (M.1 19 9).toInt then M else cm_wi (cm_wi (cm_wi (cm_wi (cm_wi M 25 (M.1 19 9).toNatClampNeg c) 26 (M.1 19 9).toNatClampNeg n0) 27 (M.1 19 9).toNatClampNeg w0) 28 (M.1 19 9).toNatClampNeg 0) 19 9 (M.1 19 9 + 1)
set_option maxRecDepth 100000 in
theorem cs_addMotion19 (c n0 w0 : Int32) {M : cm_M} (h : tn_ok19 M) : cm_Lc cm_ms 10 [.ref 19, .int c, .int n0, .int w0] M (fun v M' => v = none ∧ M' = cF_addMotion19 c n0 w0 M) := by
  have e := tn_f19_eq h
  have z : (5 : Int32).toInt = 5 := by decide
  have key : cm_Lc cm_ms 10 [.ref 19, .int c, .int n0, .int w0] (tn_f19 M) (fun v M' => v = none ∧ M' = cF_addMotion19 c n0 w0 M) := by
    refine lb_st0 (mi := mr_10) rfl 80 ?_
    show (ev_cmp 2 (M.1 19 9) 5 = true → _) ∧ (ev_cmp 2 (M.1 19 9) 5 = false → _)
    refine ⟨fun h1 => ?_, fun h1 => ?_⟩
    · have g := fn_lt h1
      show (none : Option Value) = none ∧ cm_wi (cm_wi (cm_wi (cm_wi (cm_wi (tn_f19 M) 25 (M.1 19 9).toNatClampNeg c) 26 (M.1 19 9).toNatClampNeg n0) 27 (M.1 19 9).toNatClampNeg w0) 28 (M.1 19 9).toNatClampNeg 0) 19 9 (M.1 19 9 + 1) = cF_addMotion19 c n0 w0 M
      unfold cF_addMotion19
      rw [if_neg (by omega), e]
      exact ⟨rfl, rfl⟩
    · have g := fn_nlt h1
      show (none : Option Value) = none ∧ tn_f19 M = cF_addMotion19 c n0 w0 M
      unfold cF_addMotion19
      rw [if_pos (by omega), e]
      exact ⟨rfl, rfl⟩
  rw [e] at key
  exact key
noncomputable def cF_addChair19 (c : Int32) (M : cm_M) : cm_M := if 5 ≤ (M.1 19 15).toInt then M else cm_wi (cm_wi M 30 (M.1 19 15).toNatClampNeg c) 19 15 (M.1 19 15 + 1)
set_option maxRecDepth 100000 in
theorem cs_addChair19 (c : Int32) {M : cm_M} (h : tn_ok19 M) : cm_Lc cm_ms 11 [.ref 19, .int c] M (fun v M' => v = none ∧ M' = cF_addChair19 c M) := by
  have e := tn_f19_eq h
  have z : (5 : Int32).toInt = 5 := by decide
  have key : cm_Lc cm_ms 11 [.ref 19, .int c] (tn_f19 M) (fun v M' => v = none ∧ M' = cF_addChair19 c M) := by
    refine lb_st0 (mi := mr_11) rfl 80 ?_
    show (ev_cmp 3 (M.1 19 15) 5 = true → _) ∧ (ev_cmp 3 (M.1 19 15) 5 = false → _)
    refine ⟨fun h1 => ?_, fun h1 => ?_⟩
    · have g := fn_ge h1
      show (none : Option Value) = none ∧ tn_f19 M = cF_addChair19 c M
      unfold cF_addChair19
      rw [if_pos (by omega), e]
      exact ⟨rfl, rfl⟩
    · have g := fn_nge h1
      show (none : Option Value) = none ∧ cm_wi (cm_wi (tn_f19 M) 30 (M.1 19 15).toNatClampNeg c) 19 15 (M.1 19 15 + 1) = cF_addChair19 c M
      unfold cF_addChair19
      rw [if_neg (by omega), e]
      exact ⟨rfl, rfl⟩
  rw [e] at key
  exact key
noncomputable def cF_takeWord (N t : Nat) (M : cm_M) : cm_M := cF_step N (cF_due t M)
noncomputable def cF_takeWhole (N : Nat) (lo hi : Int32) (M : cm_M) : cm_M := cF_step N (cF_whole lo hi M)
noncomputable def fm (D : cm_M) : cm_M := (D.1, D.2.1, fun c i => if c = 124 then (if i = 16 then some 128 else if i = 15 then some 127 else if i = 17 then some 129 else if i = 12 then some 126 else if i = 1 then some 125 else if i = 22 then some 132 else if i = 18 then some 130 else if i = 19 then some 131 else if i = 23 then some 133 else if i = 24 then some 134 else if i = 26 then some 135 else D.2.2 124 i) else D.2.2 c i)
/-- the two tokens -/
noncomputable def tw (C D : cm_M) : Prop := (C.1 2 3 = 0 ∧ D.1 124 6 = 0) ∨ (C.1 2 3 = 1 ∧ D.1 124 6 = 2 ∧ ∃ ns : Nat, 0 < ns ∧ D.1 124 8 = Int32.ofNat ns ∧ wrep (C.2.1 2 6) (D.1 126) ns) ∨ (C.1 2 3 = 2 ∧ D.1 124 6 = 3 ∧ D.1 124 7 = C.1 2 5) ∨ (C.1 2 3 = 3 ∧ D.1 124 6 = 59) ∨ (C.1 2 3 = 4 ∧ D.1 124 6 = 1)
noncomputable def rt (N : Nat) (C D : cm_M) : Prop := (∀ j, j < N → tb (C.1 1 j) (D.1 125 j)) ∧ rs_ok N C ∧ D.1 124 3 = Int32.ofNat N ∧ D.1 124 5 = C.1 2 2 ∧ D.1 124 4 = C.1 2 4 ∧ tw C D
/-- what the reference's reader leaves alone: as it stands in the class's memory too -/
noncomputable def prC (c j : Nat) : Prop := (127 ≤ c ∧ c ≠ 128) ∨ (c = 124 ∧ 14 ≤ j)
noncomputable def fl (C D : cm_M) : Prop := ((C.1 2 9 = 0 ∧ D.1 124 13 = 0 ∧ D.1 124 9 = 0) ∨ (C.1 2 9 ≠ 0 ∧ D.1 124 13 = 1 ∧ D.1 124 9 = C.1 2 9 ∧ D.1 124 10 = C.1 2 4)) ∧ (D.1 124 0 = 0 ∧ D.1 124 2 = 0 ∧ D.1 124 11 = 0) ∧ ∀ c j, prC c j → D.1 c j = C.1 c j
theorem wi_n2 {M : cm_M} {c i x y : Nat} {v : Int32} (h : ¬ (x = c ∧ y = i)) : (cm_wi M c i v).1 x y = M.1 x y := by
  show (if x = c ∧ y = i then _ else _) = _
  rw [if_neg h]
noncomputable def Rq (N : Nat) (C D : cm_M) : Prop := rt N C D ∧ fl C D
noncomputable abbrev mq (N : Nat) (C' D : cm_M) : cm_K := fun v M' => v = none ∧ ∃ D', M' = fm D' ∧ Rq N C' D' ∧ D'.1 128 = D.1 128
theorem fl_0 {C D : cm_M} (h : fl C D) (hc : D.1 124 13 = 0) : C.1 2 9 = 0 := by
  rcases h.1 with h | h
  · exact h.1
  · rw [h.2.1] at hc
    exact absurd hc (by decide)
theorem fl_1 {C D : cm_M} (h : fl C D) (hc : D.1 124 13 ≠ 0) : C.1 2 9 ≠ 0 := by
  rcases h.1 with h | h
  · exact absurd h.2.1 hc
  · exact h.1
theorem fl_c {C D : cm_M} (h : fl C D) (hc : C.1 2 9 = 0) : D.1 124 13 = 0 := by
  rcases h.1 with h | h
  · exact h.2.1
  · exact absurd hc h.1
theorem fl_9 {C D : cm_M} (h : fl C D) (hc : C.1 2 9 = 0) : D.1 124 9 = 0 := by
  rcases h.1 with h | h
  · exact h.2.2
  · exact absurd hc h.1
theorem fl_b {C D : cm_M} (h : fl C D) (hc : C.1 2 9 ≠ 0) : D.1 124 9 = C.1 2 9 ∧ D.1 124 10 = C.1 2 4 := by
  rcases h.1 with h | h
  · exact absurd h.1 hc
  · exact h.2.2
/-- a fault is told on both sides -/
theorem Rq_fail {N : Nat} {C D : cm_M} (h : Rq N C D) (h0 : C.1 2 9 = 0) {x : Int32} (hx : x ≠ 0) : Rq N (cF_fail x C) (cm_wi (cm_wi (cm_wi D 124 13 1) 124 9 x) 124 10 (D.1 124 4)) := by
  obtain ⟨⟨a1, a2, a3, a4, a5, a6⟩, b⟩ := h
  refine ⟨⟨?_, rs_fail x a2, a3, ?_, ?_, ?_⟩, ?_⟩
  · intro j hj
    unfold cF_fail
    rw [if_pos h0]
    exact a1 j hj
  · unfold cF_fail
    rw [if_pos h0]
    exact a4
  · unfold cF_fail
    rw [if_pos h0]
    exact a5
  · unfold cF_fail
    rw [if_pos h0]
    exact a6
  · unfold cF_fail
    rw [if_pos h0]
    refine ⟨Or.inr ⟨hx, rfl, rfl, a5⟩, b.2.1, fun c j q => ?_⟩
    unfold prC at q
    rw [wi_n2 (by omega), wi_n2 (by omega), wi_n2 (by omega), wi_n2 (by omega)]
    exact b.2.2 c j q
theorem cF_fail_id {x : Int32} {C : cm_M} (h : C.1 2 9 ≠ 0) : cF_fail x C = C := by
  unfold cF_fail
  rw [if_neg h]
theorem cF_fail_9 {x : Int32} {C : cm_M} (h : C.1 2 9 = 0) : (cF_fail x C).1 2 9 = x := by
  unfold cF_fail
  rw [if_pos h]
  try rfl
theorem cF_fail_9n {x : Int32} {C : cm_M} (hx : x ≠ 0) : (cF_fail x C).1 2 9 ≠ 0 := by
  by_cases h : C.1 2 9 = 0
  · rw [cF_fail_9 h]
    exact hx
  · rw [cF_fail_id h]
    exact h
theorem cF_step_id {N : Nat} {C : cm_M} (h : C.1 2 9 ≠ 0) : cF_step N C = C := by
  unfold cF_step
  rw [if_neg h]
theorem cF_step_9 {N : Nat} {C : cm_M} : (cF_step N C).1 2 9 = C.1 2 9 := by
  unfold cF_step
  split
  · rfl
  · rfl
/-- the next token on both sides -/
theorem Rq_next {N : Nat} {C D D' : cm_M} (h : Rq N C D) (h0 : C.1 2 9 = 0) (hn : ∃ k : Nat, k ≤ N ∧ C.1 2 2 = Int32.ofNat k ∧ ∃ s e tok wh ns, tk_e ch_s (D.1 125) N k s ∧ mk_k (D.1 125) N s e tok wh ns ∧ D' = nx_m D s e tok wh ns) : Rq N (cF_step N C) D' := by
  obtain ⟨⟨a1, a2, a3, a4, a5, a6⟩, b⟩ := h
  obtain ⟨k, hk, hk2, s, e, tok, wh, ns, t1, t2, rfl⟩ := hn
  have hN9 := a2.2.2.1
  have r2 := rs_step a2
  have ht : tk_Q (C.1 1) N k (cF_tok N C) := by
    unfold cF_tok
    rw [hk2, fn_nat (by omega)]
    exact tk_of_ok hk
  obtain ⟨e1, e2, e3⟩ := tk_two a1 ht.1 ht.2 t1 t2
  have hb := fl_c b h0
  have hb9 := fl_9 b h0
  have es : cF_step N C = tk_m C (cF_tok N C).1 (cF_tok N C).2.1 (cF_tok N C).2.2.1 (cF_tok N C).2.2.2.1 (cF_tok N C).2.2.2.2 := by
    unfold cF_step
    rw [if_pos h0]
  rw [es] at r2 ⊢
  generalize cF_tok N C = t at ht e1 e2 e3 r2
  obtain ⟨s0, e0, kd, va, wd⟩ := t
  dsimp only at e1 e2 e3 r2 ht ⊢
  subst e1
  subst e2
  refine ⟨⟨a1, r2, a3, rfl, rfl, ?_⟩, Or.inl ⟨h0, hb, hb9⟩, b.2.1, fun c j q => ?_⟩
  rotate_left
  · unfold prC at q
    have e1 : (nx_m D s e tok wh ns).1 c j = D.1 c j := by
      unfold nx_m
      rw [wi_n2 (by omega), wi_n2 (by omega), wi_n2 (by omega), wi_n2 (by omega), wi_n2 (by omega)]
      show (if c = 126 ∧ j < min ns 8 then _ else _) = _
      rw [if_neg (by omega)]
    have e2 : (tk_m C s e kd va wd).1 c j = C.1 c j := by
      show (cm_wi (cm_wi (cm_wi (cm_wi C 2 4 _) 2 5 _) 2 2 _) 2 3 _).1 c j = _
      rw [wi_n2 (by omega), wi_n2 (by omega), wi_n2 (by omega), wi_n2 (by omega)]
    rw [e1, e2]
    exact b.2.2 c j q
  rcases e3 with ⟨q1, q2⟩ | ⟨q1, q2, q3, q4, q5, q6, q7⟩ | ⟨q1, q2, q3⟩ | ⟨q1, q2⟩ | ⟨q1, q2⟩
  · exact Or.inl ⟨q1, q2⟩
  · refine Or.inr (Or.inl ⟨q1, q2, ns, q5, rfl, q4, ?_, ?_⟩)
    · intro j hj
      have hjs : s + j < e := by omega
      have h1 := q7 (s + j) (by omega) hjs
      have eN : e ≤ N := tk_k_e ht.1.2.1 ht.2
      have hL : (nx_m D s e tok wh ns).1 126 j = D.1 125 (s + j) := by
        show (if 126 = 126 ∧ j < min ns 8 then D.1 125 (s + j) else _) = _
        rw [if_pos ⟨rfl, by omega⟩]
      rw [hL]
      have := tb_l (a1 (s + j) (by omega))
      rw [this]
      exact h1
    · show wd = _
      rw [q6, tk_w_sh]
      refine tk_w_cg ns (fun j hj => ?_)
      have hjs : s + j < e := by omega
      have h1 := q7 (s + j) (by omega) hjs
      have eN : e ≤ N := tk_k_e ht.1.2.1 ht.2
      have hL : (nx_m D s e tok wh ns).1 126 j = D.1 125 (s + j) := by
        show (if 126 = 126 ∧ j < min ns 8 then D.1 125 (s + j) else _) = _
        rw [if_pos ⟨rfl, by omega⟩]
      rw [hL]
      exact (tb_eq (a1 (s + j) (by omega)) (Or.inl h1)).symm
  · exact Or.inr (Or.inr (Or.inl ⟨q1, q2, q3.symm⟩))
  · exact Or.inr (Or.inr (Or.inr (Or.inl ⟨q1, q2⟩)))
  · exact Or.inr (Or.inr (Or.inr (Or.inr ⟨q1, q2⟩)))
theorem m_next {N : Nat} {C D : cm_M} (h : Rq N C D) (h0 : C.1 2 9 = 0) : cm_Lc cm_ms 176 [.ref 124] (fm D) (mq N (cF_step N C) D) := by
  obtain ⟨k, hk, hk2⟩ := h.1.2.1.2.2.2
  have hN9 := h.1.2.1.2.2.1
  refine cm_Lc_im (fn_next (M := fm D) (N := N) (k := k) rfl rfl h.1.2.2.1 hN9 (fun j hj => (h.1.1 j hj).1) (h.1.2.2.2.1.trans hk2) hk) (fun v M' q => ?_)
  obtain ⟨q1, s, e, tok, wh, ns, q2, q3, q4⟩ := q
  exact ⟨q1, nx_m D s e tok wh ns, q4, Rq_next h h0 ⟨k, hk, hk2, s, e, tok, wh, ns, q2, q3, rfl⟩, rfl⟩
theorem m_isWord {N t : Nat} (ht : t < 40) {C D : cm_M} (h : Rq N C D) : cm_Lc cm_ms 178 [.ref 124, .ref (1001 + 2 * t)] (fm D) (fun v M' => v = some (.int (bi (decide (C.1 2 9 = 0) && wt t C))) ∧ M' = fm D) := by
  obtain ⟨r, h1, h2, h3⟩ := strs_at ht
  refine cm_Lc_im (fn_mIsWord h1 h2 (M := fm D) rfl rfl) (fun v M' q => ⟨?_, q.1⟩)
  rw [q.2]
  congr 3
  have e13 : decide ((fm D).1 124 13 = 0) = decide (C.1 2 9 = 0) := by
    refine decide_eq_decide.mpr ⟨fun hh => fl_0 h.2 hh, fun hh => fl_c h.2 hh⟩
  rw [e13]
  congr 1
  have hr : ev_strs[t]? = some r := by
    have e : (1001 + 2 * t + 1 - 1001) / 2 = t := by omega
    rw [← e]
    exact h1
  have hrep := sn_rep hr
  have hl8 := hrep.1
  unfold wt
  rcases h.1.2.2.2.2.2 with ⟨a, b⟩ | ⟨a, b, ns, c1, c2, c3⟩ | ⟨a, b, -⟩ | ⟨a, b⟩ | ⟨a, b⟩
  · rw [a, show (fm D).1 124 6 = 0 from b]; try rfl
  · rw [a, show (fm D).1 124 6 = 2 from b]
    show (true && _) = (true && _)
    rw [Bool.true_and, Bool.true_and]
    rw [show (fm D).1 124 8 = Int32.ofNat ns from c2]
    have hw := wrep_eq c3 hrep
    have hns := c3.1
    have e8 : (Int32.ofNat ns = Int32.ofNat r.2.2.2.length) ↔ ns = r.2.2.2.length := by
      constructor
      · intro hh
        have := congrArg Int32.toInt hh
        rw [fn_toInt (by omega), fn_toInt (by omega)] at this
        omega
      · intro hh
        rw [hh]
    by_cases hn : ns = r.2.2.2.length
    · rw [decide_eq_true (e8.mpr hn), Bool.true_and]
      unfold mw_same
      refine decide_eq_decide.mpr ⟨fun hh => hw.mpr ⟨hn, fun j hj => hh j (by omega)⟩, fun hh k hk => (hw.mp hh).2 k (by omega)⟩
    · rw [decide_eq_false (fun hh => hn (e8.mp hh)), Bool.false_and, decide_eq_false (fun hh => hn (hw.mp hh).1)]
  · rw [a, show (fm D).1 124 6 = 3 from b]; try rfl
  · rw [a, show (fm D).1 124 6 = 59 from b]; try rfl
  · rw [a, show (fm D).1 124 6 = 1 from b]; try rfl
set_option maxRecDepth 100000 in
set_option maxHeartbeats 4000000 in
theorem m_wrong {N : Nat} {C D : cm_M} (h : Rq N C D) {x : Int32} (hx : x ≠ 0) : cm_Lc cm_ms 177 [.ref 124, .int x, .int (D.1 124 4)] (fm D) (mq N (cF_fail x C) D) := by
  refine lb_st0 (mi := mr_177) rfl 60 ?_
  show (ev_cmp 0 (D.1 124 13) 0 = true → _) ∧ (ev_cmp 0 (D.1 124 13) 0 = false → _)
  refine ⟨fun h1 => ?_, fun h1 => ?_⟩
  · have z1 : C.1 2 9 = 0 := fl_0 h.2 (fn_eq0 h1)
    show mq N (cF_fail x C) D none (cm_wi (cm_wi (cm_wi (fm D) 124 13 1) 124 9 x) 124 10 (D.1 124 4))
    exact ⟨rfl, _, rfl, Rq_fail h z1 hx, rfl⟩
  · have z1 : C.1 2 9 ≠ 0 := fl_1 h.2 (fn_ne0 h1)
    show mq N (cF_fail x C) D none (fm D)
    refine ⟨rfl, D, rfl, ?_, rfl⟩
    rw [cF_fail_id z1]
    exact h
set_option maxRecDepth 100000 in
set_option maxHeartbeats 4000000 in
theorem m_pass {N : Nat} {C D : cm_M} (h : Rq N C D) : cm_Lc cm_ms 187 [.ref 124] (fm D) (mq N (cF_step N C) D) := by
  refine lb_st0 (mi := mr_187) rfl 60 ?_
  show (ev_cmp 1 (D.1 124 13) 0 = true → _) ∧ (ev_cmp 1 (D.1 124 13) 0 = false → _)
  refine ⟨fun h1 => ?_, fun h1 => ?_⟩
  · have z1 : C.1 2 9 ≠ 0 := fl_1 h.2 (fn_ne h1)
    show mq N (cF_step N C) D none (fm D)
    refine ⟨rfl, D, rfl, ?_, rfl⟩
    rw [cF_step_id z1]
    exact h
  · have z1 : C.1 2 9 = 0 := fl_0 h.2 (fn_eq h1)
    show ∃ R, cm_Lc cm_ms 176 [.ref 124] (fm D) R ∧ ∀ v M', R v M' → _
    refine ⟨_, m_next h z1, ?_⟩
    rintro v M' ⟨rfl, D1, rfl, r1, f1⟩
    show mq N (cF_step N C) D none (fm D1)
    exact ⟨rfl, D1, rfl, r1, f1⟩
noncomputable abbrev mt_R (N t : Nat) (C D : cm_M) : cm_K := fun v M' => v = some (.int (bi (decide (C.1 2 9 = 0) && wt t C))) ∧ ∃ D', M' = fm D' ∧ Rq N (if (decide (C.1 2 9 = 0) && wt t C) = true then cF_step N C else C) D' ∧ D'.1 128 = D.1 128
theorem and_l {a b : Bool} (h : (a && b) = true) : a = true := by
  cases a
  · cases h
  · rfl
theorem and_r {a b : Bool} (h : (a && b) = true) : b = true := by
  cases a
  · cases h
  · exact h
theorem and_f {a b : Bool} (h : (a && b) = false) (ha : a = true) : b = false := by
  rw [ha] at h
  exact h
set_option maxRecDepth 100000 in
set_option maxHeartbeats 4000000 in
theorem m_takesWord {N t : Nat} (ht : t < 40) {C D : cm_M} (h : Rq N C D) : cm_Lc cm_ms 179 [.ref 124, .ref (1001 + 2 * t)] (fm D) (mt_R N t C D) := by
  refine lb_st0 (mi := mr_179) rfl 60 ?_
  show ∃ R, cm_Lc cm_ms 178 [.ref 124, .ref (1001 + 2 * t)] (fm D) R ∧ ∀ v M', R v M' → _
  refine ⟨_, m_isWord (t := t) ht h, ?_⟩
  rintro v M' ⟨rfl, rfl⟩
  show (ev_cmp 1 (bi (decide (C.1 2 9 = 0) && wt t C)) 0 = true → _) ∧ (ev_cmp 1 (bi (decide (C.1 2 9 = 0) && wt t C)) 0 = false → _)
  refine ⟨fun h1 => ?_, fun h1 => ?_⟩
  · have w1 : (decide (C.1 2 9 = 0) && wt t C) = true := bi_n1 h1
    show ∃ R, cm_Lc cm_ms 176 [.ref 124] (fm D) R ∧ ∀ v M', R v M' → _
    refine ⟨_, m_next h (of_decide_eq_true (and_l w1)), ?_⟩
    rintro v M' ⟨rfl, D1, rfl, r1, f1⟩
    show mt_R N t C D (some (.int 1)) (fm D1)
    refine ⟨by rw [w1]; try rfl, D1, rfl, ?_, f1⟩
    rw [if_pos w1]
    exact r1
  · have w1 : (decide (C.1 2 9 = 0) && wt t C) = false := bi_n0 h1
    show mt_R N t C D (some (.int 0)) (fm D)
    refine ⟨by rw [w1]; try rfl, D, rfl, ?_, rfl⟩
    rw [if_neg (by rw [w1]; decide)]
    exact h
theorem tkw_id {N t : Nat} {C : cm_M} (h : C.1 2 9 ≠ 0) : cF_takeWord N t C = C := by
  unfold cF_takeWord cF_due
  split
  · exact cF_step_id h
  · rw [cF_fail_id h]
    exact cF_step_id h
theorem tkw_ok {N t : Nat} {C : cm_M} (h : wt t C = true) : cF_takeWord N t C = cF_step N C := by
  unfold cF_takeWord cF_due
  rw [if_pos h]
theorem tkw_no {N t : Nat} {C : cm_M} (h : wt t C = false) : cF_takeWord N t C = cF_fail 1 C := by
  unfold cF_takeWord cF_due
  rw [if_neg (by rw [h]; decide)]
  exact cF_step_id (cF_fail_9n (by decide))
set_option maxRecDepth 100000 in
set_option maxHeartbeats 4000000 in
theorem m_must {N t : Nat} (ht : t < 40) {C D : cm_M} (h : Rq N C D) : cm_Lc cm_ms 180 [.ref 124, .ref (1001 + 2 * t)] (fm D) (mq N (cF_takeWord N t C) D) := by
  refine lb_st0 (mi := mr_180) rfl 60 ?_
  show (ev_cmp 1 (D.1 124 13) 0 = true → _) ∧ (ev_cmp 1 (D.1 124 13) 0 = false → _)
  refine ⟨fun h1 => ?_, fun h1 => ?_⟩
  · have z1 : C.1 2 9 ≠ 0 := fl_1 h.2 (fn_ne h1)
    show mq N (cF_takeWord N t C) D none (fm D)
    refine ⟨rfl, D, rfl, ?_, rfl⟩
    rw [tkw_id z1]
    exact h
  · have z1 : C.1 2 9 = 0 := fl_0 h.2 (fn_eq h1)
    show ∃ R, cm_Lc cm_ms 179 [.ref 124, .ref (1001 + 2 * t)] (fm D) R ∧ ∀ v M', R v M' → _
    refine ⟨_, m_takesWord (t := t) ht h, ?_⟩
    rintro v M' ⟨rfl, D1, rfl, r1, f1⟩
    show (ev_cmp 1 (bi (decide (C.1 2 9 = 0) && wt t C)) 0 = true → _) ∧ (ev_cmp 1 (bi (decide (C.1 2 9 = 0) && wt t C)) 0 = false → _)
    refine ⟨fun h2 => ?_, fun h2 => ?_⟩
    · have w2 : (decide (C.1 2 9 = 0) && wt t C) = true := bi_n1 h2
      show mq N (cF_takeWord N t C) D none (fm D1)
      refine ⟨rfl, D1, rfl, ?_, f1⟩
      rw [tkw_ok (and_r w2)]
      rw [if_pos w2] at r1
      exact r1
    · have w2 : (decide (C.1 2 9 = 0) && wt t C) = false := bi_n0 h2
      show ∃ R, cm_Lc cm_ms 177 [.ref 124, .int 1, .int (D1.1 124 4)] (fm D1) R ∧ ∀ v M', R v M' → _
      refine ⟨_, m_wrong (x := 1) (C := C) (by rw [if_neg (by rw [w2]; decide)] at r1; exact r1) (by decide), ?_⟩
      rintro v M' ⟨rfl, D2, rfl, r2, f2⟩
      show mq N (cF_takeWord N t C) D none (fm D2)
      refine ⟨rfl, D2, rfl, ?_, f2.trans f1⟩
      rw [tkw_no (and_f w2 (decide_eq_true z1))]
      exact r2
theorem m_in (x lo hi : Int32) (M : cm_M) : cm_Lc cm_ms 167 [.int x, .int lo, .int hi] M (fun v M' => v = some (.int (bi (decide (lo ≤ x) && decide (x ≤ hi)))) ∧ M' = M) := by
  refine lb_st0 (mi := mr_167) rfl 20 ?_
  show (ev_cmp 2 x lo = true → _) ∧ (ev_cmp 2 x lo = false → (ev_cmp 4 x hi = true → _) ∧ (ev_cmp 4 x hi = false → _))
  refine ⟨fun h => ?_, fun h => ⟨fun h2 => ?_, fun h2 => ?_⟩⟩
  · have g := fn_lt h
    refine ⟨?_, rfl⟩
    rw [decide_eq_false (fun hh => by rw [Int32.le_iff_toInt_le] at hh; omega)]
    try rfl
  · have g := fn_gt h2
    refine ⟨?_, rfl⟩
    rw [decide_eq_false (p := x ≤ hi) (fun hh => by rw [Int32.le_iff_toInt_le] at hh; omega), Bool.and_false]
    try rfl
  · have g := fn_nlt h
    have g2 := fn_ngt h2
    refine ⟨?_, rfl⟩
    rw [decide_eq_true (Int32.le_iff_toInt_le.mpr g), decide_eq_true (Int32.le_iff_toInt_le.mpr g2)]
    try rfl
theorem tw_0 {N : Nat} {C D : cm_M} (h : Rq N C D) : D.1 124 6 = 0 ↔ C.1 2 3 = 0 := by
  rcases h.1.2.2.2.2.2 with ⟨a, b⟩ | ⟨a, b, -⟩ | ⟨a, b, -⟩ | ⟨a, b⟩ | ⟨a, b⟩ <;> (rw [a, b] <;> decide)
theorem tw_1 {N : Nat} {C D : cm_M} (h : Rq N C D) : D.1 124 6 = 2 ↔ C.1 2 3 = 1 := by
  rcases h.1.2.2.2.2.2 with ⟨a, b⟩ | ⟨a, b, -⟩ | ⟨a, b, -⟩ | ⟨a, b⟩ | ⟨a, b⟩ <;> (rw [a, b] <;> decide)
theorem tw_2 {N : Nat} {C D : cm_M} (h : Rq N C D) : D.1 124 6 = 3 ↔ C.1 2 3 = 2 := by
  rcases h.1.2.2.2.2.2 with ⟨a, b⟩ | ⟨a, b, -⟩ | ⟨a, b, -⟩ | ⟨a, b⟩ | ⟨a, b⟩ <;> (rw [a, b] <;> decide)
theorem tw_3 {N : Nat} {C D : cm_M} (h : Rq N C D) : D.1 124 6 = 59 ↔ C.1 2 3 = 3 := by
  rcases h.1.2.2.2.2.2 with ⟨a, b⟩ | ⟨a, b, -⟩ | ⟨a, b, -⟩ | ⟨a, b⟩ | ⟨a, b⟩ <;> (rw [a, b] <;> decide)
theorem tw_v {N : Nat} {C D : cm_M} (h : Rq N C D) (h2 : C.1 2 3 = 2) : D.1 124 7 = C.1 2 5 := by
  rcases h.1.2.2.2.2.2 with ⟨a, b⟩ | ⟨a, b, -⟩ | ⟨a, b, c⟩ | ⟨a, b⟩ | ⟨a, b⟩
  · rw [a] at h2; exact absurd h2 (by decide)
  · rw [a] at h2; exact absurd h2 (by decide)
  · exact c
  · rw [a] at h2; exact absurd h2 (by decide)
  · rw [a] at h2; exact absurd h2 (by decide)
theorem tkn_id {N : Nat} {lo hi : Int32} {C : cm_M} (h : C.1 2 9 ≠ 0) : cF_takeWhole N lo hi C = C := by
  have : cF_whole lo hi C = C := by
    unfold cF_whole
    split
    · split
      · exact cF_fail_id h
      · rfl
    · exact cF_fail_id h
  unfold cF_takeWhole
  rw [this]
  exact cF_step_id h
theorem tkn_form {N : Nat} {lo hi : Int32} {C : cm_M} (h : C.1 2 3 ≠ 2) : cF_takeWhole N lo hi C = cF_fail 1 C := by
  unfold cF_takeWhole cF_whole
  rw [if_neg h]
  exact cF_step_id (cF_fail_9n (by decide))
theorem tkn_bd {N : Nat} {lo hi : Int32} {C : cm_M} (h : C.1 2 3 = 2) (hb : (decide (lo ≤ C.1 2 5) && decide (C.1 2 5 ≤ hi)) = false) : cF_takeWhole N lo hi C = cF_fail 4 C := by
  unfold cF_takeWhole cF_whole
  rw [if_pos h, if_pos]
  · exact cF_step_id (cF_fail_9n (by decide))
  · rw [Bool.and_eq_false_iff] at hb
    rcases hb with hb | hb
    · have := of_decide_eq_false hb
      left
      rw [Int32.le_iff_toInt_le] at this
      rw [Int32.lt_iff_toInt_lt]
      omega
    · have := of_decide_eq_false hb
      right
      rw [Int32.le_iff_toInt_le] at this
      rw [Int32.lt_iff_toInt_lt]
      omega
theorem tkn_ok {N : Nat} {lo hi : Int32} {C : cm_M} (h : C.1 2 3 = 2) (hb : (decide (lo ≤ C.1 2 5) && decide (C.1 2 5 ≤ hi)) = true) : cF_takeWhole N lo hi C = cF_step N C := by
  unfold cF_takeWhole cF_whole
  rw [if_pos h, if_neg]
  have h1 := of_decide_eq_true (and_l hb)
  have h2 := of_decide_eq_true (and_r hb)
  rw [Int32.le_iff_toInt_le] at h1 h2
  rintro (c | c)
  · rw [Int32.lt_iff_toInt_lt] at c
    omega
  · rw [Int32.lt_iff_toInt_lt] at c
    omega
noncomputable abbrev mn_R (N : Nat) (lo hi : Int32) (C D : cm_M) : cm_K := fun v M' => ∃ x, v = some (.int x) ∧ ∃ D', M' = fm D' ∧ Rq N (cF_takeWhole N lo hi C) D' ∧ D'.1 128 = D.1 128 ∧ ((cF_takeWhole N lo hi C).1 2 9 = 0 → x = C.1 2 5)
set_option maxRecDepth 100000 in
set_option maxHeartbeats 4000000 in
theorem m_number {N : Nat} (lo hi : Int32) {C D : cm_M} (h : Rq N C D) : cm_Lc cm_ms 188 [.ref 124, .int lo, .int hi] (fm D) (mn_R N lo hi C D) := by
  refine lb_st0 (mi := mr_188) rfl 60 ?_
  show (ev_cmp 0 (D.1 124 13) 0 = true → _) ∧ (ev_cmp 0 (D.1 124 13) 0 = false → _)
  refine ⟨fun h1 => ?_, fun h1 => ?_⟩
  · have z1 : C.1 2 9 = 0 := fl_0 h.2 (fn_eq0 h1)
    show (ev_cmp 0 (D.1 124 6) 3 = true → _) ∧ (ev_cmp 0 (D.1 124 6) 3 = false → _)
    refine ⟨fun h2 => ?_, fun h2 => ?_⟩
    · show ∃ R, cm_Lc cm_ms 167 [.int (D.1 124 7), .int lo, .int hi] (fm D) R ∧ ∀ v M', R v M' → _
      refine ⟨_, m_in (D.1 124 7) lo hi _, ?_⟩
      rintro v M' ⟨rfl, rfl⟩
      show (ev_cmp 1 (bi (decide (lo ≤ (D.1 124 7)) && decide ((D.1 124 7) ≤ hi))) 0 = true → _) ∧ (ev_cmp 1 (bi (decide (lo ≤ (D.1 124 7)) && decide ((D.1 124 7) ≤ hi))) 0 = false → _)
      refine ⟨fun h3 => ?_, fun h3 => ?_⟩
      · have w3 : (decide (lo ≤ (D.1 124 7)) && decide ((D.1 124 7) ≤ hi)) = true := bi_n1 h3
        show (ev_cmp 0 (D.1 124 13) 0 = true → _) ∧ (ev_cmp 0 (D.1 124 13) 0 = false → _)
        refine ⟨fun h4 => ?_, fun h4 => ?_⟩
        · have z4 : C.1 2 9 = 0 := fl_0 h.2 (fn_eq0 h4)
          show ∃ R, cm_Lc cm_ms 176 [.ref 124] (fm D) R ∧ ∀ v M', R v M' → _
          refine ⟨_, m_next h z4, ?_⟩
          rintro v M' ⟨rfl, D1, rfl, r1, f1⟩
          show mn_R N lo hi C D (some (.int (D.1 124 7))) (fm D1)
          refine ⟨_, rfl, D1, rfl, ?_, f1, ?_⟩
          · rw [tkn_ok ((tw_2 h).mp (fn_eq0 h2)) (by rw [tw_v h ((tw_2 h).mp (fn_eq0 h2))] at w3; exact w3)]
            exact r1
          · exact fun _ => tw_v h ((tw_2 h).mp (fn_eq0 h2))
        · have z4 : C.1 2 9 ≠ 0 := fl_1 h.2 (fn_ne0 h4)
          show mn_R N lo hi C D (some (.int lo)) (fm D)
          exact absurd z1 z4
      · have w3 : (decide (lo ≤ (D.1 124 7)) && decide ((D.1 124 7) ≤ hi)) = false := bi_n0 h3
        show ∃ R, cm_Lc cm_ms 177 [.ref 124, .int 4, .int (D.1 124 4)] (fm D) R ∧ ∀ v M', R v M' → _
        refine ⟨_, m_wrong h (x := 4) (by decide), ?_⟩
        rintro v M' ⟨rfl, D1, rfl, r1, f1⟩
        show (ev_cmp 0 (D1.1 124 13) 0 = true → _) ∧ (ev_cmp 0 (D1.1 124 13) 0 = false → _)
        refine ⟨fun h5 => ?_, fun h5 => ?_⟩
        · have z5 : (cF_fail 4 C).1 2 9 = 0 := fl_0 r1.2 (fn_eq0 h5)
          show ∃ R, cm_Lc cm_ms 176 [.ref 124] (fm D1) R ∧ ∀ v M', R v M' → _
          refine ⟨_, m_next r1 z5, ?_⟩
          rintro v M' ⟨rfl, D9, rfl, r9, f9⟩
          show mn_R N lo hi C D (some (.int (D1.1 124 7))) (fm D9)
          exact absurd z5 (cF_fail_9n (by decide))
        · have z5 : (cF_fail 4 C).1 2 9 ≠ 0 := fl_1 r1.2 (fn_ne0 h5)
          show mn_R N lo hi C D (some (.int lo)) (fm D1)
          refine ⟨_, rfl, D1, rfl, ?_, f1, ?_⟩
          · rw [tkn_bd ((tw_2 h).mp (fn_eq0 h2)) (by rw [tw_v h ((tw_2 h).mp (fn_eq0 h2))] at w3; exact w3)]
            exact r1
          · rw [tkn_bd ((tw_2 h).mp (fn_eq0 h2)) (by rw [tw_v h ((tw_2 h).mp (fn_eq0 h2))] at w3; exact w3)]
            exact fun q => absurd q (cF_fail_9n (by decide))
    · show ∃ R, cm_Lc cm_ms 177 [.ref 124, .int 1, .int (D.1 124 4)] (fm D) R ∧ ∀ v M', R v M' → _
      refine ⟨_, m_wrong h (x := 1) (by decide), ?_⟩
      rintro v M' ⟨rfl, D1, rfl, r1, f1⟩
      show (ev_cmp 0 (D1.1 124 13) 0 = true → _) ∧ (ev_cmp 0 (D1.1 124 13) 0 = false → _)
      refine ⟨fun h6 => ?_, fun h6 => ?_⟩
      · have z6 : (cF_fail 1 C).1 2 9 = 0 := fl_0 r1.2 (fn_eq0 h6)
        show ∃ R, cm_Lc cm_ms 176 [.ref 124] (fm D1) R ∧ ∀ v M', R v M' → _
        refine ⟨_, m_next r1 z6, ?_⟩
        rintro v M' ⟨rfl, D9, rfl, r9, f9⟩
        show mn_R N lo hi C D (some (.int (D1.1 124 7))) (fm D9)
        exact absurd z6 (cF_fail_9n (by decide))
      · have z6 : (cF_fail 1 C).1 2 9 ≠ 0 := fl_1 r1.2 (fn_ne0 h6)
        show mn_R N lo hi C D (some (.int lo)) (fm D1)
        refine ⟨_, rfl, D1, rfl, ?_, f1, ?_⟩
        · rw [tkn_form (fun q => fn_ne0 h2 ((tw_2 h).mpr q))]
          exact r1
        · rw [tkn_form (fun q => fn_ne0 h2 ((tw_2 h).mpr q))]
          exact fun q => absurd q (cF_fail_9n (by decide))
  · have z1 : C.1 2 9 ≠ 0 := fl_1 h.2 (fn_ne0 h1)
    show mn_R N lo hi C D (some (.int lo)) (fm D)
    refine ⟨_, rfl, D, rfl, ?_, rfl, ?_⟩
    · rw [tkn_id z1]
      exact h
    · rw [tkn_id z1]
      exact fun q => absurd q z1
noncomputable abbrev ma_R (N t : Nat) (lo hi : Int32) (C D : cm_M) : cm_K := fun v M' => ∃ x, v = some (.int x) ∧ ∃ D', M' = fm D' ∧ Rq N (cF_takeWhole N lo hi (cF_takeWord N t C)) D' ∧ D'.1 128 = D.1 128 ∧ ((cF_takeWhole N lo hi (cF_takeWord N t C)).1 2 9 = 0 → x = (cF_takeWord N t C).1 2 5)
set_option maxRecDepth 100000 in
set_option maxHeartbeats 4000000 in
theorem m_after {N t : Nat} (ht : t < 40) (lo hi : Int32) {C D : cm_M} (h : Rq N C D) : cm_Lc cm_ms 189 [.ref 124, .ref (1001 + 2 * t), .int lo, .int hi] (fm D) (ma_R N t lo hi C D) := by
  refine lb_st0 (mi := mr_189) rfl 60 ?_
  show ∃ R, cm_Lc cm_ms 180 [.ref 124, .ref (1001 + 2 * t)] (fm D) R ∧ ∀ v M', R v M' → _
  refine ⟨_, m_must (t := t) ht h, ?_⟩
  rintro v M' ⟨rfl, D1, rfl, r1, f1⟩
  show ∃ R, cm_Lc cm_ms 188 [.ref 124, .int lo, .int hi] (fm D1) R ∧ ∀ v M', R v M' → _
  refine ⟨_, m_number lo hi r1, ?_⟩
  rintro v M' ⟨x2, rfl, D2, rfl, r2, f2, v2⟩
  show ma_R N t lo hi C D (some (.int x2)) (fm D2)
  exact ⟨_, rfl, D2, rfl, r2, f2.trans f1, v2⟩
set_option maxRecDepth 100000 in
theorem sn_20 : sn 20 = sn 0 := by decide +kernel
theorem wt_20 (C : cm_M) : wt 20 C = wt 0 C := by
  unfold wt
  rw [sn_20]
set_option maxRecDepth 100000 in
theorem sn_21 : sn 21 = sn 8 := by decide +kernel
theorem wt_21 (C : cm_M) : wt 21 C = wt 8 C := by
  unfold wt
  rw [sn_21]
theorem tkw_21 (N : Nat) (C : cm_M) : cF_takeWord N 21 C = cF_takeWord N 8 C := by
  unfold cF_takeWord cF_due
  rw [wt_21]
set_option maxRecDepth 100000 in
theorem sn_22 : sn 22 = sn 9 := by decide +kernel
theorem wt_22 (C : cm_M) : wt 22 C = wt 9 C := by
  unfold wt
  rw [sn_22]
theorem tkw_22 (N : Nat) (C : cm_M) : cF_takeWord N 22 C = cF_takeWord N 9 C := by
  unfold cF_takeWord cF_due
  rw [wt_22]
set_option maxRecDepth 100000 in
theorem sn_23 : sn 23 = sn 10 := by decide +kernel
theorem wt_23 (C : cm_M) : wt 23 C = wt 10 C := by
  unfold wt
  rw [sn_23]
theorem tkw_23 (N : Nat) (C : cm_M) : cF_takeWord N 23 C = cF_takeWord N 10 C := by
  unfold cF_takeWord cF_due
  rw [wt_23]
set_option maxRecDepth 100000 in
theorem sn_24 : sn 24 = sn 1 := by decide +kernel
theorem wt_24 (C : cm_M) : wt 24 C = wt 1 C := by
  unfold wt
  rw [sn_24]
set_option maxRecDepth 100000 in
theorem sn_25 : sn 25 = sn 2 := by decide +kernel
theorem wt_25 (C : cm_M) : wt 25 C = wt 2 C := by
  unfold wt
  rw [sn_25]
set_option maxRecDepth 100000 in
theorem sn_26 : sn 26 = sn 3 := by decide +kernel
theorem wt_26 (C : cm_M) : wt 26 C = wt 3 C := by
  unfold wt
  rw [sn_26]
set_option maxRecDepth 100000 in
theorem sn_27 : sn 27 = sn 4 := by decide +kernel
theorem wt_27 (C : cm_M) : wt 27 C = wt 4 C := by
  unfold wt
  rw [sn_27]
set_option maxRecDepth 100000 in
theorem sn_28 : sn 28 = sn 5 := by decide +kernel
theorem wt_28 (C : cm_M) : wt 28 C = wt 5 C := by
  unfold wt
  rw [sn_28]
set_option maxRecDepth 100000 in
theorem sn_29 : sn 29 = sn 6 := by decide +kernel
theorem wt_29 (C : cm_M) : wt 29 C = wt 6 C := by
  unfold wt
  rw [sn_29]
set_option maxRecDepth 100000 in
theorem sn_30 : sn 30 = sn 7 := by decide +kernel
theorem wt_30 (C : cm_M) : wt 30 C = wt 7 C := by
  unfold wt
  rw [sn_30]
set_option maxRecDepth 100000 in
theorem sn_31 : sn 31 = sn 11 := by decide +kernel
theorem wt_31 (C : cm_M) : wt 31 C = wt 11 C := by
  unfold wt
  rw [sn_31]
set_option maxRecDepth 100000 in
theorem sn_32 : sn 32 = sn 12 := by decide +kernel
theorem wt_32 (C : cm_M) : wt 32 C = wt 12 C := by
  unfold wt
  rw [sn_32]
set_option maxRecDepth 100000 in
theorem sn_33 : sn 33 = sn 13 := by decide +kernel
theorem wt_33 (C : cm_M) : wt 33 C = wt 13 C := by
  unfold wt
  rw [sn_33]
set_option maxRecDepth 100000 in
theorem sn_34 : sn 34 = sn 14 := by decide +kernel
theorem wt_34 (C : cm_M) : wt 34 C = wt 14 C := by
  unfold wt
  rw [sn_34]
theorem tkw_34 (N : Nat) (C : cm_M) : cF_takeWord N 34 C = cF_takeWord N 14 C := by
  unfold cF_takeWord cF_due
  rw [wt_34]
set_option maxRecDepth 100000 in
theorem sn_35 : sn 35 = sn 15 := by decide +kernel
theorem wt_35 (C : cm_M) : wt 35 C = wt 15 C := by
  unfold wt
  rw [sn_35]
theorem tkw_35 (N : Nat) (C : cm_M) : cF_takeWord N 35 C = cF_takeWord N 15 C := by
  unfold cF_takeWord cF_due
  rw [wt_35]
set_option maxRecDepth 100000 in
theorem sn_36 : sn 36 = sn 16 := by decide +kernel
theorem wt_36 (C : cm_M) : wt 36 C = wt 16 C := by
  unfold wt
  rw [sn_36]
theorem tkw_36 (N : Nat) (C : cm_M) : cF_takeWord N 36 C = cF_takeWord N 16 C := by
  unfold cF_takeWord cF_due
  rw [wt_36]
set_option maxRecDepth 100000 in
theorem sn_37 : sn 37 = sn 17 := by decide +kernel
theorem wt_37 (C : cm_M) : wt 37 C = wt 17 C := by
  unfold wt
  rw [sn_37]
theorem tkw_37 (N : Nat) (C : cm_M) : cF_takeWord N 37 C = cF_takeWord N 17 C := by
  unfold cF_takeWord cF_due
  rw [wt_37]
set_option maxRecDepth 100000 in
theorem sn_38 : sn 38 = sn 18 := by decide +kernel
theorem wt_38 (C : cm_M) : wt 38 C = wt 18 C := by
  unfold wt
  rw [sn_38]
theorem tkw_38 (N : Nat) (C : cm_M) : cF_takeWord N 38 C = cF_takeWord N 18 C := by
  unfold cF_takeWord cF_due
  rw [wt_38]
set_option maxRecDepth 100000 in
theorem sn_39 : sn 39 = sn 19 := by decide +kernel
theorem wt_39 (C : cm_M) : wt 39 C = wt 19 C := by
  unfold wt
  rw [sn_39]
theorem tkw_39 (N : Nat) (C : cm_M) : cF_takeWord N 39 C = cF_takeWord N 19 C := by
  unfold cF_takeWord cF_due
  rw [wt_39]
theorem ln_some {C : cm_M} : ∀ (f j i : Nat), j ≤ i → i < j + f → wt i C = true → j + f ≤ 8 → ln_f C f j ≠ -1
  | 0, j, i, h1, h2, _, _ => by omega
  | f + 1, j, i, h1, h2, hw, h8 => by
    unfold ln_f
    by_cases hj : wt j C = true
    · rw [if_pos hj]
      intro hh
      have := congrArg Int32.toInt hh
      rw [fn_toInt (by omega)] at this
      have e : (-1 : Int32).toInt = -1 := by decide
      rw [e] at this
      omega
    · rw [if_neg hj]
      have : j ≠ i := fun e => hj (e ▸ hw)
      exact ln_some f (j + 1) i (by omega) (by omega) hw (by omega)
theorem ln_none {C : cm_M} : ∀ (f j : Nat), (∀ i, j ≤ i → i < j + f → wt i C = false) → ln_f C f j = -1
  | 0, j, _ => rfl
  | f + 1, j, h => by
    unfold ln_f
    rw [if_neg (by rw [h j (by omega) (by omega)]; decide)]
    exact ln_none f (j + 1) (fun i a b => h i (by omega) (by omega))
noncomputable def cF_nm (C : cm_M) : cm_M := if C.1 2 3 = 1 ∧ cF_line C = -1 then C else cF_fail 1 C
theorem nm_no {C : cm_M} {i : Nat} (h8 : i < 8) (h : wt i C = true) : cF_nm C = cF_fail 1 C := by
  unfold cF_nm
  rw [if_neg (fun hh => ln_some 8 0 i (by omega) (by omega) h (by omega) hh.2)]
theorem nm_no2 {C : cm_M} (h : C.1 2 3 ≠ 1) : cF_nm C = cF_fail 1 C := by
  unfold cF_nm
  rw [if_neg (fun hh => h hh.1)]
theorem nm_ok {C : cm_M} (h : C.1 2 3 = 1) (h0 : wt 0 C = false) (h1 : wt 1 C = false) (h2 : wt 2 C = false) (h3 : wt 3 C = false) (h4 : wt 4 C = false) (h5 : wt 5 C = false) (h6 : wt 6 C = false) (h7 : wt 7 C = false) : cF_nm C = C := by
  unfold cF_nm
  rw [if_pos ⟨h, ln_none 8 0 (fun i a b => by
    match i, b with
    | 0, _ => exact h0
    | 1, _ => exact h1
    | 2, _ => exact h2
    | 3, _ => exact h3
    | 4, _ => exact h4
    | 5, _ => exact h5
    | 6, _ => exact h6
    | 7, _ => exact h7
    | n + 8, b => omega)⟩]
set_option maxRecDepth 100000 in
set_option maxHeartbeats 4000000 in
theorem m_mustName {N : Nat} {C D : cm_M} (h : Rq N C D) (h0 : C.1 2 9 = 0) : cm_Lc cm_ms 181 [.ref 124] (fm D) (mq N (cF_nm C) D) := by
  refine lb_st0 (mi := mr_181) rfl 80 ?_
  show (ev_cmp 1 (D.1 124 6) 2 = true → _) ∧ (ev_cmp 1 (D.1 124 6) 2 = false → _)
  refine ⟨fun h1 => ?_, fun h1 => ?_⟩
  · show ∃ R, cm_Lc cm_ms 177 [.ref 124, .int 1, .int (D.1 124 4)] (fm D) R ∧ ∀ v M', R v M' → _
    refine ⟨_, m_wrong h (x := 1) (by decide), ?_⟩
    rintro v M' ⟨rfl, D1, rfl, r1, f1⟩
    show mq N (cF_nm C) D none (fm D1)
    refine ⟨rfl, D1, rfl, ?_, f1⟩
    rw [nm_no2 (fun q => fn_ne h1 ((tw_1 h).mpr q))]
    exact r1
  · show ∃ R, cm_Lc cm_ms 178 [.ref 124, .ref (1001 + 2 * 20)] (fm D) R ∧ ∀ v M', R v M' → _
    refine ⟨_, m_isWord (t := 20) (by decide) h, ?_⟩
    rintro v M' ⟨rfl, rfl⟩
    show (ev_cmp 1 (bi (decide (C.1 2 9 = 0) && wt 20 C)) 0 = true → _) ∧ (ev_cmp 1 (bi (decide (C.1 2 9 = 0) && wt 20 C)) 0 = false → _)
    refine ⟨fun h2 => ?_, fun h2 => ?_⟩
    · have w2 : (decide (C.1 2 9 = 0) && wt 20 C) = true := bi_n1 h2
      show ∃ R, cm_Lc cm_ms 177 [.ref 124, .int 1, .int (D.1 124 4)] (fm D) R ∧ ∀ v M', R v M' → _
      refine ⟨_, m_wrong h (x := 1) (by decide), ?_⟩
      rintro v M' ⟨rfl, D1, rfl, r1, f1⟩
      show mq N (cF_nm C) D none (fm D1)
      refine ⟨rfl, D1, rfl, ?_, f1⟩
      rw [nm_no (i := 0) (by decide) ((wt_20 C).symm.trans (and_r w2))]
      exact r1
    · have w2 : (decide (C.1 2 9 = 0) && wt 20 C) = false := bi_n0 h2
      show ∃ R, cm_Lc cm_ms 178 [.ref 124, .ref (1001 + 2 * 24)] (fm D) R ∧ ∀ v M', R v M' → _
      refine ⟨_, m_isWord (t := 24) (by decide) h, ?_⟩
      rintro v M' ⟨rfl, rfl⟩
      show (ev_cmp 1 (bi (decide (C.1 2 9 = 0) && wt 24 C)) 0 = true → _) ∧ (ev_cmp 1 (bi (decide (C.1 2 9 = 0) && wt 24 C)) 0 = false → _)
      refine ⟨fun h3 => ?_, fun h3 => ?_⟩
      · have w3 : (decide (C.1 2 9 = 0) && wt 24 C) = true := bi_n1 h3
        show ∃ R, cm_Lc cm_ms 177 [.ref 124, .int 1, .int (D.1 124 4)] (fm D) R ∧ ∀ v M', R v M' → _
        refine ⟨_, m_wrong h (x := 1) (by decide), ?_⟩
        rintro v M' ⟨rfl, D1, rfl, r1, f1⟩
        show mq N (cF_nm C) D none (fm D1)
        refine ⟨rfl, D1, rfl, ?_, f1⟩
        rw [nm_no (i := 1) (by decide) ((wt_24 C).symm.trans (and_r w3))]
        exact r1
      · have w3 : (decide (C.1 2 9 = 0) && wt 24 C) = false := bi_n0 h3
        show ∃ R, cm_Lc cm_ms 178 [.ref 124, .ref (1001 + 2 * 25)] (fm D) R ∧ ∀ v M', R v M' → _
        refine ⟨_, m_isWord (t := 25) (by decide) h, ?_⟩
        rintro v M' ⟨rfl, rfl⟩
        show (ev_cmp 1 (bi (decide (C.1 2 9 = 0) && wt 25 C)) 0 = true → _) ∧ (ev_cmp 1 (bi (decide (C.1 2 9 = 0) && wt 25 C)) 0 = false → _)
        refine ⟨fun h4 => ?_, fun h4 => ?_⟩
        · have w4 : (decide (C.1 2 9 = 0) && wt 25 C) = true := bi_n1 h4
          show ∃ R, cm_Lc cm_ms 177 [.ref 124, .int 1, .int (D.1 124 4)] (fm D) R ∧ ∀ v M', R v M' → _
          refine ⟨_, m_wrong h (x := 1) (by decide), ?_⟩
          rintro v M' ⟨rfl, D1, rfl, r1, f1⟩
          show mq N (cF_nm C) D none (fm D1)
          refine ⟨rfl, D1, rfl, ?_, f1⟩
          rw [nm_no (i := 2) (by decide) ((wt_25 C).symm.trans (and_r w4))]
          exact r1
        · have w4 : (decide (C.1 2 9 = 0) && wt 25 C) = false := bi_n0 h4
          show ∃ R, cm_Lc cm_ms 178 [.ref 124, .ref (1001 + 2 * 26)] (fm D) R ∧ ∀ v M', R v M' → _
          refine ⟨_, m_isWord (t := 26) (by decide) h, ?_⟩
          rintro v M' ⟨rfl, rfl⟩
          show (ev_cmp 1 (bi (decide (C.1 2 9 = 0) && wt 26 C)) 0 = true → _) ∧ (ev_cmp 1 (bi (decide (C.1 2 9 = 0) && wt 26 C)) 0 = false → _)
          refine ⟨fun h5 => ?_, fun h5 => ?_⟩
          · have w5 : (decide (C.1 2 9 = 0) && wt 26 C) = true := bi_n1 h5
            show ∃ R, cm_Lc cm_ms 177 [.ref 124, .int 1, .int (D.1 124 4)] (fm D) R ∧ ∀ v M', R v M' → _
            refine ⟨_, m_wrong h (x := 1) (by decide), ?_⟩
            rintro v M' ⟨rfl, D1, rfl, r1, f1⟩
            show mq N (cF_nm C) D none (fm D1)
            refine ⟨rfl, D1, rfl, ?_, f1⟩
            rw [nm_no (i := 3) (by decide) ((wt_26 C).symm.trans (and_r w5))]
            exact r1
          · have w5 : (decide (C.1 2 9 = 0) && wt 26 C) = false := bi_n0 h5
            show ∃ R, cm_Lc cm_ms 178 [.ref 124, .ref (1001 + 2 * 27)] (fm D) R ∧ ∀ v M', R v M' → _
            refine ⟨_, m_isWord (t := 27) (by decide) h, ?_⟩
            rintro v M' ⟨rfl, rfl⟩
            show (ev_cmp 1 (bi (decide (C.1 2 9 = 0) && wt 27 C)) 0 = true → _) ∧ (ev_cmp 1 (bi (decide (C.1 2 9 = 0) && wt 27 C)) 0 = false → _)
            refine ⟨fun h6 => ?_, fun h6 => ?_⟩
            · have w6 : (decide (C.1 2 9 = 0) && wt 27 C) = true := bi_n1 h6
              show ∃ R, cm_Lc cm_ms 177 [.ref 124, .int 1, .int (D.1 124 4)] (fm D) R ∧ ∀ v M', R v M' → _
              refine ⟨_, m_wrong h (x := 1) (by decide), ?_⟩
              rintro v M' ⟨rfl, D1, rfl, r1, f1⟩
              show mq N (cF_nm C) D none (fm D1)
              refine ⟨rfl, D1, rfl, ?_, f1⟩
              rw [nm_no (i := 4) (by decide) ((wt_27 C).symm.trans (and_r w6))]
              exact r1
            · have w6 : (decide (C.1 2 9 = 0) && wt 27 C) = false := bi_n0 h6
              show ∃ R, cm_Lc cm_ms 178 [.ref 124, .ref (1001 + 2 * 28)] (fm D) R ∧ ∀ v M', R v M' → _
              refine ⟨_, m_isWord (t := 28) (by decide) h, ?_⟩
              rintro v M' ⟨rfl, rfl⟩
              show (ev_cmp 1 (bi (decide (C.1 2 9 = 0) && wt 28 C)) 0 = true → _) ∧ (ev_cmp 1 (bi (decide (C.1 2 9 = 0) && wt 28 C)) 0 = false → _)
              refine ⟨fun h7 => ?_, fun h7 => ?_⟩
              · have w7 : (decide (C.1 2 9 = 0) && wt 28 C) = true := bi_n1 h7
                show ∃ R, cm_Lc cm_ms 177 [.ref 124, .int 1, .int (D.1 124 4)] (fm D) R ∧ ∀ v M', R v M' → _
                refine ⟨_, m_wrong h (x := 1) (by decide), ?_⟩
                rintro v M' ⟨rfl, D1, rfl, r1, f1⟩
                show mq N (cF_nm C) D none (fm D1)
                refine ⟨rfl, D1, rfl, ?_, f1⟩
                rw [nm_no (i := 5) (by decide) ((wt_28 C).symm.trans (and_r w7))]
                exact r1
              · have w7 : (decide (C.1 2 9 = 0) && wt 28 C) = false := bi_n0 h7
                show ∃ R, cm_Lc cm_ms 178 [.ref 124, .ref (1001 + 2 * 29)] (fm D) R ∧ ∀ v M', R v M' → _
                refine ⟨_, m_isWord (t := 29) (by decide) h, ?_⟩
                rintro v M' ⟨rfl, rfl⟩
                show (ev_cmp 1 (bi (decide (C.1 2 9 = 0) && wt 29 C)) 0 = true → _) ∧ (ev_cmp 1 (bi (decide (C.1 2 9 = 0) && wt 29 C)) 0 = false → _)
                refine ⟨fun h8 => ?_, fun h8 => ?_⟩
                · have w8 : (decide (C.1 2 9 = 0) && wt 29 C) = true := bi_n1 h8
                  show ∃ R, cm_Lc cm_ms 177 [.ref 124, .int 1, .int (D.1 124 4)] (fm D) R ∧ ∀ v M', R v M' → _
                  refine ⟨_, m_wrong h (x := 1) (by decide), ?_⟩
                  rintro v M' ⟨rfl, D1, rfl, r1, f1⟩
                  show mq N (cF_nm C) D none (fm D1)
                  refine ⟨rfl, D1, rfl, ?_, f1⟩
                  rw [nm_no (i := 6) (by decide) ((wt_29 C).symm.trans (and_r w8))]
                  exact r1
                · have w8 : (decide (C.1 2 9 = 0) && wt 29 C) = false := bi_n0 h8
                  show ∃ R, cm_Lc cm_ms 178 [.ref 124, .ref (1001 + 2 * 30)] (fm D) R ∧ ∀ v M', R v M' → _
                  refine ⟨_, m_isWord (t := 30) (by decide) h, ?_⟩
                  rintro v M' ⟨rfl, rfl⟩
                  show (ev_cmp 0 (bi (decide (C.1 2 9 = 0) && wt 30 C)) 0 = true → _) ∧ (ev_cmp 0 (bi (decide (C.1 2 9 = 0) && wt 30 C)) 0 = false → _)
                  refine ⟨fun h9 => ?_, fun h9 => ?_⟩
                  · have w9 : (decide (C.1 2 9 = 0) && wt 30 C) = false := bi_0 h9
                    show mq N (cF_nm C) D none (fm D)
                    refine ⟨rfl, D, rfl, ?_, rfl⟩
                    rw [nm_ok ((tw_1 h).mp (fn_eq h1)) ((wt_20 C).symm.trans (and_f w2 (decide_eq_true h0))) ((wt_24 C).symm.trans (and_f w3 (decide_eq_true h0))) ((wt_25 C).symm.trans (and_f w4 (decide_eq_true h0))) ((wt_26 C).symm.trans (and_f w5 (decide_eq_true h0))) ((wt_27 C).symm.trans (and_f w6 (decide_eq_true h0))) ((wt_28 C).symm.trans (and_f w7 (decide_eq_true h0))) ((wt_29 C).symm.trans (and_f w8 (decide_eq_true h0))) ((wt_30 C).symm.trans (and_f w9 (decide_eq_true h0)))]
                    exact h
                  · have w9 : (decide (C.1 2 9 = 0) && wt 30 C) = true := bi_1 h9
                    show ∃ R, cm_Lc cm_ms 177 [.ref 124, .int 1, .int (D.1 124 4)] (fm D) R ∧ ∀ v M', R v M' → _
                    refine ⟨_, m_wrong h (x := 1) (by decide), ?_⟩
                    rintro v M' ⟨rfl, D1, rfl, r1, f1⟩
                    show mq N (cF_nm C) D none (fm D1)
                    refine ⟨rfl, D1, rfl, ?_, f1⟩
                    rw [nm_no (i := 7) (by decide) ((wt_30 C).symm.trans (and_r w9))]
                    exact r1
noncomputable abbrev mc_R (N : Nat) (C D : cm_M) : cm_K := fun v M' => ∃ x, v = some (.int x) ∧ ∃ D', M' = fm D' ∧ Rq N (cF_colour C) D' ∧ D'.1 128 = D.1 128 ∧ ((cF_colour C).1 2 9 = 0 → x = cF_col C)
theorem col_no {C : cm_M} (h1 : (decide (C.1 2 9 = 0) && wt 31 C) = false) (h2 : (decide (C.1 2 9 = 0) && wt 32 C) = false) (h3 : (decide (C.1 2 9 = 0) && wt 33 C) = false) : cF_colour C = cF_fail 1 C := by
  unfold cF_colour
  by_cases hf : C.1 2 9 = 0
  · rw [← wt_31, ← wt_32, ← wt_33, and_f h1 (decide_eq_true hf), and_f h2 (decide_eq_true hf), and_f h3 (decide_eq_true hf)]
    try rfl
  · rw [cF_fail_id hf]
    split
    · rfl
    · split
      · rfl
      · split <;> rfl
theorem col_0 {C : cm_M} (h : wt 31 C = true) : cF_colour C = C ∧ cF_col C = 0 := by
  unfold cF_colour cF_col
  rw [← wt_31, h]
  exact ⟨rfl, rfl⟩
theorem col_1 {C : cm_M} (h : wt 31 C = false) (h2 : wt 32 C = true) : cF_colour C = C ∧ cF_col C = 1 := by
  unfold cF_colour cF_col
  rw [← wt_31, ← wt_32, h, h2]
  exact ⟨rfl, rfl⟩
theorem col_2 {C : cm_M} (h : wt 31 C = false) (h2 : wt 32 C = false) (h3 : wt 33 C = true) : cF_colour C = C ∧ cF_col C = 2 := by
  unfold cF_colour cF_col
  rw [← wt_31, ← wt_32, ← wt_33, h, h2, h3]
  exact ⟨rfl, rfl⟩
set_option maxRecDepth 100000 in
set_option maxHeartbeats 4000000 in
theorem m_colour {N : Nat} {C D : cm_M} (h : Rq N C D) : cm_Lc cm_ms 190 [.ref 124] (fm D) (mc_R N C D) := by
  refine lb_st0 (mi := mr_190) rfl 80 ?_
  show ∃ R, cm_Lc cm_ms 178 [.ref 124, .ref (1001 + 2 * 31)] (fm D) R ∧ ∀ v M', R v M' → _
  refine ⟨_, m_isWord (t := 31) (by decide) h, ?_⟩
  rintro v M' ⟨rfl, rfl⟩
  show (ev_cmp 0 (bi (decide (C.1 2 9 = 0) && wt 31 C)) 0 = true → _) ∧ (ev_cmp 0 (bi (decide (C.1 2 9 = 0) && wt 31 C)) 0 = false → _)
  refine ⟨fun h1 => ?_, fun h1 => ?_⟩
  · have w1 : (decide (C.1 2 9 = 0) && wt 31 C) = false := bi_0 h1
    show ∃ R, cm_Lc cm_ms 178 [.ref 124, .ref (1001 + 2 * 32)] (fm D) R ∧ ∀ v M', R v M' → _
    refine ⟨_, m_isWord (t := 32) (by decide) h, ?_⟩
    rintro v M' ⟨rfl, rfl⟩
    show (ev_cmp 0 (bi (decide (C.1 2 9 = 0) && wt 32 C)) 0 = true → _) ∧ (ev_cmp 0 (bi (decide (C.1 2 9 = 0) && wt 32 C)) 0 = false → _)
    refine ⟨fun h2 => ?_, fun h2 => ?_⟩
    · have w2 : (decide (C.1 2 9 = 0) && wt 32 C) = false := bi_0 h2
      show ∃ R, cm_Lc cm_ms 178 [.ref 124, .ref (1001 + 2 * 33)] (fm D) R ∧ ∀ v M', R v M' → _
      refine ⟨_, m_isWord (t := 33) (by decide) h, ?_⟩
      rintro v M' ⟨rfl, rfl⟩
      show (ev_cmp 0 (bi (decide (C.1 2 9 = 0) && wt 33 C)) 0 = true → _) ∧ (ev_cmp 0 (bi (decide (C.1 2 9 = 0) && wt 33 C)) 0 = false → _)
      refine ⟨fun h3 => ?_, fun h3 => ?_⟩
      · have w3 : (decide (C.1 2 9 = 0) && wt 33 C) = false := bi_0 h3
        show (ev_cmp 3 (-1) 0 = true → _) ∧ (ev_cmp 3 (-1) 0 = false → _)
        refine ⟨fun h4 => ?_, fun h4 => ?_⟩
        · exact absurd h4 (by decide)
        · show ∃ R, cm_Lc cm_ms 177 [.ref 124, .int 1, .int (D.1 124 4)] (fm D) R ∧ ∀ v M', R v M' → _
          refine ⟨_, m_wrong h (x := 1) (by decide), ?_⟩
          rintro v M' ⟨rfl, D1, rfl, r1, f1⟩
          show (ev_cmp 0 (D1.1 124 13) 0 = true → _) ∧ (ev_cmp 0 (D1.1 124 13) 0 = false → _)
          refine ⟨fun h5 => ?_, fun h5 => ?_⟩
          · have z5 : (cF_fail 1 C).1 2 9 = 0 := fl_0 r1.2 (fn_eq0 h5)
            show mc_R N C D (some (.int (-1))) (fm D1)
            exact absurd z5 (cF_fail_9n (by decide))
          · have z5 : (cF_fail 1 C).1 2 9 ≠ 0 := fl_1 r1.2 (fn_ne0 h5)
            show mc_R N C D (some (.int 0)) (fm D1)
            refine ⟨_, rfl, D1, rfl, ?_, f1, ?_⟩
            · rw [col_no w1 w2 w3]
              exact r1
            · rw [col_no w1 w2 w3]
              exact fun q => absurd q (cF_fail_9n (by decide))
      · have w3 : (decide (C.1 2 9 = 0) && wt 33 C) = true := bi_1 h3
        show (ev_cmp 3 2 0 = true → _) ∧ (ev_cmp 3 2 0 = false → _)
        refine ⟨fun h6 => ?_, fun h6 => ?_⟩
        · show (ev_cmp 0 (D.1 124 13) 0 = true → _) ∧ (ev_cmp 0 (D.1 124 13) 0 = false → _)
          refine ⟨fun h7 => ?_, fun h7 => ?_⟩
          · have z7 : C.1 2 9 = 0 := fl_0 h.2 (fn_eq0 h7)
            show mc_R N C D (some (.int 2)) (fm D)
            refine ⟨_, rfl, D, rfl, ?_, rfl, ?_⟩
            · rw [(col_2 (and_f w1 (and_l w3)) (and_f w2 (and_l w3)) (and_r w3)).1]
              exact h
            · exact fun _ => (col_2 (and_f w1 (and_l w3)) (and_f w2 (and_l w3)) (and_r w3)).2.symm
          · have z7 : C.1 2 9 ≠ 0 := fl_1 h.2 (fn_ne0 h7)
            show mc_R N C D (some (.int 0)) (fm D)
            exact absurd (of_decide_eq_true (and_l w3)) z7
        · exact absurd h6 (by decide)
    · have w2 : (decide (C.1 2 9 = 0) && wt 32 C) = true := bi_1 h2
      show (ev_cmp 3 1 0 = true → _) ∧ (ev_cmp 3 1 0 = false → _)
      refine ⟨fun h8 => ?_, fun h8 => ?_⟩
      · show (ev_cmp 0 (D.1 124 13) 0 = true → _) ∧ (ev_cmp 0 (D.1 124 13) 0 = false → _)
        refine ⟨fun h9 => ?_, fun h9 => ?_⟩
        · have z9 : C.1 2 9 = 0 := fl_0 h.2 (fn_eq0 h9)
          show mc_R N C D (some (.int 1)) (fm D)
          refine ⟨_, rfl, D, rfl, ?_, rfl, ?_⟩
          · rw [(col_1 (and_f w1 (and_l w2)) (and_r w2)).1]
            exact h
          · exact fun _ => (col_1 (and_f w1 (and_l w2)) (and_r w2)).2.symm
        · have z9 : C.1 2 9 ≠ 0 := fl_1 h.2 (fn_ne0 h9)
          show mc_R N C D (some (.int 0)) (fm D)
          exact absurd (of_decide_eq_true (and_l w2)) z9
      · exact absurd h8 (by decide)
  · have w1 : (decide (C.1 2 9 = 0) && wt 31 C) = true := bi_1 h1
    show (ev_cmp 3 0 0 = true → _) ∧ (ev_cmp 3 0 0 = false → _)
    refine ⟨fun h10 => ?_, fun h10 => ?_⟩
    · show (ev_cmp 0 (D.1 124 13) 0 = true → _) ∧ (ev_cmp 0 (D.1 124 13) 0 = false → _)
      refine ⟨fun h11 => ?_, fun h11 => ?_⟩
      · have z11 : C.1 2 9 = 0 := fl_0 h.2 (fn_eq0 h11)
        show mc_R N C D (some (.int 0)) (fm D)
        refine ⟨_, rfl, D, rfl, ?_, rfl, ?_⟩
        · rw [(col_0 (and_r w1)).1]
          exact h
        · exact fun _ => (col_0 (and_r w1)).2.symm
      · have z11 : C.1 2 9 ≠ 0 := fl_1 h.2 (fn_ne0 h11)
        show mc_R N C D (some (.int 0)) (fm D)
        exact absurd (of_decide_eq_true (and_l w1)) z11
    · exact absurd h10 (by decide)
theorem ix1 (a : Nat) {n : Nat} (ha : a < 1000) (h : n < 1000) : (Int32.ofNat a + Int32.ofNat n).toNatClampNeg = a + n := by
  rw [← Int32.ofNat_add, fn_nat (by omega)]
theorem ix2 (a b : Nat) {n k : Nat} (ha : a < 1000) (hb : b < 1000) (h : n < 1000) (hk : k < 1000) : (Int32.ofNat a + Int32.ofNat b * Int32.ofNat n + Int32.ofNat k).toNatClampNeg = a + b * n + k := by
  have : b * n < 1000000 := by
    have h1 : b * n ≤ 1000 * n := Nat.mul_le_mul_right n (by omega)
    omega
  rw [← Int32.ofNat_mul, ← Int32.ofNat_add, ← Int32.ofNat_add, fn_nat (by omega)]
theorem ofn_inj {a b : Nat} (ha : a < 2147483648) (hb : b < 2147483648) (h : Int32.ofNat a = Int32.ofNat b) : a = b := by
  have := congrArg Int32.toInt h
  rw [fn_toInt ha, fn_toInt hb] at this
  omega
/-- a name stands in a slot -/
noncomputable def sl (F L : Nat → Int32) (ns n : Nat) : Prop := F (69 + n) = Int32.ofNat ns ∧ ∀ k, k < ns → F (85 + 8 * n + k) = L k
noncomputable def fi_J (D : cm_M) (ns : Nat) (S : cm_S) : Prop :=
  (∃ n, n ≤ 16 ∧ (∀ i, i < n → ¬ sl (D.1 128) (D.1 126) ns i) ∧ S = (2, [(0, .ref 124), (1, .int (Int32.ofNat n))], [], fm D)) ∨
  (∃ n k b, n < 16 ∧ k ≤ ns ∧ (∀ i, i < n → ¬ sl (D.1 128) (D.1 126) ns i) ∧ (b = true → D.1 128 (69 + n) = Int32.ofNat ns ∧ ∀ i, i < k → D.1 128 (85 + 8 * n + i) = D.1 126 i) ∧ (b = false → ¬ sl (D.1 128) (D.1 126) ns n) ∧ S = (44, [(0, .ref 124), (1, .int (Int32.ofNat n)), (2, .int (bi b)), (3, .int (Int32.ofNat k))], [], fm D))
noncomputable abbrev fi_R (D : cm_M) (ns : Nat) : cm_K := fun v M' => M' = fm D ∧ ((v = some (.int (-1)) ∧ ∀ n, n < 16 → ¬ sl (D.1 128) (D.1 126) ns n) ∨ (∃ n, n < 16 ∧ v = some (.int (Int32.ofNat n)) ∧ sl (D.1 128) (D.1 126) ns n))
noncomputable abbrev fi_st : List (Nat × List Nat) := [(2, [0, 1]), (44, [0, 1, 2, 3])]
theorem ix_69 {n : Nat} (h : n < 1000) : ((69 : Int32) + Int32.ofNat n).toNatClampNeg = 69 + n := ix1 69 (by decide) h
theorem ix_44 {n : Nat} (h : n < 1000) : ((44 : Int32) + Int32.ofNat n).toNatClampNeg = 44 + n := ix1 44 (by decide) h
theorem ix_50 {n : Nat} (h : n < 1000) : ((50 : Int32) + Int32.ofNat n).toNatClampNeg = 50 + n := ix1 50 (by decide) h
theorem ix_55 {n : Nat} (h : n < 1000) : ((55 : Int32) + Int32.ofNat n).toNatClampNeg = 55 + n := ix1 55 (by decide) h
theorem ix_61 {n : Nat} (h : n < 1000) : ((61 : Int32) + Int32.ofNat n).toNatClampNeg = 61 + n := ix1 61 (by decide) h
theorem ix_66 {n : Nat} (h : n < 1000) : ((66 : Int32) + Int32.ofNat n).toNatClampNeg = 66 + n := ix1 66 (by decide) h
theorem of_6 (n : Nat) : (6 : Int32) + Int32.ofNat n = Int32.ofNat (6 + n) := by
  rw [Int32.ofNat_add]
  try rfl
theorem of_11 (n : Nat) : (11 : Int32) + Int32.ofNat n = Int32.ofNat (11 + n) := by
  rw [Int32.ofNat_add]
  try rfl
theorem of3_11 (n : Nat) : (11 : Int32) + 3 * Int32.ofNat n = Int32.ofNat (11 + 3 * n) := by
  rw [Int32.ofNat_add, Int32.ofNat_mul]
  try rfl
theorem of3_29 (n : Nat) : (29 : Int32) + 3 * Int32.ofNat n = Int32.ofNat (29 + 3 * n) := by
  rw [Int32.ofNat_add, Int32.ofNat_mul]
  try rfl
set_option maxRecDepth 100000 in
set_option maxHeartbeats 4000000 in
theorem m_find {D : cm_M} {ns : Nat} (h8 : D.1 124 8 = Int32.ofNat ns) (hns : ns ≤ 8) (hpos : 0 < ns) : cm_Lc cm_ms 182 [.ref 124] (fm D) (fi_R D ns) := by
  have e16 : (16 : Int32).toInt = 16 := by decide
  refine lb_of (mi := mr_182) rfl fi_st (fi_J D ns) 60 (fun S hS => ?_) 10 ?_
  · rcases hS with ⟨n, n16, hn, rfl⟩ | ⟨n, k, b, n16, hk, hn, hbt, hbf, rfl⟩
    · have lt16 : ev_cmp 3 (Int32.ofNat n) 16 = false → n < 16 := fun q => by
        have g := fn_nge q
        rw [fn_toInt (by omega)] at g
        omega
      show (ev_cmp 3 (Int32.ofNat n) 16 = true → _) ∧ (ev_cmp 3 (Int32.ofNat n) 16 = false → _)
      refine ⟨fun h1 => ?_, fun h1 => ?_⟩
      · show fi_R D ns (some (.int (-1))) (fm D)
        have g := fn_ge h1
        rw [fn_toInt (by omega)] at g
        have : n = 16 := by omega
        subst this
        exact ⟨rfl, Or.inl ⟨rfl, hn⟩⟩
      · show (ev_cmp 5 (D.1 128 ((69 + (Int32.ofNat n)).toNatClampNeg)) 0 = true → _) ∧ (ev_cmp 5 (D.1 128 ((69 + (Int32.ofNat n)).toNatClampNeg)) 0 = false → _)
        refine ⟨fun h2 => ?_, fun h2 => ?_⟩
        · show fi_J D ns (44, [(0, .ref 124), (1, .int (Int32.ofNat n)), (2, .int (bi false)), (3, .int (Int32.ofNat 0))], [], fm D)
          refine Or.inr ⟨n, 0, false, lt16 h1, Nat.zero_le _, hn, fun q => (by cases q), fun _ q => ?_, rfl⟩
          have g := fn_le h2
          rw [ix_69 (by omega), q.1, fn_toInt (by omega)] at g
          have e0 : (0 : Int32).toInt = 0 := by decide
          omega
        · show (ev_cmp 1 (D.1 128 ((69 + (Int32.ofNat n)).toNatClampNeg)) (D.1 124 8) = true → _) ∧ (ev_cmp 1 (D.1 128 ((69 + (Int32.ofNat n)).toNatClampNeg)) (D.1 124 8) = false → _)
          refine ⟨fun h3 => ?_, fun h3 => ?_⟩
          · show fi_J D ns (44, [(0, .ref 124), (1, .int (Int32.ofNat n)), (2, .int (bi false)), (3, .int (Int32.ofNat 0))], [], fm D)
            refine Or.inr ⟨n, 0, false, lt16 h1, Nat.zero_le _, hn, fun q => (by cases q), fun _ q => ?_, rfl⟩
            have g := fn_ne h3
            rw [ix_69 (by omega), h8] at g
            exact g q.1
          · show fi_J D ns (44, [(0, .ref 124), (1, .int (Int32.ofNat n)), (2, .int (bi true)), (3, .int (Int32.ofNat 0))], [], fm D)
            refine Or.inr ⟨n, 0, true, lt16 h1, Nat.zero_le _, hn, fun _ => ⟨?_, fun i hi => by omega⟩, fun q => (by cases q), rfl⟩
            have g := fn_eq h3
            rw [ix_69 (by omega), h8] at g
            exact g
    · show (ev_cmp 3 (Int32.ofNat k) (D.1 124 8) = true → _) ∧ (ev_cmp 3 (Int32.ofNat k) (D.1 124 8) = false → _)
      refine ⟨fun h1 => ?_, fun h1 => ?_⟩
      · show (ev_cmp 0 (bi b) 0 = true → _) ∧ (ev_cmp 0 (bi b) 0 = false → _)
        refine ⟨fun h2 => ?_, fun h2 => ?_⟩
        · show fi_J D ns (2, [(0, .ref 124), (1, .int (Int32.ofNat n + 1))], [], fm D)
          rw [fn_succ]
          refine Or.inl ⟨n + 1, by omega, fun i hi => ?_, rfl⟩
          rcases Nat.lt_or_ge i n with hc | hc
          · exact hn i hc
          · have : i = n := by omega
            rw [this]
            exact hbf (bi_0 h2)
        · show fi_R D ns (some (.int (Int32.ofNat n))) (fm D)
          have g := fn_ge h1
          rw [h8, fn_toInt (by omega), fn_toInt (by omega)] at g
          have hk9 : k = ns := by omega
          exact ⟨rfl, Or.inr ⟨n, n16, rfl, (hbt (bi_1 h2)).1, fun i hi => (hbt (bi_1 h2)).2 i (by omega)⟩⟩
      · show (ev_cmp 0 (bi b) 0 = true → _) ∧ (ev_cmp 0 (bi b) 0 = false → _)
        refine ⟨fun h3 => ?_, fun h3 => ?_⟩
        · show (ev_cmp 0 (bi b) 0 = true → _) ∧ (ev_cmp 0 (bi b) 0 = false → _)
          refine ⟨fun h4 => ?_, fun h4 => ?_⟩
          · show fi_J D ns (2, [(0, .ref 124), (1, .int (Int32.ofNat n + 1))], [], fm D)
            rw [fn_succ]
            refine Or.inl ⟨n + 1, by omega, fun i hi => ?_, rfl⟩
            rcases Nat.lt_or_ge i n with hc | hc
            · exact hn i hc
            · have : i = n := by omega
              rw [this]
              exact hbf (bi_0 h4)
          · show fi_R D ns (some (.int (Int32.ofNat n))) (fm D)
            exact absurd (bi_0 h3) (by rw [bi_1 h4]; decide)
        · show (ev_cmp 1 (D.1 128 (((85 + (8 * (Int32.ofNat n))) + (Int32.ofNat k)).toNatClampNeg)) (D.1 126 ((Int32.ofNat k).toNatClampNeg)) = true → _) ∧ (ev_cmp 1 (D.1 128 (((85 + (8 * (Int32.ofNat n))) + (Int32.ofNat k)).toNatClampNeg)) (D.1 126 ((Int32.ofNat k).toNatClampNeg)) = false → _)
          refine ⟨fun h5 => ?_, fun h5 => ?_⟩
          · have g := fn_nge h1
            rw [h8, fn_toInt (by omega), fn_toInt (by omega)] at g
            have hbb := bi_1 h3
            have ix : (Int32.ofNat 85 + Int32.ofNat 8 * Int32.ofNat n + Int32.ofNat k).toNatClampNeg = 85 + 8 * n + k := ix2 85 8 (by decide) (by decide) (by omega) (by omega)
            have iy : (Int32.ofNat k).toNatClampNeg = k := fn_nat (by omega)
            show fi_J D ns (44, [(0, .ref 124), (1, .int (Int32.ofNat n)), (2, .int (bi false)), (3, .int (Int32.ofNat k + 1))], [], fm D)
            rw [fn_succ]
            refine Or.inr ⟨n, k + 1, false, n16, by omega, hn, fun q => (by cases q), fun _ q => ?_, rfl⟩
            have g2 : D.1 128 (Int32.ofNat 85 + Int32.ofNat 8 * Int32.ofNat n + Int32.ofNat k).toNatClampNeg ≠ D.1 126 (Int32.ofNat k).toNatClampNeg := fn_ne h5
            rw [ix, iy] at g2
            exact g2 (q.2 k (by omega))
          · have g := fn_nge h1
            rw [h8, fn_toInt (by omega), fn_toInt (by omega)] at g
            have hbb := bi_1 h3
            have ix : (Int32.ofNat 85 + Int32.ofNat 8 * Int32.ofNat n + Int32.ofNat k).toNatClampNeg = 85 + 8 * n + k := ix2 85 8 (by decide) (by decide) (by omega) (by omega)
            have iy : (Int32.ofNat k).toNatClampNeg = k := fn_nat (by omega)
            show fi_J D ns (44, [(0, .ref 124), (1, .int (Int32.ofNat n)), (2, .int (bi true)), (3, .int (Int32.ofNat k + 1))], [], fm D)
            rw [fn_succ]
            refine Or.inr ⟨n, k + 1, true, n16, by omega, hn, fun _ => ⟨(hbt hbb).1, fun i hi => ?_⟩, fun q => (by cases q), rfl⟩
            have g2 : D.1 128 (Int32.ofNat 85 + Int32.ofNat 8 * Int32.ofNat n + Int32.ofNat k).toNatClampNeg = D.1 126 (Int32.ofNat k).toNatClampNeg := fn_eq h5
            rw [ix, iy] at g2
            rcases Nat.lt_or_ge i k with hc | hc
            · exact (hbt hbb).2 i hc
            · have : i = k := by omega
              rw [this]
              exact g2
  · show fi_J D ns (2, [(0, .ref 124), (1, .int (Int32.ofNat 0))], [], fm D)
    exact Or.inl ⟨0, by omega, fun i hi => by omega, rfl⟩
noncomputable def sb_n (s : Int32) : Nat := if s = 1 then 0 else if s = 2 then 6 else 11
noncomputable def nsl (so nu : Int32) : Nat := sb_n so + nu.toNatClampNeg
/-- what a name may be of -/
noncomputable def nmv (me mo ch : Nat) (so nu : Int32) : Prop := (so = 1 ∧ ∃ a, a < me ∧ nu = Int32.ofNat a) ∨ (so = 2 ∧ ∃ a, a < mo ∧ nu = Int32.ofNat a) ∨ (so = 6 ∧ ∃ a, a < ch ∧ nu = Int32.ofNat a)
/-- the names of the class and the slots of the reference -/
noncomputable def NR (nam me mo ch : Nat) (nw : Nat → Int64) (so nu : Nat → Int32) (F : Nat → Int32) : Prop :=
  (∀ i, i < nam → nmv me mo ch (so i) (nu i) ∧ ∃ ns, 0 < ns ∧ F (69 + nsl (so i) (nu i)) = Int32.ofNat ns ∧ wrep (nw i) (fun k => F (85 + 8 * nsl (so i) (nu i) + k)) ns) ∧
  (∀ n, n < 16 → F (69 + n) ≠ 0 → ∃ i, i < nam ∧ nsl (so i) (nu i) = n) ∧
  (∀ i j, i < nam → j < nam → nw i = nw j → i = j)
theorem nmv_up {me mo ch me' mo' ch' : Nat} {so nu : Int32} (h : nmv me mo ch so nu) (h1 : me ≤ me') (h2 : mo ≤ mo') (h3 : ch ≤ ch') : nmv me' mo' ch' so nu := by
  rcases h with ⟨a, b, c, d⟩ | ⟨a, b, c, d⟩ | ⟨a, b, c, d⟩
  · exact Or.inl ⟨a, b, by omega, d⟩
  · exact Or.inr (Or.inl ⟨a, b, by omega, d⟩)
  · exact Or.inr (Or.inr ⟨a, b, by omega, d⟩)
theorem nsl_1 {a : Nat} (h : a < 100) : nsl 1 (Int32.ofNat a) = a := by
  unfold nsl sb_n
  rw [if_pos rfl, fn_nat (by omega), Nat.zero_add]
theorem nsl_2 {a : Nat} (h : a < 100) : nsl 2 (Int32.ofNat a) = 6 + a := by
  unfold nsl sb_n
  rw [if_neg (by decide), if_pos rfl, fn_nat (by omega)]
theorem nsl_6 {a : Nat} (h : a < 100) : nsl 6 (Int32.ofNat a) = 11 + a := by
  unfold nsl sb_n
  rw [if_neg (by decide), if_neg (by decide), fn_nat (by omega)]
theorem nsl_16 {me mo ch : Nat} {so nu : Int32} (h : nmv me mo ch so nu) (h1 : me ≤ 6) (h2 : mo ≤ 5) (h3 : ch ≤ 5) : nsl so nu < 16 := by
  rcases h with ⟨rfl, b, c, rfl⟩ | ⟨rfl, b, c, rfl⟩ | ⟨rfl, b, c, rfl⟩
  · rw [nsl_1 (by omega)]; omega
  · rw [nsl_2 (by omega)]; omega
  · rw [nsl_6 (by omega)]; omega
theorem nm_sp {C : cm_M} (hk : C.1 2 3 = 1) : ∀ (f i : Nat), (nm_f C f i = -1 ∧ ∀ j, i ≤ j → j < i + f → C.2.1 3 j ≠ C.2.1 2 6) ∨ (∃ j, i ≤ j ∧ j < i + f ∧ nm_f C f i = Int32.ofNat j ∧ C.2.1 3 j = C.2.1 2 6)
  | 0, i => Or.inl ⟨rfl, fun j a b => by omega⟩
  | f + 1, i => by
    unfold nm_f
    by_cases h : C.2.1 3 i = C.2.1 2 6
    · rw [if_pos ⟨hk, h⟩]
      exact Or.inr ⟨i, Nat.le_refl _, by omega, rfl, h⟩
    · rw [if_neg (fun q => h q.2)]
      rcases nm_sp hk f (i + 1) with ⟨a, b⟩ | ⟨j, a, b, c, d⟩
      · refine Or.inl ⟨a, fun j q1 q2 => ?_⟩
        rcases Nat.lt_or_ge i j with hh | hh
        · exact b j hh (by omega)
        · have : j = i := by omega
          rw [this]
          exact h
      · exact Or.inr ⟨j, by omega, by omega, c, d⟩
theorem of_m1 {a : Nat} (h : a < 1000) : Int32.ofNat a ≠ -1 := by
  intro q
  have := congrArg Int32.toInt q
  rw [fn_toInt (by omega)] at this
  have e : (-1 : Int32).toInt = -1 := by decide
  omega
theorem wr_ns {N : Nat} {C D : cm_M} (h : Rq N C D) (hk : C.1 2 3 = 1) : ∃ ns : Nat, 0 < ns ∧ ns ≤ 8 ∧ D.1 124 8 = Int32.ofNat ns ∧ wrep (C.2.1 2 6) (D.1 126) ns := by
  rcases h.1.2.2.2.2.2 with ⟨a, b⟩ | ⟨a, b, ns, c1, c2, c3⟩ | ⟨a, b, c⟩ | ⟨a, b⟩ | ⟨a, b⟩
  · rw [a] at hk; exact absurd hk (by decide)
  · exact ⟨ns, c1, c3.1, c2, c3⟩
  · rw [a] at hk; exact absurd hk (by decide)
  · rw [a] at hk; exact absurd hk (by decide)
  · rw [a] at hk; exact absurd hk (by decide)
/-- what is found on one side is found on the other -/
theorem NF {nam me mo ch ns : Nat} {C D : cm_M} (hk : C.1 2 3 = 1) (hnn : C.1 2 10 = Int32.ofNat nam) (h16 : nam ≤ 16) (h1 : me ≤ 6) (h2 : mo ≤ 5) (h3 : ch ≤ 5) (hN : NR nam me mo ch (C.2.1 3) (C.1 4) (C.1 5) (D.1 128)) (hpos : 0 < ns) (hns : ns ≤ 8) (hw : wrep (C.2.1 2 6) (D.1 126) ns) {x : Int32} (hx : (some (Value.int x) = some (.int (-1)) ∧ ∀ n, n < 16 → ¬ sl (D.1 128) (D.1 126) ns n) ∨ (∃ n, n < 16 ∧ some (Value.int x) = some (.int (Int32.ofNat n)) ∧ sl (D.1 128) (D.1 126) ns n)) : (x = -1 ∧ cF_name C = -1) ∨ (∃ i, i < nam ∧ cF_name C = Int32.ofNat i ∧ nmv me mo ch (C.1 4 i) (C.1 5 i) ∧ x = Int32.ofNat (nsl (C.1 4 i) (C.1 5 i))) := by
  obtain ⟨n1, n2, n3⟩ := hN
  have hnm : cF_name C = nm_f C nam 0 := by
    unfold cF_name
    rw [hnn, fn_nat (by omega)]
  rw [hnm]
  rcases hx with ⟨hx, hs⟩ | ⟨n, n16, hx, hs⟩
  · cases hx
    refine Or.inl ⟨rfl, ?_⟩
    rcases nm_sp hk nam 0 with ⟨a, b⟩ | ⟨j, a, b, c, d⟩
    · exact a
    · exfalso
      obtain ⟨p1, ns', p2, p3, p4⟩ := n1 j (by omega)
      have hsl := nsl_16 p1 h1 h2 h3
      rw [d] at p4
      have hh := (wrep_eq p4 hw).mp rfl
      refine hs _ hsl ⟨?_, fun k hk => hh.2 k (by omega)⟩
      rw [p3, hh.1]
  · cases hx
    refine Or.inr ?_
    have hnz : D.1 128 (69 + n) ≠ 0 := by
      rw [hs.1]
      intro q
      have := ofn_inj (a := ns) (b := 0) (by omega) (by omega) q
      omega
    obtain ⟨i, hi, hin⟩ := n2 n n16 hnz
    obtain ⟨p1, ns', p2, p3, p4⟩ := n1 i hi
    rw [hin] at p3 p4
    have hl8 := p4.1
    have e1 : ns' = ns := ofn_inj (by omega) (by omega) (p3.symm.trans hs.1)
    have hWi : C.2.1 3 i = C.2.1 2 6 := (wrep_eq p4 hw).mpr ⟨e1, fun k hk => hs.2 k (by omega)⟩
    rcases nm_sp hk nam 0 with ⟨a, b⟩ | ⟨j, a, b, c, d⟩
    · exact absurd hWi (b i (by omega) (by omega))
    · have : j = i := n3 j i (by omega) hi (d.trans hWi.symm)
      subst this
      exact ⟨j, hi, c, p1, by rw [hin]⟩
/-- the class's names at the start of a look -/
noncomputable abbrev NC (nam me mo ch : Nat) (C : cm_M) (F : Nat → Int32) : Prop := C.1 2 10 = Int32.ofNat nam ∧ nam ≤ 16 ∧ me ≤ 6 ∧ mo ≤ 5 ∧ ch ≤ 5 ∧ NR nam me mo ch (C.2.1 3) (C.1 4) (C.1 5) F
theorem told_id {so : Int32} {C : cm_M} (h : C.1 2 9 ≠ 0) : cF_told so C = C := by
  unfold cF_told
  split
  · split
    · exact cF_fail_id h
    · rfl
  · exact cF_fail_id h
theorem told_nm {so : Int32} {C : cm_M} (h : ¬ (C.1 2 3 = 1 ∧ cF_line C = -1)) : cF_told so C = cF_fail 1 C := by
  unfold cF_told
  rw [if_neg h]
theorem told_no {so : Int32} {C : cm_M} (h : C.1 2 3 = 1 ∧ cF_line C = -1) (h2 : cF_name C = -1 ∨ C.1 4 (cF_name C).toNatClampNeg ≠ so) : cF_told so C = cF_fail 2 C := by
  unfold cF_told
  rw [if_pos h, if_pos h2]
theorem told_ok {so : Int32} {C : cm_M} (h : C.1 2 3 = 1 ∧ cF_line C = -1) (h2 : ¬ (cF_name C = -1 ∨ C.1 4 (cF_name C).toNatClampNeg ≠ so)) : cF_told so C = C := by
  unfold cF_told
  rw [if_pos h, if_neg h2]
/-- within the bounds of a sort -/
theorem nin {me mo ch : Nat} {so nu sx lo hi : Int32} (h1 : me ≤ 6) (h2 : mo ≤ 5) (h3 : ch ≤ 5) (hs : (sx = 1 ∧ lo = 0 ∧ hi = 5) ∨ (sx = 2 ∧ lo = 6 ∧ hi = 10)) (hv : nmv me mo ch so nu) : ((decide (lo ≤ Int32.ofNat (nsl so nu)) && decide (Int32.ofNat (nsl so nu) ≤ hi)) = true ↔ so = sx) ∧ (so = sx → Int32.ofNat (nsl so nu) - lo = nu) := by
  have z : ∀ a : Nat, a < 20 → ∀ b : Nat, b < 20 → ((Int32.ofNat a ≤ Int32.ofNat b) ↔ a ≤ b) := fun a ha b hb => by
    rw [Int32.le_iff_toInt_le, fn_toInt (by omega), fn_toInt (by omega)]
    omega
  rw [Bool.and_eq_true, decide_eq_true_iff, decide_eq_true_iff]
  rcases hs with ⟨rfl, rfl, rfl⟩ | ⟨rfl, rfl, rfl⟩
  · have y0 : (0 : Int32) = Int32.ofNat 0 := rfl
    have y5 : (5 : Int32) = Int32.ofNat 5 := rfl
    rcases hv with ⟨rfl, b, c, rfl⟩ | ⟨rfl, b, c, rfl⟩ | ⟨rfl, b, c, rfl⟩
    · rw [nsl_1 (by omega), y0, y5, z _ (by omega) _ (by omega), z _ (by omega) _ (by omega)]
      refine ⟨⟨fun _ => rfl, fun _ => ⟨by omega, by omega⟩⟩, fun _ => ?_⟩
      rw [← y0, Int32.sub_zero]
    · rw [nsl_2 (by omega), y0, y5, z _ (by omega) _ (by omega), z _ (by omega) _ (by omega)]
      refine ⟨⟨fun q => by omega, fun q => absurd q (by decide)⟩, fun q => absurd q (by decide)⟩
    · rw [nsl_6 (by omega), y0, y5, z _ (by omega) _ (by omega), z _ (by omega) _ (by omega)]
      refine ⟨⟨fun q => by omega, fun q => absurd q (by decide)⟩, fun q => absurd q (by decide)⟩
  · have y0 : (6 : Int32) = Int32.ofNat 6 := rfl
    have y5 : (10 : Int32) = Int32.ofNat 10 := rfl
    rcases hv with ⟨rfl, b, c, rfl⟩ | ⟨rfl, b, c, rfl⟩ | ⟨rfl, b, c, rfl⟩
    · rw [nsl_1 (by omega), y0, y5, z _ (by omega) _ (by omega), z _ (by omega) _ (by omega)]
      refine ⟨⟨fun q => by omega, fun q => absurd q (by decide)⟩, fun q => absurd q (by decide)⟩
    · rw [nsl_2 (by omega), y0, y5, z _ (by omega) _ (by omega), z _ (by omega) _ (by omega)]
      refine ⟨⟨fun _ => rfl, fun _ => ⟨by omega, by omega⟩⟩, fun _ => ?_⟩
      rw [Int32.ofNat_add, Int32.add_comm, Int32.add_sub_cancel]
    · rw [nsl_6 (by omega), y0, y5, z _ (by omega) _ (by omega), z _ (by omega) _ (by omega)]
      refine ⟨⟨fun q => by omega, fun q => absurd q (by decide)⟩, fun q => absurd q (by decide)⟩
theorem nin0 {sx lo hi : Int32} (hs : (sx = 1 ∧ lo = 0 ∧ hi = 5) ∨ (sx = 2 ∧ lo = 6 ∧ hi = 10)) : (decide (lo ≤ (-1 : Int32)) && decide ((-1 : Int32) ≤ hi)) = false := by
  rcases hs with ⟨rfl, rfl, rfl⟩ | ⟨rfl, rfl, rfl⟩
  · decide
  · decide
noncomputable abbrev md_R (N : Nat) (sx : Int32) (C D : cm_M) : cm_K := fun v M' => ∃ x, v = some (.int x) ∧ ∃ D', M' = fm D' ∧ Rq N (cF_told sx C) D' ∧ D'.1 128 = D.1 128 ∧ ((cF_told sx C).1 2 9 = 0 → x = cF_toldV sx C)
set_option maxRecDepth 100000 in
set_option maxHeartbeats 4000000 in
theorem m_named {N nam me mo ch : Nat} {sx lo hi : Int32} (hs : (sx = 1 ∧ lo = 0 ∧ hi = 5) ∨ (sx = 2 ∧ lo = 6 ∧ hi = 10)) {C D : cm_M} (h : Rq N C D) (hc : C.1 2 9 = 0 → NC nam me mo ch C (D.1 128)) : cm_Lc cm_ms 184 [.ref 124, .int lo, .int hi] (fm D) (md_R N sx C D) := by
  refine lb_st0 (mi := mr_184) rfl 60 ?_
  show (ev_cmp 0 (D.1 124 13) 0 = true → _) ∧ (ev_cmp 0 (D.1 124 13) 0 = false → _)
  refine ⟨fun h1 => ?_, fun h1 => ?_⟩
  · have z1 : C.1 2 9 = 0 := fl_0 h.2 (fn_eq0 h1)
    show ∃ R, cm_Lc cm_ms 181 [.ref 124] (fm D) R ∧ ∀ v M', R v M' → _
    refine ⟨_, m_mustName h z1, ?_⟩
    rintro v M' ⟨rfl, D1, rfl, r1, f1⟩
    show (ev_cmp 0 (D1.1 124 13) 0 = true → _) ∧ (ev_cmp 0 (D1.1 124 13) 0 = false → _)
    refine ⟨fun h2 => ?_, fun h2 => ?_⟩
    · have z2 : (cF_nm C).1 2 9 = 0 := fl_0 r1.2 (fn_eq0 h2)
      have q1 : C.1 2 3 = 1 ∧ cF_line C = -1 := by
        by_cases q : C.1 2 3 = 1 ∧ cF_line C = -1
        · exact q
        · exfalso
          unfold cF_nm at z2
          rw [if_neg q] at z2
          exact cF_fail_9n (by decide) z2
      have q2 : cF_nm C = C := by
        unfold cF_nm
        rw [if_pos q1]
      rw [q2] at r1
      obtain ⟨ns, s1, s2, s3, s4⟩ := wr_ns r1 q1.1
      obtain ⟨c1, c2, c3, c4, c5, c6⟩ := hc z1
      show ∃ R, cm_Lc cm_ms 182 [.ref 124] (fm D1) R ∧ ∀ v M', R v M' → _
      refine ⟨_, m_find s3 s2 s1, ?_⟩
      rintro v M' ⟨rfl, hx⟩
      have hv : ∃ x, v = some (.int x) ∧ ((x = -1 ∧ cF_name C = -1) ∨ (∃ i, i < nam ∧ cF_name C = Int32.ofNat i ∧ nmv me mo ch (C.1 4 i) (C.1 5 i) ∧ x = Int32.ofNat (nsl (C.1 4 i) (C.1 5 i)))) := by
        rw [← f1] at c6
        rcases hx with ⟨rfl, q⟩ | ⟨n, q3, rfl, q4⟩
        · exact ⟨_, rfl, NF q1.1 c1 c2 c3 c4 c5 c6 s1 s2 s4 (Or.inl ⟨rfl, q⟩)⟩
        · exact ⟨_, rfl, NF q1.1 c1 c2 c3 c4 c5 c6 s1 s2 s4 (Or.inr ⟨n, q3, rfl, q4⟩)⟩
      clear hx
      obtain ⟨x, rfl, hx⟩ := hv
      show ∃ R, cm_Lc cm_ms 167 [.int x, .int lo, .int hi] (fm D1) R ∧ ∀ v M', R v M' → _
      refine ⟨_, m_in x lo hi _, ?_⟩
      rintro v M' ⟨rfl, rfl⟩
      show (ev_cmp 1 (bi (decide (lo ≤ x) && decide (x ≤ hi))) 0 = true → _) ∧ (ev_cmp 1 (bi (decide (lo ≤ x) && decide (x ≤ hi))) 0 = false → _)
      refine ⟨fun h3 => ?_, fun h3 => ?_⟩
      · have w3 : (decide (lo ≤ x) && decide (x ≤ hi)) = true := bi_n1 h3
        show (ev_cmp 0 (D1.1 124 13) 0 = true → _) ∧ (ev_cmp 0 (D1.1 124 13) 0 = false → _)
        refine ⟨fun h4 => ?_, fun h4 => ?_⟩
        · have z4 : C.1 2 9 = 0 := fl_0 r1.2 (fn_eq0 h4)
          show md_R N sx C D (some (.int (x - lo))) (fm D1)
          have q3 : ¬ (cF_name C = -1 ∨ C.1 4 (cF_name C).toNatClampNeg ≠ sx) ∧ x - lo = C.1 5 (cF_name C).toNatClampNeg := by
            rcases hx with ⟨rfl, q⟩ | ⟨i, i1, i2, i3, rfl⟩
            · rw [nin0 hs] at w3
              cases w3
            · have e := (nin c3 c4 c5 hs i3).1.mp w3
              rw [i2, fn_nat (by omega)]
              refine ⟨?_, (nin c3 c4 c5 hs i3).2 e⟩
              rintro (q | q)
              · exact of_m1 (by omega) q
              · exact q e
          refine ⟨_, rfl, D1, rfl, ?_, f1, fun _ => ?_⟩
          · rw [told_ok q1 q3.1]
            exact r1
          · unfold cF_toldV
            rw [told_ok q1 q3.1, if_neg (fun q => q.elim (fun q => q z1) (fun q => q3.1 (Or.inl q)))]
            exact q3.2
        · have z4 : C.1 2 9 ≠ 0 := fl_1 r1.2 (fn_ne0 h4)
          show md_R N sx C D (some (.int 0)) (fm D1)
          exact absurd z1 z4
      · have w3 : (decide (lo ≤ x) && decide (x ≤ hi)) = false := bi_n0 h3
        show ∃ R, cm_Lc cm_ms 177 [.ref 124, .int 2, .int (D1.1 124 4)] (fm D1) R ∧ ∀ v M', R v M' → _
        refine ⟨_, m_wrong r1 (x := 2) (by decide), ?_⟩
        rintro v M' ⟨rfl, D2, rfl, r2, f2⟩
        show (ev_cmp 0 (D2.1 124 13) 0 = true → _) ∧ (ev_cmp 0 (D2.1 124 13) 0 = false → _)
        refine ⟨fun h5 => ?_, fun h5 => ?_⟩
        · have z5 : (cF_fail 2 C).1 2 9 = 0 := fl_0 r2.2 (fn_eq0 h5)
          show md_R N sx C D (some (.int (x - lo))) (fm D2)
          exact absurd z5 (cF_fail_9n (by decide))
        · have z5 : (cF_fail 2 C).1 2 9 ≠ 0 := fl_1 r2.2 (fn_ne0 h5)
          show md_R N sx C D (some (.int 0)) (fm D2)
          have q3 : cF_name C = -1 ∨ C.1 4 (cF_name C).toNatClampNeg ≠ sx := by
            rcases hx with ⟨rfl, q⟩ | ⟨i, i1, i2, i3, rfl⟩
            · exact Or.inl q
            · refine Or.inr ?_
              rw [i2, fn_nat (by omega)]
              intro q
              have := (nin c3 c4 c5 hs i3).1.mpr q
              rw [this] at w3
              cases w3
          refine ⟨_, rfl, D2, rfl, ?_, f2.trans f1, ?_⟩
          · rw [told_no q1 q3]
            exact r2
          · rw [told_no q1 q3]
            exact fun q => absurd q (cF_fail_9n (by decide))
    · have z2 : (cF_nm C).1 2 9 ≠ 0 := fl_1 r1.2 (fn_ne0 h2)
      show md_R N sx C D (some (.int 0)) (fm D1)
      have q1 : ¬ (C.1 2 3 = 1 ∧ cF_line C = -1) := fun q => z2 (by unfold cF_nm; rw [if_pos q]; exact z1)
      have q2 : cF_nm C = cF_fail 1 C := by
        unfold cF_nm
        rw [if_neg q1]
      refine ⟨_, rfl, D1, rfl, ?_, f1, ?_⟩
      · rw [told_nm q1, ← q2]
        exact r1
      · rw [told_nm q1]
        exact fun q => absurd q (cF_fail_9n (by decide))
  · have z1 : C.1 2 9 ≠ 0 := fl_1 h.2 (fn_ne0 h1)
    show md_R N sx C D (some (.int 0)) (fm D)
    refine ⟨_, rfl, D, rfl, ?_, rfl, ?_⟩
    · rw [told_id z1]
      exact h
    · rw [told_id z1]
      exact fun q => absurd q z1
theorem m_manHere {N nam me mo ch : Nat} {C D : cm_M} (h : Rq N C D) (hc : C.1 2 9 = 0 → NC nam me mo ch C (D.1 128)) : cm_Lc cm_ms 185 [.ref 124] (fm D) (md_R N 1 C D) := by
  refine lb_st0 (mi := mr_185) rfl 20 ?_
  show ∃ R, cm_Lc cm_ms 184 [.ref 124, .int 0, .int 5] (fm D) R ∧ ∀ v M', R v M' → _
  refine ⟨_, m_named (Or.inl ⟨rfl, rfl, rfl⟩) h hc, ?_⟩
  rintro v M' ⟨x, rfl, q⟩
  exact ⟨x, rfl, q⟩
theorem m_motionHere {N nam me mo ch : Nat} {C D : cm_M} (h : Rq N C D) (hc : C.1 2 9 = 0 → NC nam me mo ch C (D.1 128)) : cm_Lc cm_ms 186 [.ref 124] (fm D) (md_R N 2 C D) := by
  refine lb_st0 (mi := mr_186) rfl 20 ?_
  show ∃ R, cm_Lc cm_ms 184 [.ref 124, .int 6, .int 10] (fm D) R ∧ ∀ v M', R v M' → _
  refine ⟨_, m_named (Or.inr ⟨rfl, rfl, rfl⟩) h hc, ?_⟩
  rintro v M' ⟨x, rfl, q⟩
  exact ⟨x, rfl, q⟩
theorem Rq_D {N : Nat} {C D D' : cm_M} (h : Rq N C D) (hD : ∀ c i, c ≠ 128 → D'.1 c i = D.1 c i) : Rq N C D' := by
  obtain ⟨⟨a1, a2, a3, a4, a5, a6⟩, b⟩ := h
  have e126 : D'.1 126 = D.1 126 := funext fun i => hD 126 i (by decide)
  refine ⟨⟨fun j hj => ?_, a2, ?_, ?_, ?_, ?_⟩, ?_⟩
  · rw [hD 125 j (by decide)]
    exact a1 j hj
  · rw [hD _ _ (by decide)]
    exact a3
  · rw [hD _ _ (by decide)]
    exact a4
  · rw [hD _ _ (by decide)]
    exact a5
  · unfold tw
    rw [hD 124 6 (by decide), hD 124 7 (by decide), hD 124 8 (by decide), e126]
    exact a6
  · unfold fl
    rw [hD 124 13 (by decide), hD 124 9 (by decide), hD 124 10 (by decide), hD 124 0 (by decide), hD 124 2 (by decide), hD 124 11 (by decide)]
    exact ⟨b.1, b.2.1, fun c j q => (hD c j (by unfold prC at q; omega)).trans (b.2.2 c j q)⟩
theorem Rq_put {N : Nat} {C D : cm_M} (so nu : Int32) (h : Rq N C D) : Rq N (cF_put so nu C) D := by
  unfold cF_put
  split
  · refine ⟨h.1, h.2.1, h.2.2.1, fun c j q => (h.2.2.2 c j q).trans ?_⟩
    unfold prC at q
    show _ = (cm_wi (cm_wi (cm_wi (cm_wl C 3 _ _) 4 _ _) 5 _ _) 2 10 _).1 c j
    rw [wi_n2 (by omega), wi_n2 (by omega), wi_n2 (by omega)]
    try rfl
  · exact h
noncomputable def cpm (D : cm_M) (n k : Nat) : cm_M := (fun a b => if a = 128 ∧ 85 + 8 * n ≤ b ∧ b < 85 + 8 * n + k then D.1 126 (b - (85 + 8 * n)) else D.1 a b, D.2)
theorem cpm_0 (D : cm_M) (n : Nat) : cpm D n 0 = D := by
  unfold cpm
  refine Prod.ext (funext fun a => funext fun b => ?_) rfl
  show (if _ then _ else _) = _
  rw [if_neg (by omega)]
theorem cpm_s (D : cm_M) (n k : Nat) : cm_wi (cpm D n k) 128 (85 + 8 * n + k) (D.1 126 k) = cpm D n (k + 1) := by
  refine Prod.ext (funext fun a => funext fun b => ?_) rfl
  show (if a = 128 ∧ b = 85 + 8 * n + k then D.1 126 k else if a = 128 ∧ 85 + 8 * n ≤ b ∧ b < 85 + 8 * n + k then D.1 126 (b - (85 + 8 * n)) else D.1 a b) = if a = 128 ∧ 85 + 8 * n ≤ b ∧ b < 85 + 8 * n + (k + 1) then D.1 126 (b - (85 + 8 * n)) else D.1 a b
  by_cases h1 : a = 128 ∧ b = 85 + 8 * n + k
  · rw [if_pos h1, if_pos ⟨h1.1, by omega, by omega⟩, h1.2, Nat.add_sub_cancel_left]
  · rw [if_neg h1]
    by_cases h2 : a = 128 ∧ 85 + 8 * n ≤ b ∧ b < 85 + 8 * n + k
    · rw [if_pos h2, if_pos (by omega)]
    · rw [if_neg h2, if_neg (by omega)]
noncomputable def nnF (F L : Nat → Int32) (n ns : Nat) (j : Nat) : Int32 := if j = 69 + n then Int32.ofNat ns else if 85 + 8 * n ≤ j ∧ j < 85 + 8 * n + ns then L (j - (85 + 8 * n)) else F j
theorem nn_id {N : Nat} {so nu : Int32} {C : cm_M} (h : C.1 2 9 ≠ 0) : cF_newName N so nu C = C := by
  have e : cF_newChk C = C := by
    unfold cF_newChk
    split
    · split
      · rfl
      · exact cF_fail_id h
    · exact cF_fail_id h
  unfold cF_newName
  rw [e]
  have e2 : cF_put so nu C = C := by
    unfold cF_put
    rw [if_neg (fun q => h q.1)]
  rw [e2]
  exact cF_step_id h
theorem nn_bad {N : Nat} {so nu x : Int32} {C : cm_M} (hx : x ≠ 0) (h : cF_newChk C = cF_fail x C) : cF_newName N so nu C = cF_fail x C := by
  have h9 : (cF_fail x C).1 2 9 ≠ 0 := cF_fail_9n hx
  unfold cF_newName
  rw [h]
  have e2 : cF_put so nu (cF_fail x C) = cF_fail x C := by
    unfold cF_put
    rw [if_neg (fun q => h9 q.1)]
  rw [e2]
  exact cF_step_id h9
noncomputable abbrev nn_K (N n : Nat) (so nu : Int32) (C D : cm_M) : cm_K := fun v M' => v = none ∧ ∃ D', M' = fm D' ∧ Rq N (cF_newName N so nu C) D' ∧ ((cF_newName N so nu C).1 2 9 = 0 → C.1 2 9 = 0 ∧ cF_newChk C = C ∧ cF_name C = -1 ∧ ∃ L ns, 0 < ns ∧ wrep (C.2.1 2 6) L ns ∧ ∀ j, D'.1 128 j = nnF (D.1 128) L n ns j)
noncomputable def nw_J (N n : Nat) (C D : cm_M) (S : cm_S) : Prop := C.1 2 9 = 0 ∧ cF_newChk C = C ∧ cF_name C = -1 ∧ ∃ (D1 : cm_M) (ns k : Nat), Rq N C D1 ∧ D1.1 128 = D.1 128 ∧ 0 < ns ∧ ns ≤ 8 ∧ D1.1 124 8 = Int32.ofNat ns ∧ wrep (C.2.1 2 6) (D1.1 126) ns ∧ k ≤ ns ∧ S = (45, [(0, .ref 124), (1, .int (Int32.ofNat n)), (2, .int (Int32.ofNat k))], [], fm (cpm D1 n k))
set_option maxRecDepth 100000 in
set_option maxHeartbeats 4000000 in
theorem m_newName {N nam me mo ch n : Nat} {so nu : Int32} (n16 : n < 16) {C D : cm_M} (h : Rq N C D) (hc : C.1 2 9 = 0 → NC nam me mo ch C (D.1 128)) : cm_Lc cm_ms 183 [.ref 124, .int (Int32.ofNat n)] (fm D) (nn_K N n so nu C D) := by
  refine lb_of (mi := mr_183) rfl [(45, [0, 1, 2])] (nw_J N n C D) 60 (fun S hS => ?_) 60 ?_
  · obtain ⟨y0, y1, y2, D1, ns, k, r1, f1, s1, s2, s3, s4, hk, rfl⟩ := hS
    show (ev_cmp 3 (Int32.ofNat k) (D1.1 124 8) = true → _) ∧ (ev_cmp 3 (Int32.ofNat k) (D1.1 124 8) = false → _)
    refine ⟨fun h1 => ?_, fun h1 => ?_⟩
    · have g := fn_ge h1
      rw [s3, fn_toInt (by omega), fn_toInt (by omega)] at g
      have : k = ns := by omega
      subst this
      show ∃ R, cm_Lc cm_ms 176 [.ref 124] (fm (cm_wi (cpm D1 n k) 128 ((69 : Int32) + Int32.ofNat n).toNatClampNeg (D1.1 124 8))) R ∧ ∀ v M', R v M' → _
      have hr : Rq N (cF_put so nu C) (cm_wi (cpm D1 n k) 128 ((69 : Int32) + Int32.ofNat n).toNatClampNeg (D1.1 124 8)) := by
        refine Rq_D (Rq_put so nu r1) (fun c i hci => ?_)
        show (if c = 128 ∧ _ then _ else if c = 128 ∧ _ then _ else _) = _
        rw [if_neg (fun q => hci q.1), if_neg (fun q => hci q.1)]
      have h90 : (cF_put so nu C).1 2 9 = 0 := by
        unfold cF_put
        split
        · exact y0
        · exact y0
      refine ⟨_, m_next hr h90, ?_⟩
      rintro v M' ⟨rfl, D2, rfl, r2, f2⟩
      show nn_K N n so nu C D none (fm D2)
      have e : cF_newName N so nu C = cF_step N (cF_put so nu C) := by
        unfold cF_newName
        rw [y1]
      refine ⟨rfl, D2, rfl, by rw [e]; exact r2, fun _ => ⟨y0, y1, y2, D1.1 126, k, s1, s4, fun j => ?_⟩⟩
      rw [f2, ix_69 (by omega), s3]
      show (if 128 = 128 ∧ j = 69 + n then Int32.ofNat k else if 128 = 128 ∧ 85 + 8 * n ≤ j ∧ j < 85 + 8 * n + k then D1.1 126 (j - (85 + 8 * n)) else D1.1 128 j) = _
      unfold nnF
      rw [f1]
      by_cases j1 : j = 69 + n
      · rw [if_pos ⟨rfl, j1⟩, if_pos j1]
      · rw [if_neg (fun q => j1 q.2), if_neg j1]
        by_cases j2 : 85 + 8 * n ≤ j ∧ j < 85 + 8 * n + k
        · rw [if_pos ⟨rfl, j2⟩, if_pos j2]
        · rw [if_neg (fun q => j2 q.2), if_neg j2]
    · have g := fn_nge h1
      rw [s3, fn_toInt (by omega), fn_toInt (by omega)] at g
      have ix : (Int32.ofNat 85 + Int32.ofNat 8 * Int32.ofNat n + Int32.ofNat k).toNatClampNeg = 85 + 8 * n + k := ix2 85 8 (by decide) (by decide) (by omega) (by omega)
      have iy : (Int32.ofNat k).toNatClampNeg = k := fn_nat (by omega)
      show nw_J N n C D (45, [(0, .ref 124), (1, .int (Int32.ofNat n)), (2, .int (Int32.ofNat k + 1))], [], fm (cm_wi (cpm D1 n k) 128 (Int32.ofNat 85 + Int32.ofNat 8 * Int32.ofNat n + Int32.ofNat k).toNatClampNeg (D1.1 126 (Int32.ofNat k).toNatClampNeg)))
      rw [ix, iy, cpm_s, fn_succ]
      exact ⟨y0, y1, y2, D1, ns, k + 1, r1, f1, s1, s2, s3, s4, by omega, rfl⟩
  · show (ev_cmp 0 (D.1 124 13) 0 = true → _) ∧ (ev_cmp 0 (D.1 124 13) 0 = false → _)
    refine ⟨fun h1 => ?_, fun h1 => ?_⟩
    · have z1 : C.1 2 9 = 0 := fl_0 h.2 (fn_eq0 h1)
      show ∃ R, cm_Lc cm_ms 181 [.ref 124] (fm D) R ∧ ∀ v M', R v M' → _
      refine ⟨_, m_mustName h z1, ?_⟩
      rintro v M' ⟨rfl, D1, rfl, r1, f1⟩
      show (ev_cmp 1 (D1.1 124 13) 0 = true → _) ∧ (ev_cmp 1 (D1.1 124 13) 0 = false → _)
      refine ⟨fun h2 => ?_, fun h2 => ?_⟩
      · have z2 : (cF_nm C).1 2 9 ≠ 0 := fl_1 r1.2 (fn_ne h2)
        show (ev_cmp 0 (D1.1 124 13) 0 = true → _) ∧ (ev_cmp 0 (D1.1 124 13) 0 = false → _)
        refine ⟨fun h3 => ?_, fun h3 => ?_⟩
        · have z3 : (cF_nm C).1 2 9 = 0 := fl_0 r1.2 (fn_eq0 h3)
          exact absurd z3 z2
        · have z3 : (cF_nm C).1 2 9 ≠ 0 := fl_1 r1.2 (fn_ne0 h3)
          show nn_K N n so nu C D none (fm D1)
          have q1 : ¬ (C.1 2 3 = 1 ∧ cF_line C = -1) := fun q => z3 (by unfold cF_nm; rw [if_pos q]; exact z1)
          have q2 : cF_nm C = cF_fail 1 C := by
            unfold cF_nm
            rw [if_neg q1]
          have q3 : cF_newName N so nu C = cF_fail 1 C := nn_bad (by decide) (by unfold cF_newChk; rw [if_neg q1])
          refine ⟨rfl, D1, rfl, ?_, ?_⟩
          · rw [q3, ← q2]
            exact r1
          · rw [q3]
            exact fun q => absurd q (cF_fail_9n (by decide))
      · have z2 : (cF_nm C).1 2 9 = 0 := fl_0 r1.2 (fn_eq h2)
        have q1 : C.1 2 3 = 1 ∧ cF_line C = -1 := by
          by_cases q : C.1 2 3 = 1 ∧ cF_line C = -1
          · exact q
          · exfalso
            unfold cF_nm at z2
            rw [if_neg q] at z2
            exact cF_fail_9n (by decide) z2
        have q2 : cF_nm C = C := by
          unfold cF_nm
          rw [if_pos q1]
        rw [q2] at r1
        obtain ⟨ns, s1, s2, s3, s4⟩ := wr_ns r1 q1.1
        obtain ⟨c1, c2, c3, c4, c5, c6⟩ := hc z1
        show ∃ R, cm_Lc cm_ms 182 [.ref 124] (fm D1) R ∧ ∀ v M', R v M' → _
        refine ⟨_, m_find s3 s2 s1, ?_⟩
        rintro v M' ⟨rfl, hx⟩
        have hv : ∃ x, v = some (.int x) ∧ ((x = -1 ∧ cF_name C = -1) ∨ (∃ i, i < nam ∧ cF_name C = Int32.ofNat i ∧ nmv me mo ch (C.1 4 i) (C.1 5 i) ∧ x = Int32.ofNat (nsl (C.1 4 i) (C.1 5 i)))) := by
          rw [← f1] at c6
          rcases hx with ⟨rfl, q⟩ | ⟨n, q3, rfl, q4⟩
          · exact ⟨_, rfl, NF q1.1 c1 c2 c3 c4 c5 c6 s1 s2 s4 (Or.inl ⟨rfl, q⟩)⟩
          · exact ⟨_, rfl, NF q1.1 c1 c2 c3 c4 c5 c6 s1 s2 s4 (Or.inr ⟨n, q3, rfl, q4⟩)⟩
        clear hx
        obtain ⟨x, rfl, hx⟩ := hv
        show (ev_cmp 2 x 0 = true → _) ∧ (ev_cmp 2 x 0 = false → _)
        refine ⟨fun h4 => ?_, fun h4 => ?_⟩
        · show (ev_cmp 0 (D1.1 124 13) 0 = true → _) ∧ (ev_cmp 0 (D1.1 124 13) 0 = false → _)
          refine ⟨fun h5 => ?_, fun h5 => ?_⟩
          · have z5 : C.1 2 9 = 0 := fl_0 r1.2 (fn_eq0 h5)
            show nw_J N n C D (45, [(0, .ref 124), (1, .int (Int32.ofNat n)), (2, .int (Int32.ofNat 0))], [], fm D1)
            have q3 : cF_name C = -1 := by
              rcases hx with ⟨-, q⟩ | ⟨i, i1, i2, i3, rfl⟩
              · exact q
              · have g := fn_lt h4
                have i16 := nsl_16 i3 c3 c4 c5
                rw [fn_toInt (by omega)] at g
                have e0 : (0 : Int32).toInt = 0 := by decide
                omega
            refine ⟨z1, ?_, q3, D1, ns, 0, r1, f1, s1, s2, s3, s4, Nat.zero_le _, ?_⟩
            · unfold cF_newChk
              rw [if_pos q1, if_pos q3]
            · rw [cpm_0]
          · have z5 : C.1 2 9 ≠ 0 := fl_1 r1.2 (fn_ne0 h5)
            show nn_K N n so nu C D none (fm D1)
            exact absurd z1 z5
        · show ∃ R, cm_Lc cm_ms 177 [.ref 124, .int 3, .int (D1.1 124 4)] (fm D1) R ∧ ∀ v M', R v M' → _
          refine ⟨_, m_wrong r1 (x := 3) (by decide), ?_⟩
          rintro v M' ⟨rfl, D2, rfl, r2, f2⟩
          show (ev_cmp 0 (D2.1 124 13) 0 = true → _) ∧ (ev_cmp 0 (D2.1 124 13) 0 = false → _)
          refine ⟨fun h6 => ?_, fun h6 => ?_⟩
          · have z6 : (cF_fail 3 C).1 2 9 = 0 := fl_0 r2.2 (fn_eq0 h6)
            exact absurd z6 (cF_fail_9n (by decide))
          · have z6 : (cF_fail 3 C).1 2 9 ≠ 0 := fl_1 r2.2 (fn_ne0 h6)
            show nn_K N n so nu C D none (fm D2)
            have q3 : cF_newName N so nu C = cF_fail 3 C := by
              refine nn_bad (by decide) ?_
              unfold cF_newChk
              rw [if_pos q1, if_neg]
              intro q
              rcases hx with ⟨rfl, -⟩ | ⟨i, i1, i2, i3, rfl⟩
              · exact absurd h4 (by decide)
              · rw [i2] at q
                exact of_m1 (by omega) q
            refine ⟨rfl, D2, rfl, ?_, ?_⟩
            · rw [q3]
              exact r2
            · rw [q3]
              exact fun q => absurd q (cF_fail_9n (by decide))
    · have z1 : C.1 2 9 ≠ 0 := fl_1 h.2 (fn_ne0 h1)
      show nn_K N n so nu C D none (fm D)
      refine ⟨rfl, D, rfl, ?_, ?_⟩
      · rw [nn_id z1]
        exact h
      · rw [nn_id z1]
        exact fun q => absurd q z1
noncomputable def fr (T : Nat) (C : cm_M) : cm_M := (C.1, C.2.1, fun c i => if c = 2 then (if i = 7 then some T else if i = 0 then some 1 else if i = 11 then some 3 else if i = 12 then some 4 else if i = 13 then some 5 else C.2.2 2 i) else if c = 6 then (if i = 4 then some 7 else if i = 5 then some 8 else if i = 6 then some 9 else if i = 7 then some 10 else if i = 8 then some 11 else if i = 10 then some 12 else if i = 11 then some 13 else if i = 12 then some 14 else if i = 13 then some 15 else if i = 14 then some 16 else if i = 16 then some 17 else if i = 17 then some 18 else C.2.2 6 i) else if c = 19 then (if i = 4 then some 20 else if i = 5 then some 21 else if i = 6 then some 22 else if i = 7 then some 23 else if i = 8 then some 24 else if i = 10 then some 25 else if i = 11 then some 26 else if i = 12 then some 27 else if i = 13 then some 28 else if i = 14 then some 29 else if i = 16 then some 30 else if i = 17 then some 31 else C.2.2 19 i) else C.2.2 c i)
noncomputable def RC (N : Nat) (C : cm_M) : Prop := rs_ok N C ∧ ∃ nn, nn ≤ 16 ∧ C.1 2 10 = Int32.ofNat nn
theorem RC_rs {N T : Nat} {C : cm_M} (h : RC N C) : rs_ok N (fr T C) := ⟨rfl, h.1.2⟩
theorem RC_rn {N T : Nat} {C : cm_M} (h : RC N C) : rn_ok (fr T C) := ⟨rfl, rfl, rfl, h.2⟩
theorem fr_fail (T : Nat) (x : Int32) (C : cm_M) : cF_fail x (fr T C) = fr T (cF_fail x C) := by
  unfold cF_fail
  show (if C.1 2 9 = 0 then _ else _) = _
  split <;> rfl
theorem fr_step (T N : Nat) (C : cm_M) : cF_step N (fr T C) = fr T (cF_step N C) := by
  unfold cF_step
  show (if C.1 2 9 = 0 then _ else _) = _
  split <;> rfl
theorem fr_due (T t : Nat) (C : cm_M) : cF_due t (fr T C) = fr T (cF_due t C) := by
  unfold cF_due
  show (if wt t C = true then _ else _) = _
  split
  · rfl
  · exact fr_fail T 1 C
theorem fr_takeWord (T N t : Nat) (C : cm_M) : cF_takeWord N t (fr T C) = fr T (cF_takeWord N t C) := by
  unfold cF_takeWord
  rw [fr_due, fr_step]
theorem fr_takeWhole (T N : Nat) (lo hi : Int32) (C : cm_M) : cF_takeWhole N lo hi (fr T C) = fr T (cF_takeWhole N lo hi C) := by
  have e : cF_whole lo hi (fr T C) = fr T (cF_whole lo hi C) := by
    unfold cF_whole
    show (if C.1 2 3 = 2 then (if C.1 2 5 < lo ∨ hi < C.1 2 5 then _ else _) else _) = _
    split
    · split
      · exact fr_fail T 4 C
      · rfl
    · exact fr_fail T 1 C
  unfold cF_takeWhole
  rw [e, fr_step]
theorem fr_colour (T : Nat) (C : cm_M) : cF_colour (fr T C) = fr T (cF_colour C) := by
  unfold cF_colour
  show (if wt 11 C = true then _ else if wt 12 C = true then _ else if wt 13 C = true then _ else _) = _
  split
  · rfl
  · split
    · rfl
    · split
      · rfl
      · exact fr_fail T 1 C
theorem nm_fr (T : Nat) (C : cm_M) : ∀ f i, nm_f (fr T C) f i = nm_f C f i
  | 0, i => rfl
  | f + 1, i => by
    unfold nm_f
    rw [nm_fr T C f (i + 1)]
    try rfl
theorem fr_name (T : Nat) (C : cm_M) : cF_name (fr T C) = cF_name C := by
  unfold cF_name
  exact nm_fr T C _ _
theorem ln_fr (T : Nat) (C : cm_M) : ∀ f j, ln_f (fr T C) f j = ln_f C f j
  | 0, j => rfl
  | f + 1, j => by
    unfold ln_f
    rw [ln_fr T C f (j + 1)]
    try rfl
theorem fr_line (T : Nat) (C : cm_M) : cF_line (fr T C) = cF_line C := ln_fr T C 8 0
theorem fr_newName (T N : Nat) (so nu : Int32) (C : cm_M) : cF_newName N so nu (fr T C) = fr T (cF_newName N so nu C) := by
  have e : cF_newChk (fr T C) = fr T (cF_newChk C) := by
    unfold cF_newChk
    rw [fr_line, fr_name]
    show (if C.1 2 3 = 1 ∧ cF_line C = -1 then _ else _) = _
    split
    · split
      · rfl
      · exact fr_fail T 3 C
    · exact fr_fail T 1 C
  have e2 : ∀ X, cF_put so nu (fr T X) = fr T (cF_put so nu X) := fun X => by
    unfold cF_put
    show (if X.1 2 9 = 0 ∧ (X.1 2 10).toInt < 16 then _ else _) = _
    split <;> rfl
  unfold cF_newName
  rw [e, e2, fr_step]
theorem fr_told (T : Nat) (so : Int32) (C : cm_M) : cF_told so (fr T C) = fr T (cF_told so C) := by
  unfold cF_told
  rw [fr_line, fr_name]
  show (if C.1 2 3 = 1 ∧ cF_line C = -1 then (if cF_name C = -1 ∨ C.1 4 (cF_name C).toNatClampNeg ≠ so then _ else _) else _) = _
  split
  · split
    · exact fr_fail T 2 C
    · rfl
  · exact fr_fail T 1 C
theorem fr_toldV (T : Nat) (so : Int32) (C : cm_M) : cF_toldV so (fr T C) = cF_toldV so C := by
  unfold cF_toldV
  rw [fr_told, fr_name]
  try rfl
noncomputable abbrev fq (T : Nat) (v0 : Option Value) (X : cm_M) : cm_K := fun v M' => v = v0 ∧ ∃ A, A = X ∧ M' = fr T A
theorem f_step {T N : Nat} {C : cm_M} (h : RC N C) : cm_Lc cm_ms 88 [.ref 2] (fr T C) (fq T none (cF_step N C)) :=
  cm_Lc_im (cs_step (RC_rs h)) (fun v M' q => ⟨q.1, _, rfl, q.2.trans (fr_step T N C)⟩)
theorem f_fail {T : Nat} (x : Int32) (C : cm_M) : cm_Lc cm_ms 66 [.ref 2, .int x] (fr T C) (fq T none (cF_fail x C)) :=
  cm_Lc_im (cs_fail x _) (fun v M' q => ⟨q.1, _, rfl, q.2.trans (fr_fail T x C)⟩)
theorem f_takeWord {T N t : Nat} (ht : t < 40) {C : cm_M} (h : RC N C) : cm_Lc cm_ms 78 [.ref 2, .ref (1001 + 2 * t)] (fr T C) (fq T none (cF_takeWord N t C)) :=
  cm_Lc_im (cs_takeWord ht (RC_rs h)) (fun v M' q => ⟨q.1, _, rfl, q.2.trans (fr_takeWord T N t C)⟩)
theorem f_takeWhole {T N : Nat} (lo hi : Int32) {C : cm_M} (h : RC N C) : cm_Lc cm_ms 79 [.ref 2, .int lo, .int hi] (fr T C) (fq T (some (.int (C.1 2 5))) (cF_takeWhole N lo hi C)) :=
  cm_Lc_im (cs_takeWhole lo hi (RC_rs h)) (fun v M' q => ⟨q.1, _, rfl, q.2.trans (fr_takeWhole T N lo hi C)⟩)
theorem f_colour {T : Nat} (C : cm_M) : cm_Lc cm_ms 83 [.ref 2] (fr T C) (fq T (some (.int (cF_col C))) (cF_colour C)) :=
  cm_Lc_im (cs_colour _) (fun v M' q => ⟨q.1, _, rfl, q.2.trans (fr_colour T C)⟩)
theorem f_newName {T N : Nat} (so nu : Int32) {C : cm_M} (h : RC N C) : cm_Lc cm_ms 80 [.ref 2, .int so, .int nu] (fr T C) (fq T none (cF_newName N so nu C)) :=
  cm_Lc_im (cs_newName so nu (RC_rs h) (RC_rn h)) (fun v M' q => ⟨q.1, _, rfl, q.2.trans (fr_newName T N so nu C)⟩)
theorem f_told {T N : Nat} (so : Int32) {C : cm_M} (h : RC N C) : cm_Lc cm_ms 81 [.ref 2, .int so] (fr T C) (fq T (some (.int (cF_toldV so C))) (cF_told so C)) :=
  cm_Lc_im (cs_told so (RC_rn h)) (fun v M' q => ⟨by rw [q.1, fr_toldV], _, rfl, q.2.trans (fr_told T so C)⟩)
theorem f_line {T : Nat} (C : cm_M) : cm_Lc cm_ms 84 [.ref 2] (fr T C) (fun v M' => v = some (.int (cF_line C)) ∧ M' = fr T C) :=
  cm_Lc_im (cs_line _) (fun v M' q => ⟨by rw [q.2, fr_line], q.1⟩)
theorem RC_fail {N : Nat} {C : cm_M} (x : Int32) (h : RC N C) : RC N (cF_fail x C) := by
  refine ⟨rs_fail x h.1, ?_⟩
  unfold cF_fail
  split <;> exact h.2
theorem RC_step {N : Nat} {C : cm_M} (h : RC N C) : RC N (cF_step N C) := by
  refine ⟨rs_step h.1, ?_⟩
  unfold cF_step
  split <;> exact h.2
theorem RC_takeWord {N t : Nat} {C : cm_M} (h : RC N C) : RC N (cF_takeWord N t C) := by
  unfold cF_takeWord cF_due
  split
  · exact RC_step h
  · exact RC_step (RC_fail 1 h)
theorem RC_takeWhole {N : Nat} {lo hi : Int32} {C : cm_M} (h : RC N C) : RC N (cF_takeWhole N lo hi C) := by
  unfold cF_takeWhole cF_whole
  split
  · split
    · exact RC_step (RC_fail 4 h)
    · exact RC_step h
  · exact RC_step (RC_fail 1 h)
theorem RC_colour {N : Nat} {C : cm_M} (h : RC N C) : RC N (cF_colour C) := by
  unfold cF_colour
  split
  · exact h
  · split
    · exact h
    · split
      · exact h
      · exact RC_fail 1 h
theorem RC_newName {N : Nat} {so nu : Int32} {C : cm_M} (h : RC N C) : RC N (cF_newName N so nu C) := by
  have h1 : RC N (cF_newChk C) := by
    unfold cF_newChk
    split
    · split
      · exact h
      · exact RC_fail 3 h
    · exact RC_fail 1 h
  unfold cF_newName
  refine RC_step ?_
  refine ⟨rs_put so nu h1.1, ?_⟩
  unfold cF_put
  split
  · rename_i hc
    obtain ⟨nn, h2, h3⟩ := h1.2
    have h16 := hc.2
    rw [h3, fn_toInt (by omega)] at h16
    refine ⟨nn + 1, by omega, ?_⟩
    show (cF_newChk C).1 2 10 + 1 = _
    rw [h3, fn_succ]
  · exact h1.2
theorem RC_told {N : Nat} {so : Int32} {C : cm_M} (h : RC N C) : RC N (cF_told so C) := by
  unfold cF_told
  split
  · split
    · exact RC_fail 2 h
    · exact h
  · exact RC_fail 1 h
noncomputable def KC (C C' : cm_M) : Prop := (∀ c j, 6 ≤ c → C'.1 c j = C.1 c j) ∧ C'.1 2 8 = C.1 2 8
noncomputable def KN (C C' : cm_M) : Prop := C'.1 2 10 = C.1 2 10 ∧ C'.2.1 3 = C.2.1 3 ∧ C'.1 4 = C.1 4 ∧ C'.1 5 = C.1 5
theorem KC_rfl {C : cm_M} : KC C C := ⟨fun _ _ _ => rfl, rfl⟩
theorem KN_rfl {C : cm_M} : KN C C := ⟨rfl, rfl, rfl, rfl⟩
theorem KC_tr {A B C : cm_M} (h : KC A B) (h2 : KC B C) : KC A C := ⟨fun c j hc => (h2.1 c j hc).trans (h.1 c j hc), h2.2.trans h.2⟩
theorem KN_tr {A B C : cm_M} (h : KN A B) (h2 : KN B C) : KN A C := ⟨h2.1.trans h.1, h2.2.1.trans h.2.1, h2.2.2.1.trans h.2.2.1, h2.2.2.2.trans h.2.2.2⟩
theorem K_fail (x : Int32) (C : cm_M) : KC C (cF_fail x C) ∧ KN C (cF_fail x C) := by
  unfold cF_fail
  split
  · refine ⟨⟨fun c j hc => ?_, rfl⟩, rfl, rfl, rfl, rfl⟩
    show (if c = 2 ∧ j = 9 then _ else _) = _
    rw [if_neg (by omega)]
  · exact ⟨KC_rfl, KN_rfl⟩
theorem K_step (N : Nat) (C : cm_M) : KC C (cF_step N C) ∧ KN C (cF_step N C) := by
  unfold cF_step
  split
  · refine ⟨⟨fun c j hc => ?_, rfl⟩, rfl, ?_, rfl, rfl⟩
    · show (if c = 2 ∧ j = 3 then _ else if c = 2 ∧ j = 2 then _ else if c = 2 ∧ j = 5 then _ else if c = 2 ∧ j = 4 then _ else _) = _
      rw [if_neg (by omega), if_neg (by omega), if_neg (by omega), if_neg (by omega)]
    · exact funext fun j => rfl
  · exact ⟨KC_rfl, KN_rfl⟩
theorem K_and {A B C : cm_M} (h : KC A B ∧ KN A B) (h2 : KC B C ∧ KN B C) : KC A C ∧ KN A C := ⟨KC_tr h.1 h2.1, KN_tr h.2 h2.2⟩
theorem K_takeWord (N t : Nat) (C : cm_M) : KC C (cF_takeWord N t C) ∧ KN C (cF_takeWord N t C) := by
  unfold cF_takeWord cF_due
  split
  · exact K_step N C
  · exact K_and (K_fail 1 C) (K_step N _)
theorem K_takeWhole (N : Nat) (lo hi : Int32) (C : cm_M) : KC C (cF_takeWhole N lo hi C) ∧ KN C (cF_takeWhole N lo hi C) := by
  unfold cF_takeWhole cF_whole
  split
  · split
    · exact K_and (K_fail 4 C) (K_step N _)
    · exact K_step N C
  · exact K_and (K_fail 1 C) (K_step N _)
theorem K_colour (C : cm_M) : KC C (cF_colour C) ∧ KN C (cF_colour C) := by
  unfold cF_colour
  split
  · exact ⟨KC_rfl, KN_rfl⟩
  · split
    · exact ⟨KC_rfl, KN_rfl⟩
    · split
      · exact ⟨KC_rfl, KN_rfl⟩
      · exact K_fail 1 C
theorem K_told (so : Int32) (C : cm_M) : KC C (cF_told so C) ∧ KN C (cF_told so C) := by
  unfold cF_told
  split
  · split
    · exact K_fail 2 C
    · exact ⟨KC_rfl, KN_rfl⟩
  · exact K_fail 1 C
theorem K_newChk (C : cm_M) : KC C (cF_newChk C) ∧ KN C (cF_newChk C) := by
  unfold cF_newChk
  split
  · split
    · exact ⟨KC_rfl, KN_rfl⟩
    · exact K_fail 3 C
  · exact K_fail 1 C
theorem K_put (so nu : Int32) (C : cm_M) : KC C (cF_put so nu C) := by
  unfold cF_put
  split
  · refine ⟨fun c j hc => ?_, rfl⟩
    show (if c = 2 ∧ j = 10 then _ else if c = 5 ∧ j = _ then _ else if c = 4 ∧ j = _ then _ else _) = _
    rw [if_neg (by omega), if_neg (by omega), if_neg (by omega)]
    try rfl
  · exact KC_rfl
theorem K_newName (N : Nat) (so nu : Int32) (C : cm_M) : KC C (cF_newName N so nu C) := by
  unfold cF_newName
  exact KC_tr (KC_tr (K_newChk C).1 (K_put so nu _)) (K_step N _).1
