/-! THE CLASS'S READER as functions of the memory, on -/
theorem cs_fail (x : Int32) (M : cm_M) : cm_Lc cm_ms 66 [.ref 2, .int x] M (fun v M' => v = none ∧ M' = cF_fail x M) := by
  refine lb_st0 (mi := mr_66) rfl 20 ?_
  show (ev_cmp 1 (M.1 2 9) 0 = true → _) ∧ (ev_cmp 1 (M.1 2 9) 0 = false → _)
  refine ⟨fun h => ⟨rfl, ?_⟩, fun h => ⟨rfl, ?_⟩⟩
  · unfold cF_fail
    rw [if_neg (fn_ne h)]
    rfl
  · unfold cF_fail
    rw [if_pos (fn_eq h)]
    rfl
/-- the number of a text constant -/
def sn (t : Nat) : Int64 := match ev_strs[t]? with
  | some r => sw r.2.2.2 r.2.2.2.length
  | none => 0
/-- the token is this word -/
def wt (t : Nat) (M : cm_M) : Bool := decide (M.1 2 3 = 1) && decide (M.2.1 2 6 = sn t)
set_option maxRecDepth 1000000 in
theorem strs_len : ∀ r ∈ ev_strs, r.2.2.2.length < 1000 := by decide +kernel
set_option maxRecDepth 1000000 in
theorem strs_40 : ev_strs.length = 40 := by decide +kernel
theorem strs_at {t : Nat} (ht : t < 40) : ∃ r, ev_strs[(1001 + 2 * t + 1 - 1001) / 2]? = some r ∧ r.2.2.2.length < 1000 ∧ sn t = sw r.2.2.2 r.2.2.2.length := by
  have hl : t < ev_strs.length := by rw [strs_40]; exact ht
  have e : (1001 + 2 * t + 1 - 1001) / 2 = t := by omega
  have h1 := List.getElem?_eq_getElem hl
  refine ⟨ev_strs[t], by rw [e]; exact h1, strs_len _ (List.mem_of_getElem? h1), ?_⟩
  unfold sn
  rw [h1]
theorem cs_isWord {t : Nat} (ht : t < 40) (M : cm_M) : cm_Lc cm_ms 86 [.ref 2, .ref (1001 + 2 * t)] M (fun v M' => M' = M ∧ v = some (.int (bi (wt t M)))) := by
  obtain ⟨r, h1, h2, h3⟩ := strs_at ht
  refine cm_Lc_im (fn_isWord h1 h2 M) (fun v M' q => ⟨q.1, ?_⟩)
  unfold wt
  rw [h3]
  exact q.2
/-- a word that is due -/
def cF_due (t : Nat) (M : cm_M) : cm_M := if wt t M = true then M else cF_fail 1 M
theorem rs_due {N : Nat} {M : cm_M} (t : Nat) (h : rs_ok N M) : rs_ok N (cF_due t M) := by
  unfold cF_due
  split
  · exact h
  · exact rs_fail 1 h
theorem bi_n1 {b : Bool} (h : ev_cmp 1 (bi b) 0 = true) : b = true := by
  cases b with
  | true => rfl
  | false => exact absurd h (by decide)
theorem bi_n0 {b : Bool} (h : ev_cmp 1 (bi b) 0 = false) : b = false := by
  cases b with
  | false => rfl
  | true => exact absurd h (by decide)
theorem cs_takeWord {N t : Nat} (ht : t < 40) {M : cm_M} (h : rs_ok N M) : cm_Lc cm_ms 78 [.ref 2, .ref (1001 + 2 * t)] M (fun v M' => v = none ∧ M' = cF_step N (cF_due t M)) := by
  refine lb_st0 (mi := mr_78) rfl 20 ?_
  show ∃ R, cm_Lc cm_ms 86 [.ref 2, .ref (1001 + 2 * t)] M R ∧ ∀ v M', R v M' → _
  refine ⟨_, cs_isWord ht M, ?_⟩
  rintro v M' ⟨rfl, rfl⟩
  show (ev_cmp 1 (bi (wt t M')) 0 = true → ∃ R, cm_Lc cm_ms 88 [.ref 2] M' R ∧ ∀ v M', R v M' → _) ∧ (ev_cmp 1 (bi (wt t M')) 0 = false → ∃ R, cm_Lc cm_ms 66 [.ref 2, .int 1] M' R ∧ ∀ v M', R v M' → _)
  refine ⟨fun h1 => ⟨_, cs_step h, ?_⟩, fun h1 => ⟨_, cs_fail 1 M', ?_⟩⟩
  · rintro v M2 ⟨rfl, rfl⟩
    refine ⟨rfl, ?_⟩
    show cF_step N M' = _
    unfold cF_due
    rw [if_pos (bi_n1 h1)]
  · rintro v M2 ⟨rfl, rfl⟩
    show ∃ R, cm_Lc cm_ms 88 [.ref 2] (cF_fail 1 M') R ∧ ∀ v M', R v M' → _
    refine ⟨_, cs_step (rs_fail 1 h), ?_⟩
    rintro v M3 ⟨rfl, rfl⟩
    refine ⟨rfl, ?_⟩
    show cF_step N (cF_fail 1 M') = _
    unfold cF_due
    rw [if_neg (by rw [bi_n0 h1]; decide)]
/-- a whole number within bounds -/
def cF_whole (lo hi : Int32) (M : cm_M) : cm_M := if M.1 2 3 = 2 then (if M.1 2 5 < lo ∨ hi < M.1 2 5 then cF_fail 4 M else M) else cF_fail 1 M
theorem rs_whole {N : Nat} {M : cm_M} (lo hi : Int32) (h : rs_ok N M) : rs_ok N (cF_whole lo hi M) := by
  unfold cF_whole
  split
  · split
    · exact rs_fail 4 h
    · exact h
  · exact rs_fail 1 h
theorem cF_fail_5 (x : Int32) (M : cm_M) : (cF_fail x M).1 2 5 = M.1 2 5 := by
  unfold cF_fail
  split
  · rfl
  · rfl
noncomputable abbrev cw_R (N : Nat) (lo hi : Int32) (M : cm_M) : cm_K := fun v M' => v = some (.int (M.1 2 5)) ∧ M' = cF_step N (cF_whole lo hi M)
set_option maxRecDepth 100000 in
theorem cs_takeWhole {N : Nat} (lo hi : Int32) {M : cm_M} (h : rs_ok N M) : cm_Lc cm_ms 79 [.ref 2, .int lo, .int hi] M (cw_R N lo hi M) := by
  refine lb_st0 (mi := mr_79) rfl 40 ?_
  have go : ∀ X : cm_M, X.1 2 5 = M.1 2 5 → X = cF_whole lo hi M → rs_ok N X → cm_Lc cm_ms 88 [.ref 2] X (fun v M' => v = none ∧ M' = cF_step N (cF_whole lo hi M)) := fun X h1 h2 h3 => by rw [← h2]; exact cs_step h3
  show (ev_cmp 0 (M.1 2 3) 2 = true → (ev_cmp 2 (M.1 2 5) lo = true → ∃ R, cm_Lc cm_ms 66 [.ref 2, .int 4] M R ∧ ∀ v M', R v M' → _) ∧ (ev_cmp 2 (M.1 2 5) lo = false → (ev_cmp 5 (M.1 2 5) hi = true → ∃ R, cm_Lc cm_ms 88 [.ref 2] M R ∧ ∀ v M', R v M' → _) ∧ (ev_cmp 5 (M.1 2 5) hi = false → ∃ R, cm_Lc cm_ms 66 [.ref 2, .int 4] M R ∧ ∀ v M', R v M' → _))) ∧ (ev_cmp 0 (M.1 2 3) 2 = false → ∃ R, cm_Lc cm_ms 66 [.ref 2, .int 1] M R ∧ ∀ v M', R v M' → _)
  have four : (M.1 2 3 = 2) → (M.1 2 5 < lo ∨ hi < M.1 2 5) → cF_fail 4 M = cF_whole lo hi M := fun a b => by unfold cF_whole; rw [if_pos a, if_pos b]
  refine ⟨fun h1 => ⟨fun h2 => ⟨_, cs_fail 4 M, ?_⟩, fun h2 => ⟨fun h3 => ⟨_, go M rfl ?_ h, ?_⟩, fun h3 => ⟨_, cs_fail 4 M, ?_⟩⟩⟩, fun h1 => ⟨_, cs_fail 1 M, ?_⟩⟩
  · rintro v M' ⟨rfl, rfl⟩
    show ∃ R, cm_Lc cm_ms 88 [.ref 2] (cF_fail 4 M) R ∧ ∀ v M', R v M' → _
    refine ⟨_, go (cF_fail 4 M) (cF_fail_5 4 M) (four (fn_eq0 h1) (Or.inl (of_decide_eq_true h2))) (rs_fail 4 h), ?_⟩
    have e5 := cF_fail_5 4 M
    rintro v2 M2 ⟨rfl, rfl⟩
    show cw_R N lo hi M (some (.int ((cF_fail 4 M).1 2 5))) (cF_step N (cF_whole lo hi M))
    exact ⟨by rw [e5], rfl⟩
  · unfold cF_whole
    rw [if_pos (fn_eq0 h1), if_neg]
    have g2 := fn_nlt h2
    have g3 := fn_le h3
    rintro (c | c)
    · rw [Int32.lt_iff_toInt_lt] at c; omega
    · rw [Int32.lt_iff_toInt_lt] at c; omega
  · rintro v2 M2 ⟨rfl, rfl⟩
    show cw_R N lo hi M (some (.int (M.1 2 5))) (cF_step N (cF_whole lo hi M))
    exact ⟨rfl, rfl⟩
  · rintro v M' ⟨rfl, rfl⟩
    show ∃ R, cm_Lc cm_ms 88 [.ref 2] (cF_fail 4 M) R ∧ ∀ v M', R v M' → _
    refine ⟨_, go (cF_fail 4 M) (cF_fail_5 4 M) (four (fn_eq0 h1) (Or.inr (Int32.lt_iff_toInt_lt.mpr (fn_nle h3)))) (rs_fail 4 h), ?_⟩
    have e5 := cF_fail_5 4 M
    rintro v2 M2 ⟨rfl, rfl⟩
    show cw_R N lo hi M (some (.int ((cF_fail 4 M).1 2 5))) (cF_step N (cF_whole lo hi M))
    exact ⟨by rw [e5], rfl⟩
  · rintro v M' ⟨rfl, rfl⟩
    show ∃ R, cm_Lc cm_ms 88 [.ref 2] (cF_fail 1 M) R ∧ ∀ v M', R v M' → _
    refine ⟨_, go (cF_fail 1 M) (cF_fail_5 1 M) (by unfold cF_whole; rw [if_neg (fn_ne0 h1)]) (rs_fail 1 h), ?_⟩
    have e5 := cF_fail_5 1 M
    rintro v2 M2 ⟨rfl, rfl⟩
    show cw_R N lo hi M (some (.int ((cF_fail 1 M).1 2 5))) (cF_step N (cF_whole lo hi M))
    exact ⟨by rw [e5], rfl⟩
/-- a colour's number, and what is told if there is none -/
def cF_col (M : cm_M) : Int32 := if wt 11 M = true then 0 else if wt 12 M = true then 1 else if wt 13 M = true then 2 else -1
def cF_colour (M : cm_M) : cm_M := if wt 11 M = true then M else if wt 12 M = true then M else if wt 13 M = true then M else cF_fail 1 M
theorem cs_colour (M : cm_M) : cm_Lc cm_ms 83 [.ref 2] M (fun v M' => v = some (.int (cF_col M)) ∧ M' = cF_colour M) := by
  refine lb_st0 (mi := mr_83) rfl 40 ?_
  show ∃ R, cm_Lc cm_ms 86 [.ref 2, .ref (1001 + 2 * 11)] M R ∧ ∀ v M', R v M' → _
  refine ⟨_, cs_isWord (by decide) M, ?_⟩
  rintro v M' ⟨rfl, rfl⟩
  show (ev_cmp 0 (bi (wt 11 M')) 0 = true → ∃ R, cm_Lc cm_ms 86 [.ref 2, .ref (1001 + 2 * 12)] M' R ∧ ∀ v M', R v M' → _) ∧ (ev_cmp 0 (bi (wt 11 M')) 0 = false → _)
  refine ⟨fun h => ⟨_, cs_isWord (by decide) M', ?_⟩, fun h => ?_⟩
  · have w1 := bi_0 h
    rintro v M' ⟨rfl, rfl⟩
    show (ev_cmp 0 (bi (wt 12 M')) 0 = true → ∃ R, cm_Lc cm_ms 86 [.ref 2, .ref (1001 + 2 * 13)] M' R ∧ ∀ v M', R v M' → _) ∧ (ev_cmp 0 (bi (wt 12 M')) 0 = false → _)
    refine ⟨fun h => ⟨_, cs_isWord (by decide) M', ?_⟩, fun h => ?_⟩
    · have w2 := bi_0 h
      rintro v M' ⟨rfl, rfl⟩
      show (ev_cmp 0 (bi (wt 13 M')) 0 = true → ∃ R, cm_Lc cm_ms 66 [.ref 2, .int 1] M' R ∧ ∀ v M', R v M' → _) ∧ (ev_cmp 0 (bi (wt 13 M')) 0 = false → _)
      refine ⟨fun h => ⟨_, cs_fail 1 M', ?_⟩, fun h => ?_⟩
      · have w3 := bi_0 h
        rintro v M2 ⟨rfl, rfl⟩
        refine ⟨?_, ?_⟩
        · unfold cF_col; rw [w1, w2, w3]; rfl
        · unfold cF_colour; rw [w1, w2, w3]; rfl
      · have w3 := bi_1 h
        refine ⟨?_, ?_⟩
        · unfold cF_col; rw [w1, w2, w3]; rfl
        · unfold cF_colour; rw [w1, w2, w3]; rfl
    · have w2 := bi_1 h
      refine ⟨?_, ?_⟩
      · unfold cF_col; rw [w1, w2]; rfl
      · unfold cF_colour; rw [w1, w2]; rfl
  · have w1 := bi_1 h
    refine ⟨?_, ?_⟩
    · unfold cF_col; rw [w1]; rfl
    · unfold cF_colour; rw [w1]; rfl
/-- the line's first word -/
theorem cs_first0 (M : cm_M) : cm_Lc cm_ms 85 [.int 0] M (fun v M' => M' = M ∧ v = some (.ref (1001 + 2 * 0))) := by
  refine lb_st0 (mi := mr_85) rfl 20 ?_
  refine ⟨fun h => ?_, fun j o ho hj => ?_⟩
  · exact absurd h (by decide)
  · have hj : (0 : Int) = 0 + (j : Int) := hj
    have : j = 0 := by omega
    subst this
    cases ho
    exact ⟨rfl, rfl⟩
theorem cs_first1 (M : cm_M) : cm_Lc cm_ms 85 [.int 1] M (fun v M' => M' = M ∧ v = some (.ref (1001 + 2 * 1))) := by
  refine lb_st0 (mi := mr_85) rfl 20 ?_
  refine ⟨fun h => ?_, fun j o ho hj => ?_⟩
  · exact absurd h (by decide)
  · have hj : (1 : Int) = 0 + (j : Int) := hj
    have : j = 1 := by omega
    subst this
    cases ho
    exact ⟨rfl, rfl⟩
theorem cs_first2 (M : cm_M) : cm_Lc cm_ms 85 [.int 2] M (fun v M' => M' = M ∧ v = some (.ref (1001 + 2 * 2))) := by
  refine lb_st0 (mi := mr_85) rfl 20 ?_
  refine ⟨fun h => ?_, fun j o ho hj => ?_⟩
  · exact absurd h (by decide)
  · have hj : (2 : Int) = 0 + (j : Int) := hj
    have : j = 2 := by omega
    subst this
    cases ho
    exact ⟨rfl, rfl⟩
theorem cs_first3 (M : cm_M) : cm_Lc cm_ms 85 [.int 3] M (fun v M' => M' = M ∧ v = some (.ref (1001 + 2 * 3))) := by
  refine lb_st0 (mi := mr_85) rfl 20 ?_
  refine ⟨fun h => ?_, fun j o ho hj => ?_⟩
  · exact absurd h (by decide)
  · have hj : (3 : Int) = 0 + (j : Int) := hj
    have : j = 3 := by omega
    subst this
    cases ho
    exact ⟨rfl, rfl⟩
theorem cs_first4 (M : cm_M) : cm_Lc cm_ms 85 [.int 4] M (fun v M' => M' = M ∧ v = some (.ref (1001 + 2 * 4))) := by
  refine lb_st0 (mi := mr_85) rfl 20 ?_
  refine ⟨fun h => ?_, fun j o ho hj => ?_⟩
  · exact absurd h (by decide)
  · have hj : (4 : Int) = 0 + (j : Int) := hj
    have : j = 4 := by omega
    subst this
    cases ho
    exact ⟨rfl, rfl⟩
theorem cs_first5 (M : cm_M) : cm_Lc cm_ms 85 [.int 5] M (fun v M' => M' = M ∧ v = some (.ref (1001 + 2 * 5))) := by
  refine lb_st0 (mi := mr_85) rfl 20 ?_
  refine ⟨fun h => ?_, fun j o ho hj => ?_⟩
  · exact absurd h (by decide)
  · have hj : (5 : Int) = 0 + (j : Int) := hj
    have : j = 5 := by omega
    subst this
    cases ho
    exact ⟨rfl, rfl⟩
theorem cs_first6 (M : cm_M) : cm_Lc cm_ms 85 [.int 6] M (fun v M' => M' = M ∧ v = some (.ref (1001 + 2 * 6))) := by
  refine lb_st0 (mi := mr_85) rfl 20 ?_
  refine ⟨fun h => ?_, fun j o ho hj => ?_⟩
  · exact absurd h (by decide)
  · have hj : (6 : Int) = 0 + (j : Int) := hj
    have : j = 6 := by omega
    subst this
    cases ho
    exact ⟨rfl, rfl⟩
theorem cs_first7 (M : cm_M) : cm_Lc cm_ms 85 [.int 7] M (fun v M' => M' = M ∧ v = some (.ref (1001 + 2 * 7))) := by
  refine lb_st0 (mi := mr_85) rfl 20 ?_
  refine ⟨fun h => ⟨rfl, rfl⟩, fun j o ho hj => ?_⟩
  have hj : (7 : Int) = 0 + (j : Int) := hj
  have : j = 7 := by omega
  subst this
  cases ho
theorem cs_first {j : Nat} (h : j < 8) (M : cm_M) : cm_Lc cm_ms 85 [.int (Int32.ofNat j)] M (fun v M' => M' = M ∧ v = some (.ref (1001 + 2 * j))) := by
  match j, h with
  | 0, _ => exact cs_first0 M
  | 1, _ => exact cs_first1 M
  | 2, _ => exact cs_first2 M
  | 3, _ => exact cs_first3 M
  | 4, _ => exact cs_first4 M
  | 5, _ => exact cs_first5 M
  | 6, _ => exact cs_first6 M
  | 7, _ => exact cs_first7 M
  | n + 8, h => omega
def ln_f (M : cm_M) : Nat → Nat → Int32
  | 0, _ => -1
  | f + 1, j => if wt j M = true then Int32.ofNat j else ln_f M f (j + 1)
def cF_line (M : cm_M) : Int32 := ln_f M 8 0
def li_J (M : cm_M) (S : cm_S) : Prop := ∃ j, j ≤ 8 ∧ cF_line M = ln_f M (8 - j) j ∧ S = (2, [(0, .ref 2), (1, .int (Int32.ofNat j))], [], M)
set_option maxRecDepth 100000 in
theorem cs_line (M : cm_M) : cm_Lc cm_ms 84 [.ref 2] M (fun v M' => M' = M ∧ v = some (.int (cF_line M))) := by
  refine lb_of (mi := mr_84) rfl [(2, [0, 1])] (li_J M) 30 (fun S hS => ?_) 10 ?_
  · obtain ⟨j, hj, hl, rfl⟩ := hS
    have e8 : (8 : Int32).toInt = 8 := by decide
    show (ev_cmp 3 (Int32.ofNat j) 8 = true → _) ∧ (ev_cmp 3 (Int32.ofNat j) 8 = false → ∃ R, cm_Lc cm_ms 85 [.int (Int32.ofNat j)] M R ∧ ∀ v M', R v M' → _)
    refine ⟨fun h => ⟨rfl, ?_⟩, fun h => ?_⟩
    · have h1 := fn_ge h
      rw [fn_toInt (by omega)] at h1
      have : j = 8 := by omega
      subst this
      rw [hl]
      rfl
    · have h1 := fn_nge h
      rw [fn_toInt (by omega)] at h1
      refine ⟨_, cs_first (by omega) M, ?_⟩
      rintro v M' ⟨rfl, rfl⟩
      show ∃ R, cm_Lc cm_ms 86 [.ref 2, .ref (1001 + 2 * j)] M' R ∧ ∀ v M', R v M' → _
      refine ⟨_, cs_isWord (by omega) M', ?_⟩
      rintro v M' ⟨rfl, rfl⟩
      have e : 8 - j = (8 - (j + 1)) + 1 := by omega
      rw [e] at hl
      unfold ln_f at hl
      show (ev_cmp 0 (bi (wt j M')) 0 = true → li_J M' (2, [(0, .ref 2), (1, .int (Int32.ofNat j + 1))], [], M')) ∧ (ev_cmp 0 (bi (wt j M')) 0 = false → _)
      refine ⟨fun h2 => ?_, fun h2 => ⟨rfl, ?_⟩⟩
      · rw [if_neg (by rw [bi_0 h2]; decide)] at hl
        rw [fn_succ]
        exact ⟨j + 1, by omega, hl, rfl⟩
      · rw [if_pos (bi_1 h2)] at hl
        rw [hl]
  · show li_J M (2, [(0, .ref 2), (1, .int 0)], [], M)
    exact ⟨0, by omega, rfl, rfl⟩
