noncomputable def tn_f6 (M : cm_M) : cm_M := cm_wr (cm_wr (cm_wr (cm_wr (cm_wr (cm_wr (cm_wr (cm_wr (cm_wr (cm_wr (cm_wr (cm_wr M 6 4 (some 7)) 6 5 (some 8)) 6 6 (some 9)) 6 7 (some 10)) 6 8 (some 11)) 6 10 (some 12)) 6 11 (some 13)) 6 12 (some 14)) 6 13 (some 15)) 6 14 (some 16)) 6 16 (some 17)) 6 17 (some 18)
noncomputable def tn_ok6 (M : cm_M) : Prop := M.2.2 6 4 = some 7 ∧ M.2.2 6 5 = some 8 ∧ M.2.2 6 6 = some 9 ∧ M.2.2 6 7 = some 10 ∧ M.2.2 6 8 = some 11 ∧ M.2.2 6 10 = some 12 ∧ M.2.2 6 11 = some 13 ∧ M.2.2 6 12 = some 14 ∧ M.2.2 6 13 = some 15 ∧ M.2.2 6 14 = some 16 ∧ M.2.2 6 16 = some 17 ∧ M.2.2 6 17 = some 18
theorem tn_f6_eq {M : cm_M} (h : tn_ok6 M) : tn_f6 M = M := by
  unfold tn_f6
  rw [wr_id h.1, wr_id (h.2.1), wr_id (h.2.2.1), wr_id (h.2.2.2.1), wr_id (h.2.2.2.2.1), wr_id (h.2.2.2.2.2.1), wr_id (h.2.2.2.2.2.2.1), wr_id (h.2.2.2.2.2.2.2.1), wr_id (h.2.2.2.2.2.2.2.2.1), wr_id (h.2.2.2.2.2.2.2.2.2.1), wr_id (h.2.2.2.2.2.2.2.2.2.2.1), wr_id (h.2.2.2.2.2.2.2.2.2.2.2)]
noncomputable def cF_addMan6 (c h0 v0 : Int32) (M : cm_M) : cm_M := if 6 ≤ (M.1 6 3).toInt then M else cm_wi (cm_wi (cm_wi (cm_wi (cm_wi (cm_wi M 7 (M.1 6 3).toNatClampNeg c) 8 (M.1 6 3).toNatClampNeg h0) 9 (M.1 6 3).toNatClampNeg v0) 10 (M.1 6 3).toNatClampNeg 0) 11 (M.1 6 3).toNatClampNeg 0) 6 3 (M.1 6 3 + 1)
set_option maxRecDepth 100000 in
theorem cs_addMan6 (c h0 v0 : Int32) {M : cm_M} (h : tn_ok6 M) : cm_Lc cm_ms 9 [.ref 6, .int c, .int h0, .int v0] M (fun v M' => v = none ∧ M' = cF_addMan6 c h0 v0 M) := by
  have e := tn_f6_eq h
  have z : (6 : Int32).toInt = 6 := by decide
  have key : cm_Lc cm_ms 9 [.ref 6, .int c, .int h0, .int v0] (tn_f6 M) (fun v M' => v = none ∧ M' = cF_addMan6 c h0 v0 M) := by
    refine lb_st0 (mi := mr_9) rfl 80 ?_
    show (ev_cmp 2 (M.1 6 3) 6 = true → _) ∧ (ev_cmp 2 (M.1 6 3) 6 = false → _)
    refine ⟨fun h1 => ?_, fun h1 => ?_⟩
    · have g := fn_lt h1
      show (none : Option Value) = none ∧ cm_wi (cm_wi (cm_wi (cm_wi (cm_wi (cm_wi (tn_f6 M) 7 (M.1 6 3).toNatClampNeg c) 8 (M.1 6 3).toNatClampNeg h0) 9 (M.1 6 3).toNatClampNeg v0) 10 (M.1 6 3).toNatClampNeg 0) 11 (M.1 6 3).toNatClampNeg 0) 6 3 (M.1 6 3 + 1) = cF_addMan6 c h0 v0 M
      unfold cF_addMan6
      rw [if_neg (by omega), e]
      exact ⟨rfl, rfl⟩
    · have g := fn_nlt h1
      show (none : Option Value) = none ∧ tn_f6 M = cF_addMan6 c h0 v0 M
      unfold cF_addMan6
      rw [if_pos (by omega), e]
      exact ⟨rfl, rfl⟩
  rw [e] at key
  exact key
noncomputable def cF_addMotion6 (c n0 w0 : Int32) (M : cm_M) : cm_M := if 5 ≤ (M.1 6 9).toInt then M else cm_wi (cm_wi (cm_wi (cm_wi (cm_wi M 12 (M.1 6 9).toNatClampNeg c) 13 (M.1 6 9).toNatClampNeg n0) 14 (M.1 6 9).toNatClampNeg w0) 15 (M.1 6 9).toNatClampNeg 0) 6 9 (M.1 6 9 + 1)
set_option maxRecDepth 100000 in
theorem cs_addMotion6 (c n0 w0 : Int32) {M : cm_M} (h : tn_ok6 M) : cm_Lc cm_ms 10 [.ref 6, .int c, .int n0, .int w0] M (fun v M' => v = none ∧ M' = cF_addMotion6 c n0 w0 M) := by
  have e := tn_f6_eq h
  have z : (5 : Int32).toInt = 5 := by decide
  have key : cm_Lc cm_ms 10 [.ref 6, .int c, .int n0, .int w0] (tn_f6 M) (fun v M' => v = none ∧ M' = cF_addMotion6 c n0 w0 M) := by
    refine lb_st0 (mi := mr_10) rfl 80 ?_
    show (ev_cmp 2 (M.1 6 9) 5 = true → _) ∧ (ev_cmp 2 (M.1 6 9) 5 = false → _)
    refine ⟨fun h1 => ?_, fun h1 => ?_⟩
    · have g := fn_lt h1
      show (none : Option Value) = none ∧ cm_wi (cm_wi (cm_wi (cm_wi (cm_wi (tn_f6 M) 12 (M.1 6 9).toNatClampNeg c) 13 (M.1 6 9).toNatClampNeg n0) 14 (M.1 6 9).toNatClampNeg w0) 15 (M.1 6 9).toNatClampNeg 0) 6 9 (M.1 6 9 + 1) = cF_addMotion6 c n0 w0 M
      unfold cF_addMotion6
      rw [if_neg (by omega), e]
      exact ⟨rfl, rfl⟩
    · have g := fn_nlt h1
      show (none : Option Value) = none ∧ tn_f6 M = cF_addMotion6 c n0 w0 M
      unfold cF_addMotion6
      rw [if_pos (by omega), e]
      exact ⟨rfl, rfl⟩
  rw [e] at key
  exact key
noncomputable def cF_addChair6 (c : Int32) (M : cm_M) : cm_M := if 5 ≤ (M.1 6 15).toInt then M else cm_wi (cm_wi M 17 (M.1 6 15).toNatClampNeg c) 6 15 (M.1 6 15 + 1)
set_option maxRecDepth 100000 in
theorem cs_addChair6 (c : Int32) {M : cm_M} (h : tn_ok6 M) : cm_Lc cm_ms 11 [.ref 6, .int c] M (fun v M' => v = none ∧ M' = cF_addChair6 c M) := by
  have e := tn_f6_eq h
  have z : (5 : Int32).toInt = 5 := by decide
  have key : cm_Lc cm_ms 11 [.ref 6, .int c] (tn_f6 M) (fun v M' => v = none ∧ M' = cF_addChair6 c M) := by
    refine lb_st0 (mi := mr_11) rfl 80 ?_
    show (ev_cmp 3 (M.1 6 15) 5 = true → _) ∧ (ev_cmp 3 (M.1 6 15) 5 = false → _)
    refine ⟨fun h1 => ?_, fun h1 => ?_⟩
    · have g := fn_ge h1
      show (none : Option Value) = none ∧ tn_f6 M = cF_addChair6 c M
      unfold cF_addChair6
      rw [if_pos (by omega), e]
      exact ⟨rfl, rfl⟩
    · have g := fn_nge h1
      show (none : Option Value) = none ∧ cm_wi (cm_wi (tn_f6 M) 17 (M.1 6 15).toNatClampNeg c) 6 15 (M.1 6 15 + 1) = cF_addChair6 c M
      unfold cF_addChair6
      rw [if_neg (by omega), e]
      exact ⟨rfl, rfl⟩
  rw [e] at key
  exact key
noncomputable def tn_f19 (M : cm_M) : cm_M := cm_wr (cm_wr (cm_wr (cm_wr (cm_wr (cm_wr (cm_wr (cm_wr (cm_wr (cm_wr (cm_wr (cm_wr M 19 4 (some 20)) 19 5 (some 21)) 19 6 (some 22)) 19 7 (some 23)) 19 8 (some 24)) 19 10 (some 25)) 19 11 (some 26)) 19 12 (some 27)) 19 13 (some 28)) 19 14 (some 29)) 19 16 (some 30)) 19 17 (some 31)
noncomputable def tn_ok19 (M : cm_M) : Prop := M.2.2 19 4 = some 20 ∧ M.2.2 19 5 = some 21 ∧ M.2.2 19 6 = some 22 ∧ M.2.2 19 7 = some 23 ∧ M.2.2 19 8 = some 24 ∧ M.2.2 19 10 = some 25 ∧ M.2.2 19 11 = some 26 ∧ M.2.2 19 12 = some 27 ∧ M.2.2 19 13 = some 28 ∧ M.2.2 19 14 = some 29 ∧ M.2.2 19 16 = some 30 ∧ M.2.2 19 17 = some 31
theorem tn_f19_eq {M : cm_M} (h : tn_ok19 M) : tn_f19 M = M := by
  unfold tn_f19
  rw [wr_id h.1, wr_id (h.2.1), wr_id (h.2.2.1), wr_id (h.2.2.2.1), wr_id (h.2.2.2.2.1), wr_id (h.2.2.2.2.2.1), wr_id (h.2.2.2.2.2.2.1), wr_id (h.2.2.2.2.2.2.2.1), wr_id (h.2.2.2.2.2.2.2.2.1), wr_id (h.2.2.2.2.2.2.2.2.2.1), wr_id (h.2.2.2.2.2.2.2.2.2.2.1), wr_id (h.2.2.2.2.2.2.2.2.2.2.2)]
noncomputable def cF_addMan19 (c h0 v0 : Int32) (M : cm_M) : cm_M := if 6 ≤ (M.1 19 3).toInt then M else cm_wi (cm_wi (cm_wi (cm_wi (cm_wi (cm_wi M 20 (M.1 19 3).toNatClampNeg c) 21 (M.1 19 3).toNatClampNeg h0) 22 (M.1 19 3).toNatClampNeg v0) 23 (M.1 19 3).toNatClampNeg 0) 24 (M.1 19 3).toNatClampNeg 0) 19 3 (M.1 19 3 + 1)
set_option maxRecDepth 100000 in
theorem cs_addMan19 (c h0 v0 : Int32) {M : cm_M} (h : tn_ok19 M) : cm_Lc cm_ms 9 [.ref 19, .int c, .int h0, .int v0] M (fun v M' => v = none ∧ M' = cF_addMan19 c h0 v0 M) := by
  have e := tn_f19_eq h
  have z : (6 : Int32).toInt = 6 := by decide
  have key : cm_Lc cm_ms 9 [.ref 19, .int c, .int h0, .int v0] (tn_f19 M) (fun v M' => v = none ∧ M' = cF_addMan19 c h0 v0 M) := by
    refine lb_st0 (mi := mr_9) rfl 80 ?_
    show (ev_cmp 2 (M.1 19 3) 6 = true → _) ∧ (ev_cmp 2 (M.1 19 3) 6 = false → _)
    refine ⟨fun h1 => ?_, fun h1 => ?_⟩
    · have g := fn_lt h1
      show (none : Option Value) = none ∧ cm_wi (cm_wi (cm_wi (cm_wi (cm_wi (cm_wi (tn_f19 M) 20 (M.1 19 3).toNatClampNeg c) 21 (M.1 19 3).toNatClampNeg h0) 22 (M.1 19 3).toNatClampNeg v0) 23 (M.1 19 3).toNatClampNeg 0) 24 (M.1 19 3).toNatClampNeg 0) 19 3 (M.1 19 3 + 1) = cF_addMan19 c h0 v0 M
      unfold cF_addMan19
      rw [if_neg (by omega), e]
      exact ⟨rfl, rfl⟩
    · have g := fn_nlt h1
      show (none : Option Value) = none ∧ tn_f19 M = cF_addMan19 c h0 v0 M
      unfold cF_addMan19
      rw [if_pos (by omega), e]
      exact ⟨rfl, rfl⟩
  rw [e] at key
  exact key
noncomputable def cF_addMotion19 (c n0 w0 : Int32) (M : cm_M) : cm_M := if 5 ≤ (M.1 19 9).toInt then M else cm_wi (cm_wi (cm_wi (cm_wi (cm_wi M 25 (M.1 19 9).toNatClampNeg c) 26 (M.1 19 9).toNatClampNeg n0) 27 (M.1 19 9).toNatClampNeg w0) 28 (M.1 19 9).toNatClampNeg 0) 19 9 (M.1 19 9 + 1)
set_option maxRecDepth 100000 in
theorem cs_addMotion19 (c n0 w0 : Int32) {M : cm_M} (h : tn_ok19 M) : cm_Lc cm_ms 10 [.ref 19, .int c, .int n0, .int w0] M (fun v M' => v = none ∧ M' = cF_addMotion19 c n0 w0 M) := by
  have e := tn_f19_eq h
  have z : (5 : Int32).toInt = 5 := by decide
  have key : cm_Lc cm_ms 10 [.ref 19, .int c, .int n0, .int w0] (tn_f19 M) (fun v M' => v = none ∧ M' = cF_addMotion19 c n0 w0 M) := by
    refine lb_st0 (mi := mr_10) rfl 80 ?_
    show (ev_cmp 2 (M.1 19 9) 5 = true → _) ∧ (ev_cmp 2 (M.1 19 9) 5 = false → _)
    refine ⟨fun h1 => ?_, fun h1 => ?_⟩
    · have g := fn_lt h1
      show (none : Option Value) = none ∧ cm_wi (cm_wi (cm_wi (cm_wi (cm_wi (tn_f19 M) 25 (M.1 19 9).toNatClampNeg c) 26 (M.1 19 9).toNatClampNeg n0) 27 (M.1 19 9).toNatClampNeg w0) 28 (M.1 19 9).toNatClampNeg 0) 19 9 (M.1 19 9 + 1) = cF_addMotion19 c n0 w0 M
      unfold cF_addMotion19
      rw [if_neg (by omega), e]
      exact ⟨rfl, rfl⟩
    · have g := fn_nlt h1
      show (none : Option Value) = none ∧ tn_f19 M = cF_addMotion19 c n0 w0 M
      unfold cF_addMotion19
      rw [if_pos (by omega), e]
      exact ⟨rfl, rfl⟩
  rw [e] at key
  exact key
noncomputable def cF_addChair19 (c : Int32) (M : cm_M) : cm_M := if 5 ≤ (M.1 19 15).toInt then M else cm_wi (cm_wi M 30 (M.1 19 15).toNatClampNeg c) 19 15 (M.1 19 15 + 1)
set_option maxRecDepth 100000 in
theorem cs_addChair19 (c : Int32) {M : cm_M} (h : tn_ok19 M) : cm_Lc cm_ms 11 [.ref 19, .int c] M (fun v M' => v = none ∧ M' = cF_addChair19 c M) := by
  have e := tn_f19_eq h
  have z : (5 : Int32).toInt = 5 := by decide
  have key : cm_Lc cm_ms 11 [.ref 19, .int c] (tn_f19 M) (fun v M' => v = none ∧ M' = cF_addChair19 c M) := by
    refine lb_st0 (mi := mr_11) rfl 80 ?_
    show (ev_cmp 3 (M.1 19 15) 5 = true → _) ∧ (ev_cmp 3 (M.1 19 15) 5 = false → _)
    refine ⟨fun h1 => ?_, fun h1 => ?_⟩
    · have g := fn_ge h1
      show (none : Option Value) = none ∧ tn_f19 M = cF_addChair19 c M
      unfold cF_addChair19
      rw [if_pos (by omega), e]
      exact ⟨rfl, rfl⟩
    · have g := fn_nge h1
      show (none : Option Value) = none ∧ cm_wi (cm_wi (tn_f19 M) 30 (M.1 19 15).toNatClampNeg c) 19 15 (M.1 19 15 + 1) = cF_addChair19 c M
      unfold cF_addChair19
      rw [if_neg (by omega), e]
      exact ⟨rfl, rfl⟩
  rw [e] at key
  exact key
noncomputable def cF_takeWord (N t : Nat) (M : cm_M) : cm_M := cF_step N (cF_due t M)
noncomputable def cF_takeWhole (N : Nat) (lo hi : Int32) (M : cm_M) : cm_M := cF_step N (cF_whole lo hi M)
noncomputable def fm (D : cm_M) : cm_M := (D.1, D.2.1, fun c i => if c = 124 then (if i = 16 then some 128 else if i = 15 then some 127 else if i = 17 then some 129 else if i = 12 then some 126 else if i = 1 then some 125 else if i = 22 then some 132 else if i = 18 then some 130 else if i = 19 then some 131 else if i = 23 then some 133 else if i = 24 then some 134 else if i = 26 then some 135 else D.2.2 124 i) else D.2.2 c i)
/-- the two tokens -/
noncomputable def tw (C D : cm_M) : Prop := (C.1 2 3 = 0 ∧ D.1 124 6 = 0) ∨ (C.1 2 3 = 1 ∧ D.1 124 6 = 2 ∧ ∃ ns : Nat, 0 < ns ∧ D.1 124 8 = Int32.ofNat ns ∧ wrep (C.2.1 2 6) (D.1 126) ns) ∨ (C.1 2 3 = 2 ∧ D.1 124 6 = 3 ∧ D.1 124 7 = C.1 2 5) ∨ (C.1 2 3 = 3 ∧ D.1 124 6 = 59) ∨ (C.1 2 3 = 4 ∧ D.1 124 6 = 1)
noncomputable def rt (N : Nat) (C D : cm_M) : Prop := (∀ j, j < N → tb (C.1 1 j) (D.1 125 j)) ∧ rs_ok N C ∧ D.1 124 3 = Int32.ofNat N ∧ D.1 124 5 = C.1 2 2 ∧ D.1 124 4 = C.1 2 4 ∧ tw C D
/-- what the reference's reader leaves alone: as it stands in the class's memory too -/
noncomputable def prC (c j : Nat) : Prop := (127 ≤ c ∧ c ≠ 128) ∨ (c = 124 ∧ 14 ≤ j)
noncomputable def fl (C D : cm_M) : Prop := ((C.1 2 9 = 0 ∧ D.1 124 13 = 0 ∧ D.1 124 9 = 0) ∨ (C.1 2 9 ≠ 0 ∧ D.1 124 13 = 1 ∧ D.1 124 9 = C.1 2 9 ∧ D.1 124 10 = C.1 2 4)) ∧ (D.1 124 0 = 0 ∧ D.1 124 2 = 0 ∧ D.1 124 11 = 0) ∧ ∀ c j, prC c j → D.1 c j = C.1 c j
theorem wi_n2 {M : cm_M} {c i x y : Nat} {v : Int32} (h : ¬ (x = c ∧ y = i)) : (cm_wi M c i v).1 x y = M.1 x y := by
  show (if x = c ∧ y = i then _ else _) = _
  rw [if_neg h]
noncomputable def Rq (N : Nat) (C D : cm_M) : Prop := rt N C D ∧ fl C D
noncomputable abbrev mq (N : Nat) (C' D : cm_M) : cm_K := fun v M' => v = none ∧ ∃ D', M' = fm D' ∧ Rq N C' D' ∧ D'.1 128 = D.1 128
theorem fl_0 {C D : cm_M} (h : fl C D) (hc : D.1 124 13 = 0) : C.1 2 9 = 0 := by
  rcases h.1 with h | h
  · exact h.1
  · rw [h.2.1] at hc
    exact absurd hc (by decide)
theorem fl_1 {C D : cm_M} (h : fl C D) (hc : D.1 124 13 ≠ 0) : C.1 2 9 ≠ 0 := by
  rcases h.1 with h | h
  · exact absurd h.2.1 hc
  · exact h.1
theorem fl_c {C D : cm_M} (h : fl C D) (hc : C.1 2 9 = 0) : D.1 124 13 = 0 := by
  rcases h.1 with h | h
  · exact h.2.1
  · exact absurd hc h.1
theorem fl_9 {C D : cm_M} (h : fl C D) (hc : C.1 2 9 = 0) : D.1 124 9 = 0 := by
  rcases h.1 with h | h
  · exact h.2.2
  · exact absurd hc h.1
theorem fl_b {C D : cm_M} (h : fl C D) (hc : C.1 2 9 ≠ 0) : D.1 124 9 = C.1 2 9 ∧ D.1 124 10 = C.1 2 4 := by
  rcases h.1 with h | h
  · exact absurd h.1 hc
  · exact h.2.2
/-- a fault is told on both sides -/
theorem Rq_fail {N : Nat} {C D : cm_M} (h : Rq N C D) (h0 : C.1 2 9 = 0) {x : Int32} (hx : x ≠ 0) : Rq N (cF_fail x C) (cm_wi (cm_wi (cm_wi D 124 13 1) 124 9 x) 124 10 (D.1 124 4)) := by
  obtain ⟨⟨a1, a2, a3, a4, a5, a6⟩, b⟩ := h
  refine ⟨⟨?_, rs_fail x a2, a3, ?_, ?_, ?_⟩, ?_⟩
  · intro j hj
    unfold cF_fail
    rw [if_pos h0]
    exact a1 j hj
  · unfold cF_fail
    rw [if_pos h0]
    exact a4
  · unfold cF_fail
    rw [if_pos h0]
    exact a5
  · unfold cF_fail
    rw [if_pos h0]
    exact a6
  · unfold cF_fail
    rw [if_pos h0]
    refine ⟨Or.inr ⟨hx, rfl, rfl, a5⟩, b.2.1, fun c j q => ?_⟩
    unfold prC at q
    rw [wi_n2 (by omega), wi_n2 (by omega), wi_n2 (by omega), wi_n2 (by omega)]
    exact b.2.2 c j q
theorem cF_fail_id {x : Int32} {C : cm_M} (h : C.1 2 9 ≠ 0) : cF_fail x C = C := by
  unfold cF_fail
  rw [if_neg h]
theorem cF_fail_9 {x : Int32} {C : cm_M} (h : C.1 2 9 = 0) : (cF_fail x C).1 2 9 = x := by
  unfold cF_fail
  rw [if_pos h]
  try rfl
theorem cF_fail_9n {x : Int32} {C : cm_M} (hx : x ≠ 0) : (cF_fail x C).1 2 9 ≠ 0 := by
  by_cases h : C.1 2 9 = 0
  · rw [cF_fail_9 h]
    exact hx
  · rw [cF_fail_id h]
    exact h
theorem cF_step_id {N : Nat} {C : cm_M} (h : C.1 2 9 ≠ 0) : cF_step N C = C := by
  unfold cF_step
  rw [if_neg h]
theorem cF_step_9 {N : Nat} {C : cm_M} : (cF_step N C).1 2 9 = C.1 2 9 := by
  unfold cF_step
  split
  · rfl
  · rfl
/-- the next token on both sides -/
theorem Rq_next {N : Nat} {C D D' : cm_M} (h : Rq N C D) (h0 : C.1 2 9 = 0) (hn : ∃ k : Nat, k ≤ N ∧ C.1 2 2 = Int32.ofNat k ∧ ∃ s e tok wh ns, tk_e ch_s (D.1 125) N k s ∧ mk_k (D.1 125) N s e tok wh ns ∧ D' = nx_m D s e tok wh ns) : Rq N (cF_step N C) D' := by
  obtain ⟨⟨a1, a2, a3, a4, a5, a6⟩, b⟩ := h
  obtain ⟨k, hk, hk2, s, e, tok, wh, ns, t1, t2, rfl⟩ := hn
  have hN9 := a2.2.2.1
  have r2 := rs_step a2
  have ht : tk_Q (C.1 1) N k (cF_tok N C) := by
    unfold cF_tok
    rw [hk2, fn_nat (by omega)]
    exact tk_of_ok hk
  obtain ⟨e1, e2, e3⟩ := tk_two a1 ht.1 ht.2 t1 t2
  have hb := fl_c b h0
  have hb9 := fl_9 b h0
  have es : cF_step N C = tk_m C (cF_tok N C).1 (cF_tok N C).2.1 (cF_tok N C).2.2.1 (cF_tok N C).2.2.2.1 (cF_tok N C).2.2.2.2 := by
    unfold cF_step
    rw [if_pos h0]
  rw [es] at r2 ⊢
  generalize cF_tok N C = t at ht e1 e2 e3 r2
  obtain ⟨s0, e0, kd, va, wd⟩ := t
  dsimp only at e1 e2 e3 r2 ht ⊢
  subst e1
  subst e2
  refine ⟨⟨a1, r2, a3, rfl, rfl, ?_⟩, Or.inl ⟨h0, hb, hb9⟩, b.2.1, fun c j q => ?_⟩
  rotate_left
  · unfold prC at q
    have e1 : (nx_m D s e tok wh ns).1 c j = D.1 c j := by
      unfold nx_m
      rw [wi_n2 (by omega), wi_n2 (by omega), wi_n2 (by omega), wi_n2 (by omega), wi_n2 (by omega)]
      show (if c = 126 ∧ j < min ns 8 then _ else _) = _
      rw [if_neg (by omega)]
    have e2 : (tk_m C s e kd va wd).1 c j = C.1 c j := by
      show (cm_wi (cm_wi (cm_wi (cm_wi C 2 4 _) 2 5 _) 2 2 _) 2 3 _).1 c j = _
      rw [wi_n2 (by omega), wi_n2 (by omega), wi_n2 (by omega), wi_n2 (by omega)]
    rw [e1, e2]
    exact b.2.2 c j q
  rcases e3 with ⟨q1, q2⟩ | ⟨q1, q2, q3, q4, q5, q6, q7⟩ | ⟨q1, q2, q3⟩ | ⟨q1, q2⟩ | ⟨q1, q2⟩
  · exact Or.inl ⟨q1, q2⟩
  · refine Or.inr (Or.inl ⟨q1, q2, ns, q5, rfl, q4, ?_, ?_⟩)
    · intro j hj
      have hjs : s + j < e := by omega
      have h1 := q7 (s + j) (by omega) hjs
      have eN : e ≤ N := tk_k_e ht.1.2.1 ht.2
      have hL : (nx_m D s e tok wh ns).1 126 j = D.1 125 (s + j) := by
        show (if 126 = 126 ∧ j < min ns 8 then D.1 125 (s + j) else _) = _
        rw [if_pos ⟨rfl, by omega⟩]
      rw [hL]
      have := tb_l (a1 (s + j) (by omega))
      rw [this]
      exact h1
    · show wd = _
      rw [q6, tk_w_sh]
      refine tk_w_cg ns (fun j hj => ?_)
      have hjs : s + j < e := by omega
      have h1 := q7 (s + j) (by omega) hjs
      have eN : e ≤ N := tk_k_e ht.1.2.1 ht.2
      have hL : (nx_m D s e tok wh ns).1 126 j = D.1 125 (s + j) := by
        show (if 126 = 126 ∧ j < min ns 8 then D.1 125 (s + j) else _) = _
        rw [if_pos ⟨rfl, by omega⟩]
      rw [hL]
      exact (tb_eq (a1 (s + j) (by omega)) (Or.inl h1)).symm
  · exact Or.inr (Or.inr (Or.inl ⟨q1, q2, q3.symm⟩))
  · exact Or.inr (Or.inr (Or.inr (Or.inl ⟨q1, q2⟩)))
  · exact Or.inr (Or.inr (Or.inr (Or.inr ⟨q1, q2⟩)))
theorem m_next {N : Nat} {C D : cm_M} (h : Rq N C D) (h0 : C.1 2 9 = 0) : cm_Lc cm_ms 176 [.ref 124] (fm D) (mq N (cF_step N C) D) := by
  obtain ⟨k, hk, hk2⟩ := h.1.2.1.2.2.2
  have hN9 := h.1.2.1.2.2.1
  refine cm_Lc_im (fn_next (M := fm D) (N := N) (k := k) rfl rfl h.1.2.2.1 hN9 (fun j hj => (h.1.1 j hj).1) (h.1.2.2.2.1.trans hk2) hk) (fun v M' q => ?_)
  obtain ⟨q1, s, e, tok, wh, ns, q2, q3, q4⟩ := q
  exact ⟨q1, nx_m D s e tok wh ns, q4, Rq_next h h0 ⟨k, hk, hk2, s, e, tok, wh, ns, q2, q3, rfl⟩, rfl⟩
theorem m_isWord {N t : Nat} (ht : t < 40) {C D : cm_M} (h : Rq N C D) : cm_Lc cm_ms 178 [.ref 124, .ref (1001 + 2 * t)] (fm D) (fun v M' => v = some (.int (bi (decide (C.1 2 9 = 0) && wt t C))) ∧ M' = fm D) := by
  obtain ⟨r, h1, h2, h3⟩ := strs_at ht
  refine cm_Lc_im (fn_mIsWord h1 h2 (M := fm D) rfl rfl) (fun v M' q => ⟨?_, q.1⟩)
  rw [q.2]
  congr 3
  have e13 : decide ((fm D).1 124 13 = 0) = decide (C.1 2 9 = 0) := by
    refine decide_eq_decide.mpr ⟨fun hh => fl_0 h.2 hh, fun hh => fl_c h.2 hh⟩
  rw [e13]
  congr 1
  have hr : ev_strs[t]? = some r := by
    have e : (1001 + 2 * t + 1 - 1001) / 2 = t := by omega
    rw [← e]
    exact h1
  have hrep := sn_rep hr
  have hl8 := hrep.1
  unfold wt
  rcases h.1.2.2.2.2.2 with ⟨a, b⟩ | ⟨a, b, ns, c1, c2, c3⟩ | ⟨a, b, -⟩ | ⟨a, b⟩ | ⟨a, b⟩
  · rw [a, show (fm D).1 124 6 = 0 from b]; try rfl
  · rw [a, show (fm D).1 124 6 = 2 from b]
    show (true && _) = (true && _)
    rw [Bool.true_and, Bool.true_and]
    rw [show (fm D).1 124 8 = Int32.ofNat ns from c2]
    have hw := wrep_eq c3 hrep
    have hns := c3.1
    have e8 : (Int32.ofNat ns = Int32.ofNat r.2.2.2.length) ↔ ns = r.2.2.2.length := by
      constructor
      · intro hh
        have := congrArg Int32.toInt hh
        rw [fn_toInt (by omega), fn_toInt (by omega)] at this
        omega
      · intro hh
        rw [hh]
    by_cases hn : ns = r.2.2.2.length
    · rw [decide_eq_true (e8.mpr hn), Bool.true_and]
      unfold mw_same
      refine decide_eq_decide.mpr ⟨fun hh => hw.mpr ⟨hn, fun j hj => hh j (by omega)⟩, fun hh k hk => (hw.mp hh).2 k (by omega)⟩
    · rw [decide_eq_false (fun hh => hn (e8.mp hh)), Bool.false_and, decide_eq_false (fun hh => hn (hw.mp hh).1)]
  · rw [a, show (fm D).1 124 6 = 3 from b]; try rfl
  · rw [a, show (fm D).1 124 6 = 59 from b]; try rfl
  · rw [a, show (fm D).1 124 6 = 1 from b]; try rfl
set_option maxRecDepth 100000 in
set_option maxHeartbeats 4000000 in
theorem m_wrong {N : Nat} {C D : cm_M} (h : Rq N C D) {x : Int32} (hx : x ≠ 0) : cm_Lc cm_ms 177 [.ref 124, .int x, .int (D.1 124 4)] (fm D) (mq N (cF_fail x C) D) := by
  refine lb_st0 (mi := mr_177) rfl 60 ?_
  show (ev_cmp 0 (D.1 124 13) 0 = true → _) ∧ (ev_cmp 0 (D.1 124 13) 0 = false → _)
  refine ⟨fun h1 => ?_, fun h1 => ?_⟩
  · have z1 : C.1 2 9 = 0 := fl_0 h.2 (fn_eq0 h1)
    show mq N (cF_fail x C) D none (cm_wi (cm_wi (cm_wi (fm D) 124 13 1) 124 9 x) 124 10 (D.1 124 4))
    exact ⟨rfl, _, rfl, Rq_fail h z1 hx, rfl⟩
  · have z1 : C.1 2 9 ≠ 0 := fl_1 h.2 (fn_ne0 h1)
    show mq N (cF_fail x C) D none (fm D)
    refine ⟨rfl, D, rfl, ?_, rfl⟩
    rw [cF_fail_id z1]
    exact h
set_option maxRecDepth 100000 in
set_option maxHeartbeats 4000000 in
theorem m_pass {N : Nat} {C D : cm_M} (h : Rq N C D) : cm_Lc cm_ms 187 [.ref 124] (fm D) (mq N (cF_step N C) D) := by
  refine lb_st0 (mi := mr_187) rfl 60 ?_
  show (ev_cmp 1 (D.1 124 13) 0 = true → _) ∧ (ev_cmp 1 (D.1 124 13) 0 = false → _)
  refine ⟨fun h1 => ?_, fun h1 => ?_⟩
  · have z1 : C.1 2 9 ≠ 0 := fl_1 h.2 (fn_ne h1)
    show mq N (cF_step N C) D none (fm D)
    refine ⟨rfl, D, rfl, ?_, rfl⟩
    rw [cF_step_id z1]
    exact h
  · have z1 : C.1 2 9 = 0 := fl_0 h.2 (fn_eq h1)
    show ∃ R, cm_Lc cm_ms 176 [.ref 124] (fm D) R ∧ ∀ v M', R v M' → _
    refine ⟨_, m_next h z1, ?_⟩
    rintro v M' ⟨rfl, D1, rfl, r1, f1⟩
    show mq N (cF_step N C) D none (fm D1)
    exact ⟨rfl, D1, rfl, r1, f1⟩
noncomputable abbrev mt_R (N t : Nat) (C D : cm_M) : cm_K := fun v M' => v = some (.int (bi (decide (C.1 2 9 = 0) && wt t C))) ∧ ∃ D', M' = fm D' ∧ Rq N (if (decide (C.1 2 9 = 0) && wt t C) = true then cF_step N C else C) D' ∧ D'.1 128 = D.1 128
theorem and_l {a b : Bool} (h : (a && b) = true) : a = true := by
  cases a
  · cases h
  · rfl
theorem and_r {a b : Bool} (h : (a && b) = true) : b = true := by
  cases a
  · cases h
  · exact h
theorem and_f {a b : Bool} (h : (a && b) = false) (ha : a = true) : b = false := by
  rw [ha] at h
  exact h
set_option maxRecDepth 100000 in
set_option maxHeartbeats 4000000 in
theorem m_takesWord {N t : Nat} (ht : t < 40) {C D : cm_M} (h : Rq N C D) : cm_Lc cm_ms 179 [.ref 124, .ref (1001 + 2 * t)] (fm D) (mt_R N t C D) := by
  refine lb_st0 (mi := mr_179) rfl 60 ?_
  show ∃ R, cm_Lc cm_ms 178 [.ref 124, .ref (1001 + 2 * t)] (fm D) R ∧ ∀ v M', R v M' → _
  refine ⟨_, m_isWord (t := t) ht h, ?_⟩
  rintro v M' ⟨rfl, rfl⟩
  show (ev_cmp 1 (bi (decide (C.1 2 9 = 0) && wt t C)) 0 = true → _) ∧ (ev_cmp 1 (bi (decide (C.1 2 9 = 0) && wt t C)) 0 = false → _)
  refine ⟨fun h1 => ?_, fun h1 => ?_⟩
  · have w1 : (decide (C.1 2 9 = 0) && wt t C) = true := bi_n1 h1
    show ∃ R, cm_Lc cm_ms 176 [.ref 124] (fm D) R ∧ ∀ v M', R v M' → _
    refine ⟨_, m_next h (of_decide_eq_true (and_l w1)), ?_⟩
    rintro v M' ⟨rfl, D1, rfl, r1, f1⟩
    show mt_R N t C D (some (.int 1)) (fm D1)
    refine ⟨by rw [w1]; try rfl, D1, rfl, ?_, f1⟩
    rw [if_pos w1]
    exact r1
  · have w1 : (decide (C.1 2 9 = 0) && wt t C) = false := bi_n0 h1
    show mt_R N t C D (some (.int 0)) (fm D)
    refine ⟨by rw [w1]; try rfl, D, rfl, ?_, rfl⟩
    rw [if_neg (by rw [w1]; decide)]
    exact h
theorem tkw_id {N t : Nat} {C : cm_M} (h : C.1 2 9 ≠ 0) : cF_takeWord N t C = C := by
  unfold cF_takeWord cF_due
  split
  · exact cF_step_id h
  · rw [cF_fail_id h]
    exact cF_step_id h
theorem tkw_ok {N t : Nat} {C : cm_M} (h : wt t C = true) : cF_takeWord N t C = cF_step N C := by
  unfold cF_takeWord cF_due
  rw [if_pos h]
theorem tkw_no {N t : Nat} {C : cm_M} (h : wt t C = false) : cF_takeWord N t C = cF_fail 1 C := by
  unfold cF_takeWord cF_due
  rw [if_neg (by rw [h]; decide)]
  exact cF_step_id (cF_fail_9n (by decide))
set_option maxRecDepth 100000 in
set_option maxHeartbeats 4000000 in
theorem m_must {N t : Nat} (ht : t < 40) {C D : cm_M} (h : Rq N C D) : cm_Lc cm_ms 180 [.ref 124, .ref (1001 + 2 * t)] (fm D) (mq N (cF_takeWord N t C) D) := by
  refine lb_st0 (mi := mr_180) rfl 60 ?_
  show (ev_cmp 1 (D.1 124 13) 0 = true → _) ∧ (ev_cmp 1 (D.1 124 13) 0 = false → _)
  refine ⟨fun h1 => ?_, fun h1 => ?_⟩
  · have z1 : C.1 2 9 ≠ 0 := fl_1 h.2 (fn_ne h1)
    show mq N (cF_takeWord N t C) D none (fm D)
    refine ⟨rfl, D, rfl, ?_, rfl⟩
    rw [tkw_id z1]
    exact h
  · have z1 : C.1 2 9 = 0 := fl_0 h.2 (fn_eq h1)
    show ∃ R, cm_Lc cm_ms 179 [.ref 124, .ref (1001 + 2 * t)] (fm D) R ∧ ∀ v M', R v M' → _
    refine ⟨_, m_takesWord (t := t) ht h, ?_⟩
    rintro v M' ⟨rfl, D1, rfl, r1, f1⟩
    show (ev_cmp 1 (bi (decide (C.1 2 9 = 0) && wt t C)) 0 = true → _) ∧ (ev_cmp 1 (bi (decide (C.1 2 9 = 0) && wt t C)) 0 = false → _)
    refine ⟨fun h2 => ?_, fun h2 => ?_⟩
    · have w2 : (decide (C.1 2 9 = 0) && wt t C) = true := bi_n1 h2
      show mq N (cF_takeWord N t C) D none (fm D1)
      refine ⟨rfl, D1, rfl, ?_, f1⟩
      rw [tkw_ok (and_r w2)]
      rw [if_pos w2] at r1
      exact r1
    · have w2 : (decide (C.1 2 9 = 0) && wt t C) = false := bi_n0 h2
      show ∃ R, cm_Lc cm_ms 177 [.ref 124, .int 1, .int (D1.1 124 4)] (fm D1) R ∧ ∀ v M', R v M' → _
      refine ⟨_, m_wrong (x := 1) (C := C) (by rw [if_neg (by rw [w2]; decide)] at r1; exact r1) (by decide), ?_⟩
      rintro v M' ⟨rfl, D2, rfl, r2, f2⟩
      show mq N (cF_takeWord N t C) D none (fm D2)
      refine ⟨rfl, D2, rfl, ?_, f2.trans f1⟩
      rw [tkw_no (and_f w2 (decide_eq_true z1))]
      exact r2
theorem m_in (x lo hi : Int32) (M : cm_M) : cm_Lc cm_ms 167 [.int x, .int lo, .int hi] M (fun v M' => v = some (.int (bi (decide (lo ≤ x) && decide (x ≤ hi)))) ∧ M' = M) := by
  refine lb_st0 (mi := mr_167) rfl 20 ?_
  show (ev_cmp 2 x lo = true → _) ∧ (ev_cmp 2 x lo = false → (ev_cmp 4 x hi = true → _) ∧ (ev_cmp 4 x hi = false → _))
  refine ⟨fun h => ?_, fun h => ⟨fun h2 => ?_, fun h2 => ?_⟩⟩
  · have g := fn_lt h
    refine ⟨?_, rfl⟩
    rw [decide_eq_false (fun hh => by rw [Int32.le_iff_toInt_le] at hh; omega)]
    try rfl
  · have g := fn_gt h2
    refine ⟨?_, rfl⟩
    rw [decide_eq_false (p := x ≤ hi) (fun hh => by rw [Int32.le_iff_toInt_le] at hh; omega), Bool.and_false]
    try rfl
  · have g := fn_nlt h
    have g2 := fn_ngt h2
    refine ⟨?_, rfl⟩
    rw [decide_eq_true (Int32.le_iff_toInt_le.mpr g), decide_eq_true (Int32.le_iff_toInt_le.mpr g2)]
    try rfl
theorem tw_0 {N : Nat} {C D : cm_M} (h : Rq N C D) : D.1 124 6 = 0 ↔ C.1 2 3 = 0 := by
  rcases h.1.2.2.2.2.2 with ⟨a, b⟩ | ⟨a, b, -⟩ | ⟨a, b, -⟩ | ⟨a, b⟩ | ⟨a, b⟩ <;> (rw [a, b] <;> decide)
theorem tw_1 {N : Nat} {C D : cm_M} (h : Rq N C D) : D.1 124 6 = 2 ↔ C.1 2 3 = 1 := by
  rcases h.1.2.2.2.2.2 with ⟨a, b⟩ | ⟨a, b, -⟩ | ⟨a, b, -⟩ | ⟨a, b⟩ | ⟨a, b⟩ <;> (rw [a, b] <;> decide)
theorem tw_2 {N : Nat} {C D : cm_M} (h : Rq N C D) : D.1 124 6 = 3 ↔ C.1 2 3 = 2 := by
  rcases h.1.2.2.2.2.2 with ⟨a, b⟩ | ⟨a, b, -⟩ | ⟨a, b, -⟩ | ⟨a, b⟩ | ⟨a, b⟩ <;> (rw [a, b] <;> decide)
theorem tw_3 {N : Nat} {C D : cm_M} (h : Rq N C D) : D.1 124 6 = 59 ↔ C.1 2 3 = 3 := by
  rcases h.1.2.2.2.2.2 with ⟨a, b⟩ | ⟨a, b, -⟩ | ⟨a, b, -⟩ | ⟨a, b⟩ | ⟨a, b⟩ <;> (rw [a, b] <;> decide)
theorem tw_v {N : Nat} {C D : cm_M} (h : Rq N C D) (h2 : C.1 2 3 = 2) : D.1 124 7 = C.1 2 5 := by
  rcases h.1.2.2.2.2.2 with ⟨a, b⟩ | ⟨a, b, -⟩ | ⟨a, b, c⟩ | ⟨a, b⟩ | ⟨a, b⟩
  · rw [a] at h2; exact absurd h2 (by decide)
  · rw [a] at h2; exact absurd h2 (by decide)
  · exact c
  · rw [a] at h2; exact absurd h2 (by decide)
  · rw [a] at h2; exact absurd h2 (by decide)
theorem tkn_id {N : Nat} {lo hi : Int32} {C : cm_M} (h : C.1 2 9 ≠ 0) : cF_takeWhole N lo hi C = C := by
  have : cF_whole lo hi C = C := by
    unfold cF_whole
    split
    · split
      · exact cF_fail_id h
      · rfl
    · exact cF_fail_id h
  unfold cF_takeWhole
  rw [this]
  exact cF_step_id h
theorem tkn_form {N : Nat} {lo hi : Int32} {C : cm_M} (h : C.1 2 3 ≠ 2) : cF_takeWhole N lo hi C = cF_fail 1 C := by
  unfold cF_takeWhole cF_whole
  rw [if_neg h]
  exact cF_step_id (cF_fail_9n (by decide))
theorem tkn_bd {N : Nat} {lo hi : Int32} {C : cm_M} (h : C.1 2 3 = 2) (hb : (decide (lo ≤ C.1 2 5) && decide (C.1 2 5 ≤ hi)) = false) : cF_takeWhole N lo hi C = cF_fail 4 C := by
  unfold cF_takeWhole cF_whole
  rw [if_pos h, if_pos]
  · exact cF_step_id (cF_fail_9n (by decide))
  · rw [Bool.and_eq_false_iff] at hb
    rcases hb with hb | hb
    · have := of_decide_eq_false hb
      left
      rw [Int32.le_iff_toInt_le] at this
      rw [Int32.lt_iff_toInt_lt]
      omega
    · have := of_decide_eq_false hb
      right
      rw [Int32.le_iff_toInt_le] at this
      rw [Int32.lt_iff_toInt_lt]
      omega
theorem tkn_ok {N : Nat} {lo hi : Int32} {C : cm_M} (h : C.1 2 3 = 2) (hb : (decide (lo ≤ C.1 2 5) && decide (C.1 2 5 ≤ hi)) = true) : cF_takeWhole N lo hi C = cF_step N C := by
  unfold cF_takeWhole cF_whole
  rw [if_pos h, if_neg]
  have h1 := of_decide_eq_true (and_l hb)
  have h2 := of_decide_eq_true (and_r hb)
  rw [Int32.le_iff_toInt_le] at h1 h2
  rintro (c | c)
  · rw [Int32.lt_iff_toInt_lt] at c
    omega
  · rw [Int32.lt_iff_toInt_lt] at c
    omega
noncomputable abbrev mn_R (N : Nat) (lo hi : Int32) (C D : cm_M) : cm_K := fun v M' => ∃ x, v = some (.int x) ∧ ∃ D', M' = fm D' ∧ Rq N (cF_takeWhole N lo hi C) D' ∧ D'.1 128 = D.1 128 ∧ ((cF_takeWhole N lo hi C).1 2 9 = 0 → x = C.1 2 5)
set_option maxRecDepth 100000 in
set_option maxHeartbeats 4000000 in
theorem m_number {N : Nat} (lo hi : Int32) {C D : cm_M} (h : Rq N C D) : cm_Lc cm_ms 188 [.ref 124, .int lo, .int hi] (fm D) (mn_R N lo hi C D) := by
  refine lb_st0 (mi := mr_188) rfl 60 ?_
  show (ev_cmp 0 (D.1 124 13) 0 = true → _) ∧ (ev_cmp 0 (D.1 124 13) 0 = false → _)
  refine ⟨fun h1 => ?_, fun h1 => ?_⟩
  · have z1 : C.1 2 9 = 0 := fl_0 h.2 (fn_eq0 h1)
    show (ev_cmp 0 (D.1 124 6) 3 = true → _) ∧ (ev_cmp 0 (D.1 124 6) 3 = false → _)
    refine ⟨fun h2 => ?_, fun h2 => ?_⟩
    · show ∃ R, cm_Lc cm_ms 167 [.int (D.1 124 7), .int lo, .int hi] (fm D) R ∧ ∀ v M', R v M' → _
      refine ⟨_, m_in (D.1 124 7) lo hi _, ?_⟩
      rintro v M' ⟨rfl, rfl⟩
      show (ev_cmp 1 (bi (decide (lo ≤ (D.1 124 7)) && decide ((D.1 124 7) ≤ hi))) 0 = true → _) ∧ (ev_cmp 1 (bi (decide (lo ≤ (D.1 124 7)) && decide ((D.1 124 7) ≤ hi))) 0 = false → _)
      refine ⟨fun h3 => ?_, fun h3 => ?_⟩
      · have w3 : (decide (lo ≤ (D.1 124 7)) && decide ((D.1 124 7) ≤ hi)) = true := bi_n1 h3
        show (ev_cmp 0 (D.1 124 13) 0 = true → _) ∧ (ev_cmp 0 (D.1 124 13) 0 = false → _)
        refine ⟨fun h4 => ?_, fun h4 => ?_⟩
        · have z4 : C.1 2 9 = 0 := fl_0 h.2 (fn_eq0 h4)
          show ∃ R, cm_Lc cm_ms 176 [.ref 124] (fm D) R ∧ ∀ v M', R v M' → _
          refine ⟨_, m_next h z4, ?_⟩
          rintro v M' ⟨rfl, D1, rfl, r1, f1⟩
          show mn_R N lo hi C D (some (.int (D.1 124 7))) (fm D1)
          refine ⟨_, rfl, D1, rfl, ?_, f1, ?_⟩
          · rw [tkn_ok ((tw_2 h).mp (fn_eq0 h2)) (by rw [tw_v h ((tw_2 h).mp (fn_eq0 h2))] at w3; exact w3)]
            exact r1
          · exact fun _ => tw_v h ((tw_2 h).mp (fn_eq0 h2))
        · have z4 : C.1 2 9 ≠ 0 := fl_1 h.2 (fn_ne0 h4)
          show mn_R N lo hi C D (some (.int lo)) (fm D)
          exact absurd z1 z4
      · have w3 : (decide (lo ≤ (D.1 124 7)) && decide ((D.1 124 7) ≤ hi)) = false := bi_n0 h3
        show ∃ R, cm_Lc cm_ms 177 [.ref 124, .int 4, .int (D.1 124 4)] (fm D) R ∧ ∀ v M', R v M' → _
        refine ⟨_, m_wrong h (x := 4) (by decide), ?_⟩
        rintro v M' ⟨rfl, D1, rfl, r1, f1⟩
        show (ev_cmp 0 (D1.1 124 13) 0 = true → _) ∧ (ev_cmp 0 (D1.1 124 13) 0 = false → _)
        refine ⟨fun h5 => ?_, fun h5 => ?_⟩
        · have z5 : (cF_fail 4 C).1 2 9 = 0 := fl_0 r1.2 (fn_eq0 h5)
          show ∃ R, cm_Lc cm_ms 176 [.ref 124] (fm D1) R ∧ ∀ v M', R v M' → _
          refine ⟨_, m_next r1 z5, ?_⟩
          rintro v M' ⟨rfl, D9, rfl, r9, f9⟩
          show mn_R N lo hi C D (some (.int (D1.1 124 7))) (fm D9)
          exact absurd z5 (cF_fail_9n (by decide))
        · have z5 : (cF_fail 4 C).1 2 9 ≠ 0 := fl_1 r1.2 (fn_ne0 h5)
          show mn_R N lo hi C D (some (.int lo)) (fm D1)
          refine ⟨_, rfl, D1, rfl, ?_, f1, ?_⟩
          · rw [tkn_bd ((tw_2 h).mp (fn_eq0 h2)) (by rw [tw_v h ((tw_2 h).mp (fn_eq0 h2))] at w3; exact w3)]
            exact r1
          · rw [tkn_bd ((tw_2 h).mp (fn_eq0 h2)) (by rw [tw_v h ((tw_2 h).mp (fn_eq0 h2))] at w3; exact w3)]
            exact fun q => absurd q (cF_fail_9n (by decide))
    · show ∃ R, cm_Lc cm_ms 177 [.ref 124, .int 1, .int (D.1 124 4)] (fm D) R ∧ ∀ v M', R v M' → _
      refine ⟨_, m_wrong h (x := 1) (by decide), ?_⟩
      rintro v M' ⟨rfl, D1, rfl, r1, f1⟩
      show (ev_cmp 0 (D1.1 124 13) 0 = true → _) ∧ (ev_cmp 0 (D1.1 124 13) 0 = false → _)
      refine ⟨fun h6 => ?_, fun h6 => ?_⟩
      · have z6 : (cF_fail 1 C).1 2 9 = 0 := fl_0 r1.2 (fn_eq0 h6)
        show ∃ R, cm_Lc cm_ms 176 [.ref 124] (fm D1) R ∧ ∀ v M', R v M' → _
        refine ⟨_, m_next r1 z6, ?_⟩
        rintro v M' ⟨rfl, D9, rfl, r9, f9⟩
        show mn_R N lo hi C D (some (.int (D1.1 124 7))) (fm D9)
        exact absurd z6 (cF_fail_9n (by decide))
      · have z6 : (cF_fail 1 C).1 2 9 ≠ 0 := fl_1 r1.2 (fn_ne0 h6)
        show mn_R N lo hi C D (some (.int lo)) (fm D1)
        refine ⟨_, rfl, D1, rfl, ?_, f1, ?_⟩
        · rw [tkn_form (fun q => fn_ne0 h2 ((tw_2 h).mpr q))]
          exact r1
        · rw [tkn_form (fun q => fn_ne0 h2 ((tw_2 h).mpr q))]
          exact fun q => absurd q (cF_fail_9n (by decide))
  · have z1 : C.1 2 9 ≠ 0 := fl_1 h.2 (fn_ne0 h1)
    show mn_R N lo hi C D (some (.int lo)) (fm D)
    refine ⟨_, rfl, D, rfl, ?_, rfl, ?_⟩
    · rw [tkn_id z1]
      exact h
    · rw [tkn_id z1]
      exact fun q => absurd q z1
noncomputable abbrev ma_R (N t : Nat) (lo hi : Int32) (C D : cm_M) : cm_K := fun v M' => ∃ x, v = some (.int x) ∧ ∃ D', M' = fm D' ∧ Rq N (cF_takeWhole N lo hi (cF_takeWord N t C)) D' ∧ D'.1 128 = D.1 128 ∧ ((cF_takeWhole N lo hi (cF_takeWord N t C)).1 2 9 = 0 → x = (cF_takeWord N t C).1 2 5)
set_option maxRecDepth 100000 in
set_option maxHeartbeats 4000000 in
theorem m_after {N t : Nat} (ht : t < 40) (lo hi : Int32) {C D : cm_M} (h : Rq N C D) : cm_Lc cm_ms 189 [.ref 124, .ref (1001 + 2 * t), .int lo, .int hi] (fm D) (ma_R N t lo hi C D) := by
  refine lb_st0 (mi := mr_189) rfl 60 ?_
  show ∃ R, cm_Lc cm_ms 180 [.ref 124, .ref (1001 + 2 * t)] (fm D) R ∧ ∀ v M', R v M' → _
  refine ⟨_, m_must (t := t) ht h, ?_⟩
  rintro v M' ⟨rfl, D1, rfl, r1, f1⟩
  show ∃ R, cm_Lc cm_ms 188 [.ref 124, .int lo, .int hi] (fm D1) R ∧ ∀ v M', R v M' → _
  refine ⟨_, m_number lo hi r1, ?_⟩
  rintro v M' ⟨x2, rfl, D2, rfl, r2, f2, v2⟩
  show ma_R N t lo hi C D (some (.int x2)) (fm D2)
  exact ⟨_, rfl, D2, rfl, r2, f2.trans f1, v2⟩
set_option maxRecDepth 100000 in
theorem sn_20 : sn 20 = sn 0 := by decide +kernel
theorem wt_20 (C : cm_M) : wt 20 C = wt 0 C := by
  unfold wt
  rw [sn_20]
set_option maxRecDepth 100000 in
theorem sn_21 : sn 21 = sn 8 := by decide +kernel
theorem wt_21 (C : cm_M) : wt 21 C = wt 8 C := by
  unfold wt
  rw [sn_21]
theorem tkw_21 (N : Nat) (C : cm_M) : cF_takeWord N 21 C = cF_takeWord N 8 C := by
  unfold cF_takeWord cF_due
  rw [wt_21]
set_option maxRecDepth 100000 in
theorem sn_22 : sn 22 = sn 9 := by decide +kernel
theorem wt_22 (C : cm_M) : wt 22 C = wt 9 C := by
  unfold wt
  rw [sn_22]
theorem tkw_22 (N : Nat) (C : cm_M) : cF_takeWord N 22 C = cF_takeWord N 9 C := by
  unfold cF_takeWord cF_due
  rw [wt_22]
set_option maxRecDepth 100000 in
theorem sn_23 : sn 23 = sn 10 := by decide +kernel
theorem wt_23 (C : cm_M) : wt 23 C = wt 10 C := by
  unfold wt
  rw [sn_23]
theorem tkw_23 (N : Nat) (C : cm_M) : cF_takeWord N 23 C = cF_takeWord N 10 C := by
  unfold cF_takeWord cF_due
  rw [wt_23]
set_option maxRecDepth 100000 in
theorem sn_24 : sn 24 = sn 1 := by decide +kernel
theorem wt_24 (C : cm_M) : wt 24 C = wt 1 C := by
  unfold wt
  rw [sn_24]
set_option maxRecDepth 100000 in
theorem sn_25 : sn 25 = sn 2 := by decide +kernel
theorem wt_25 (C : cm_M) : wt 25 C = wt 2 C := by
  unfold wt
  rw [sn_25]
set_option maxRecDepth 100000 in
theorem sn_26 : sn 26 = sn 3 := by decide +kernel
theorem wt_26 (C : cm_M) : wt 26 C = wt 3 C := by
  unfold wt
  rw [sn_26]
set_option maxRecDepth 100000 in
theorem sn_27 : sn 27 = sn 4 := by decide +kernel
theorem wt_27 (C : cm_M) : wt 27 C = wt 4 C := by
  unfold wt
  rw [sn_27]
set_option maxRecDepth 100000 in
theorem sn_28 : sn 28 = sn 5 := by decide +kernel
theorem wt_28 (C : cm_M) : wt 28 C = wt 5 C := by
  unfold wt
  rw [sn_28]
set_option maxRecDepth 100000 in
theorem sn_29 : sn 29 = sn 6 := by decide +kernel
theorem wt_29 (C : cm_M) : wt 29 C = wt 6 C := by
  unfold wt
  rw [sn_29]
set_option maxRecDepth 100000 in
theorem sn_30 : sn 30 = sn 7 := by decide +kernel
theorem wt_30 (C : cm_M) : wt 30 C = wt 7 C := by
  unfold wt
  rw [sn_30]
set_option maxRecDepth 100000 in
theorem sn_31 : sn 31 = sn 11 := by decide +kernel
theorem wt_31 (C : cm_M) : wt 31 C = wt 11 C := by
  unfold wt
  rw [sn_31]
set_option maxRecDepth 100000 in
theorem sn_32 : sn 32 = sn 12 := by decide +kernel
theorem wt_32 (C : cm_M) : wt 32 C = wt 12 C := by
  unfold wt
  rw [sn_32]
set_option maxRecDepth 100000 in
theorem sn_33 : sn 33 = sn 13 := by decide +kernel
theorem wt_33 (C : cm_M) : wt 33 C = wt 13 C := by
  unfold wt
  rw [sn_33]
set_option maxRecDepth 100000 in
theorem sn_34 : sn 34 = sn 14 := by decide +kernel
theorem wt_34 (C : cm_M) : wt 34 C = wt 14 C := by
  unfold wt
  rw [sn_34]
theorem tkw_34 (N : Nat) (C : cm_M) : cF_takeWord N 34 C = cF_takeWord N 14 C := by
  unfold cF_takeWord cF_due
  rw [wt_34]
set_option maxRecDepth 100000 in
theorem sn_35 : sn 35 = sn 15 := by decide +kernel
theorem wt_35 (C : cm_M) : wt 35 C = wt 15 C := by
  unfold wt
  rw [sn_35]
theorem tkw_35 (N : Nat) (C : cm_M) : cF_takeWord N 35 C = cF_takeWord N 15 C := by
  unfold cF_takeWord cF_due
  rw [wt_35]
set_option maxRecDepth 100000 in
theorem sn_36 : sn 36 = sn 16 := by decide +kernel
theorem wt_36 (C : cm_M) : wt 36 C = wt 16 C := by
  unfold wt
  rw [sn_36]
theorem tkw_36 (N : Nat) (C : cm_M) : cF_takeWord N 36 C = cF_takeWord N 16 C := by
  unfold cF_takeWord cF_due
  rw [wt_36]
set_option maxRecDepth 100000 in
theorem sn_37 : sn 37 = sn 17 := by decide +kernel
theorem wt_37 (C : cm_M) : wt 37 C = wt 17 C := by
  unfold wt
  rw [sn_37]
theorem tkw_37 (N : Nat) (C : cm_M) : cF_takeWord N 37 C = cF_takeWord N 17 C := by
  unfold cF_takeWord cF_due
  rw [wt_37]
set_option maxRecDepth 100000 in
theorem sn_38 : sn 38 = sn 18 := by decide +kernel
theorem wt_38 (C : cm_M) : wt 38 C = wt 18 C := by
  unfold wt
  rw [sn_38]
theorem tkw_38 (N : Nat) (C : cm_M) : cF_takeWord N 38 C = cF_takeWord N 18 C := by
  unfold cF_takeWord cF_due
  rw [wt_38]
set_option maxRecDepth 100000 in
theorem sn_39 : sn 39 = sn 19 := by decide +kernel
theorem wt_39 (C : cm_M) : wt 39 C = wt 19 C := by
  unfold wt
  rw [sn_39]
theorem tkw_39 (N : Nat) (C : cm_M) : cF_takeWord N 39 C = cF_takeWord N 19 C := by
  unfold cF_takeWord cF_due
  rw [wt_39]
theorem ln_some {C : cm_M} : ∀ (f j i : Nat), j ≤ i → i < j + f → wt i C = true → j + f ≤ 8 → ln_f C f j ≠ -1
  | 0, j, i, h1, h2, _, _ => by omega
  | f + 1, j, i, h1, h2, hw, h8 => by
    unfold ln_f
    by_cases hj : wt j C = true
    · rw [if_pos hj]
      intro hh
      have := congrArg Int32.toInt hh
      rw [fn_toInt (by omega)] at this
      have e : (-1 : Int32).toInt = -1 := by decide
      rw [e] at this
      omega
    · rw [if_neg hj]
      have : j ≠ i := fun e => hj (e ▸ hw)
      exact ln_some f (j + 1) i (by omega) (by omega) hw (by omega)
theorem ln_none {C : cm_M} : ∀ (f j : Nat), (∀ i, j ≤ i → i < j + f → wt i C = false) → ln_f C f j = -1
  | 0, j, _ => rfl
  | f + 1, j, h => by
    unfold ln_f
    rw [if_neg (by rw [h j (by omega) (by omega)]; decide)]
    exact ln_none f (j + 1) (fun i a b => h i (by omega) (by omega))
noncomputable def cF_nm (C : cm_M) : cm_M := if C.1 2 3 = 1 ∧ cF_line C = -1 then C else cF_fail 1 C
theorem nm_no {C : cm_M} {i : Nat} (h8 : i < 8) (h : wt i C = true) : cF_nm C = cF_fail 1 C := by
  unfold cF_nm
  rw [if_neg (fun hh => ln_some 8 0 i (by omega) (by omega) h (by omega) hh.2)]
theorem nm_no2 {C : cm_M} (h : C.1 2 3 ≠ 1) : cF_nm C = cF_fail 1 C := by
  unfold cF_nm
  rw [if_neg (fun hh => h hh.1)]
theorem nm_ok {C : cm_M} (h : C.1 2 3 = 1) (h0 : wt 0 C = false) (h1 : wt 1 C = false) (h2 : wt 2 C = false) (h3 : wt 3 C = false) (h4 : wt 4 C = false) (h5 : wt 5 C = false) (h6 : wt 6 C = false) (h7 : wt 7 C = false) : cF_nm C = C := by
  unfold cF_nm
  rw [if_pos ⟨h, ln_none 8 0 (fun i a b => by
    match i, b with
    | 0, _ => exact h0
    | 1, _ => exact h1
    | 2, _ => exact h2
    | 3, _ => exact h3
    | 4, _ => exact h4
    | 5, _ => exact h5
    | 6, _ => exact h6
    | 7, _ => exact h7
    | n + 8, b => omega)⟩]
set_option maxRecDepth 100000 in
set_option maxHeartbeats 4000000 in
theorem m_mustName {N : Nat} {C D : cm_M} (h : Rq N C D) (h0 : C.1 2 9 = 0) : cm_Lc cm_ms 181 [.ref 124] (fm D) (mq N (cF_nm C) D) := by
  refine lb_st0 (mi := mr_181) rfl 80 ?_
  show (ev_cmp 1 (D.1 124 6) 2 = true → _) ∧ (ev_cmp 1 (D.1 124 6) 2 = false → _)
  refine ⟨fun h1 => ?_, fun h1 => ?_⟩
  · show ∃ R, cm_Lc cm_ms 177 [.ref 124, .int 1, .int (D.1 124 4)] (fm D) R ∧ ∀ v M', R v M' → _
    refine ⟨_, m_wrong h (x := 1) (by decide), ?_⟩
    rintro v M' ⟨rfl, D1, rfl, r1, f1⟩
    show mq N (cF_nm C) D none (fm D1)
    refine ⟨rfl, D1, rfl, ?_, f1⟩
    rw [nm_no2 (fun q => fn_ne h1 ((tw_1 h).mpr q))]
    exact r1
  · show ∃ R, cm_Lc cm_ms 178 [.ref 124, .ref (1001 + 2 * 20)] (fm D) R ∧ ∀ v M', R v M' → _
    refine ⟨_, m_isWord (t := 20) (by decide) h, ?_⟩
    rintro v M' ⟨rfl, rfl⟩
    show (ev_cmp 1 (bi (decide (C.1 2 9 = 0) && wt 20 C)) 0 = true → _) ∧ (ev_cmp 1 (bi (decide (C.1 2 9 = 0) && wt 20 C)) 0 = false → _)
    refine ⟨fun h2 => ?_, fun h2 => ?_⟩
    · have w2 : (decide (C.1 2 9 = 0) && wt 20 C) = true := bi_n1 h2
      show ∃ R, cm_Lc cm_ms 177 [.ref 124, .int 1, .int (D.1 124 4)] (fm D) R ∧ ∀ v M', R v M' → _
      refine ⟨_, m_wrong h (x := 1) (by decide), ?_⟩
      rintro v M' ⟨rfl, D1, rfl, r1, f1⟩
      show mq N (cF_nm C) D none (fm D1)
      refine ⟨rfl, D1, rfl, ?_, f1⟩
      rw [nm_no (i := 0) (by decide) ((wt_20 C).symm.trans (and_r w2))]
      exact r1
    · have w2 : (decide (C.1 2 9 = 0) && wt 20 C) = false := bi_n0 h2
      show ∃ R, cm_Lc cm_ms 178 [.ref 124, .ref (1001 + 2 * 24)] (fm D) R ∧ ∀ v M', R v M' → _
      refine ⟨_, m_isWord (t := 24) (by decide) h, ?_⟩
      rintro v M' ⟨rfl, rfl⟩
      show (ev_cmp 1 (bi (decide (C.1 2 9 = 0) && wt 24 C)) 0 = true → _) ∧ (ev_cmp 1 (bi (decide (C.1 2 9 = 0) && wt 24 C)) 0 = false → _)
      refine ⟨fun h3 => ?_, fun h3 => ?_⟩
      · have w3 : (decide (C.1 2 9 = 0) && wt 24 C) = true := bi_n1 h3
        show ∃ R, cm_Lc cm_ms 177 [.ref 124, .int 1, .int (D.1 124 4)] (fm D) R ∧ ∀ v M', R v M' → _
        refine ⟨_, m_wrong h (x := 1) (by decide), ?_⟩
        rintro v M' ⟨rfl, D1, rfl, r1, f1⟩
        show mq N (cF_nm C) D none (fm D1)
        refine ⟨rfl, D1, rfl, ?_, f1⟩
        rw [nm_no (i := 1) (by decide) ((wt_24 C).symm.trans (and_r w3))]
        exact r1
      · have w3 : (decide (C.1 2 9 = 0) && wt 24 C) = false := bi_n0 h3
        show ∃ R, cm_Lc cm_ms 178 [.ref 124, .ref (1001 + 2 * 25)] (fm D) R ∧ ∀ v M', R v M' → _
        refine ⟨_, m_isWord (t := 25) (by decide) h, ?_⟩
        rintro v M' ⟨rfl, rfl⟩
        show (ev_cmp 1 (bi (decide (C.1 2 9 = 0) && wt 25 C)) 0 = true → _) ∧ (ev_cmp 1 (bi (decide (C.1 2 9 = 0) && wt 25 C)) 0 = false → _)
        refine ⟨fun h4 => ?_, fun h4 => ?_⟩
        · have w4 : (decide (C.1 2 9 = 0) && wt 25 C) = true := bi_n1 h4
          show ∃ R, cm_Lc cm_ms 177 [.ref 124, .int 1, .int (D.1 124 4)] (fm D) R ∧ ∀ v M', R v M' → _
          refine ⟨_, m_wrong h (x := 1) (by decide), ?_⟩
          rintro v M' ⟨rfl, D1, rfl, r1, f1⟩
          show mq N (cF_nm C) D none (fm D1)
          refine ⟨rfl, D1, rfl, ?_, f1⟩
          rw [nm_no (i := 2) (by decide) ((wt_25 C).symm.trans (and_r w4))]
          exact r1
        · have w4 : (decide (C.1 2 9 = 0) && wt 25 C) = false := bi_n0 h4
          show ∃ R, cm_Lc cm_ms 178 [.ref 124, .ref (1001 + 2 * 26)] (fm D) R ∧ ∀ v M', R v M' → _
          refine ⟨_, m_isWord (t := 26) (by decide) h, ?_⟩
          rintro v M' ⟨rfl, rfl⟩
          show (ev_cmp 1 (bi (decide (C.1 2 9 = 0) && wt 26 C)) 0 = true → _) ∧ (ev_cmp 1 (bi (decide (C.1 2 9 = 0) && wt 26 C)) 0 = false → _)
          refine ⟨fun h5 => ?_, fun h5 => ?_⟩
          · have w5 : (decide (C.1 2 9 = 0) && wt 26 C) = true := bi_n1 h5
            show ∃ R, cm_Lc cm_ms 177 [.ref 124, .int 1, .int (D.1 124 4)] (fm D) R ∧ ∀ v M', R v M' → _
            refine ⟨_, m_wrong h (x := 1) (by decide), ?_⟩
            rintro v M' ⟨rfl, D1, rfl, r1, f1⟩
            show mq N (cF_nm C) D none (fm D1)
            refine ⟨rfl, D1, rfl, ?_, f1⟩
            rw [nm_no (i := 3) (by decide) ((wt_26 C).symm.trans (and_r w5))]
            exact r1
          · have w5 : (decide (C.1 2 9 = 0) && wt 26 C) = false := bi_n0 h5
            show ∃ R, cm_Lc cm_ms 178 [.ref 124, .ref (1001 + 2 * 27)] (fm D) R ∧ ∀ v M', R v M' → _
            refine ⟨_, m_isWord (t := 27) (by decide) h, ?_⟩
            rintro v M' ⟨rfl, rfl⟩
            show (ev_cmp 1 (bi (decide (C.1 2 9 = 0) && wt 27 C)) 0 = true → _) ∧ (ev_cmp 1 (bi (decide (C.1 2 9 = 0) && wt 27 C)) 0 = false → _)
            refine ⟨fun h6 => ?_, fun h6 => ?_⟩
            · have w6 : (decide (C.1 2 9 = 0) && wt 27 C) = true := bi_n1 h6
              show ∃ R, cm_Lc cm_ms 177 [.ref 124, .int 1, .int (D.1 124 4)] (fm D) R ∧ ∀ v M', R v M' → _
              refine ⟨_, m_wrong h (x := 1) (by decide), ?_⟩
              rintro v M' ⟨rfl, D1, rfl, r1, f1⟩
              show mq N (cF_nm C) D none (fm D1)
              refine ⟨rfl, D1, rfl, ?_, f1⟩
              rw [nm_no (i := 4) (by decide) ((wt_27 C).symm.trans (and_r w6))]
              exact r1
            · have w6 : (decide (C.1 2 9 = 0) && wt 27 C) = false := bi_n0 h6
              show ∃ R, cm_Lc cm_ms 178 [.ref 124, .ref (1001 + 2 * 28)] (fm D) R ∧ ∀ v M', R v M' → _
              refine ⟨_, m_isWord (t := 28) (by decide) h, ?_⟩
              rintro v M' ⟨rfl, rfl⟩
              show (ev_cmp 1 (bi (decide (C.1 2 9 = 0) && wt 28 C)) 0 = true → _) ∧ (ev_cmp 1 (bi (decide (C.1 2 9 = 0) && wt 28 C)) 0 = false → _)
              refine ⟨fun h7 => ?_, fun h7 => ?_⟩
              · have w7 : (decide (C.1 2 9 = 0) && wt 28 C) = true := bi_n1 h7
                show ∃ R, cm_Lc cm_ms 177 [.ref 124, .int 1, .int (D.1 124 4)] (fm D) R ∧ ∀ v M', R v M' → _
                refine ⟨_, m_wrong h (x := 1) (by decide), ?_⟩
                rintro v M' ⟨rfl, D1, rfl, r1, f1⟩
                show mq N (cF_nm C) D none (fm D1)
                refine ⟨rfl, D1, rfl, ?_, f1⟩
                rw [nm_no (i := 5) (by decide) ((wt_28 C).symm.trans (and_r w7))]
                exact r1
              · have w7 : (decide (C.1 2 9 = 0) && wt 28 C) = false := bi_n0 h7
                show ∃ R, cm_Lc cm_ms 178 [.ref 124, .ref (1001 + 2 * 29)] (fm D) R ∧ ∀ v M', R v M' → _
                refine ⟨_, m_isWord (t := 29) (by decide) h, ?_⟩
                rintro v M' ⟨rfl, rfl⟩
                show (ev_cmp 1 (bi (decide (C.1 2 9 = 0) && wt 29 C)) 0 = true → _) ∧ (ev_cmp 1 (bi (decide (C.1 2 9 = 0) && wt 29 C)) 0 = false → _)
                refine ⟨fun h8 => ?_, fun h8 => ?_⟩
                · have w8 : (decide (C.1 2 9 = 0) && wt 29 C) = true := bi_n1 h8
                  show ∃ R, cm_Lc cm_ms 177 [.ref 124, .int 1, .int (D.1 124 4)] (fm D) R ∧ ∀ v M', R v M' → _
                  refine ⟨_, m_wrong h (x := 1) (by decide), ?_⟩
                  rintro v M' ⟨rfl, D1, rfl, r1, f1⟩
                  show mq N (cF_nm C) D none (fm D1)
                  refine ⟨rfl, D1, rfl, ?_, f1⟩
                  rw [nm_no (i := 6) (by decide) ((wt_29 C).symm.trans (and_r w8))]
                  exact r1
                · have w8 : (decide (C.1 2 9 = 0) && wt 29 C) = false := bi_n0 h8
                  show ∃ R, cm_Lc cm_ms 178 [.ref 124, .ref (1001 + 2 * 30)] (fm D) R ∧ ∀ v M', R v M' → _
                  refine ⟨_, m_isWord (t := 30) (by decide) h, ?_⟩
                  rintro v M' ⟨rfl, rfl⟩
                  show (ev_cmp 0 (bi (decide (C.1 2 9 = 0) && wt 30 C)) 0 = true → _) ∧ (ev_cmp 0 (bi (decide (C.1 2 9 = 0) && wt 30 C)) 0 = false → _)
                  refine ⟨fun h9 => ?_, fun h9 => ?_⟩
                  · have w9 : (decide (C.1 2 9 = 0) && wt 30 C) = false := bi_0 h9
                    show mq N (cF_nm C) D none (fm D)
                    refine ⟨rfl, D, rfl, ?_, rfl⟩
                    rw [nm_ok ((tw_1 h).mp (fn_eq h1)) ((wt_20 C).symm.trans (and_f w2 (decide_eq_true h0))) ((wt_24 C).symm.trans (and_f w3 (decide_eq_true h0))) ((wt_25 C).symm.trans (and_f w4 (decide_eq_true h0))) ((wt_26 C).symm.trans (and_f w5 (decide_eq_true h0))) ((wt_27 C).symm.trans (and_f w6 (decide_eq_true h0))) ((wt_28 C).symm.trans (and_f w7 (decide_eq_true h0))) ((wt_29 C).symm.trans (and_f w8 (decide_eq_true h0))) ((wt_30 C).symm.trans (and_f w9 (decide_eq_true h0)))]
                    exact h
                  · have w9 : (decide (C.1 2 9 = 0) && wt 30 C) = true := bi_1 h9
                    show ∃ R, cm_Lc cm_ms 177 [.ref 124, .int 1, .int (D.1 124 4)] (fm D) R ∧ ∀ v M', R v M' → _
                    refine ⟨_, m_wrong h (x := 1) (by decide), ?_⟩
                    rintro v M' ⟨rfl, D1, rfl, r1, f1⟩
                    show mq N (cF_nm C) D none (fm D1)
                    refine ⟨rfl, D1, rfl, ?_, f1⟩
                    rw [nm_no (i := 7) (by decide) ((wt_30 C).symm.trans (and_r w9))]
                    exact r1
noncomputable abbrev mc_R (N : Nat) (C D : cm_M) : cm_K := fun v M' => ∃ x, v = some (.int x) ∧ ∃ D', M' = fm D' ∧ Rq N (cF_colour C) D' ∧ D'.1 128 = D.1 128 ∧ ((cF_colour C).1 2 9 = 0 → x = cF_col C)
theorem col_no {C : cm_M} (h1 : (decide (C.1 2 9 = 0) && wt 31 C) = false) (h2 : (decide (C.1 2 9 = 0) && wt 32 C) = false) (h3 : (decide (C.1 2 9 = 0) && wt 33 C) = false) : cF_colour C = cF_fail 1 C := by
  unfold cF_colour
  by_cases hf : C.1 2 9 = 0
  · rw [← wt_31, ← wt_32, ← wt_33, and_f h1 (decide_eq_true hf), and_f h2 (decide_eq_true hf), and_f h3 (decide_eq_true hf)]
    try rfl
  · rw [cF_fail_id hf]
    split
    · rfl
    · split
      · rfl
      · split <;> rfl
theorem col_0 {C : cm_M} (h : wt 31 C = true) : cF_colour C = C ∧ cF_col C = 0 := by
  unfold cF_colour cF_col
  rw [← wt_31, h]
  exact ⟨rfl, rfl⟩
theorem col_1 {C : cm_M} (h : wt 31 C = false) (h2 : wt 32 C = true) : cF_colour C = C ∧ cF_col C = 1 := by
  unfold cF_colour cF_col
  rw [← wt_31, ← wt_32, h, h2]
  exact ⟨rfl, rfl⟩
theorem col_2 {C : cm_M} (h : wt 31 C = false) (h2 : wt 32 C = false) (h3 : wt 33 C = true) : cF_colour C = C ∧ cF_col C = 2 := by
  unfold cF_colour cF_col
  rw [← wt_31, ← wt_32, ← wt_33, h, h2, h3]
  exact ⟨rfl, rfl⟩
set_option maxRecDepth 100000 in
set_option maxHeartbeats 4000000 in
theorem m_colour {N : Nat} {C D : cm_M} (h : Rq N C D) : cm_Lc cm_ms 190 [.ref 124] (fm D) (mc_R N C D) := by
  refine lb_st0 (mi := mr_190) rfl 80 ?_
  show ∃ R, cm_Lc cm_ms 178 [.ref 124, .ref (1001 + 2 * 31)] (fm D) R ∧ ∀ v M', R v M' → _
  refine ⟨_, m_isWord (t := 31) (by decide) h, ?_⟩
  rintro v M' ⟨rfl, rfl⟩
  show (ev_cmp 0 (bi (decide (C.1 2 9 = 0) && wt 31 C)) 0 = true → _) ∧ (ev_cmp 0 (bi (decide (C.1 2 9 = 0) && wt 31 C)) 0 = false → _)
  refine ⟨fun h1 => ?_, fun h1 => ?_⟩
  · have w1 : (decide (C.1 2 9 = 0) && wt 31 C) = false := bi_0 h1
    show ∃ R, cm_Lc cm_ms 178 [.ref 124, .ref (1001 + 2 * 32)] (fm D) R ∧ ∀ v M', R v M' → _
    refine ⟨_, m_isWord (t := 32) (by decide) h, ?_⟩
    rintro v M' ⟨rfl, rfl⟩
    show (ev_cmp 0 (bi (decide (C.1 2 9 = 0) && wt 32 C)) 0 = true → _) ∧ (ev_cmp 0 (bi (decide (C.1 2 9 = 0) && wt 32 C)) 0 = false → _)
    refine ⟨fun h2 => ?_, fun h2 => ?_⟩
    · have w2 : (decide (C.1 2 9 = 0) && wt 32 C) = false := bi_0 h2
      show ∃ R, cm_Lc cm_ms 178 [.ref 124, .ref (1001 + 2 * 33)] (fm D) R ∧ ∀ v M', R v M' → _
      refine ⟨_, m_isWord (t := 33) (by decide) h, ?_⟩
      rintro v M' ⟨rfl, rfl⟩
      show (ev_cmp 0 (bi (decide (C.1 2 9 = 0) && wt 33 C)) 0 = true → _) ∧ (ev_cmp 0 (bi (decide (C.1 2 9 = 0) && wt 33 C)) 0 = false → _)
      refine ⟨fun h3 => ?_, fun h3 => ?_⟩
      · have w3 : (decide (C.1 2 9 = 0) && wt 33 C) = false := bi_0 h3
        show (ev_cmp 3 (-1) 0 = true → _) ∧ (ev_cmp 3 (-1) 0 = false → _)
        refine ⟨fun h4 => ?_, fun h4 => ?_⟩
        · exact absurd h4 (by decide)
        · show ∃ R, cm_Lc cm_ms 177 [.ref 124, .int 1, .int (D.1 124 4)] (fm D) R ∧ ∀ v M', R v M' → _
          refine ⟨_, m_wrong h (x := 1) (by decide), ?_⟩
          rintro v M' ⟨rfl, D1, rfl, r1, f1⟩
          show (ev_cmp 0 (D1.1 124 13) 0 = true → _) ∧ (ev_cmp 0 (D1.1 124 13) 0 = false → _)
          refine ⟨fun h5 => ?_, fun h5 => ?_⟩
          · have z5 : (cF_fail 1 C).1 2 9 = 0 := fl_0 r1.2 (fn_eq0 h5)
            show mc_R N C D (some (.int (-1))) (fm D1)
            exact absurd z5 (cF_fail_9n (by decide))
          · have z5 : (cF_fail 1 C).1 2 9 ≠ 0 := fl_1 r1.2 (fn_ne0 h5)
            show mc_R N C D (some (.int 0)) (fm D1)
            refine ⟨_, rfl, D1, rfl, ?_, f1, ?_⟩
            · rw [col_no w1 w2 w3]
              exact r1
            · rw [col_no w1 w2 w3]
              exact fun q => absurd q (cF_fail_9n (by decide))
      · have w3 : (decide (C.1 2 9 = 0) && wt 33 C) = true := bi_1 h3
        show (ev_cmp 3 2 0 = true → _) ∧ (ev_cmp 3 2 0 = false → _)
        refine ⟨fun h6 => ?_, fun h6 => ?_⟩
        · show (ev_cmp 0 (D.1 124 13) 0 = true → _) ∧ (ev_cmp 0 (D.1 124 13) 0 = false → _)
          refine ⟨fun h7 => ?_, fun h7 => ?_⟩
          · have z7 : C.1 2 9 = 0 := fl_0 h.2 (fn_eq0 h7)
            show mc_R N C D (some (.int 2)) (fm D)
            refine ⟨_, rfl, D, rfl, ?_, rfl, ?_⟩
            · rw [(col_2 (and_f w1 (and_l w3)) (and_f w2 (and_l w3)) (and_r w3)).1]
              exact h
            · exact fun _ => (col_2 (and_f w1 (and_l w3)) (and_f w2 (and_l w3)) (and_r w3)).2.symm
          · have z7 : C.1 2 9 ≠ 0 := fl_1 h.2 (fn_ne0 h7)
            show mc_R N C D (some (.int 0)) (fm D)
            exact absurd (of_decide_eq_true (and_l w3)) z7
        · exact absurd h6 (by decide)
    · have w2 : (decide (C.1 2 9 = 0) && wt 32 C) = true := bi_1 h2
      show (ev_cmp 3 1 0 = true → _) ∧ (ev_cmp 3 1 0 = false → _)
      refine ⟨fun h8 => ?_, fun h8 => ?_⟩
      · show (ev_cmp 0 (D.1 124 13) 0 = true → _) ∧ (ev_cmp 0 (D.1 124 13) 0 = false → _)
        refine ⟨fun h9 => ?_, fun h9 => ?_⟩
        · have z9 : C.1 2 9 = 0 := fl_0 h.2 (fn_eq0 h9)
          show mc_R N C D (some (.int 1)) (fm D)
          refine ⟨_, rfl, D, rfl, ?_, rfl, ?_⟩
          · rw [(col_1 (and_f w1 (and_l w2)) (and_r w2)).1]
            exact h
          · exact fun _ => (col_1 (and_f w1 (and_l w2)) (and_r w2)).2.symm
        · have z9 : C.1 2 9 ≠ 0 := fl_1 h.2 (fn_ne0 h9)
          show mc_R N C D (some (.int 0)) (fm D)
          exact absurd (of_decide_eq_true (and_l w2)) z9
      · exact absurd h8 (by decide)
  · have w1 : (decide (C.1 2 9 = 0) && wt 31 C) = true := bi_1 h1
    show (ev_cmp 3 0 0 = true → _) ∧ (ev_cmp 3 0 0 = false → _)
    refine ⟨fun h10 => ?_, fun h10 => ?_⟩
    · show (ev_cmp 0 (D.1 124 13) 0 = true → _) ∧ (ev_cmp 0 (D.1 124 13) 0 = false → _)
      refine ⟨fun h11 => ?_, fun h11 => ?_⟩
      · have z11 : C.1 2 9 = 0 := fl_0 h.2 (fn_eq0 h11)
        show mc_R N C D (some (.int 0)) (fm D)
        refine ⟨_, rfl, D, rfl, ?_, rfl, ?_⟩
        · rw [(col_0 (and_r w1)).1]
          exact h
        · exact fun _ => (col_0 (and_r w1)).2.symm
      · have z11 : C.1 2 9 ≠ 0 := fl_1 h.2 (fn_ne0 h11)
        show mc_R N C D (some (.int 0)) (fm D)
        exact absurd (of_decide_eq_true (and_l w1)) z11
    · exact absurd h10 (by decide)
theorem ix1 (a : Nat) {n : Nat} (ha : a < 1000) (h : n < 1000) : (Int32.ofNat a + Int32.ofNat n).toNatClampNeg = a + n := by
  rw [← Int32.ofNat_add, fn_nat (by omega)]
theorem ix2 (a b : Nat) {n k : Nat} (ha : a < 1000) (hb : b < 1000) (h : n < 1000) (hk : k < 1000) : (Int32.ofNat a + Int32.ofNat b * Int32.ofNat n + Int32.ofNat k).toNatClampNeg = a + b * n + k := by
  have : b * n < 1000000 := by
    have h1 : b * n ≤ 1000 * n := Nat.mul_le_mul_right n (by omega)
    omega
  rw [← Int32.ofNat_mul, ← Int32.ofNat_add, ← Int32.ofNat_add, fn_nat (by omega)]
theorem ofn_inj {a b : Nat} (ha : a < 2147483648) (hb : b < 2147483648) (h : Int32.ofNat a = Int32.ofNat b) : a = b := by
  have := congrArg Int32.toInt h
  rw [fn_toInt ha, fn_toInt hb] at this
  omega
/-- a name stands in a slot -/
noncomputable def sl (F L : Nat → Int32) (ns n : Nat) : Prop := F (69 + n) = Int32.ofNat ns ∧ ∀ k, k < ns → F (85 + 8 * n + k) = L k
noncomputable def fi_J (D : cm_M) (ns : Nat) (S : cm_S) : Prop :=
  (∃ n, n ≤ 16 ∧ (∀ i, i < n → ¬ sl (D.1 128) (D.1 126) ns i) ∧ S = (2, [(0, .ref 124), (1, .int (Int32.ofNat n))], [], fm D)) ∨
  (∃ n k b, n < 16 ∧ k ≤ ns ∧ (∀ i, i < n → ¬ sl (D.1 128) (D.1 126) ns i) ∧ (b = true → D.1 128 (69 + n) = Int32.ofNat ns ∧ ∀ i, i < k → D.1 128 (85 + 8 * n + i) = D.1 126 i) ∧ (b = false → ¬ sl (D.1 128) (D.1 126) ns n) ∧ S = (44, [(0, .ref 124), (1, .int (Int32.ofNat n)), (2, .int (bi b)), (3, .int (Int32.ofNat k))], [], fm D))
noncomputable abbrev fi_R (D : cm_M) (ns : Nat) : cm_K := fun v M' => M' = fm D ∧ ((v = some (.int (-1)) ∧ ∀ n, n < 16 → ¬ sl (D.1 128) (D.1 126) ns n) ∨ (∃ n, n < 16 ∧ v = some (.int (Int32.ofNat n)) ∧ sl (D.1 128) (D.1 126) ns n))
noncomputable abbrev fi_st : List (Nat × List Nat) := [(2, [0, 1]), (44, [0, 1, 2, 3])]
theorem ix_69 {n : Nat} (h : n < 1000) : ((69 : Int32) + Int32.ofNat n).toNatClampNeg = 69 + n := ix1 69 (by decide) h
theorem ix_44 {n : Nat} (h : n < 1000) : ((44 : Int32) + Int32.ofNat n).toNatClampNeg = 44 + n := ix1 44 (by decide) h
theorem ix_50 {n : Nat} (h : n < 1000) : ((50 : Int32) + Int32.ofNat n).toNatClampNeg = 50 + n := ix1 50 (by decide) h
theorem ix_55 {n : Nat} (h : n < 1000) : ((55 : Int32) + Int32.ofNat n).toNatClampNeg = 55 + n := ix1 55 (by decide) h
theorem ix_61 {n : Nat} (h : n < 1000) : ((61 : Int32) + Int32.ofNat n).toNatClampNeg = 61 + n := ix1 61 (by decide) h
theorem ix_66 {n : Nat} (h : n < 1000) : ((66 : Int32) + Int32.ofNat n).toNatClampNeg = 66 + n := ix1 66 (by decide) h
theorem of_6 (n : Nat) : (6 : Int32) + Int32.ofNat n = Int32.ofNat (6 + n) := by
  rw [Int32.ofNat_add]
  try rfl
theorem of_11 (n : Nat) : (11 : Int32) + Int32.ofNat n = Int32.ofNat (11 + n) := by
  rw [Int32.ofNat_add]
  try rfl
theorem of3_11 (n : Nat) : (11 : Int32) + 3 * Int32.ofNat n = Int32.ofNat (11 + 3 * n) := by
  rw [Int32.ofNat_add, Int32.ofNat_mul]
  try rfl
theorem of3_29 (n : Nat) : (29 : Int32) + 3 * Int32.ofNat n = Int32.ofNat (29 + 3 * n) := by
  rw [Int32.ofNat_add, Int32.ofNat_mul]
  try rfl
set_option maxRecDepth 100000 in
set_option maxHeartbeats 4000000 in
theorem m_find {D : cm_M} {ns : Nat} (h8 : D.1 124 8 = Int32.ofNat ns) (hns : ns ≤ 8) (hpos : 0 < ns) : cm_Lc cm_ms 182 [.ref 124] (fm D) (fi_R D ns) := by
  have e16 : (16 : Int32).toInt = 16 := by decide
  refine lb_of (mi := mr_182) rfl fi_st (fi_J D ns) 60 (fun S hS => ?_) 10 ?_
  · rcases hS with ⟨n, n16, hn, rfl⟩ | ⟨n, k, b, n16, hk, hn, hbt, hbf, rfl⟩
    · have lt16 : ev_cmp 3 (Int32.ofNat n) 16 = false → n < 16 := fun q => by
        have g := fn_nge q
        rw [fn_toInt (by omega)] at g
        omega
      show (ev_cmp 3 (Int32.ofNat n) 16 = true → _) ∧ (ev_cmp 3 (Int32.ofNat n) 16 = false → _)
      refine ⟨fun h1 => ?_, fun h1 => ?_⟩
      · show fi_R D ns (some (.int (-1))) (fm D)
        have g := fn_ge h1
        rw [fn_toInt (by omega)] at g
        have : n = 16 := by omega
        subst this
        exact ⟨rfl, Or.inl ⟨rfl, hn⟩⟩
      · show (ev_cmp 5 (D.1 128 ((69 + (Int32.ofNat n)).toNatClampNeg)) 0 = true → _) ∧ (ev_cmp 5 (D.1 128 ((69 + (Int32.ofNat n)).toNatClampNeg)) 0 = false → _)
        refine ⟨fun h2 => ?_, fun h2 => ?_⟩
        · show fi_J D ns (44, [(0, .ref 124), (1, .int (Int32.ofNat n)), (2, .int (bi false)), (3, .int (Int32.ofNat 0))], [], fm D)
          refine Or.inr ⟨n, 0, false, lt16 h1, Nat.zero_le _, hn, fun q => (by cases q), fun _ q => ?_, rfl⟩
          have g := fn_le h2
          rw [ix_69 (by omega), q.1, fn_toInt (by omega)] at g
          have e0 : (0 : Int32).toInt = 0 := by decide
          omega
        · show (ev_cmp 1 (D.1 128 ((69 + (Int32.ofNat n)).toNatClampNeg)) (D.1 124 8) = true → _) ∧ (ev_cmp 1 (D.1 128 ((69 + (Int32.ofNat n)).toNatClampNeg)) (D.1 124 8) = false → _)
          refine ⟨fun h3 => ?_, fun h3 => ?_⟩
          · show fi_J D ns (44, [(0, .ref 124), (1, .int (Int32.ofNat n)), (2, .int (bi false)), (3, .int (Int32.ofNat 0))], [], fm D)
            refine Or.inr ⟨n, 0, false, lt16 h1, Nat.zero_le _, hn, fun q => (by cases q), fun _ q => ?_, rfl⟩
            have g := fn_ne h3
            rw [ix_69 (by omega), h8] at g
            exact g q.1
          · show fi_J D ns (44, [(0, .ref 124), (1, .int (Int32.ofNat n)), (2, .int (bi true)), (3, .int (Int32.ofNat 0))], [], fm D)
            refine Or.inr ⟨n, 0, true, lt16 h1, Nat.zero_le _, hn, fun _ => ⟨?_, fun i hi => by omega⟩, fun q => (by cases q), rfl⟩
            have g := fn_eq h3
            rw [ix_69 (by omega), h8] at g
            exact g
    · show (ev_cmp 3 (Int32.ofNat k) (D.1 124 8) = true → _) ∧ (ev_cmp 3 (Int32.ofNat k) (D.1 124 8) = false → _)
      refine ⟨fun h1 => ?_, fun h1 => ?_⟩
      · show (ev_cmp 0 (bi b) 0 = true → _) ∧ (ev_cmp 0 (bi b) 0 = false → _)
        refine ⟨fun h2 => ?_, fun h2 => ?_⟩
        · show fi_J D ns (2, [(0, .ref 124), (1, .int (Int32.ofNat n + 1))], [], fm D)
          rw [fn_succ]
          refine Or.inl ⟨n + 1, by omega, fun i hi => ?_, rfl⟩
          rcases Nat.lt_or_ge i n with hc | hc
          · exact hn i hc
          · have : i = n := by omega
            rw [this]
            exact hbf (bi_0 h2)
        · show fi_R D ns (some (.int (Int32.ofNat n))) (fm D)
          have g := fn_ge h1
          rw [h8, fn_toInt (by omega), fn_toInt (by omega)] at g
          have hk9 : k = ns := by omega
          exact ⟨rfl, Or.inr ⟨n, n16, rfl, (hbt (bi_1 h2)).1, fun i hi => (hbt (bi_1 h2)).2 i (by omega)⟩⟩
      · show (ev_cmp 0 (bi b) 0 = true → _) ∧ (ev_cmp 0 (bi b) 0 = false → _)
        refine ⟨fun h3 => ?_, fun h3 => ?_⟩
        · show (ev_cmp 0 (bi b) 0 = true → _) ∧ (ev_cmp 0 (bi b) 0 = false → _)
          refine ⟨fun h4 => ?_, fun h4 => ?_⟩
          · show fi_J D ns (2, [(0, .ref 124), (1, .int (Int32.ofNat n + 1))], [], fm D)
            rw [fn_succ]
            refine Or.inl ⟨n + 1, by omega, fun i hi => ?_, rfl⟩
            rcases Nat.lt_or_ge i n with hc | hc
            · exact hn i hc
            · have : i = n := by omega
              rw [this]
              exact hbf (bi_0 h4)
          · show fi_R D ns (some (.int (Int32.ofNat n))) (fm D)
            exact absurd (bi_0 h3) (by rw [bi_1 h4]; decide)
        · show (ev_cmp 1 (D.1 128 (((85 + (8 * (Int32.ofNat n))) + (Int32.ofNat k)).toNatClampNeg)) (D.1 126 ((Int32.ofNat k).toNatClampNeg)) = true → _) ∧ (ev_cmp 1 (D.1 128 (((85 + (8 * (Int32.ofNat n))) + (Int32.ofNat k)).toNatClampNeg)) (D.1 126 ((Int32.ofNat k).toNatClampNeg)) = false → _)
          refine ⟨fun h5 => ?_, fun h5 => ?_⟩
          · have g := fn_nge h1
            rw [h8, fn_toInt (by omega), fn_toInt (by omega)] at g
            have hbb := bi_1 h3
            have ix : (Int32.ofNat 85 + Int32.ofNat 8 * Int32.ofNat n + Int32.ofNat k).toNatClampNeg = 85 + 8 * n + k := ix2 85 8 (by decide) (by decide) (by omega) (by omega)
            have iy : (Int32.ofNat k).toNatClampNeg = k := fn_nat (by omega)
            show fi_J D ns (44, [(0, .ref 124), (1, .int (Int32.ofNat n)), (2, .int (bi false)), (3, .int (Int32.ofNat k + 1))], [], fm D)
            rw [fn_succ]
            refine Or.inr ⟨n, k + 1, false, n16, by omega, hn, fun q => (by cases q), fun _ q => ?_, rfl⟩
            have g2 : D.1 128 (Int32.ofNat 85 + Int32.ofNat 8 * Int32.ofNat n + Int32.ofNat k).toNatClampNeg ≠ D.1 126 (Int32.ofNat k).toNatClampNeg := fn_ne h5
            rw [ix, iy] at g2
            exact g2 (q.2 k (by omega))
          · have g := fn_nge h1
            rw [h8, fn_toInt (by omega), fn_toInt (by omega)] at g
            have hbb := bi_1 h3
            have ix : (Int32.ofNat 85 + Int32.ofNat 8 * Int32.ofNat n + Int32.ofNat k).toNatClampNeg = 85 + 8 * n + k := ix2 85 8 (by decide) (by decide) (by omega) (by omega)
            have iy : (Int32.ofNat k).toNatClampNeg = k := fn_nat (by omega)
            show fi_J D ns (44, [(0, .ref 124), (1, .int (Int32.ofNat n)), (2, .int (bi true)), (3, .int (Int32.ofNat k + 1))], [], fm D)
            rw [fn_succ]
            refine Or.inr ⟨n, k + 1, true, n16, by omega, hn, fun _ => ⟨(hbt hbb).1, fun i hi => ?_⟩, fun q => (by cases q), rfl⟩
            have g2 : D.1 128 (Int32.ofNat 85 + Int32.ofNat 8 * Int32.ofNat n + Int32.ofNat k).toNatClampNeg = D.1 126 (Int32.ofNat k).toNatClampNeg := fn_eq h5
            rw [ix, iy] at g2
            rcases Nat.lt_or_ge i k with hc | hc
            · exact (hbt hbb).2 i hc
            · have : i = k := by omega
              rw [this]
              exact g2
  · show fi_J D ns (2, [(0, .ref 124), (1, .int (Int32.ofNat 0))], [], fm D)
    exact Or.inl ⟨0, by omega, fun i hi => by omega, rfl⟩
