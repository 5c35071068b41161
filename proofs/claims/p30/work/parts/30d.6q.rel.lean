/-! THE REFERENCE'S READER, beside the class's: how the two stand -/
def fm (D : cm_M) : cm_M := (D.1, D.2.1, fun c i => if c = 124 then (if i = 16 then some 128 else if i = 15 then some 127 else if i = 17 then some 129 else if i = 12 then some 126 else if i = 1 then some 125 else if i = 22 then some 132 else if i = 18 then some 130 else if i = 19 then some 131 else if i = 23 then some 133 else if i = 24 then some 134 else if i = 26 then some 135 else D.2.2 124 i) else D.2.2 c i)
/-- the two tokens -/
def tw (C D : cm_M) : Prop := (C.1 2 3 = 0 ∧ D.1 124 6 = 0) ∨ (C.1 2 3 = 1 ∧ D.1 124 6 = 2 ∧ ∃ ns : Nat, 0 < ns ∧ D.1 124 8 = Int32.ofNat ns ∧ wrep (C.2.1 2 6) (D.1 126) ns) ∨ (C.1 2 3 = 2 ∧ D.1 124 6 = 3 ∧ D.1 124 7 = C.1 2 5) ∨ (C.1 2 3 = 3 ∧ D.1 124 6 = 59) ∨ (C.1 2 3 = 4 ∧ D.1 124 6 = 1)
def rt (N : Nat) (C D : cm_M) : Prop := (∀ j, j < N → tb (C.1 1 j) (D.1 125 j)) ∧ rs_ok N C ∧ D.1 124 3 = Int32.ofNat N ∧ D.1 124 5 = C.1 2 2 ∧ D.1 124 4 = C.1 2 4 ∧ tw C D
/-- what the reference's reader leaves alone: as it stands in the class's memory too -/
def prC (c j : Nat) : Prop := (127 ≤ c ∧ c ≠ 128) ∨ (c = 124 ∧ 14 ≤ j)
def fl (C D : cm_M) : Prop := ((C.1 2 9 = 0 ∧ D.1 124 13 = 0 ∧ D.1 124 9 = 0) ∨ (C.1 2 9 ≠ 0 ∧ D.1 124 13 = 1 ∧ D.1 124 9 = C.1 2 9 ∧ D.1 124 10 = C.1 2 4)) ∧ (D.1 124 0 = 0 ∧ D.1 124 2 = 0 ∧ D.1 124 11 = 0) ∧ ∀ c j, prC c j → D.1 c j = C.1 c j
theorem wi_n2 {M : cm_M} {c i x y : Nat} {v : Int32} (h : ¬ (x = c ∧ y = i)) : (cm_wi M c i v).1 x y = M.1 x y := by
  show (if x = c ∧ y = i then _ else _) = _
  rw [if_neg h]
def Rq (N : Nat) (C D : cm_M) : Prop := rt N C D ∧ fl C D
abbrev mq (N : Nat) (C' D : cm_M) : cm_K := fun v M' => v = none ∧ ∃ D', M' = fm D' ∧ Rq N C' D' ∧ D'.1 128 = D.1 128
theorem fl_0 {C D : cm_M} (h : fl C D) (hc : D.1 124 13 = 0) : C.1 2 9 = 0 := by
  rcases h.1 with h | h
  · exact h.1
  · rw [h.2.1] at hc
    exact absurd hc (by decide)
theorem fl_1 {C D : cm_M} (h : fl C D) (hc : D.1 124 13 ≠ 0) : C.1 2 9 ≠ 0 := by
  rcases h.1 with h | h
  · exact absurd h.2.1 hc
  · exact h.1
theorem fl_c {C D : cm_M} (h : fl C D) (hc : C.1 2 9 = 0) : D.1 124 13 = 0 := by
  rcases h.1 with h | h
  · exact h.2.1
  · exact absurd hc h.1
theorem fl_9 {C D : cm_M} (h : fl C D) (hc : C.1 2 9 = 0) : D.1 124 9 = 0 := by
  rcases h.1 with h | h
  · exact h.2.2
  · exact absurd hc h.1
theorem fl_b {C D : cm_M} (h : fl C D) (hc : C.1 2 9 ≠ 0) : D.1 124 9 = C.1 2 9 ∧ D.1 124 10 = C.1 2 4 := by
  rcases h.1 with h | h
  · exact absurd h.1 hc
  · exact h.2.2
theorem fl_cn {C D : cm_M} (h : fl C D) (hc : C.1 2 9 ≠ 0) : D.1 124 13 = 1 := by
  rcases h.1 with h | h
  · exact absurd h.1 hc
  · exact h.2.1
/-- a fault is told on both sides -/
theorem Rq_fail {N : Nat} {C D : cm_M} (h : Rq N C D) (h0 : C.1 2 9 = 0) {x : Int32} (hx : x ≠ 0) : Rq N (cF_fail x C) (cm_wi (cm_wi (cm_wi D 124 13 1) 124 9 x) 124 10 (D.1 124 4)) := by
  obtain ⟨⟨a1, a2, a3, a4, a5, a6⟩, b⟩ := h
  refine ⟨⟨?_, rs_fail x a2, a3, ?_, ?_, ?_⟩, ?_⟩
  · intro j hj
    unfold cF_fail
    rw [if_pos h0]
    exact a1 j hj
  · unfold cF_fail
    rw [if_pos h0]
    exact a4
  · unfold cF_fail
    rw [if_pos h0]
    exact a5
  · unfold cF_fail
    rw [if_pos h0]
    exact a6
  · unfold cF_fail
    rw [if_pos h0]
    refine ⟨Or.inr ⟨hx, rfl, rfl, a5⟩, b.2.1, fun c j q => ?_⟩
    unfold prC at q
    rw [wi_n2 (by omega), wi_n2 (by omega), wi_n2 (by omega), wi_n2 (by omega)]
    exact b.2.2 c j q
theorem cF_fail_id {x : Int32} {C : cm_M} (h : C.1 2 9 ≠ 0) : cF_fail x C = C := by
  unfold cF_fail
  rw [if_neg h]
theorem cF_fail_9 {x : Int32} {C : cm_M} (h : C.1 2 9 = 0) : (cF_fail x C).1 2 9 = x := by
  unfold cF_fail
  rw [if_pos h]
  rfl
theorem cF_fail_9n {x : Int32} {C : cm_M} (hx : x ≠ 0) : (cF_fail x C).1 2 9 ≠ 0 := by
  by_cases h : C.1 2 9 = 0
  · rw [cF_fail_9 h]
    exact hx
  · rw [cF_fail_id h]
    exact h
theorem cF_step_id {N : Nat} {C : cm_M} (h : C.1 2 9 ≠ 0) : cF_step N C = C := by
  unfold cF_step
  rw [if_neg h]
theorem cF_step_9 {N : Nat} {C : cm_M} : (cF_step N C).1 2 9 = C.1 2 9 := by
  unfold cF_step
  split
  · rfl
  · rfl
/-- the next token on both sides -/
theorem Rq_next {N : Nat} {C D D' : cm_M} (h : Rq N C D) (h0 : C.1 2 9 = 0) (hn : ∃ k : Nat, k ≤ N ∧ C.1 2 2 = Int32.ofNat k ∧ ∃ s e tok wh ns, tk_e ch_s (D.1 125) N k s ∧ mk_k (D.1 125) N s e tok wh ns ∧ D' = nx_m D s e tok wh ns) : Rq N (cF_step N C) D' := by
  obtain ⟨⟨a1, a2, a3, a4, a5, a6⟩, b⟩ := h
  obtain ⟨k, hk, hk2, s, e, tok, wh, ns, t1, t2, rfl⟩ := hn
  have hN9 := a2.2.2.1
  have r2 := rs_step a2
  have ht : tk_Q (C.1 1) N k (cF_tok N C) := by
    unfold cF_tok
    rw [hk2, fn_nat (by omega)]
    exact tk_of_ok hk
  obtain ⟨e1, e2, e3⟩ := tk_two a1 ht.1 ht.2 t1 t2
  have hb := fl_c b h0
  have hb9 := fl_9 b h0
  have es : cF_step N C = tk_m C (cF_tok N C).1 (cF_tok N C).2.1 (cF_tok N C).2.2.1 (cF_tok N C).2.2.2.1 (cF_tok N C).2.2.2.2 := by
    unfold cF_step
    rw [if_pos h0]
  rw [es] at r2 ⊢
  generalize cF_tok N C = t at ht e1 e2 e3 r2
  obtain ⟨s0, e0, kd, va, wd⟩ := t
  dsimp only at e1 e2 e3 r2 ht ⊢
  subst e1
  subst e2
  refine ⟨⟨a1, r2, a3, rfl, rfl, ?_⟩, Or.inl ⟨h0, hb, hb9⟩, b.2.1, fun c j q => ?_⟩
  rotate_left
  · unfold prC at q
    have e1 : (nx_m D s e tok wh ns).1 c j = D.1 c j := by
      unfold nx_m
      rw [wi_n2 (by omega), wi_n2 (by omega), wi_n2 (by omega), wi_n2 (by omega), wi_n2 (by omega)]
      show (if c = 126 ∧ j < min ns 8 then _ else _) = _
      rw [if_neg (by omega)]
    have e2 : (tk_m C s e kd va wd).1 c j = C.1 c j := by
      show (cm_wi (cm_wi (cm_wi (cm_wi C 2 4 _) 2 5 _) 2 2 _) 2 3 _).1 c j = _
      rw [wi_n2 (by omega), wi_n2 (by omega), wi_n2 (by omega), wi_n2 (by omega)]
    rw [e1, e2]
    exact b.2.2 c j q
  rcases e3 with ⟨q1, q2⟩ | ⟨q1, q2, q3, q4, q5, q6, q7⟩ | ⟨q1, q2, q3⟩ | ⟨q1, q2⟩ | ⟨q1, q2⟩
  · exact Or.inl ⟨q1, q2⟩
  · refine Or.inr (Or.inl ⟨q1, q2, ns, q5, rfl, q4, ?_, ?_⟩)
    · intro j hj
      have hjs : s + j < e := by omega
      have h1 := q7 (s + j) (by omega) hjs
      have eN : e ≤ N := tk_k_e ht.1.2.1 ht.2
      have hL : (nx_m D s e tok wh ns).1 126 j = D.1 125 (s + j) := by
        show (if 126 = 126 ∧ j < min ns 8 then D.1 125 (s + j) else _) = _
        rw [if_pos ⟨rfl, by omega⟩]
      rw [hL]
      have := tb_l (a1 (s + j) (by omega))
      rw [this]
      exact h1
    · show wd = _
      rw [q6, tk_w_sh]
      refine tk_w_cg ns (fun j hj => ?_)
      have hjs : s + j < e := by omega
      have h1 := q7 (s + j) (by omega) hjs
      have eN : e ≤ N := tk_k_e ht.1.2.1 ht.2
      have hL : (nx_m D s e tok wh ns).1 126 j = D.1 125 (s + j) := by
        show (if 126 = 126 ∧ j < min ns 8 then D.1 125 (s + j) else _) = _
        rw [if_pos ⟨rfl, by omega⟩]
      rw [hL]
      exact (tb_eq (a1 (s + j) (by omega)) (Or.inl h1)).symm
  · exact Or.inr (Or.inr (Or.inl ⟨q1, q2, q3.symm⟩))
  · exact Or.inr (Or.inr (Or.inr (Or.inl ⟨q1, q2⟩)))
  · exact Or.inr (Or.inr (Or.inr (Or.inr ⟨q1, q2⟩)))
theorem m_next {N : Nat} {C D : cm_M} (h : Rq N C D) (h0 : C.1 2 9 = 0) : cm_Lc cm_ms 176 [.ref 124] (fm D) (mq N (cF_step N C) D) := by
  obtain ⟨k, hk, hk2⟩ := h.1.2.1.2.2.2
  have hN9 := h.1.2.1.2.2.1
  refine cm_Lc_im (fn_next (M := fm D) (N := N) (k := k) rfl rfl h.1.2.2.1 hN9 (fun j hj => (h.1.1 j hj).1) (h.1.2.2.2.1.trans hk2) hk) (fun v M' q => ?_)
  obtain ⟨q1, s, e, tok, wh, ns, q2, q3, q4⟩ := q
  exact ⟨q1, nx_m D s e tok wh ns, q4, Rq_next h h0 ⟨k, hk, hk2, s, e, tok, wh, ns, q2, q3, rfl⟩, rfl⟩
