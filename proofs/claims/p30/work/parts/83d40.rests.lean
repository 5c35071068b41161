/-! BOTH SIDES ANSWER ALIKE: rests, rest -/
theorem LI_told {M : cm_M} (h : LI M) : ∃ T' a, (T' = 6 ∨ T' = 19) ∧ M.2.2 0 3 = some T' ∧ M.1 124 14 = bi a ∧ decide (M.1 T' 3 = 0) = !a := by
  obtain ⟨-, -, T', h1, h2, -, h3⟩ := h
  rcases h3 with ⟨b1, -, -, b4⟩ | ⟨b1, me, mo, ch, c1, c2, -, -, hd⟩
  · exact ⟨T', false, h1, h2, b4, decide_eq_true b1⟩
  · refine ⟨T', true, h1, h2, b1, decide_eq_false (fun q => ?_)⟩
    have e : M.1 T' 3 = Int32.ofNat me := hd.2.1.1
    rw [q] at e
    have := ofn_inj (a := 0) (b := me) (by omega) (by omega) e
    omega
theorem cmp_40 {M : cm_M} (hM : ab_ok hp hN M) (hL : LI M) (x : Int32) : cm_Call cm_ms 30 139 [.ref 0, .int x] M (cmp_P 279 [.ref 124, .int x]) := by
  obtain ⟨T', a, t1, t2, t3, t4⟩ := LI_told hL
  have q := c_rests (M := M) (T' := T') (by omega) t2 x
  rw [t4] at q
  exact cmp_gen hL (lk_139 hM x) (fun _ h => lk_279 h x) q (fun M1 h1 h2 => m_rests (((h2.2 124 14 rfl).1).trans t3) x)
theorem cmp_41 {M : cm_M} (hM : ab_ok hp hN M) (hL : LI M) (x : Int32) : cm_Call cm_ms 30 140 [.ref 0, .int x] M (cmp_P 280 [.ref 124, .int x]) := by
  obtain ⟨T', a, t1, t2, t3, t4⟩ := LI_told hL
  have q := c_rest (M := M) (T' := T') (by omega) t2 x
  rw [t4] at q
  exact cmp_gen hL (lk_140 hM x) (fun _ h => lk_280 h x) q (fun M1 h1 h2 => m_rest (((h2.2 124 14 rfl).1).trans t3) x)
