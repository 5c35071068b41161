/-! BOTH SIDES ANSWER ALIKE: fault -/
theorem cmp_2 {M : cm_M} (hM : ab_ok hp hN M) (hL : LI M) : cm_Call cm_ms 30 96 [.ref 0] M (cmp_P 203 [.ref 124]) :=
  cmp_gen hL (lk_96 hM) (fun _ h => lk_203 h) (c_fault M) (fun M1 h1 h2 => by
    have e : M1.1 124 9 = M.1 0 12 := ((h2.2 124 9 rfl).1).trans hL.2.1.symm
    have q := m_fault M1
    rw [e] at q
    exact q)
