theorem a_in {a : Bool} {me mo : Nat} {M M0 : cm_M} {T' : Nat} (hm : MTX a me mo M0) (hx : CTX T' me mo M) (y : Int32) : (!inB y 0 54 || decide (M.1 T' 3 = 0)) = !(a && inB y 0 54) := by
  have hme : me ≤ 6 := hx.2.2.2.2.2.1
  rcases a_ft a with ha | ha
  · rw [hx.2.2.2.2.1.1, (hm.2.2.2.1 ha).1, ha, show decide (Int32.ofNat 0 = 0) = true from rfl, Bool.or_true]
    try rfl
  · have h0 := hm.2.2.2.2.1 ha
    have z : decide (M.1 T' 3 = 0) = false := decide_eq_false (fun w => by
      rw [hx.2.2.2.2.1.1, ofn_0 (by omega)] at w
      omega)
    rw [z, ha, Bool.or_false, Bool.true_and]
theorem a_in1 {a b : Bool} (h : (a && b) = true) : a = true ∧ b = true := by
  cases a <;> cases b <;> first | exact ⟨rfl, rfl⟩ | cases h
theorem cmp_24 {M : cm_M} (hM : ab_ok hp hN M) (hL : LIS M) (y : Int32) : cm_Call cm_ms 30 121 [.ref 0, .int y] M (cmpS_P 251 [.ref 124, .int y]) := by
  obtain ⟨T', a, me, mo, ch, nx, u, gi, hx, hm, hd, hs⟩ := LIS_all hM hL
  have hme : me ≤ 6 := hx.2.2.2.2.2.1
  have ei := a_in hm hx y
  cases hi : (a && inB y 0 54) with
  | false =>
    rw [hi, Bool.not_false] at ei
    exact cmpS_gen hL (lk_121 hM y) (fun _ h => lk_251 h y) (c_mighty_no hx y ei) (fun M1 h1 h2 => m_mighty_no (MTX_P hm h2) y hi)
  | true =>
    obtain ⟨ha, hy⟩ := a_in1 hi
    refine cmpS_gen hL (lk_121 hM y) (fun _ h => lk_251 h y) (c_mighty_k hx (hm.2.2.2.2.1 ha) y hy) (fun M1 h1 h2 => ?_)
    obtain ⟨⟨e0, e1, e2⟩, e3, e4, e5, e6, e7, e8⟩ := EQ_all (hd ha) hs h2
    refine cm_Lc_im (m_mighty_k (MTX_P hm h2) ha y hy) (fun v _ z => z.trans (congrArg (fun b => some (Value.int b)) ?_))
    rw [e1]
    exact congrArg Prod.fst (miF_cg me (fun m hm => (tnG_cg hm e5 (fun j hj => (e3 j hj).2.2.1)).trans (tn_eq hme hm)))
