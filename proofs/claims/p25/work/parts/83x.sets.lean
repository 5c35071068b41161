theorem cmp_23 {M : cm_M} (hM : ab_ok hp hN M) (hL : LIS M) (x y : Int32) : cm_Call cm_ms 30 120 [.ref 0, .int x, .int y] M (cmpS_P 250 [.ref 124, .int x, .int y]) := by
  obtain ⟨T', a, me, mo, ch, nx, u, gi, hx, hm, hd, hs⟩ := LIS_all hM hL
  have hme : me ≤ 6 := hx.2.2.2.2.2.1
  cases ho : outB x (Int32.ofNat me) with
  | true => exact cmpS_gen hL (lk_120 hM x y) (fun _ h => lk_250 h x y) (c_swings_out hx x y ho) (fun M1 h1 h2 => m_swings_out (MTX_P hm h2) x y ho)
  | false =>
    obtain ⟨k, hk, rfl⟩ := out_nat (by omega) ho
    have ha := a_tr hm (Or.inl (by omega))
    cases hy : inB y 0 54 with
    | false => exact cmpS_gen hL (lk_120 hM _ y) (fun _ h => lk_250 h _ y) (c_swings_bad hx hk y hy) (fun M1 h1 h2 => m_swings_bad (MTX_P hm h2) hk y hy)
    | true =>
      refine cmpS_gen hL (lk_120 hM _ _) (fun _ h => lk_250 h _ _) (c_swings_k hx hk y hy) (fun M1 h1 h2 => ?_)
      obtain ⟨⟨e0, e1, e2⟩, e3, e4, e5, e6, e7, e8⟩ := EQ_all (hd ha) hs h2
      refine cm_Lc_im (m_swings_k (MTX_P hm h2) ha hk y hy) (fun v _ z => z.trans (congrArg (fun b => some (Value.int b)) ?_))
      rw [e1]
      exact (tnG_cg hk e5 (fun j hj => (e3 j hj).2.2.1)).trans (tn_eq hme hk)
