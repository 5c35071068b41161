theorem dw_n {s y : Int32} (h : dwB s y = true) : ∃ n, n ≤ 60 ∧ y = Int32.ofNat n := by
  unfold dwB at h
  rw [Bool.and_eq_true] at h
  exact wk_in h.2
theorem cmp_44 {M : cm_M} (hM : ab_ok hp hN M) (hL : LIS M) (x s y : Int32) : cm_Call cm_ms 30 146 [.ref 0, .int x, .int s, .int y] M (cmpS_P 285 [.ref 124, .int x, .int s, .int y]) := by
  obtain ⟨T', a, me, mo, ch, nx, u, gi, hx, hm, hd, hs⟩ := LIS_all hM hL
  have hme := hx.2.2.2.2.2.1
  cases ho : outB x (Int32.ofNat me) with
  | true => exact cmpS_gen hL (lk_146 hM x s y) (fun _ h => lk_285 h x s y) (c_shaves_out hx x s y ho) (fun M1 h1 h2 => m_shaves_out (MTX_P hm h2) x s y ho)
  | false =>
    obtain ⟨k, hk, rfl⟩ := out_nat (by omega) ho
    have ha := a_tr hm (Or.inl (by omega))
    cases hy : dwB s y with
    | false => exact cmpS_gen hL (lk_146 hM _ s y) (fun _ h => lk_285 h _ s y) (c_shaves_bad hx hk s y hy) (fun M1 h1 h2 => m_shaves_bad (MTX_P hm h2) hk s y hy)
    | true =>
      obtain ⟨n, hn, rfl⟩ := dw_n hy
      refine cmpS_gen hL (lk_146 hM _ s _) (fun _ h => lk_285 h _ s _) (c_shaves_k hx (TRX_of hM) (okr hM (by decide +kernel)) hk s hn hy) (fun M1 h1 h2 => ?_)
      obtain ⟨⟨e0, e1, e2⟩, e3, e4, e5, e6, e7, e8⟩ := EQ_all (hd ha) hs h2
      refine cm_Lc_im (m_shaves_k (MTX_P hm h2) ha hk s hn hy) (fun v _ z => z.trans (congrArg (fun b => some (Value.int b)) ?_))
      rw [e0, e2]
      exact (ss_eq hme e5 n).1 k hk
