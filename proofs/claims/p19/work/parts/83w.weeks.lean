/-! BOTH SIDES ANSWER ALIKE: weeks to come -/
set_option maxRecDepth 1000000 in
theorem TRX_of {M : cm_M} (h : ab_ok hp hN M) : TRX M := ⟨okr h (by decide +kernel), okr h (by decide +kernel), okr h (by decide +kernel)⟩
theorem cmp_13 {M : cm_M} (hM : ab_ok hp hN M) (hL : LIS M) (x y : Int32) : cm_Call cm_ms 30 107 [.ref 0, .int x, .int y] M (cmpS_P 234 [.ref 124, .int x, .int y]) := by
  obtain ⟨T', a, me, mo, ch, nx, u, gi, hx, hm, hd, hs⟩ := LIS_all hM hL
  have hme := hx.2.2.2.2.2.1
  cases ho : outB x (Int32.ofNat me) with
  | true => exact cmpS_gen hL (lk_107 hM x y) (fun _ h => lk_234 h x y) (c_longIn_out hx x y ho) (fun M1 h1 h2 => m_longIn_out (MTX_P hm h2) x y ho)
  | false =>
    obtain ⟨k, hk, rfl⟩ := out_nat (by omega) ho
    have ha := a_tr hm (Or.inl (by omega))
    cases hy : inB y 0 60 with
    | false => exact cmpS_gen hL (lk_107 hM _ y) (fun _ h => lk_234 h _ y) (c_longIn_bad hx hk y hy) (fun M1 h1 h2 => m_longIn_bad (MTX_P hm h2) hk y hy)
    | true =>
      obtain ⟨n, hn, rfl⟩ := wk_in hy
      refine cmpS_gen hL (lk_107 hM _ _) (fun _ h => lk_234 h _ _) (c_longIn_k hx (TRX_of hM) hk hn) (fun M1 h1 h2 => ?_)
      obtain ⟨⟨e0, e1, e2⟩, e3, e4, e5, e6, e7, e8⟩ := EQ_all (hd ha) hs h2
      refine cm_Lc_im (m_longIn_k (MTX_P hm h2) ha hk hn) (fun v _ z => z.trans (congrArg (fun b => some (Value.int b)) ?_))
      rw [e0]
      exact lk_eq hme e5 n k hk
theorem cmp_14 {M : cm_M} (hM : ab_ok hp hN M) (hL : LIS M) (x y : Int32) : cm_Call cm_ms 30 108 [.ref 0, .int x, .int y] M (cmpS_P 235 [.ref 124, .int x, .int y]) := by
  obtain ⟨T', a, me, mo, ch, nx, u, gi, hx, hm, hd, hs⟩ := LIS_all hM hL
  have hme := hx.2.2.2.2.2.1
  have hmo := hx.2.2.2.2.2.2
  cases ho : outB x (Int32.ofNat mo) with
  | true => exact cmpS_gen hL (lk_108 hM x y) (fun _ h => lk_235 h x y) (c_yesIn_out hx x y ho) (fun M1 h1 h2 => m_yesIn_out (MTX_P hm h2) x y ho)
  | false =>
    obtain ⟨k, hk, rfl⟩ := out_nat (by omega) ho
    have ha := a_tr hm (Or.inr (by omega))
    cases hy : inB y 0 60 with
    | false => exact cmpS_gen hL (lk_108 hM _ y) (fun _ h => lk_235 h _ y) (c_yesIn_bad hx hk y hy) (fun M1 h1 h2 => m_yesIn_bad (MTX_P hm h2) hk y hy)
    | true =>
      obtain ⟨n, hn, rfl⟩ := wk_in hy
      refine cmpS_gen hL (lk_108 hM _ _) (fun _ h => lk_235 h _ _) (c_yesIn_k hx (TRX_of hM) hk hn) (fun M1 h1 h2 => ?_)
      obtain ⟨⟨e0, e1, e2⟩, e3, e4, e5, e6, e7, e8⟩ := EQ_all (hd ha) hs h2
      refine cm_Lc_im (m_yesIn_k (MTX_P hm h2) ha hk hn) (fun v _ z => z.trans (congrArg (fun b => some (Value.int b)) ?_))
      rw [e0]
      exact yeF_cg e1 (e4 k hk).1 (fun m hm => ⟨(e3 m hm).2.2.2.1, lk_eq hme e5 n m hm, (e3 m hm).2.2.1⟩)
theorem cmp_15 {M : cm_M} (hM : ab_ok hp hN M) (hL : LIS M) (x : Int32) : cm_Call cm_ms 30 109 [.ref 0, .int x] M (cmpS_P 237 [.ref 124, .int x]) := by
  obtain ⟨T', a, me, mo, ch, nx, u, gi, hx, hm, hd, hs⟩ := LIS_all hM hL
  have hme := hx.2.2.2.2.2.1
  have hmo := hx.2.2.2.2.2.2
  cases ho : outB x (Int32.ofNat mo) with
  | true => exact cmpS_gen hL (lk_109 hM x) (fun _ h => lk_237 h x) (c_carryIn_out hx x ho) (fun M1 h1 h2 => m_carryIn_out (MTX_P hm h2) x ho)
  | false =>
    obtain ⟨k, hk, rfl⟩ := out_nat (by omega) ho
    have ha := a_tr hm (Or.inr (by omega))
    refine cmpS_gen hL (lk_109 hM _) (fun _ h => lk_237 h _) (c_carryIn_k hx (TRX_of hM) hk) (fun M1 h1 h2 => ?_)
    obtain ⟨⟨e0, e1, e2⟩, e3, e4, e5, e6, e7, e8⟩ := EQ_all (hd ha) hs h2
    refine cm_Lc_im (m_carryIn_k (MTX_P hm h2) ha hk) (fun v _ z => z.trans (congrArg (fun b => some (Value.int b)) ?_))
    rw [e0]
    exact frF_cg 61 0 (fun n => enF_cg (e4 k hk).2.1 e1 (e4 k hk).1 (fun m hm => ⟨(e3 m hm).2.2.2.1, lk_eq hme e5 n m hm, (e3 m hm).2.2.1⟩))
theorem cmp_16 {M : cm_M} (hM : ab_ok hp hN M) (hL : LIS M) : cm_Call cm_ms 30 110 [.ref 0] M (cmpS_P 238 [.ref 124]) := by
  obtain ⟨T', a, me, mo, ch, nx, u, gi, hx, hm, hd, hs⟩ := LIS_all hM hL
  have hme := hx.2.2.2.2.2.1
  rcases a_ft a with ha | ha
  · exact cmpS_gen hL (lk_110 hM) (fun _ h => lk_238 h) (c_hairyIn_no hx (hm.2.2.2.1 ha).1) (fun M1 h1 h2 => m_hairyIn_no (MTX_P hm h2) ha)
  · refine cmpS_gen hL (lk_110 hM) (fun _ h => lk_238 h) (c_hairyIn_k hx (TRX_of hM) (hm.2.2.2.2.1 ha)) (fun M1 h1 h2 => ?_)
    obtain ⟨⟨e0, e1, e2⟩, e3, e4, e5, e6, e7, e8⟩ := EQ_all (hd ha) hs h2
    refine cm_Lc_im (m_hairyIn_k (MTX_P hm h2) ha) (fun v _ z => z.trans (congrArg (fun b => some (Value.int b)) ?_))
    rw [e0]
    exact frF_cg 61 0 (fun n => congrArg (fun b => decide (b = 0)) (bd_eq e1 (fun m hm => lk_eq hme e5 n m hm)))
theorem wmF_cg {mb mb' : Bool} {x x' : Int32} (h : mb' = mb) (g : x' = x) : wmF mb' x' = wmF mb x := by rw [h, g]
theorem cmp_17 {M : cm_M} (hM : ab_ok hp hN M) (hL : LIS M) : cm_Call cm_ms 30 111 [.ref 0] M (cmpS_P 239 [.ref 124]) := by
  obtain ⟨T', a, me, mo, ch, nx, u, gi, hx, hm, hd, hs⟩ := LIS_all hM hL
  have hme := hx.2.2.2.2.2.1
  rcases a_ft a with ha | ha
  · exact cmpS_gen hL (lk_111 hM) (fun _ h => lk_239 h) (c_soonest_no hx (hm.2.2.2.1 ha).1) (fun M1 h1 h2 => m_soonest_no (MTX_P hm h2) ha)
  · refine cmpS_gen hL (lk_111 hM) (fun _ h => lk_239 h) (c_soonest_k hx (TRX_of hM) (hm.2.2.2.2.1 ha)) (fun M1 h1 h2 => ?_)
    obtain ⟨⟨e0, e1, e2⟩, e3, e4, e5, e6, e7, e8⟩ := EQ_all (hd ha) hs h2
    refine cm_Lc_im (m_soonest_k (MTX_P hm h2) ha) (fun v _ z => z.trans (congrArg (fun b => some (Value.int b)) ?_))
    unfold wkM
    rw [e0, e7]
    exact congrArg Prod.fst (soF_cg mo (fun k hk => wmF_cg (by rw [(e4 k hk).2.2.2]) (frF_cg 61 0 (fun n => enF_cg (e4 k hk).2.1 e1 (e4 k hk).1 (fun m hm => ⟨(e3 m hm).2.2.2.1, lk_eq hme e5 n m hm, (e3 m hm).2.2.1⟩)))))
