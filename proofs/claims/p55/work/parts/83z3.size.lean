/-! BOTH SIDES ANSWER ALIKE: size -/
theorem bS_no {A : Nat → Int32} {x : Int32} {n : Nat} (h : x = 0) : bS A (min x.toNatClampNeg n) = 0 := by
  rw [h, show (0 : Int32).toNatClampNeg = 0 from rfl, Nat.zero_min]
  try rfl
theorem sz_town {M : cm_M} {T' me mo ch : Nat} (hx : CTX T' me mo M) (hd : DR me mo ch 1 (DA T' M) (M.1 127)) : (M.1 127 0 = M.1 T' 0 ∧ M.1 127 1 = M.1 T' 1 ∧ M.1 127 2 = M.1 T' 2) ∧ (M.1 127 3 = M.1 T' 3 ∧ M.1 127 4 = M.1 T' 9 ∧ M.1 127 8 = M.1 T' 15) ∧ (M.1 127 5 = bS (M.1 (T' + 4)) (min (M.1 T' 3).toNatClampNeg 6) ∧ M.1 127 6 = bS (M.1 (T' + 9)) (min (M.1 T' 9).toNatClampNeg 5) ∧ M.1 127 9 = bcF (M.1 T' 18)) ∧ ∃ q qu, QU me (M.1 (T' + 5)) qu ∧ su qu me = 2 * q ∧ M.1 127 7 = Int32.ofNat q := by
  have hme := hx.2.2.2.2.2.1
  have hmo := hx.2.2.2.2.2.2
  obtain ⟨⟨d1, d2, d3⟩, ⟨b1, b2, b3, b4, b5, b6⟩, dm, dk, -, ⟨ag, am, qu, f1, f2, f3, f4, f5, f6, q, f7, f8, -⟩, hb_, g1, g2, g3, -⟩ := hd
  obtain ⟨x0, x1, x2⟩ := d3 rfl
  have y3 : M.1 T' 3 = Int32.ofNat me := b1
  have y9 : M.1 T' 9 = Int32.ofNat mo := b3
  have y15 : M.1 T' 15 = Int32.ofNat ch := b5
  have y18 : M.1 T' 18 = Int32.ofNat hb_ := g2
  refine ⟨⟨x0.symm, x1.symm, x2.symm⟩, ⟨b2.trans y3.symm, b4.trans y9.symm, b6.trans y15.symm⟩, ⟨?_, ?_, ?_⟩, q, qu, fun m hm => ?_, ?_, f7⟩
  · rw [y3, fn_nat (by omega), Nat.min_eq_left hme, bS_su (f := ag) me (fun j hj => ?_), f5, su_zz (fun j hj => (f2 j hj).1) hme]
    have h1 := f1 j (by omega)
    exact ⟨((dm j hj).2.2.2.1).trans h1.2.1, by omega⟩
  · rw [y9, fn_nat (by omega), Nat.min_eq_left hmo, bS_su (f := am) mo (fun j hj => ?_), f6, su_zz (fun j hj => f4 j hj) hmo]
    have h1 := f3 j (by omega)
    refine ⟨((dk j hj).2.2.2).trans h1.2, ?_⟩
    have : 2 ^ j ≤ 2 ^ 5 := Nat.pow_le_pow_right (by omega) (by omega)
    omega
  · rw [y18, bc_t hb_ (by omega)]
    exact g3
  · have h1 := f1 m (by omega)
    exact ⟨((dm m hm).2.2.2.2).trans h1.2.2.2, h1.2.2.1⟩
  · rw [← su_zz (fun j hj => (f2 j hj).2) hme]
    exact f8
theorem sz_go {M : cm_M} (hM : ab_ok hp hN M) (hL : LIS M) {w r : Int32} (lC : cm_Lc cm_ms 155 [.ref 0, .int w] M (fun v _ => v = some (.int r))) (lR : ∀ M1, lu_P M M1 → cm_Lc cm_ms 295 [.ref 124, .int w] M1 (fun v _ => v = some (.int r))) : cm_Call cm_ms 30 155 [.ref 0, .int w] M (cmpS_P 295 [.ref 124, .int w]) := cmpS_gen hL (lk_155 hM w) (fun _ h => lk_295 h w) lC (fun M1 _ h => lR M1 h)
/-- an answer that isn't there without a town -/
theorem sz_on {M : cm_M} {a : Bool} {me mo : Nat} {w r r' : Int32} (hM : ab_ok hp hN M) (hL : LIS M) (hm : MTX a me mo M) (lC : cm_Lc cm_ms 155 [.ref 0, .int w] M (fun v _ => v = some (.int r))) (lN : ∀ M1, MTX a me mo M1 → a = false → cm_Lc cm_ms 295 [.ref 124, .int w] M1 (fun v _ => v = some (.int 0))) (lT : ∀ M1, MTX a me mo M1 → a = true → lu_P M M1 → cm_Lc cm_ms 295 [.ref 124, .int w] M1 (fun v _ => v = some (.int r'))) (e0 : a = false → r = 0) (e1 : a = true → r' = r) : cm_Call cm_ms 30 155 [.ref 0, .int w] M (cmpS_P 295 [.ref 124, .int w]) := by
  refine sz_go hM hL lC (fun M1 h => ?_)
  rcases a_ft a with ha | ha
  · rw [e0 ha]
    exact lN M1 (MTX_P hm h) ha
  · rw [← e1 ha]
    exact lT M1 (MTX_P hm h) ha h
theorem sz_0 {M : cm_M} (hL : LIS M) {T' a me mo} (hx : CTX T' me mo M) (hm : MTX a me mo M) (ha : a = false) : (M.1 T' 0 = 0 ∧ M.1 T' 1 = 0 ∧ M.1 T' 2 = 0 ∧ M.1 T' 18 = 0) ∧ (M.1 T' 3 = 0 ∧ M.1 T' 9 = 0 ∧ M.1 T' 15 = 0) ∧ M.1 32 3 = 0 ∧ M.1 38 3 = 0 ∧ M.1 38 4 = 0 := by
  obtain ⟨h0, h1⟩ := hm.2.2.2.1 ha
  obtain ⟨z1, z2⟩ := LIS_z hL hx h0
  obtain ⟨T2, a2, me2, mo2, ch2, t1, t2, t3, t4, t5, t6, t7, t8⟩ := LI_all hL.1
  have eT : T2 = T' := Option.some.inj (t2.symm.trans hx.2.1.1)
  subst eT
  have ea : a2 = false := by
    cases a2 with
    | false => rfl
    | true =>
      have q := t3.symm.trans (hm.1.trans (by rw [ha]; try rfl : bi a = bi false))
      exact absurd q (by decide)
  obtain ⟨u1, u2, u3⟩ := t7 ea
  subst u1 u2 u3
  exact ⟨z1, ⟨t6.1, t6.2.1, t6.2.2⟩, z2⟩
theorem cmp_53 {M : cm_M} (hM : ab_ok hp hN M) (hL : LIS M) (x : Int32) : cm_Call cm_ms 30 155 [.ref 0, .int x] M (cmpS_P 295 [.ref 124, .int x]) := by
  obtain ⟨T', a, me, mo, ch, nx, u, gi, hx, hm, hd, hs⟩ := LIS_all hM hL
  obtain ⟨sa, ⟨n1, n2, n3⟩, ⟨s1, s2, s3, s4, s5⟩, -, -⟩ := id hs
  have hz := fun ha => sz_0 hL hx hm ha
  have ht := fun ha => sz_town hx (hd ha)
  have E : ∀ M1, lu_P M M1 → ∀ j, M1.1 127 j = M.1 127 j := fun M1 h j => (h.2 127 j rfl).1
  by_cases ho : x.toInt < 0 ∨ 13 < x.toInt
  · exact sz_go hM hL (c_size_out x ho) (fun M1 h => m_size_out (MTX_P hm h) x ho)
  · obtain ⟨w, e, hw, -⟩ := i_of (show 0 ≤ x.toInt by omega)
    subst e
    rcases (show w = 0 ∨ w = 1 ∨ w = 2 ∨ w = 3 ∨ w = 4 ∨ w = 5 ∨ w = 6 ∨ w = 7 ∨ w = 8 ∨ w = 9 ∨ w = 10 ∨ w = 11 ∨ w = 12 ∨ w = 13 by omega) with rfl | rfl | rfl | rfl | rfl | rfl | rfl | rfl | rfl | rfl | rfl | rfl | rfl | rfl
    · exact sz_on hM hL hm (c_size_0 hx) (fun M1 h => m_size_no_0 h) (fun M1 h ha hp_ => by
        rw [← E M1 hp_ 0]
        exact m_size_0 h ha) (fun ha => (hz ha).1.1) (fun ha => (ht ha).1.1)
    · exact sz_on hM hL hm (c_size_1 hx) (fun M1 h => m_size_no_1 h) (fun M1 h ha hp_ => by
        rw [← E M1 hp_ 1]
        exact m_size_1 h ha) (fun ha => (hz ha).1.2.1) (fun ha => (ht ha).1.2.1)
    · exact sz_on hM hL hm (c_size_2 hx) (fun M1 h => m_size_no_2 h) (fun M1 h ha hp_ => by
        rw [← E M1 hp_ 2]
        exact m_size_2 h ha) (fun ha => (hz ha).1.2.2.1) (fun ha => (ht ha).1.2.2)
    · exact sz_on hM hL hm (c_size_3 hx) (fun M1 h => m_size_no_3 h) (fun M1 h ha hp_ => by
        rw [← E M1 hp_ 3]
        exact m_size_3 h ha) (fun ha => (hz ha).2.1.1) (fun ha => (ht ha).2.1.1)
    · exact sz_on hM hL hm (c_size_4 hx) (fun M1 h => m_size_no_4 h) (fun M1 h ha hp_ => by
        rw [← E M1 hp_ 4]
        exact m_size_4 h ha) (fun ha => (hz ha).2.1.2.1) (fun ha => (ht ha).2.1.2.1)
    · exact sz_on hM hL hm (c_size_5 hx) (fun M1 h => m_size_no_5 h) (fun M1 h ha hp_ => by
        rw [← E M1 hp_ 5]
        exact m_size_5 h ha) (fun ha => bS_no (hz ha).2.1.1) (fun ha => (ht ha).2.2.1.1)
    · exact sz_on hM hL hm (c_size_6 hx) (fun M1 h => m_size_no_6 h) (fun M1 h ha hp_ => by
        rw [← E M1 hp_ 6]
        exact m_size_6 h ha) (fun ha => bS_no (hz ha).2.1.2.1) (fun ha => (ht ha).2.2.1.2.1)
    · rcases a_ft a with ha | ha
      · have h0 := (hm.2.2.2.1 ha).1
        exact sz_go hM hL (c_size_7 hx (q := 0) (qu := fun _ => 0) (fun m hm => absurd hm (by omega)) (by rw [h0]; try rfl)) (fun M1 h => m_size_no_7 (MTX_P hm h) ha)
      · obtain ⟨q, qu, y1, y2, y3⟩ := (ht ha).2.2.2
        refine sz_go hM hL (c_size_7 hx y1 y2) (fun M1 h => ?_)
        rw [← y3, ← E M1 h 7]
        exact m_size_7 (MTX_P hm h) ha
    · exact sz_on hM hL hm (c_size_8 hx) (fun M1 h => m_size_no_8 h) (fun M1 h ha hp_ => by
        rw [← E M1 hp_ 8]
        exact m_size_8 h ha) (fun ha => (hz ha).2.1.2.2) (fun ha => (ht ha).2.1.2.2)
    · exact sz_on hM hL hm (c_size_9 hx) (fun M1 h => m_size_no_9 h) (fun M1 h ha hp_ => by
        rw [← E M1 hp_ 9]
        exact m_size_9 h ha) (fun ha => by
        rw [(hz ha).1.2.2.2]
        decide) (fun ha => (ht ha).2.2.1.2.2)
    · exact sz_on hM hL hm (c_size_10 hx) (fun M1 h => m_size_no_10 h) (fun M1 h ha hp_ => by
        rw [← show M1.1 129 10 = M.1 129 10 from (hp_.2 129 10 rfl).1]
        exact m_size_10 h ha) (fun ha => (hz ha).2.2.1) (fun ha => (sa.2.2.2.1).symm)
    · exact sz_on hM hL hm (c_size_11 hx) (fun M1 h => m_size_no_11 h) (fun M1 h ha hp_ => by
        rw [← show M1.1 124 20 = M.1 124 20 from (hp_.2 124 20 rfl).1]
        exact m_size_11 h ha) (fun ha => (hz ha).2.2.2.1) (fun ha => s3.trans s2.symm)
    · exact sz_on hM hL hm (c_size_12 hx) (fun M1 h => m_size_no_12 h) (fun M1 h ha hp_ => by
        rw [← show M1.1 124 21 = M.1 124 21 from (hp_.2 124 21 rfl).1]
        exact m_size_12 h ha) (fun ha => (hz ha).2.2.2.2) (fun ha => s5.trans s4.symm)
    · refine sz_go hM hL (c_size_13 hx) (fun M1 h => ?_)
      rw [show M.1 0 1 = M1.1 124 2 from (hL.1.1.1).trans ((h.2 124 2 rfl).1).symm]
      exact m_size_13 (MTX_P hm h)
