/-! BOTH SIDES ANSWER ALIKE: queries over now -/
theorem MTX_P {a : Bool} {me mo : Nat} {M M1 : cm_M} (hm : MTX a me mo M) (h : lu_P M M1) : MTX a me mo M1 := ⟨((h.2 124 14 rfl).1).trans hm.1, MX_of h.1, fun q => ⟨((h.2 127 3 rfl).1).trans (hm.2.2.1 q).1, ((h.2 127 4 rfl).1).trans (hm.2.2.1 q).2⟩, hm.2.2.2⟩
/-- what the reference reads is what the class reads -/
theorem EQ_all {T' me mo ch nx u gi : Nat} {M M1 : cm_M} (hd : DR me mo ch 1 (DA T' M) (M.1 127)) (hs : SQ me nx u gi M) (h : lu_P M M1) : (M1.1 127 0 = M.1 T' 0 ∧ M1.1 127 1 = M.1 T' 1 ∧ M1.1 127 2 = M.1 T' 2) ∧ (∀ m, m < me → M1.1 127 (11 + 3 * m) = M.1 (T' + 1) m ∧ M1.1 127 (12 + 3 * m) = M.1 (T' + 2) m ∧ M1.1 127 (13 + 3 * m) = M.1 (T' + 3) m ∧ M1.1 127 (44 + m) = M.1 (T' + 4) m ∧ M1.1 127 (55 + m) = M.1 (T' + 5) m) ∧ (∀ k, k < mo → M1.1 127 (29 + 3 * k) = M.1 (T' + 6) k ∧ M1.1 127 (30 + 3 * k) = M.1 (T' + 7) k ∧ M1.1 127 (31 + 3 * k) = M.1 (T' + 8) k ∧ M1.1 127 (50 + k) = M.1 (T' + 9) k) ∧ (∀ m, m < me → M1.1 129 m = M.1 33 m) ∧ (∀ q, q < 3 → M1.1 129 (6 + q) = M.1 34 q) ∧ M1.1 129 9 = M.1 32 2 ∧ M1.1 129 10 = M.1 32 3 := by
  have e : ∀ j, M1.1 127 j = M.1 127 j := fun j => (h.2 127 j rfl).1
  have e9 : ∀ j, M1.1 129 j = M.1 129 j := fun j => (h.2 129 j rfl).1
  obtain ⟨sa, -, -, -, -⟩ := hs
  obtain ⟨-, -, a3⟩ := hd.1
  obtain ⟨b1, b2, b3⟩ := a3 rfl
  refine ⟨⟨(e 0).trans b1.symm, (e 1).trans b2.symm, (e 2).trans b3.symm⟩, fun m hm => ?_, fun k hk => ?_, fun m hm => (e9 m).trans (sa.1 m hm).symm, fun q hq => (e9 _).trans (sa.2.1 q hq).symm, (e9 9).trans (sa.2.2.1).symm, (e9 10).trans (sa.2.2.2.1).symm⟩
  · obtain ⟨c1, c2, c3, c4, c5⟩ := hd.2.2.1 m hm
    exact ⟨(e _).trans c1.symm, (e _).trans c2.symm, (e _).trans c3.symm, (e _).trans c4.symm, (e _).trans c5.symm⟩
  · obtain ⟨c1, c2, c3, c4⟩ := hd.2.2.2.1 k hk
    exact ⟨(e _).trans c1.symm, (e _).trans c2.symm, (e _).trans c3.symm, (e _).trans c4.symm⟩
theorem bd_eq {me : Nat} {b b' : Int32} {h h' : Nat → Int32} (e : b' = b) (e2 : ∀ m, m < me → h' m = h m) : orF (fun m => bdB b' (h' m)) me = orF (fun m => bdB b (h m)) me := orF_cg me (fun m hm => by
  show bdB b' (h' m) = bdB b (h m)
  rw [e, e2 m hm])
theorem cmp_7 {M : cm_M} (hM : ab_ok hp hN M) (hL : LIS M) : cm_Call cm_ms 30 101 [.ref 0] M (cmpS_P 225 [.ref 124]) := by
  obtain ⟨T', a, me, mo, ch, nx, u, gi, hx, hm, hd, hs⟩ := LIS_all hM hL
  rcases a_ft a with ha | ha
  · exact cmpS_gen hL (lk_101 hM) (fun _ h => lk_225 h) (c_bald_no hx (hm.2.2.2.1 ha).1) (fun M1 h1 h2 => m_bald_no (MTX_P hm h2) ha)
  · refine cmpS_gen hL (lk_101 hM) (fun _ h => lk_225 h) (c_bald_k hx (hm.2.2.2.2.1 ha)) (fun M1 h1 h2 => ?_)
    obtain ⟨⟨e0, e1, e2⟩, -, -, e4, -⟩ := EQ_all (hd ha) hs h2
    have q := m_bald_k (MTX_P hm h2) ha
    rw [bd_eq e1 e4] at q
    exact q
theorem cmp_8 {M : cm_M} (hM : ab_ok hp hN M) (hL : LIS M) : cm_Call cm_ms 30 102 [.ref 0] M (cmpS_P 226 [.ref 124]) := by
  obtain ⟨T', a, me, mo, ch, nx, u, gi, hx, hm, hd, hs⟩ := LIS_all hM hL
  rcases a_ft a with ha | ha
  · exact cmpS_gen hL (lk_102 hM) (fun _ h => lk_226 h) (c_longest_no hx (hm.2.2.2.1 ha).1) (fun M1 h1 h2 => m_longest_no (MTX_P hm h2) ha)
  · refine cmpS_gen hL (lk_102 hM) (fun _ h => lk_226 h) (c_longest_k hx (hm.2.2.2.2.1 ha)) (fun M1 h1 h2 => ?_)
    obtain ⟨-, -, -, e4, -⟩ := EQ_all (hd ha) hs h2
    have q := m_longest_k (MTX_P hm h2) ha
    rw [loF_cg (h := M.1 33) me e4] at q
    exact q
theorem cmp_10 {M : cm_M} (hM : ab_ok hp hN M) (hL : LIS M) : cm_Call cm_ms 30 104 [.ref 0] M (cmpS_P 229 [.ref 124]) := by
  obtain ⟨T', a, me, mo, ch, nx, u, gi, hx, hm, hd, hs⟩ := LIS_all hM hL
  rcases a_ft a with ha | ha
  · exact cmpS_gen hL (lk_104 hM) (fun _ h => lk_229 h) (c_quorum_no hx (hm.2.2.2.1 ha).1) (fun M1 h1 h2 => m_quorum_no (MTX_P hm h2) ha)
  · refine cmpS_gen hL (lk_104 hM) (fun _ h => lk_229 h) (c_quorum_k hx (hm.2.2.2.2.1 ha)) (fun M1 h1 h2 => ?_)
    obtain ⟨⟨e0, e1, e2⟩, e3, -, e4, -⟩ := EQ_all (hd ha) hs h2
    have q := m_quorum_k (MTX_P hm h2) ha
    rw [bd_eq e1 e4, voF_cg (vo := M.1 (T' + 3)) me (fun m hm => (e3 m hm).2.2.1)] at q
    exact q
theorem cmp_6 {M : cm_M} (hM : ab_ok hp hN M) (hL : LIS M) (x : Int32) : cm_Call cm_ms 30 100 [.ref 0, .int x] M (cmpS_P 224 [.ref 124, .int x]) := by
  obtain ⟨T', a, me, mo, ch, nx, u, gi, hx, hm, hd, hs⟩ := LIS_all hM hL
  refine cmpS_gen hL (lk_100 hM x) (fun _ h => lk_224 h x) (c_floor hx x) (fun M1 h1 h2 => ?_)
  have q := m_floor (MTX_P hm h2) x
  have e : flM a x (M1.1 129) = flF (decide (M.1 T' 3 = 0)) x (M.1 34) := by
    unfold flM flF
    rcases a_ft a with ha | ha
    · rw [hx.2.2.2.2.1.1, (hm.2.2.2.1 ha).1, ha, Bool.false_and, if_neg (by decide), show decide (Int32.ofNat 0 = 0) = true from rfl, Bool.true_or, if_pos rfl]
    · obtain ⟨-, -, -, -, e5, -⟩ := EQ_all (hd ha) hs h2
      have hme : me ≤ 6 := hx.2.2.2.2.2.1
      have h0 := hm.2.2.2.2.1 ha
      have z : decide (M.1 T' 3 = 0) = false := decide_eq_false (fun w => by
        rw [hx.2.2.2.2.1.1, ofn_0 (by omega)] at w
        omega)
      have o := out_in (c := x) (n := 3) (by decide)
      rw [show Int32.ofNat 3 - 1 = 2 from by decide, show Int32.ofNat 3 = 3 from rfl] at o
      rw [z, ha, o]
      cases ho : outB x 3 with
      | true => rfl
      | false =>
        obtain ⟨k, hk, rfl⟩ := out_nat (n := 3) (by decide) ho
        rw [if_pos (by decide), if_neg (by decide), show (6 : Int32) + Int32.ofNat k = Int32.ofNat (6 + k) from (Int32.ofNat_add 6 k).symm, fn_nat (by omega), fn_nat (by omega)]
        exact e5 k hk
  rw [e] at q
  exact q
theorem cmp_9 {M : cm_M} (hM : ab_ok hp hN M) (hL : LIS M) : cm_Call cm_ms 30 103 [.ref 0] M (cmpS_P 227 [.ref 124]) := by
  obtain ⟨T', a, me, mo, ch, nx, u, gi, hx, hm, hd, hs⟩ := LIS_all hM hL
  rcases a_ft a with ha | ha
  · exact cmpS_gen hL (lk_103 hM) (fun _ h => lk_227 h) (c_ready_no hx (hm.2.2.2.1 ha).1) (fun M1 h1 h2 => m_ready_no (MTX_P hm h2) ha)
  · refine cmpS_gen hL (lk_103 hM) (fun _ h => lk_227 h) (c_ready_k hx (hm.2.2.2.2.1 ha)) (fun M1 h1 h2 => ?_)
    obtain ⟨⟨e0, e1, e2⟩, e3, e4, e5, e6, e7, e8⟩ := EQ_all (hd ha) hs h2
    have q := m_ready_k (MTX_P hm h2) ha
    have e : ∀ m, m < mo → (mbB (M1.1 129 9) (M1.1 127 (50 + m)) m && geB (voF (fun j => M1.1 127 (13 + 3 * j)) (orF (fun j => syB (M1.1 127 1) (M1.1 127 (29 + 3 * m)) (M1.1 127 (44 + j)) (M1.1 129 j) m) me) me) (M1.1 127 (30 + 3 * m))) = (mbB (M.1 32 2) (M.1 (T' + 9) m) m && geB (voF (M.1 (T' + 3)) (orF (fun j => syB (M.1 T' 1) (M.1 (T' + 6) m) (M.1 (T' + 4) j) (M.1 33 j) m) me) me) (M.1 (T' + 7) m)) := fun m h => by
      rw [e7, (e4 m h).2.2.2, (e4 m h).2.1, voF_cg (vo := M.1 (T' + 3)) me (fun j hj => (e3 j hj).2.2.1), sy_eq (me := me) (k := m) (A := M.1 (T' + 4)) (H := M.1 33) (A' := fun j => M1.1 127 (44 + j)) (H' := M1.1 129) e1 (e4 m h).1 (fun j hj => ⟨(e3 j hj).2.2.2.1, e5 j hj⟩)]
    rw [orF_cg mo e] at q
    exact q
