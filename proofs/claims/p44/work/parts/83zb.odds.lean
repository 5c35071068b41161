noncomputable def cmpL_P (k : Nat) (as : List Value) : cm_K := fun v M1 => ∃ r, v = some (.long r) ∧ ab_ok hp hN M1 ∧ cm_Call cm_ms 30 k as M1 (fun v2 M2 => v2 = some (.long r) ∧ ab_ok hp hN M2 ∧ LIS M2)
theorem cmpL_gen {M : cm_M} {k kr : Nat} {as asr : List Value} {r : Int64} (hL : LIS M) (hC : cm_Call cm_ms 30 k as M (lp_P 1 M)) (hR : ∀ M1, ab_ok hp hN M1 → cm_Call cm_ms 30 kr asr M1 (lp_P 1 M1)) (lC : cm_Lc cm_ms k as M (fun v _ => v = some (.long r))) (lR : ∀ M1, LIS M1 → lu_P M M1 → cm_Lc cm_ms kr asr M1 (fun v _ => v = some (.long r))) : cm_Call cm_ms 30 k as M (cmpL_P kr asr) :=
  cm_Call_up (cm_Lc_use hC lC) (Nat.le_refl _) (fun v M1 q => by
    obtain ⟨⟨-, q1⟩, q2⟩ := q
    have hL1 := LIS_P hL q1
    exact ⟨r, q2, q1.1, cm_Call_up (cm_Lc_use (hR M1 q1.1) (lR M1 hL1 q1)) (Nat.le_refl _) (fun v2 M2 z => ⟨z.2, z.1.2.1, LIS_P hL1 z.1.2⟩)⟩)
theorem CHX_of {M : cm_M} (h : ab_ok hp hN M) : M.2.2 0 11 = some 123 := okr h (by decide +kernel)
theorem sh_of {M : cm_M} (h : ab_ok hp hN M) : ∃ s, s ≤ 100 ∧ M.1 127 2 = Int32.ofNat s := by
  have q := h.1 127 2
  rw [show ab_hi hp 127 2 = (0, 100) from by decide +kernel] at q
  obtain ⟨s, q1, q2, q3⟩ := i_of q.1
  have q4 : (M.1 127 2).toInt ≤ 100 := q.2
  exact ⟨s, by omega, q1⟩
theorem b01_in {x : Int32} (h : x = 0 ∨ x = 1) : 0 ≤ x.toInt ∧ x.toInt ≤ 1 := by
  rcases h with rfl | rfl <;> decide
theorem ze_cg {t n j : Nat} {r r' : Nat → Int32} (h : r' j = r j) : zeR t n r' j = zeR t n r j := by
  unfold zeR
  rw [h]
theorem tr_od {T' me mo k t s : Nat} {M M1 : cm_M} (hme : me ≤ 6) (hk : k < mo) (ht : t < 2 ^ me) (hcut : 1 ≤ (M.1 (T' + 6) k).toInt) (e0 : M1.1 127 0 = M.1 T' 0) (e1 : M1.1 127 1 = M.1 T' 1)
    (e3 : ∀ m, m < me → M1.1 127 (13 + 3 * m) = M.1 (T' + 3) m ∧ M1.1 127 (44 + m) = M.1 (T' + 4) m) (e4 : M1.1 127 (29 + 3 * k) = M.1 (T' + 6) k ∧ M1.1 127 (30 + 3 * k) = M.1 (T' + 7) k) (e5 : ∀ m, m < me → M1.1 129 m = M.1 33 m) :
    trF M1 s me k t = odF (M.1 (T' + 3)) (M.1 (T' + 7) k) (orF (fun m => syB (M.1 T' 1) (M.1 (T' + 6) k) (M.1 (T' + 4) m) (lkH (M.1 T' 0) me (M.1 33) 1 m) k) me) s me t := by
  have t64 : t < 64 := by
    have k : ∀ m, m < 7 → 2 ^ m ≤ 64 := by decide
    have := k me (by omega)
    omega
  have q : trY M1 me k t = voF (M.1 (T' + 3)) (orF (fun m => syB (M.1 T' 1) (M.1 (T' + 6) k) (M.1 (T' + 4) m) (lkH (M.1 T' 0) me (M.1 33) 1 m) k) me &&& (Int32.ofNat t ^^^ (-1))) me := by
    refine Eq.trans ?_ (sh_eq (p := fun m => syB (M.1 T' 1) (M.1 (T' + 6) k) (M.1 (T' + 4) m) (lkH (M.1 T' 0) me (M.1 33) 1 m) k) (q := fun m => syB (M.1 T' 1) (M.1 (T' + 6) k) (M.1 (T' + 4) m) (zeR t me (lkH (M.1 T' 0) me (M.1 33) 1) m) k) hme t64 (fun m hm => ze_sy hcut hm))
    unfold trY
    rw [voF_cg (vo := M.1 (T' + 3)) (vo' := fun m => M1.1 127 (13 + 3 * m)) me (fun m hm => (e3 m hm).1), orF_cg (p := fun m => syB (M.1 T' 1) (M.1 (T' + 6) k) (M.1 (T' + 4) m) (zeR t me (lkH (M.1 T' 0) me (M.1 33) 1) m) k) (q := fun m => syB (M1.1 127 1) (M1.1 127 (29 + 3 * k)) (M1.1 127 (44 + m)) (zeR t me (lkR (M1.1 127 0) me (M1.1 129) 1) m) k) me (fun m hm => by
      show syB (M1.1 127 1) (M1.1 127 (29 + 3 * k)) (M1.1 127 (44 + m)) (zeR t me (lkR (M1.1 127 0) me (M1.1 129) 1) m) k = syB (M.1 T' 1) (M.1 (T' + 6) k) (M.1 (T' + 4) m) (zeR t me (lkH (M.1 T' 0) me (M.1 33) 1) m) k
      rw [e1, e4.1, (e3 m hm).2, e0, ze_cg (lk_eq (gr := M.1 T' 0) (h := M.1 33) (r := M1.1 129) hme e5 1 m hm)])]
  show (if geB (trY M1 me k t) (M1.1 127 (30 + 3 * k)) = true then wtN s t me else 0) = (if geB (voF (M.1 (T' + 3)) (orF (fun m => syB (M.1 T' 1) (M.1 (T' + 6) k) (M.1 (T' + 4) m) (lkH (M.1 T' 0) me (M.1 33) 1 m) k) me &&& (Int32.ofNat t ^^^ (-1))) me) (M.1 (T' + 7) k) = true then wtN s t me else 0)
  rw [q, e4.2]
theorem cmp_42 {M : cm_M} (hM : ab_ok hp hN M) (hL : LIS M) (x lo : Int32) (hb : lo = 0 ∨ lo = 1) : cm_Call cm_ms 30 144 [.ref 0, .int x, .int lo] M (cmpL_P 282 [.ref 124, .int x, .int lo]) := by
  obtain ⟨T', a, me, mo, ch, nx, u, gi, hx, hm, hd, hs⟩ := LIS_all hM hL
  have hme := hx.2.2.2.2.2.1
  have hmo := hx.2.2.2.2.2.2
  have hb1 := b01_in hb
  cases ho : outB x (Int32.ofNat mo) with
  | true => exact cmpL_gen hL (lk_144 hM x lo hb1) (fun _ h => lk_282 h x lo hb1) (c_odds_out hx x lo ho) (fun M1 h1 h2 => m_odds_out (MTX_P hm h2) x lo ho)
  | false =>
    obtain ⟨k, hk, rfl⟩ := out_nat (by omega) ho
    have ha := a_tr hm (Or.inr (by omega))
    obtain ⟨s, hs1, h2s⟩ := sh_of hM
    have hcut : 1 ≤ (M.1 (T' + 6) k).toInt := ((hd ha).2.2.2.1 k hk).2.2.2.2
    have h2c : M.1 T' 2 = Int32.ofNat s := (((hd ha).1.2.2 rfl).2.2).trans h2s
    refine cmpL_gen hL (lk_144 hM _ lo hb1) (fun _ h => lk_282 h _ lo hb1) (c_odds_k hx (TRX_of hM) hk (CHX_of hM) h2c hs1 lo) (fun M1 h1 h2 => ?_)
    obtain ⟨⟨e0, e1, e2⟩, e3, e4, e5, e6, e7, e8⟩ := EQ_all (hd ha) hs h2
    have key : smN (trF M1 s me k) (2 ^ me) = smN (odF (M.1 (T' + 3)) (M.1 (T' + 7) k) (orF (fun m => syB (M.1 T' 1) (M.1 (T' + 6) k) (M.1 (T' + 4) m) (lkH (M.1 T' 0) me (M.1 33) 1 m) k) me) s me) (2 ^ me) := sm_cg (2 ^ me) (fun t ht => tr_od hme hk ht hcut e0 e1 (fun m hm => ⟨(e3 m hm).2.2.1, (e3 m hm).2.2.2.1⟩) ⟨(e4 k hk).1, (e4 k hk).2.1⟩ e5)
    refine cm_Lc_im (m_odds_k (MTX_P hm h2) ha hk (e2.trans h2c) hs1 lo) (fun v _ z => z.trans ?_)
    rw [key]
