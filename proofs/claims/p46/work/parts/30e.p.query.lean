
/-- the scratch minutes -/
noncomputable def TRX (M : cm_M) : Prop := M.2.2 0 6 = some 35 ∧ M.2.2 35 0 = some 36 ∧ M.2.2 35 1 = some 37
noncomputable def lkR (gr : Int32) (me : Nat) (r : Nat → Int32) : Nat → Nat → Int32
  | 0 => r
  | n + 1 => wkR gr me (lkR gr me r n)
theorem wkH_cg {gr : Int32} {h h' : Nat → Int32} {me N : Nat} (hN : ∀ j, j < N → h' j = h j) : ∀ j, j < N → wkH gr h' me j = wkH gr h me j := fun j hj => by
  unfold wkH
  rw [hN j hj]
theorem wkR_cg {gr : Int32} {me : Nat} {r r' : Nat → Int32} (h : ∀ j, j < 11 → r' j = r j) : ∀ j, j < 11 → wkR gr me r' j = wkR gr me r j := fun j hj => by
  unfold wkR
  rw [h 10 (by omega), wkH_cg h j hj]
/-- a number of weeks -/
theorem wk_in {y : Int32} (h : inB y 0 60 = true) : ∃ n, n ≤ 60 ∧ y = Int32.ofNat n := by
  unfold inB at h
  rw [show (0 : Int32).toInt = 0 by decide, show (60 : Int32).toInt = 60 by decide, Bool.and_eq_true, decide_eq_true_eq, decide_eq_true_eq] at h
  obtain ⟨n, q1, q2, q3⟩ := i_of h.1
  exact ⟨n, by omega, q1⟩
theorem lkR_step {M M1 M2 : cm_M} {me n : Nat} (hs : rset 132 M M1 (lkR (M.1 127 0) me (M.1 129) n)) (k0 : M1.1 127 0 = M.1 127 0) (hs2 : rset 132 M1 M2 (wkR (M1.1 127 0) me (M1.1 132))) : rset 132 M M2 (lkR (M.1 127 0) me (M.1 129) (n + 1)) := rset_cg (rset_tr hs hs2) (fun j hj => by
  show wkR (M.1 127 0) me (lkR (M.1 127 0) me (M.1 129) n) j = wkR (M1.1 127 0) me (M1.1 132) j
  rw [k0]
  exact wkR_cg (fun i hi => (hs.2.2 i hi).symm) j hj)
set_option maxRecDepth 100000 in
theorem m_goOver {M : cm_M} {me n : Nat} (h15 : M.2.2 124 15 = some 127) (h17 : M.2.2 124 17 = some 129) (h22 : M.2.2 124 22 = some 132) (h3 : M.1 127 3 = Int32.ofNat me) (hme : me ≤ 6) (hn : n < 1000) : cm_Lc cm_ms 220 [.ref 124, .int (Int32.ofNat n)] M (fun v M' => v = none ∧ rset 132 M M' (lkR (M.1 127 0) me (M.1 129) n)) := by
  refine lb_of (mi := mr_220) rfl [(17, [0, 1, 2])] (fun S => ∃ k M1, k ≤ n ∧ rset 132 M M1 (lkR (M.1 127 0) me (M.1 129) k) ∧ S = (17, [(0, .ref 124), (1, .int (Int32.ofNat n)), (2, .int (Int32.ofNat k))], [], M1)) 400 (fun S hS => ?_) 400 ?_
  · obtain ⟨k, M1, hk, hs, rfl⟩ := hS
    have h15 : M1.2.2 124 15 = some 127 := by rw [hs.1]; exact h15
    have h17 : M1.2.2 124 17 = some 129 := by rw [hs.1]; exact h17
    have h22 : M1.2.2 124 22 = some 132 := by rw [hs.1]; exact h22
    have k3 : M1.1 127 3 = Int32.ofNat me := (hs.2.1 127 3 (by omega)).trans h3
    have k0 : M1.1 127 0 = M.1 127 0 := hs.2.1 127 0 (by omega)
    show (ev_cmp 3 (Int32.ofNat k) (Int32.ofNat n) = true → _) ∧ (ev_cmp 3 (Int32.ofNat k) (Int32.ofNat n) = false → _)
    refine ⟨fun hL => ?_, fun hL => ?_⟩
    · have g := fn_ge hL
      rw [fn_toInt (by omega), fn_toInt (by omega)] at g
      have : k = n := by omega
      subst this
      exact ⟨rfl, hs⟩
    · have g := fn_nge hL
      rw [fn_toInt (by omega), fn_toInt (by omega)] at g
      first | refine lb_to (T := (24, [(0, .ref 124), (1, .int (Int32.ofNat n)), (2, .int (Int32.ofNat k))], [.ref 124, .ref 124], M1)) 24 [0, 1, 2] rfl rfl rfl (fun J' h => h) (lb_g0 rfl rfl h22 ?_) | refine lb_to0 (T := (24, [(0, .ref 124), (1, .int (Int32.ofNat n)), (2, .int (Int32.ofNat k))], [.ref 124, .ref 124], M1)) 24 [0, 1, 2] rfl rfl rfl (fun J' h => h) (lb_g0 rfl rfl h22 ?_)
      show ∃ R, cm_Lc cm_ms 219 [.ref 124, .ref 132] M1 R ∧ ∀ v M', R v M' → _
      refine ⟨_, m_weekOf (M := M1) (d := 132) (me := me) h15 (by omega) k3 hme, ?_⟩
      rintro v Mb ⟨rfl, hs2⟩
      show (fun (S : cm_S) => ∃ k M1, k ≤ n ∧ rset 132 M M1 (lkR (M.1 127 0) me (M.1 129) k) ∧ S = (17, [(0, .ref 124), (1, .int (Int32.ofNat n)), (2, .int (Int32.ofNat k))], [], M1)) (17, [(0, .ref 124), (1, .int (Int32.ofNat n)), (2, .int ((Int32.ofNat k) + 1))], [], Mb)
      exact ⟨k + 1, Mb, by omega, lkR_step hs k0 hs2, by rw [ofn_s1]⟩
  · first | refine lb_to (T := (1, [(0, .ref 124), (1, .int (Int32.ofNat n))], [.ref 124], M)) 1 [0, 1] rfl rfl rfl (fun J' h => h) (lb_g0 rfl rfl h17 ?_) | refine lb_to0 (T := (1, [(0, .ref 124), (1, .int (Int32.ofNat n))], [.ref 124], M)) 1 [0, 1] rfl rfl rfl (fun J' h => h) (lb_g0 rfl rfl h17 ?_)
    first | refine lb_to (T := (6, [(0, .ref 124), (1, .int (Int32.ofNat n))], [.ref 124, .int 0, .ref 129], M)) 6 [0, 1] rfl rfl rfl (fun J' h => h) (lb_g0 rfl rfl h22 ?_) | refine lb_to0 (T := (6, [(0, .ref 124), (1, .int (Int32.ofNat n))], [.ref 124, .int 0, .ref 129], M)) 6 [0, 1] rfl rfl rfl (fun J' h => h) (lb_g0 rfl rfl h22 ?_)
    show ∃ R, cm_Lc cm_ms 170 [.ref 129, .int 0, .ref 132, .int 0, .int 11] M R ∧ ∀ v M', R v M' → _
    refine ⟨_, m_copyR (M := M) (a := 129) (b := 132) (x := 0) (y := 0) (n := 11) (by decide) (by omega) (by omega), ?_⟩
    rintro v Mb ⟨rfl, hM⟩
    have hs : rset 132 M Mb (M.1 129) := by
      subst hM
      exact ⟨rfl, fun e j he => cp_ne (by omega), fun j hj => by rw [cp_in (by omega) (by omega), Nat.sub_zero, Nat.zero_add]⟩
    show (fun (S : cm_S) => ∃ k M1, k ≤ n ∧ rset 132 M M1 (lkR (M.1 127 0) me (M.1 129) k) ∧ S = (17, [(0, .ref 124), (1, .int (Int32.ofNat n)), (2, .int (Int32.ofNat k))], [], M1)) (17, [(0, .ref 124), (1, .int (Int32.ofNat n)), (2, .int 0)], [], Mb)
    exact ⟨0, Mb, Nat.zero_le _, hs, rfl⟩
theorem m_goOver0 {M : cm_M} {me : Nat} (h15 : M.2.2 124 15 = some 127) (h17 : M.2.2 124 17 = some 129) (h22 : M.2.2 124 22 = some 132) (h3 : M.1 127 3 = Int32.ofNat me) (hme : me ≤ 6) : cm_Lc cm_ms 220 [.ref 124, .int 0] M (fun v M' => v = none ∧ rset 132 M M' (M.1 129)) := m_goOver (n := 0) h15 h17 h22 h3 hme (by omega)
