/-- the scratch minutes -/
noncomputable def TRX (M : cm_M) : Prop := M.2.2 0 6 = some 35 ∧ M.2.2 35 0 = some 36 ∧ M.2.2 35 1 = some 37
/-- hair behind so many weeks; a row behind them -/
noncomputable def lkH (gr : Int32) (me : Nat) (h : Nat → Int32) : Nat → Nat → Int32
  | 0 => h
  | n + 1 => wkH gr (lkH gr me h n) me
noncomputable def lkR (gr : Int32) (me : Nat) (r : Nat → Int32) : Nat → Nat → Int32
  | 0 => r
  | n + 1 => wkR gr me (lkR gr me r n)
theorem wkH_cg {gr : Int32} {h h' : Nat → Int32} {me N : Nat} (hN : ∀ j, j < N → h' j = h j) : ∀ j, j < N → wkH gr h' me j = wkH gr h me j := fun j hj => by
  unfold wkH
  rw [hN j hj]
theorem wkR_cg {gr : Int32} {me : Nat} {r r' : Nat → Int32} (h : ∀ j, j < 11 → r' j = r j) : ∀ j, j < 11 → wkR gr me r' j = wkR gr me r j := fun j hj => by
  unfold wkR
  rw [h 10 (by omega), wkH_cg h j hj]
theorem lk_eq {gr : Int32} {me : Nat} {h r : Nat → Int32} (hme : me ≤ 6) (e : ∀ j, j < me → r j = h j) : ∀ n j, j < me → lkR gr me r n j = lkH gr me h n j
  | 0, j, hj => e j hj
  | n + 1, j, hj => by
    show (if j = 10 then lkR gr me r n 10 + 1 else if j < me then wkF gr (lkR gr me r n j) else lkR gr me r n j) = (if j < me then wkF gr (lkH gr me h n j) else lkH gr me h n j)
    rw [if_neg (by omega), if_pos hj, if_pos hj, lk_eq hme e n j hj]
theorem lk_step {M M1 M2 : cm_M} {T' me n : Nat} {we we2 : Int32} (hs : mset 35 M M1 (lkH (M.1 T' 0) me (M.1 33) n) (M.1 34) (M.1 32 2) we) (k0 : M1.1 T' 0 = M.1 T' 0) (hs2 : mset 35 M1 M2 (wkH (M1.1 T' 0) (M1.1 (35 + 1)) me) (M1.1 (35 + 2)) (M1.1 35 2) we2) : mset 35 M M2 (lkH (M.1 T' 0) me (M.1 33) (n + 1)) (M.1 34) (M.1 32 2) we2 := by
  have q := mset_cg (mset_tr hs hs2) (H' := lkH (M.1 T' 0) me (M.1 33) (n + 1)) (F' := M.1 34) (fun j hj => ?_) (fun p hp => (hs.2.2.2.1 p hp).symm)
  · rw [hs.2.2.2.2.1] at q
    exact q
  · show wkH (M.1 T' 0) (lkH (M.1 T' 0) me (M.1 33) n) me j = wkH (M1.1 T' 0) (M1.1 (35 + 1)) me j
    rw [k0]
    exact wkH_cg (N := 6) (fun i hi => (hs.2.2.1 i hi).symm) j hj
set_option maxRecDepth 100000 in
theorem c_look {M : cm_M} {T' me mo : Nat} (hx : CTX T' me mo M) (ht : TRX M) {n : Nat} (hn : n < 1000) : cm_Lc cm_ms 112 [.ref 0, .int (Int32.ofNat n)] M (fun v M' => v = none ∧ ∃ we, mset 35 M M' (lkH (M.1 T' 0) me (M.1 33) n) (M.1 34) (M.1 32 2) we) := by
  have hT19 : T' ≤ 19 := by have := hx.1; omega
  have h6T : 6 ≤ T' := by have := hx.1; omega
  have hme6 := hx.2.2.2.2.2.1
  have hmo5 := hx.2.2.2.2.2.2
  have r3 : M.2.2 0 3 = some T' := hx.2.1.1
  have r5 : M.2.2 0 5 = some 32 := hx.2.1.2.1
  have r6 : M.2.2 0 6 = some 35 := ht.1
  have r33 : M.2.2 32 0 = some 33 := hx.2.2.1.2.2.1.1
  have r36 : M.2.2 35 0 = some 36 := ht.2.1
  have r37 : M.2.2 35 1 = some 37 := ht.2.2
  have q10 : M.2.2 T' 10 = some (T' + 6) := hx.2.2.2.1 10 6 (by decide)
  have q7 : M.2.2 T' 7 = some (T' + 4) := hx.2.2.2.1 7 4 (by decide)
  have q6 : M.2.2 T' 6 = some (T' + 3) := hx.2.2.2.1 6 3 (by decide)
  have q11 : M.2.2 T' 11 = some (T' + 7) := hx.2.2.2.1 11 7 (by decide)
  have q13 : M.2.2 T' 13 = some (T' + 9) := hx.2.2.2.1 13 9 (by decide)
  refine lb_of (mi := mr_112) rfl [(13, [0, 1, 2])] (fun S => ∃ k M1, k ≤ n ∧ (∃ we, mset 35 M M1 (lkH (M.1 T' 0) me (M.1 33) k) (M.1 34) (M.1 32 2) we) ∧ S = (13, [(0, .ref 0), (1, .int (Int32.ofNat n)), (2, .int (Int32.ofNat k))], [], M1)) 400 (fun S hS => ?_) 400 ?_
  · obtain ⟨k, M1, hk, ⟨we, hs⟩, rfl⟩ := hS
    have r3 : M1.2.2 0 3 = some T' := by rw [hs.1]; exact hx.2.1.1
    have r5 : M1.2.2 0 5 = some 32 := by rw [hs.1]; exact hx.2.1.2.1
    have r6 : M1.2.2 0 6 = some 35 := by rw [hs.1]; exact ht.1
    have r33 : M1.2.2 32 0 = some 33 := by rw [hs.1]; exact hx.2.2.1.2.2.1.1
    have r36 : M1.2.2 35 0 = some 36 := by rw [hs.1]; exact ht.2.1
    have r37 : M1.2.2 35 1 = some 37 := by rw [hs.1]; exact ht.2.2
    have q10 : M1.2.2 T' 10 = some (T' + 6) := by rw [hs.1]; exact hx.2.2.2.1 10 6 (by decide)
    have q7 : M1.2.2 T' 7 = some (T' + 4) := by rw [hs.1]; exact hx.2.2.2.1 7 4 (by decide)
    have q6 : M1.2.2 T' 6 = some (T' + 3) := by rw [hs.1]; exact hx.2.2.2.1 6 3 (by decide)
    have q11 : M1.2.2 T' 11 = some (T' + 7) := by rw [hs.1]; exact hx.2.2.2.1 11 7 (by decide)
    have q13 : M1.2.2 T' 13 = some (T' + 9) := by rw [hs.1]; exact hx.2.2.2.1 13 9 (by decide)
    have k3 : M1.1 T' 3 = Int32.ofNat me := (hs.2.1 T' 3 (by omega) (by omega) (by omega)).trans hx.2.2.2.2.1.1
    have k0 : M1.1 T' 0 = M.1 T' 0 := hs.2.1 T' 0 (by omega) (by omega) (by omega)
    show (ev_cmp 3 (Int32.ofNat k) (Int32.ofNat n) = true → _) ∧ (ev_cmp 3 (Int32.ofNat k) (Int32.ofNat n) = false → _)
    refine ⟨fun hL => ?_, fun hL => ?_⟩
    · have g := fn_ge hL
      rw [fn_toInt (by omega), fn_toInt (by omega)] at g
      have : k = n := by omega
      subst this
      exact ⟨rfl, we, hs⟩
    · have g := fn_nge hL
      rw [fn_toInt (by omega), fn_toInt (by omega)] at g
      first | refine lb_to (T := (19, [(0, .ref 0), (1, .int (Int32.ofNat n)), (2, .int (Int32.ofNat k))], [.ref 0], M1)) 19 [0, 1, 2] rfl rfl rfl (fun J' h => h) (lb_g0 rfl rfl r6 ?_) | refine lb_to0 (T := (19, [(0, .ref 0), (1, .int (Int32.ofNat n)), (2, .int (Int32.ofNat k))], [.ref 0], M1)) 19 [0, 1, 2] rfl rfl rfl (fun J' h => h) (lb_g0 rfl rfl r6 ?_)
      first | refine lb_to (T := (23, [(0, .ref 0), (1, .int (Int32.ofNat n)), (2, .int (Int32.ofNat k))], [.ref 0, .ref 35], M1)) 23 [0, 1, 2] rfl rfl rfl (fun J' h => h) (lb_g0 rfl rfl r3 ?_) | refine lb_to0 (T := (23, [(0, .ref 0), (1, .int (Int32.ofNat n)), (2, .int (Int32.ofNat k))], [.ref 0, .ref 35], M1)) 23 [0, 1, 2] rfl rfl rfl (fun J' h => h) (lb_g0 rfl rfl r3 ?_)
      show ∃ R, cm_Lc cm_ms 24 [.ref 35, .ref T'] M1 R ∧ ∀ v M', R v M' → _
      refine ⟨_, c_week (M := M1) (c := 35) (T' := T') (me := me) r36 (by omega) hT19 k3 hme6, ?_⟩
      rintro v Mb ⟨rfl, hs2⟩
      show (fun (S : cm_S) => ∃ k M1, k ≤ n ∧ (∃ we, mset 35 M M1 (lkH (M.1 T' 0) me (M.1 33) k) (M.1 34) (M.1 32 2) we) ∧ S = (13, [(0, .ref 0), (1, .int (Int32.ofNat n)), (2, .int (Int32.ofNat k))], [], M1)) (13, [(0, .ref 0), (1, .int (Int32.ofNat n)), (2, .int ((Int32.ofNat k) + 1))], [], Mb)
      exact ⟨k + 1, Mb, by omega, ⟨_, lk_step hs k0 hs2⟩, by rw [ofn_s1]⟩
  · first | refine lb_to (T := (1, [(0, .ref 0), (1, .int (Int32.ofNat n))], [.ref 0], M)) 1 [0, 1] rfl rfl rfl (fun J' h => h) (lb_g0 rfl rfl r6 ?_) | refine lb_to0 (T := (1, [(0, .ref 0), (1, .int (Int32.ofNat n))], [.ref 0], M)) 1 [0, 1] rfl rfl rfl (fun J' h => h) (lb_g0 rfl rfl r6 ?_)
    first | refine lb_to (T := (5, [(0, .ref 0), (1, .int (Int32.ofNat n))], [.ref 0, .ref 35], M)) 5 [0, 1] rfl rfl rfl (fun J' h => h) (lb_g0 rfl rfl r5 ?_) | refine lb_to0 (T := (5, [(0, .ref 0), (1, .int (Int32.ofNat n))], [.ref 0, .ref 35], M)) 5 [0, 1] rfl rfl rfl (fun J' h => h) (lb_g0 rfl rfl r5 ?_)
    show ∃ R, cm_Lc cm_ms 23 [.ref 35, .ref 32] M R ∧ ∀ v M', R v M' → _
    refine ⟨_, c_copy (c := 35) (d := 32) r36 r37 r33 hx.2.2.1.2.2.1.2 (by omega), ?_⟩
    rintro v Mb ⟨rfl, hs⟩
    show (fun (S : cm_S) => ∃ k M1, k ≤ n ∧ (∃ we, mset 35 M M1 (lkH (M.1 T' 0) me (M.1 33) k) (M.1 34) (M.1 32 2) we) ∧ S = (13, [(0, .ref 0), (1, .int (Int32.ofNat n)), (2, .int (Int32.ofNat k))], [], M1)) (13, [(0, .ref 0), (1, .int (Int32.ofNat n)), (2, .int 0)], [], Mb)
    exact ⟨0, Mb, Nat.zero_le _, ⟨_, hs⟩, rfl⟩
theorem lkR_step {M M1 M2 : cm_M} {me n : Nat} (hs : rset 132 M M1 (lkR (M.1 127 0) me (M.1 129) n)) (k0 : M1.1 127 0 = M.1 127 0) (hs2 : rset 132 M1 M2 (wkR (M1.1 127 0) me (M1.1 132))) : rset 132 M M2 (lkR (M.1 127 0) me (M.1 129) (n + 1)) := rset_cg (rset_tr hs hs2) (fun j hj => by
  show wkR (M.1 127 0) me (lkR (M.1 127 0) me (M.1 129) n) j = wkR (M1.1 127 0) me (M1.1 132) j
  rw [k0]
  exact wkR_cg (fun i hi => (hs.2.2 i hi).symm) j hj)
set_option maxRecDepth 100000 in
theorem m_goOver {M : cm_M} {me n : Nat} (h15 : M.2.2 124 15 = some 127) (h17 : M.2.2 124 17 = some 129) (h22 : M.2.2 124 22 = some 132) (h3 : M.1 127 3 = Int32.ofNat me) (hme : me ≤ 6) (hn : n < 1000) : cm_Lc cm_ms 220 [.ref 124, .int (Int32.ofNat n)] M (fun v M' => v = none ∧ rset 132 M M' (lkR (M.1 127 0) me (M.1 129) n)) := by
  refine lb_of (mi := mr_220) rfl [(17, [0, 1, 2])] (fun S => ∃ k M1, k ≤ n ∧ rset 132 M M1 (lkR (M.1 127 0) me (M.1 129) k) ∧ S = (17, [(0, .ref 124), (1, .int (Int32.ofNat n)), (2, .int (Int32.ofNat k))], [], M1)) 400 (fun S hS => ?_) 400 ?_
  · obtain ⟨k, M1, hk, hs, rfl⟩ := hS
    have h15 : M1.2.2 124 15 = some 127 := by rw [hs.1]; exact h15
    have h17 : M1.2.2 124 17 = some 129 := by rw [hs.1]; exact h17
    have h22 : M1.2.2 124 22 = some 132 := by rw [hs.1]; exact h22
    have k3 : M1.1 127 3 = Int32.ofNat me := (hs.2.1 127 3 (by omega)).trans h3
    have k0 : M1.1 127 0 = M.1 127 0 := hs.2.1 127 0 (by omega)
    show (ev_cmp 3 (Int32.ofNat k) (Int32.ofNat n) = true → _) ∧ (ev_cmp 3 (Int32.ofNat k) (Int32.ofNat n) = false → _)
    refine ⟨fun hL => ?_, fun hL => ?_⟩
    · have g := fn_ge hL
      rw [fn_toInt (by omega), fn_toInt (by omega)] at g
      have : k = n := by omega
      subst this
      exact ⟨rfl, hs⟩
    · have g := fn_nge hL
      rw [fn_toInt (by omega), fn_toInt (by omega)] at g
      first | refine lb_to (T := (24, [(0, .ref 124), (1, .int (Int32.ofNat n)), (2, .int (Int32.ofNat k))], [.ref 124, .ref 124], M1)) 24 [0, 1, 2] rfl rfl rfl (fun J' h => h) (lb_g0 rfl rfl h22 ?_) | refine lb_to0 (T := (24, [(0, .ref 124), (1, .int (Int32.ofNat n)), (2, .int (Int32.ofNat k))], [.ref 124, .ref 124], M1)) 24 [0, 1, 2] rfl rfl rfl (fun J' h => h) (lb_g0 rfl rfl h22 ?_)
      show ∃ R, cm_Lc cm_ms 219 [.ref 124, .ref 132] M1 R ∧ ∀ v M', R v M' → _
      refine ⟨_, m_weekOf (M := M1) (d := 132) (me := me) h15 (by omega) k3 hme, ?_⟩
      rintro v Mb ⟨rfl, hs2⟩
      show (fun (S : cm_S) => ∃ k M1, k ≤ n ∧ rset 132 M M1 (lkR (M.1 127 0) me (M.1 129) k) ∧ S = (17, [(0, .ref 124), (1, .int (Int32.ofNat n)), (2, .int (Int32.ofNat k))], [], M1)) (17, [(0, .ref 124), (1, .int (Int32.ofNat n)), (2, .int ((Int32.ofNat k) + 1))], [], Mb)
      exact ⟨k + 1, Mb, by omega, lkR_step hs k0 hs2, by rw [ofn_s1]⟩
  · first | refine lb_to (T := (1, [(0, .ref 124), (1, .int (Int32.ofNat n))], [.ref 124], M)) 1 [0, 1] rfl rfl rfl (fun J' h => h) (lb_g0 rfl rfl h17 ?_) | refine lb_to0 (T := (1, [(0, .ref 124), (1, .int (Int32.ofNat n))], [.ref 124], M)) 1 [0, 1] rfl rfl rfl (fun J' h => h) (lb_g0 rfl rfl h17 ?_)
    first | refine lb_to (T := (6, [(0, .ref 124), (1, .int (Int32.ofNat n))], [.ref 124, .int 0, .ref 129], M)) 6 [0, 1] rfl rfl rfl (fun J' h => h) (lb_g0 rfl rfl h22 ?_) | refine lb_to0 (T := (6, [(0, .ref 124), (1, .int (Int32.ofNat n))], [.ref 124, .int 0, .ref 129], M)) 6 [0, 1] rfl rfl rfl (fun J' h => h) (lb_g0 rfl rfl h22 ?_)
    show ∃ R, cm_Lc cm_ms 170 [.ref 129, .int 0, .ref 132, .int 0, .int 11] M R ∧ ∀ v M', R v M' → _
    refine ⟨_, m_copyR (M := M) (a := 129) (b := 132) (x := 0) (y := 0) (n := 11) (by decide) (by omega) (by omega), ?_⟩
    rintro v Mb ⟨rfl, hM⟩
    have hs : rset 132 M Mb (M.1 129) := by
      subst hM
      exact ⟨rfl, fun e j he => cp_ne (by omega), fun j hj => by rw [cp_in (by omega) (by omega), Nat.sub_zero, Nat.zero_add]⟩
    show (fun (S : cm_S) => ∃ k M1, k ≤ n ∧ rset 132 M M1 (lkR (M.1 127 0) me (M.1 129) k) ∧ S = (17, [(0, .ref 124), (1, .int (Int32.ofNat n)), (2, .int (Int32.ofNat k))], [], M1)) (17, [(0, .ref 124), (1, .int (Int32.ofNat n)), (2, .int 0)], [], Mb)
    exact ⟨0, Mb, Nat.zero_le _, hs, rfl⟩
