theorem ixn (a : Nat) {k : Nat} (h : a + k < 2147483648) : (Int32.ofNat a + Int32.ofNat k).toNatClampNeg = a + k := by
  rw [← Int32.ofNat_add, fn_nat h]
theorem ixr3 (a : Nat) {k : Nat} (h : a + 3 * k < 2147483648) : (Int32.ofNat a + 3 * Int32.ofNat k).toNatClampNeg = a + 3 * k := by
  rw [show (3 : Int32) = Int32.ofNat 3 from rfl, ← Int32.ofNat_mul, ← Int32.ofNat_add, fn_nat h]
theorem ixr3n (a b : Nat) {k : Nat} (h : a + 3 * k + b < 2147483648) : (Int32.ofNat a + 3 * Int32.ofNat k + Int32.ofNat b).toNatClampNeg = a + 3 * k + b := by
  rw [show (3 : Int32) = Int32.ofNat 3 from rfl, ← Int32.ofNat_mul, ← Int32.ofNat_add, ← Int32.ofNat_add, fn_nat h]
theorem m_isBaldR {M : cm_M} {d : Nat} (h15 : M.2.2 124 15 = some 127) (m : Int32) : cm_Lc cm_ms 209 [.ref 124, .ref d, .int m] M (fun v M' => M' = M ∧ v = some (.int (bi (bdB (M.1 127 1) (M.1 d m.toNatClampNeg))))) := by
  refine lb_st0 (mi := mr_209) rfl 400 ?_
  first | refine lb_to (T := (4, [(0, .ref 124), (1, .ref d), (2, .int m)], [.ref 124, .int (M.1 d m.toNatClampNeg)], M)) 4 [0, 1, 2] rfl rfl rfl (fun J' h => h) (lb_g0 rfl rfl h15 ?_) | refine lb_to0 (T := (4, [(0, .ref 124), (1, .ref d), (2, .int m)], [.ref 124, .int (M.1 d m.toNatClampNeg)], M)) 4 [0, 1, 2] rfl rfl rfl (fun J' h => h) (lb_g0 rfl rfl h15 ?_)
  show (ev_cmp 3 (M.1 d m.toNatClampNeg) (M.1 127 1) = true → _) ∧ (ev_cmp 3 (M.1 d m.toNatClampNeg) (M.1 127 1) = false → _)
  refine ⟨fun h => ?_, fun h => ?_⟩
  · refine ⟨rfl, ?_⟩
    rw [bd_0 (fn_ge h)]
    try rfl
  · refine ⟨rfl, ?_⟩
    rw [bd_1 (fn_nge h)]
    try rfl
set_option maxRecDepth 100000 in
theorem m_baldOf {M : cm_M} {d me : Nat} (h15 : M.2.2 124 15 = some 127) (h3 : M.1 127 3 = Int32.ofNat me) (hme : me ≤ 6) : cm_Lc cm_ms 210 [.ref 124, .ref d] M (fun v M' => M' = M ∧ v = some (.int (orF (fun m => bdB (M.1 127 1) (M.1 d m)) me))) := by
  refine lb_of (mi := mr_210) rfl [(4, [0, 1, 2, 3])] (fun S => ∃ m, m ≤ me ∧ S = (4, [(0, .ref 124), (1, .ref d), (2, .int (orF (fun m => bdB (M.1 127 1) (M.1 d m)) m)), (3, .int (Int32.ofNat m))], [], M)) 400 (fun S hS => ?_) 400 ?_
  · obtain ⟨m, hm, rfl⟩ := hS
    first | refine lb_to (T := (6, [(0, .ref 124), (1, .ref d), (2, .int (orF (fun m => bdB (M.1 127 1) (M.1 d m)) m)), (3, .int (Int32.ofNat m))], [.ref 124, .int (Int32.ofNat m)], M)) 6 [0, 1, 2, 3] rfl rfl rfl (fun J' h => h) (lb_g0 rfl rfl h15 ?_) | refine lb_to0 (T := (6, [(0, .ref 124), (1, .ref d), (2, .int (orF (fun m => bdB (M.1 127 1) (M.1 d m)) m)), (3, .int (Int32.ofNat m))], [.ref 124, .int (Int32.ofNat m)], M)) 6 [0, 1, 2, 3] rfl rfl rfl (fun J' h => h) (lb_g0 rfl rfl h15 ?_)
    show (ev_cmp 3 (Int32.ofNat m) (M.1 127 3) = true → _) ∧ (ev_cmp 3 (Int32.ofNat m) (M.1 127 3) = false → _)
    refine ⟨fun hL => ?_, fun hL => ?_⟩
    · have g := fn_ge hL
      rw [h3, fn_toInt (by omega), fn_toInt (by omega)] at g
      have : m = me := by omega
      subst this
      exact ⟨rfl, rfl⟩
    · have gi := fn_nge hL
      rw [h3, fn_toInt (by omega), fn_toInt (by omega)] at gi
      have hc : cm_Lc cm_ms 209 [.ref 124, .ref d, .int (Int32.ofNat m)] M (fun v M' => M' = M ∧ v = some (.int (bi (bdB (M.1 127 1) (M.1 d m))))) := by
        have q := m_isBaldR (d := d) h15 (Int32.ofNat m)
        rw [fn_nat (show m < 2147483648 by omega)] at q
        exact q
      show ∃ R, cm_Lc cm_ms 209 [.ref 124, .ref d, .int (Int32.ofNat m)] M R ∧ ∀ v M', R v M' → _
      refine ⟨_, hc, ?_⟩
      rintro v M' ⟨hM, rfl⟩
      subst M'
      show (ev_cmp 0 (bi (bdB (M.1 127 1) (M.1 d m))) 0 = true → _) ∧ (ev_cmp 0 (bi (bdB (M.1 127 1) (M.1 d m))) 0 = false → _)
      refine ⟨fun hLfc => ?_, fun hLfc => ?_⟩
      · show (fun (S : cm_S) => ∃ m, m ≤ me ∧ S = (4, [(0, .ref 124), (1, .ref d), (2, .int (orF (fun m => bdB (M.1 127 1) (M.1 d m)) m)), (3, .int (Int32.ofNat m))], [], M)) (4, [(0, .ref 124), (1, .ref d), (2, .int ((orF (fun m => bdB (M.1 127 1) (M.1 d m)) m) ||| 0)), (3, .int ((Int32.ofNat m) + 1))], [], M)
        refine ⟨m + 1, by omega, ?_⟩
        rw [ofn_s1, orF_f (p := fun m => bdB (M.1 127 1) (M.1 d m)) (bi_0 hLfc), Int32.or_zero]
      · show (fun (S : cm_S) => ∃ m, m ≤ me ∧ S = (4, [(0, .ref 124), (1, .ref d), (2, .int (orF (fun m => bdB (M.1 127 1) (M.1 d m)) m)), (3, .int (Int32.ofNat m))], [], M)) (4, [(0, .ref 124), (1, .ref d), (2, .int ((orF (fun m => bdB (M.1 127 1) (M.1 d m)) m) ||| (1 <<< ((Int32.ofNat m) &&& 31)))), (3, .int ((Int32.ofNat m) + 1))], [], M)
        refine ⟨m + 1, by omega, ?_⟩
        rw [ofn_s1, orF_t (p := fun m => bdB (M.1 127 1) (M.1 d m)) (bi_1 hLfc)]
        try rfl
  · show (fun (S : cm_S) => ∃ m, m ≤ me ∧ S = (4, [(0, .ref 124), (1, .ref d), (2, .int (orF (fun m => bdB (M.1 127 1) (M.1 d m)) m)), (3, .int (Int32.ofNat m))], [], M)) (4, [(0, .ref 124), (1, .ref d), (2, .int 0), (3, .int 0)], [], M)
    exact ⟨0, Nat.zero_le _, rfl⟩
theorem m_says {M : cm_M} {d m k : Nat} (h15 : M.2.2 124 15 = some 127) (hm : m < 1000) (hk : k < 1000) : cm_Lc cm_ms 211 [.ref 124, .ref d, .int (Int32.ofNat m), .int (Int32.ofNat k)] M (fun v M' => M' = M ∧ v = some (.int (bi (syB (M.1 127 1) (M.1 127 (29 + 3 * k)) (M.1 127 (44 + m)) (M.1 d m) k)))) := by
  have em := fn_nat (show m < 2147483648 by omega)
  have e44 : ((44 : Int32) + Int32.ofNat m).toNatClampNeg = 44 + m := ixn 44 (by omega)
  have e29 : ((29 : Int32) + 3 * Int32.ofNat k).toNatClampNeg = 29 + 3 * k := ixr3 29 (by omega)
  refine lb_st0 (mi := mr_211) rfl 400 ?_
  show ∃ R, cm_Lc cm_ms 209 [.ref 124, .ref d, .int (Int32.ofNat m)] M R ∧ ∀ v M', R v M' → _
  have hq := m_isBaldR (d := d) h15 (Int32.ofNat m)
  rw [em] at hq
  refine ⟨_, hq, ?_⟩
  rintro v M' ⟨hM, rfl⟩
  subst M'
  show (ev_cmp 1 (bi (bdB (M.1 127 1) (M.1 d m))) 0 = true → _) ∧ (ev_cmp 1 (bi (bdB (M.1 127 1) (M.1 d m))) 0 = false → _)
  refine ⟨fun hc => ?_, fun hc => ?_⟩
  · have g1 := bi_t hc
    refine ⟨rfl, ?_⟩
    unfold syB
    rw [g1]
    try rfl
  · have g1 := bi_f hc
    first | refine lb_to (T := (10, [(0, .ref 124), (1, .ref d), (2, .int (Int32.ofNat m)), (3, .int (Int32.ofNat k))], [.ref 124], M)) 10 [0, 1, 2, 3] rfl rfl rfl (fun J' h => h) (lb_g0 rfl rfl h15 ?_) | refine lb_to0 (T := (10, [(0, .ref 124), (1, .ref d), (2, .int (Int32.ofNat m)), (3, .int (Int32.ofNat k))], [.ref 124], M)) 10 [0, 1, 2, 3] rfl rfl rfl (fun J' h => h) (lb_g0 rfl rfl h15 ?_)
    show ∃ R, cm_Lc cm_ms 168 [.int (M.1 127 ((44 + (Int32.ofNat m)).toNatClampNeg)), .int (Int32.ofNat k)] M R ∧ ∀ v M', R v M' → _
    refine ⟨_, m_hasBit (M.1 127 ((44 + (Int32.ofNat m)).toNatClampNeg)) (Int32.ofNat k) M, ?_⟩
    rintro v M' ⟨rfl, hM⟩
    subst M'
    show (ev_cmp 1 (bi (decide ((M.1 127 ((44 + (Int32.ofNat m)).toNatClampNeg) >>> (Int32.ofNat k &&& 31)) &&& 1 = 1))) 0 = true → _) ∧ (ev_cmp 1 (bi (decide ((M.1 127 ((44 + (Int32.ofNat m)).toNatClampNeg) >>> (Int32.ofNat k &&& 31)) &&& 1 = 1))) 0 = false → _)
    refine ⟨fun hcfc => ?_, fun hcfc => ?_⟩
    · have g2 : hb (M.1 127 (44 + m)) k = true := by
        have q := bi_t hcfc
        rw [e44] at q
        exact q
      refine ⟨rfl, ?_⟩
      unfold syB
      rw [g1, g2, Bool.not_true, Bool.and_false]
      try rfl
    · have g2 : hb (M.1 127 (44 + m)) k = false := by
        have q := bi_f hcfc
        rw [e44] at q
        exact q
      first | refine lb_to (T := (29, [(0, .ref 124), (1, .ref d), (2, .int (Int32.ofNat m)), (3, .int (Int32.ofNat k))], [.ref 124, .int (M.1 d ((Int32.ofNat m).toNatClampNeg))], M)) 29 [0, 1, 2, 3] rfl rfl rfl (fun J' h => h) (lb_g0 rfl rfl h15 ?_) | refine lb_to0 (T := (29, [(0, .ref 124), (1, .ref d), (2, .int (Int32.ofNat m)), (3, .int (Int32.ofNat k))], [.ref 124, .int (M.1 d ((Int32.ofNat m).toNatClampNeg))], M)) 29 [0, 1, 2, 3] rfl rfl rfl (fun J' h => h) (lb_g0 rfl rfl h15 ?_)
      show (ev_cmp 2 (M.1 d ((Int32.ofNat m).toNatClampNeg)) (M.1 127 ((29 + (3 * (Int32.ofNat k))).toNatClampNeg)) = true → _) ∧ (ev_cmp 2 (M.1 d ((Int32.ofNat m).toNatClampNeg)) (M.1 127 ((29 + (3 * (Int32.ofNat k))).toNatClampNeg)) = false → _)
      refine ⟨fun hcfcf => ?_, fun hcfcf => ?_⟩
      · have g3 := fn_lt hcfcf
        rw [em, e29] at g3
        refine ⟨rfl, ?_⟩
        unfold syB
        rw [g1, g2, bd_1 g3]
        try rfl
      · have g3 := fn_nlt hcfcf
        rw [em, e29] at g3
        refine ⟨rfl, ?_⟩
        unfold syB
        rw [g1, g2, bd_0 g3]
        try rfl
set_option maxRecDepth 100000 in
theorem m_sayers {M : cm_M} {d me k : Nat} (h15 : M.2.2 124 15 = some 127) (h3 : M.1 127 3 = Int32.ofNat me) (hme : me ≤ 6) (hk : k < 1000) : cm_Lc cm_ms 212 [.ref 124, .ref d, .int (Int32.ofNat k)] M (fun v M' => M' = M ∧ v = some (.int (orF (fun m => syB (M.1 127 1) (M.1 127 (29 + 3 * k)) (M.1 127 (44 + m)) (M.1 d m) k) me))) := by
  refine lb_of (mi := mr_212) rfl [(5, [0, 1, 2, 3, 4])] (fun S => ∃ m, m ≤ me ∧ S = (5, [(0, .ref 124), (1, .ref d), (2, .int (Int32.ofNat k)), (3, .int (orF (fun m => syB (M.1 127 1) (M.1 127 (29 + 3 * k)) (M.1 127 (44 + m)) (M.1 d m) k) m)), (4, .int (Int32.ofNat m))], [], M)) 400 (fun S hS => ?_) 400 ?_
  · obtain ⟨m, hm, rfl⟩ := hS
    first | refine lb_to (T := (8, [(0, .ref 124), (1, .ref d), (2, .int (Int32.ofNat k)), (3, .int (orF (fun m => syB (M.1 127 1) (M.1 127 (29 + 3 * k)) (M.1 127 (44 + m)) (M.1 d m) k) m)), (4, .int (Int32.ofNat m))], [.ref 124, .int (Int32.ofNat m)], M)) 8 [0, 1, 2, 3, 4] rfl rfl rfl (fun J' h => h) (lb_g0 rfl rfl h15 ?_) | refine lb_to0 (T := (8, [(0, .ref 124), (1, .ref d), (2, .int (Int32.ofNat k)), (3, .int (orF (fun m => syB (M.1 127 1) (M.1 127 (29 + 3 * k)) (M.1 127 (44 + m)) (M.1 d m) k) m)), (4, .int (Int32.ofNat m))], [.ref 124, .int (Int32.ofNat m)], M)) 8 [0, 1, 2, 3, 4] rfl rfl rfl (fun J' h => h) (lb_g0 rfl rfl h15 ?_)
    show (ev_cmp 3 (Int32.ofNat m) (M.1 127 3) = true → _) ∧ (ev_cmp 3 (Int32.ofNat m) (M.1 127 3) = false → _)
    refine ⟨fun hL => ?_, fun hL => ?_⟩
    · have g := fn_ge hL
      rw [h3, fn_toInt (by omega), fn_toInt (by omega)] at g
      have : m = me := by omega
      subst this
      exact ⟨rfl, rfl⟩
    · have gi := fn_nge hL
      rw [h3, fn_toInt (by omega), fn_toInt (by omega)] at gi
      have hc : cm_Lc cm_ms 211 [.ref 124, .ref d, .int (Int32.ofNat m), .int (Int32.ofNat k)] M (fun v M' => M' = M ∧ v = some (.int (bi (syB (M.1 127 1) (M.1 127 (29 + 3 * k)) (M.1 127 (44 + m)) (M.1 d m) k)))) := m_says (m := m) h15 (by omega) hk
      show ∃ R, cm_Lc cm_ms 211 [.ref 124, .ref d, .int (Int32.ofNat m), .int (Int32.ofNat k)] M R ∧ ∀ v M', R v M' → _
      refine ⟨_, hc, ?_⟩
      rintro v M' ⟨hM, rfl⟩
      subst M'
      show (ev_cmp 0 (bi (syB (M.1 127 1) (M.1 127 (29 + 3 * k)) (M.1 127 (44 + m)) (M.1 d m) k)) 0 = true → _) ∧ (ev_cmp 0 (bi (syB (M.1 127 1) (M.1 127 (29 + 3 * k)) (M.1 127 (44 + m)) (M.1 d m) k)) 0 = false → _)
      refine ⟨fun hLfc => ?_, fun hLfc => ?_⟩
      · show (fun (S : cm_S) => ∃ m, m ≤ me ∧ S = (5, [(0, .ref 124), (1, .ref d), (2, .int (Int32.ofNat k)), (3, .int (orF (fun m => syB (M.1 127 1) (M.1 127 (29 + 3 * k)) (M.1 127 (44 + m)) (M.1 d m) k) m)), (4, .int (Int32.ofNat m))], [], M)) (5, [(0, .ref 124), (1, .ref d), (2, .int (Int32.ofNat k)), (3, .int ((orF (fun m => syB (M.1 127 1) (M.1 127 (29 + 3 * k)) (M.1 127 (44 + m)) (M.1 d m) k) m) ||| 0)), (4, .int ((Int32.ofNat m) + 1))], [], M)
        refine ⟨m + 1, by omega, ?_⟩
        rw [ofn_s1, orF_f (p := fun m => syB (M.1 127 1) (M.1 127 (29 + 3 * k)) (M.1 127 (44 + m)) (M.1 d m) k) (bi_0 hLfc), Int32.or_zero]
      · show (fun (S : cm_S) => ∃ m, m ≤ me ∧ S = (5, [(0, .ref 124), (1, .ref d), (2, .int (Int32.ofNat k)), (3, .int (orF (fun m => syB (M.1 127 1) (M.1 127 (29 + 3 * k)) (M.1 127 (44 + m)) (M.1 d m) k) m)), (4, .int (Int32.ofNat m))], [], M)) (5, [(0, .ref 124), (1, .ref d), (2, .int (Int32.ofNat k)), (3, .int ((orF (fun m => syB (M.1 127 1) (M.1 127 (29 + 3 * k)) (M.1 127 (44 + m)) (M.1 d m) k) m) ||| (1 <<< ((Int32.ofNat m) &&& 31)))), (4, .int ((Int32.ofNat m) + 1))], [], M)
        refine ⟨m + 1, by omega, ?_⟩
        rw [ofn_s1, orF_t (p := fun m => syB (M.1 127 1) (M.1 127 (29 + 3 * k)) (M.1 127 (44 + m)) (M.1 d m) k) (bi_1 hLfc)]
        try rfl
  · show (fun (S : cm_S) => ∃ m, m ≤ me ∧ S = (5, [(0, .ref 124), (1, .ref d), (2, .int (Int32.ofNat k)), (3, .int (orF (fun m => syB (M.1 127 1) (M.1 127 (29 + 3 * k)) (M.1 127 (44 + m)) (M.1 d m) k) m)), (4, .int (Int32.ofNat m))], [], M)) (5, [(0, .ref 124), (1, .ref d), (2, .int (Int32.ofNat k)), (3, .int 0), (4, .int 0)], [], M)
    exact ⟨0, Nat.zero_le _, rfl⟩
set_option maxRecDepth 100000 in
theorem m_votes {M : cm_M} {me : Nat} (h15 : M.2.2 124 15 = some 127) (h3 : M.1 127 3 = Int32.ofNat me) (hme : me ≤ 6) (set : Int32) : cm_Lc cm_ms 213 [.ref 124, .int set] M (fun v M' => M' = M ∧ v = some (.int (voF (fun m => M.1 127 (13 + 3 * m)) set me))) := by
  refine lb_of (mi := mr_213) rfl [(4, [0, 1, 2, 3])] (fun S => ∃ m, m ≤ me ∧ S = (4, [(0, .ref 124), (1, .int set), (2, .int (voF (fun m => M.1 127 (13 + 3 * m)) set m)), (3, .int (Int32.ofNat m))], [], M)) 400 (fun S hS => ?_) 400 ?_
  · obtain ⟨m, hm, rfl⟩ := hS
    first | refine lb_to (T := (6, [(0, .ref 124), (1, .int set), (2, .int (voF (fun m => M.1 127 (13 + 3 * m)) set m)), (3, .int (Int32.ofNat m))], [.ref 124, .int (Int32.ofNat m)], M)) 6 [0, 1, 2, 3] rfl rfl rfl (fun J' h => h) (lb_g0 rfl rfl h15 ?_) | refine lb_to0 (T := (6, [(0, .ref 124), (1, .int set), (2, .int (voF (fun m => M.1 127 (13 + 3 * m)) set m)), (3, .int (Int32.ofNat m))], [.ref 124, .int (Int32.ofNat m)], M)) 6 [0, 1, 2, 3] rfl rfl rfl (fun J' h => h) (lb_g0 rfl rfl h15 ?_)
    show (ev_cmp 3 (Int32.ofNat m) (M.1 127 3) = true → _) ∧ (ev_cmp 3 (Int32.ofNat m) (M.1 127 3) = false → _)
    refine ⟨fun hL => ?_, fun hL => ?_⟩
    · have g := fn_ge hL
      rw [h3, fn_toInt (by omega), fn_toInt (by omega)] at g
      have : m = me := by omega
      subst this
      exact ⟨rfl, rfl⟩
    · have gi := fn_nge hL
      rw [h3, fn_toInt (by omega), fn_toInt (by omega)] at gi
      have e13 : ((11 : Int32) + 3 * Int32.ofNat m + 2).toNatClampNeg = 13 + 3 * m := (ixr3n 11 2 (by omega)).trans (by omega)
      show ∃ R, cm_Lc cm_ms 168 [.int set, .int (Int32.ofNat m)] M R ∧ ∀ v M', R v M' → _
      refine ⟨_, m_hasBit set (Int32.ofNat m) M, ?_⟩
      rintro v M' ⟨rfl, hM⟩
      subst M'
      show (ev_cmp 0 (bi (hb set m)) 0 = true → _) ∧ (ev_cmp 0 (bi (hb set m)) 0 = false → _)
      refine ⟨fun hLfc => ?_, fun hLfc => ?_⟩
      · show (fun (S : cm_S) => ∃ m, m ≤ me ∧ S = (4, [(0, .ref 124), (1, .int set), (2, .int (voF (fun m => M.1 127 (13 + 3 * m)) set m)), (3, .int (Int32.ofNat m))], [], M)) (4, [(0, .ref 124), (1, .int set), (2, .int ((voF (fun m => M.1 127 (13 + 3 * m)) set m) + 0)), (3, .int ((Int32.ofNat m) + 1))], [], M)
        refine ⟨m + 1, by omega, ?_⟩
        rw [ofn_s1, voF_f (bi_0 hLfc), Int32.add_zero]
      · first | refine lb_to (T := (24, [(0, .ref 124), (1, .int set), (2, .int (voF (fun m => M.1 127 (13 + 3 * m)) set m)), (3, .int (Int32.ofNat m))], [.ref 124, .int (voF (fun m => M.1 127 (13 + 3 * m)) set m)], M)) 24 [0, 1, 2, 3] rfl rfl rfl (fun J' h => h) (lb_g0 rfl rfl h15 ?_) | refine lb_to0 (T := (24, [(0, .ref 124), (1, .int set), (2, .int (voF (fun m => M.1 127 (13 + 3 * m)) set m)), (3, .int (Int32.ofNat m))], [.ref 124, .int (voF (fun m => M.1 127 (13 + 3 * m)) set m)], M)) 24 [0, 1, 2, 3] rfl rfl rfl (fun J' h => h) (lb_g0 rfl rfl h15 ?_)
        show (fun (S : cm_S) => ∃ m, m ≤ me ∧ S = (4, [(0, .ref 124), (1, .int set), (2, .int (voF (fun m => M.1 127 (13 + 3 * m)) set m)), (3, .int (Int32.ofNat m))], [], M)) (4, [(0, .ref 124), (1, .int set), (2, .int ((voF (fun m => M.1 127 (13 + 3 * m)) set m) + (M.1 127 (((11 + (3 * (Int32.ofNat m))) + 2).toNatClampNeg)))), (3, .int ((Int32.ofNat m) + 1))], [], M)
        refine ⟨m + 1, by omega, ?_⟩
        rw [ofn_s1, voF_t (bi_1 hLfc), e13]
  · show (fun (S : cm_S) => ∃ m, m ≤ me ∧ S = (4, [(0, .ref 124), (1, .int set), (2, .int (voF (fun m => M.1 127 (13 + 3 * m)) set m)), (3, .int (Int32.ofNat m))], [], M)) (4, [(0, .ref 124), (1, .int set), (2, .int 0), (3, .int 0)], [], M)
    exact ⟨0, Nat.zero_le _, rfl⟩
theorem m_yes {M : cm_M} {d me k : Nat} (h15 : M.2.2 124 15 = some 127) (h3 : M.1 127 3 = Int32.ofNat me) (hme : me ≤ 6) (hk : k < 1000) : cm_Lc cm_ms 214 [.ref 124, .ref d, .int (Int32.ofNat k)] M (fun v M' => M' = M ∧ v = some (.int (voF (fun m => M.1 127 (13 + 3 * m)) (orF (fun m => syB (M.1 127 1) (M.1 127 (29 + 3 * k)) (M.1 127 (44 + m)) (M.1 d m) k) me) me))) := by
  refine lb_st0 (mi := mr_214) rfl 400 ?_
  show ∃ R, cm_Lc cm_ms 212 [.ref 124, .ref d, .int (Int32.ofNat k)] M R ∧ ∀ v M', R v M' → _
  refine ⟨_, m_sayers h15 h3 hme hk, ?_⟩
  rintro v M' ⟨hM, rfl⟩
  subst M'
  show ∃ R, cm_Lc cm_ms 213 [.ref 124, .int (orF (fun m => syB (M.1 127 1) (M.1 127 (29 + 3 * k)) (M.1 127 (44 + m)) (M.1 d m) k) me)] M R ∧ ∀ v M', R v M' → _
  refine ⟨_, m_votes h15 h3 hme _, ?_⟩
  rintro v M' ⟨hM, rfl⟩
  subst M'
  exact ⟨rfl, rfl⟩
theorem m_enough {M : cm_M} {d me k : Nat} (h15 : M.2.2 124 15 = some 127) (h3 : M.1 127 3 = Int32.ofNat me) (hme : me ≤ 6) (hk : k < 1000) : cm_Lc cm_ms 215 [.ref 124, .ref d, .int (Int32.ofNat k)] M (fun v M' => M' = M ∧ v = some (.int (bi (geB (voF (fun m => M.1 127 (13 + 3 * m)) (orF (fun m => syB (M.1 127 1) (M.1 127 (29 + 3 * k)) (M.1 127 (44 + m)) (M.1 d m) k) me) me) (M.1 127 (30 + 3 * k)))))) := by
  have e30 : ((29 : Int32) + 3 * Int32.ofNat k + 1).toNatClampNeg = 30 + 3 * k := (ixr3n 29 1 (by omega)).trans (by omega)
  refine lb_st0 (mi := mr_215) rfl 400 ?_
  show ∃ R, cm_Lc cm_ms 214 [.ref 124, .ref d, .int (Int32.ofNat k)] M R ∧ ∀ v M', R v M' → _
  refine ⟨_, m_yes h15 h3 hme hk, ?_⟩
  rintro v M' ⟨hM, rfl⟩
  subst M'
  first | refine lb_to (T := (7, [(0, .ref 124), (1, .ref d), (2, .int (Int32.ofNat k))], [.ref 124, .int (voF (fun m => M.1 127 (13 + 3 * m)) (orF (fun m => syB (M.1 127 1) (M.1 127 (29 + 3 * k)) (M.1 127 (44 + m)) (M.1 d m) k) me) me)], M)) 7 [0, 1, 2] rfl rfl rfl (fun J' h => h) (lb_g0 rfl rfl h15 ?_) | refine lb_to0 (T := (7, [(0, .ref 124), (1, .ref d), (2, .int (Int32.ofNat k))], [.ref 124, .int (voF (fun m => M.1 127 (13 + 3 * m)) (orF (fun m => syB (M.1 127 1) (M.1 127 (29 + 3 * k)) (M.1 127 (44 + m)) (M.1 d m) k) me) me)], M)) 7 [0, 1, 2] rfl rfl rfl (fun J' h => h) (lb_g0 rfl rfl h15 ?_)
  show (ev_cmp 2 (voF (fun m => M.1 127 (13 + 3 * m)) (orF (fun m => syB (M.1 127 1) (M.1 127 (29 + 3 * k)) (M.1 127 (44 + m)) (M.1 d m) k) me) me) (M.1 127 (((29 + (3 * (Int32.ofNat k))) + 1).toNatClampNeg)) = true → _) ∧ (ev_cmp 2 (voF (fun m => M.1 127 (13 + 3 * m)) (orF (fun m => syB (M.1 127 1) (M.1 127 (29 + 3 * k)) (M.1 127 (44 + m)) (M.1 d m) k) me) me) (M.1 127 (((29 + (3 * (Int32.ofNat k))) + 1).toNatClampNeg)) = false → _)
  refine ⟨fun hc => ?_, fun hc => ?_⟩
  · have g := fn_lt hc
    rw [e30] at g
    refine ⟨rfl, ?_⟩
    rw [ge_0 g]
    try rfl
  · have g := fn_nlt hc
    rw [e30] at g
    refine ⟨rfl, ?_⟩
    rw [ge_1 g]
    try rfl
theorem m_mayBe {M : cm_M} {d k : Nat} (h15 : M.2.2 124 15 = some 127) (hk : k < 1000) : cm_Lc cm_ms 216 [.ref 124, .ref d, .int (Int32.ofNat k)] M (fun v M' => M' = M ∧ v = some (.int (bi (mbB (M.1 d 9) (M.1 127 (50 + k)) k)))) := by
  have e50 : ((50 : Int32) + Int32.ofNat k).toNatClampNeg = 50 + k := ixn 50 (by omega)
  refine lb_st0 (mi := mr_216) rfl 400 ?_
  show ∃ R, cm_Lc cm_ms 168 [.int (M.1 d 9), .int (Int32.ofNat k)] M R ∧ ∀ v M', R v M' → _
  refine ⟨_, m_hasBit (M.1 d 9) (Int32.ofNat k) M, ?_⟩
  rintro v M' ⟨rfl, hM⟩
  subst M'
  show (ev_cmp 1 (bi (hb (M.1 d 9) k)) 0 = true → _) ∧ (ev_cmp 1 (bi (hb (M.1 d 9) k)) 0 = false → _)
  refine ⟨fun hc => ?_, fun hc => ?_⟩
  · refine ⟨rfl, ?_⟩
    unfold mbB
    rw [bi_t hc]
    try rfl
  · first | refine lb_to (T := (12, [(0, .ref 124), (1, .ref d), (2, .int (Int32.ofNat k))], [.ref 124], M)) 12 [0, 1, 2] rfl rfl rfl (fun J' h => h) (lb_g0 rfl rfl h15 ?_) | refine lb_to0 (T := (12, [(0, .ref 124), (1, .ref d), (2, .int (Int32.ofNat k))], [.ref 124], M)) 12 [0, 1, 2] rfl rfl rfl (fun J' h => h) (lb_g0 rfl rfl h15 ?_)
    show (ev_cmp 1 ((M.1 127 ((50 + (Int32.ofNat k)).toNatClampNeg)) &&& ((M.1 d 9) ^^^ (-1))) 0 = true → _) ∧ (ev_cmp 1 ((M.1 127 ((50 + (Int32.ofNat k)).toNatClampNeg)) &&& ((M.1 d 9) ^^^ (-1))) 0 = false → _)
    refine ⟨fun hcf => ?_, fun hcf => ?_⟩
    · have g := fn_ne hcf
      rw [e50] at g
      refine ⟨rfl, ?_⟩
      unfold mbB
      rw [bi_f hc, decide_eq_false g]
      try rfl
    · have g := fn_eq hcf
      rw [e50] at g
      refine ⟨rfl, ?_⟩
      unfold mbB
      rw [bi_f hc, decide_eq_true g]
      try rfl
