/-- the class's references that acts use -/
noncomputable def PQ (M : cm_M) : Prop := M.2.2 38 0 = some 39 ∧ M.2.2 38 1 = some 40 ∧ (M.2.2 32 0 = some 33 ∧ M.2.2 32 1 = some 34) ∧ (∀ i, i < 16 → M.2.2 39 i = some (41 + 3 * i) ∧ M.2.2 (41 + 3 * i) 0 = some (41 + 3 * i + 1) ∧ M.2.2 (41 + 3 * i) 1 = some (41 + 3 * i + 2)) ∧ ∀ i, i < 3 → M.2.2 40 i = some (89 + 3 * i) ∧ M.2.2 (89 + 3 * i) 0 = some (89 + 3 * i + 1) ∧ M.2.2 (89 + 3 * i) 1 = some (89 + 3 * i + 2)
theorem ring_t : ∀ n, n < 16 → (Int32.ofNat n + 1) - (Int32.ofNat n + 1) / 16 * 16 = Int32.ofNat ((n + 1) % 16) := by decide +kernel
theorem ring_b : ∀ n, n < 16 → (Int32.ofNat n + 16 - 1) - (Int32.ofNat n + 16 - 1) / 16 * 16 = Int32.ofNat ((n + 15) % 16) := by decide +kernel
theorem acts_t : ∀ u, u < 17 → (if Int32.ofNat u + 1 < 16 then Int32.ofNat u + 1 else 16) = Int32.ofNat (min 16 (u + 1)) := by decide +kernel
theorem acts_m : ∀ u, u < 17 → 0 < u → Int32.ofNat u - 1 = Int32.ofNat (u - 1) := by decide +kernel
theorem imgs_p : ∀ u, u < 4 → Int32.ofNat u + 1 = Int32.ofNat (u + 1) ∧ Int32.ofNat u + 1 - 1 = Int32.ofNat u := by decide +kernel
/-- now kept as an act -/
noncomputable def keepR (nx u : Nat) (M M' : cm_M) : Prop := M'.2 = M.2 ∧ (∀ d j, d ≠ 38 → d ≠ 41 + 3 * nx → d ≠ 41 + 3 * nx + 1 → d ≠ 41 + 3 * nx + 2 → M'.1 d j = M.1 d j) ∧ (∀ j, j < 6 → M'.1 (41 + 3 * nx + 1) j = M.1 33 j) ∧ (∀ q, q < 3 → M'.1 (41 + 3 * nx + 2) q = M.1 34 q) ∧ (M'.1 (41 + 3 * nx) 2 = M.1 32 2 ∧ M'.1 (41 + 3 * nx) 3 = M.1 32 3) ∧ M'.1 38 2 = Int32.ofNat ((nx + 1) % 16) ∧ M'.1 38 3 = Int32.ofNat (min 16 (u + 1)) ∧ M'.1 38 4 = M.1 38 4
/-- now as another object of minutes is -/
noncomputable def nowR (e : Nat) (M M' : cm_M) : Prop := M'.2 = M.2 ∧ (∀ d j, d ≠ 38 → d ≠ 32 → d ≠ 33 → d ≠ 34 → M'.1 d j = M.1 d j) ∧ (∀ j, j < 6 → M'.1 33 j = M.1 (e + 1) j) ∧ (∀ q, q < 3 → M'.1 34 q = M.1 (e + 2) q) ∧ M'.1 32 2 = M.1 e 2 ∧ M'.1 32 3 = M.1 e 3
theorem c_keep {M : cm_M} {nx u : Nat} (hp : PQ M) (hn : M.1 38 2 = Int32.ofNat nx) (hnx : nx < 16) (hu : M.1 38 3 = Int32.ofNat u) (hu16 : u ≤ 16) : cm_Lc cm_ms 39 [.ref 38, .ref 32] M (fun v M' => v = none ∧ keepR nx u M M') := by
  have ha : M.2.2 39 (M.1 38 2).toNatClampNeg = some (41 + 3 * nx) := by
    rw [hn, fn_nat (show nx < 2147483648 by omega)]
    exact (hp.2.2.2.1 nx hnx).1
  refine lb_st0 (mi := mr_39) rfl 400 ?_
  first | refine lb_to (T := (1, [(0, .ref 38), (1, .ref 32)], [.ref 38], M)) 1 [0, 1] rfl rfl rfl (fun J' h => h) (lb_g0 rfl rfl hp.1 ?_) | refine lb_to0 (T := (1, [(0, .ref 38), (1, .ref 32)], [.ref 38], M)) 1 [0, 1] rfl rfl rfl (fun J' h => h) (lb_g0 rfl rfl hp.1 ?_)
  first | refine lb_to (T := (8, [(0, .ref 38), (1, .ref 32)], [.int ((M.1 38 2)), .ref 39], M)) 8 [0, 1] rfl rfl rfl (fun J' h => h) (lb_a0 rfl ha ?_) | refine lb_to0 (T := (8, [(0, .ref 38), (1, .ref 32)], [.int ((M.1 38 2)), .ref 39], M)) 8 [0, 1] rfl rfl rfl (fun J' h => h) (lb_a0 rfl ha ?_)
  show ∃ R, cm_Lc cm_ms 23 [.ref (41 + 3 * nx), .ref 32] M R ∧ ∀ v M', R v M' → _
  refine ⟨_, c_copy (c := 41 + 3 * nx) (d := 32) (hp.2.2.2.1 nx hnx).2.1 (hp.2.2.2.1 nx hnx).2.2 hp.2.2.1.1 hp.2.2.1.2 (by omega), ?_⟩
  rintro v M' ⟨rfl, hs⟩
  have k2 : M'.1 38 2 = Int32.ofNat nx := (hs.2.1 38 2 (by omega) (by omega) (by omega)).trans hn
  have k3 : M'.1 38 3 = Int32.ofNat u := (hs.2.1 38 3 (by omega) (by omega) (by omega)).trans hu
  refine ⟨rfl, ?_⟩
  show keepR nx u M (cm_wi (cm_wi M' 38 2 (((M'.1 38 2) + 1) - ((M'.1 38 2) + 1) / 16 * 16)) 38 3 (if ((M'.1 38 3) + 1) < 16 then ((M'.1 38 3) + 1) else 16))
  rw [k2, ring_t nx hnx, k3, acts_t u (by omega)]
  obtain ⟨a1, a2, a3, a4, a5, a6⟩ := hs
  have kk : ∀ (x y : Int32) (d j : Nat), ¬ (d = 38 ∧ (j = 2 ∨ j = 3)) → (cm_wi (cm_wi M' 38 2 x) 38 3 y).1 d j = M'.1 d j := fun x y d j q => by
    rw [wi_n2 (by omega), wi_n2 (by omega)]
  refine ⟨a1, fun d j b1 b2 b3 b4 => ?_, fun j hj => ?_, fun q hq => ?_, ⟨?_, ?_⟩, ?_, wi_at _ _ _ _, ?_⟩
  · rw [kk _ _ _ _ (by omega)]
    exact a2 d j b2 b3 b4
  · rw [kk _ _ _ _ (by omega)]
    exact a3 j hj
  · rw [kk _ _ _ _ (by omega)]
    exact a4 q hq
  · rw [kk _ _ _ _ (by omega)]
    exact a5
  · rw [kk _ _ _ _ (by omega)]
    exact a6
  · rw [wi_n2 (by omega), wi_at]
  · rw [kk _ _ _ _ (by omega)]
    exact a2 38 4 (by omega) (by omega) (by omega)
theorem c_takeBack {M : cm_M} {nx u : Nat} (hp : PQ M) (hn : M.1 38 2 = Int32.ofNat nx) (hnx : nx < 16) (hu : M.1 38 3 = Int32.ofNat u) (hu16 : u ≤ 16) : cm_Lc cm_ms 40 [.ref 38, .ref 32] M (fun v M' => v = some (.int (bi (decide (u ≠ 0)))) ∧ (u = 0 → M' = M) ∧ (u ≠ 0 → nowR (41 + 3 * ((nx + 15) % 16)) M M' ∧ M'.1 38 2 = Int32.ofNat ((nx + 15) % 16) ∧ M'.1 38 3 = Int32.ofNat (u - 1) ∧ M'.1 38 4 = M.1 38 4)) := by
  have hlt : (nx + 15) % 16 < 16 := Nat.mod_lt _ (by decide)
  have e2 : (((M.1 38 2) + 16) - 1) - (((M.1 38 2) + 16) - 1) / 16 * 16 = Int32.ofNat ((nx + 15) % 16) := by
    rw [hn]
    exact ring_b nx hnx
  have ha : M.2.2 39 ((((M.1 38 2) + 16) - 1) - (((M.1 38 2) + 16) - 1) / 16 * 16).toNatClampNeg = some (41 + 3 * ((nx + 15) % 16)) := by
    rw [e2, fn_nat (by omega)]
    exact (hp.2.2.2.1 _ hlt).1
  refine lb_st0 (mi := mr_40) rfl 400 ?_
  show (ev_cmp 1 (M.1 38 3) 0 = true → _) ∧ (ev_cmp 1 (M.1 38 3) 0 = false → _)
  refine ⟨fun h => ?_, fun h => ?_⟩
  · have z := fn_ne h
    rw [hu, ne_eq, ofn_0 (by omega)] at z
    have e3 : (M.1 38 3) - 1 = Int32.ofNat (u - 1) := by
      rw [hu]
      exact acts_m u (by omega) (by omega)
    first | refine lb_to (T := (37, [(0, .ref 38), (1, .ref 32)], [.ref 38, .ref 32], cm_wi (cm_wi M 38 2 ((((M.1 38 2) + 16) - 1) - (((M.1 38 2) + 16) - 1) / 16 * 16)) 38 3 ((M.1 38 3) - 1))) 37 [0, 1] rfl rfl rfl (fun J' h => h) (lb_g0 rfl rfl hp.1 ?_) | refine lb_to0 (T := (37, [(0, .ref 38), (1, .ref 32)], [.ref 38, .ref 32], cm_wi (cm_wi M 38 2 ((((M.1 38 2) + 16) - 1) - (((M.1 38 2) + 16) - 1) / 16 * 16)) 38 3 ((M.1 38 3) - 1))) 37 [0, 1] rfl rfl rfl (fun J' h => h) (lb_g0 rfl rfl hp.1 ?_)
    first | refine lb_to (T := (44, [(0, .ref 38), (1, .ref 32)], [.int (((((M.1 38 2) + 16) - 1) - (((M.1 38 2) + 16) - 1) / 16 * 16)), .ref 39, .ref 32], cm_wi (cm_wi M 38 2 ((((M.1 38 2) + 16) - 1) - (((M.1 38 2) + 16) - 1) / 16 * 16)) 38 3 ((M.1 38 3) - 1))) 44 [0, 1] rfl rfl rfl (fun J' h => h) (lb_a0 rfl ha ?_) | refine lb_to0 (T := (44, [(0, .ref 38), (1, .ref 32)], [.int (((((M.1 38 2) + 16) - 1) - (((M.1 38 2) + 16) - 1) / 16 * 16)), .ref 39, .ref 32], cm_wi (cm_wi M 38 2 ((((M.1 38 2) + 16) - 1) - (((M.1 38 2) + 16) - 1) / 16 * 16)) 38 3 ((M.1 38 3) - 1))) 44 [0, 1] rfl rfl rfl (fun J' h => h) (lb_a0 rfl ha ?_)
    show ∃ R, cm_Lc cm_ms 23 [.ref 32, .ref (41 + 3 * ((nx + 15) % 16))] (cm_wi (cm_wi M 38 2 ((((M.1 38 2) + 16) - 1) - (((M.1 38 2) + 16) - 1) / 16 * 16)) 38 3 ((M.1 38 3) - 1)) R ∧ ∀ v M', R v M' → _
    refine ⟨_, c_copy (M := cm_wi (cm_wi M 38 2 ((((M.1 38 2) + 16) - 1) - (((M.1 38 2) + 16) - 1) / 16 * 16)) 38 3 ((M.1 38 3) - 1)) (c := 32) (d := 41 + 3 * ((nx + 15) % 16)) hp.2.2.1.1 hp.2.2.1.2 (hp.2.2.2.1 _ hlt).2.1 (hp.2.2.2.1 _ hlt).2.2 (by omega), ?_⟩
    rintro v M' ⟨rfl, hs⟩
    refine ⟨?_, fun q => absurd q z, fun _ => ?_⟩
    · rw [decide_eq_true z]
      try rfl
    obtain ⟨a1, a2, a3, a4, a5, a6⟩ := hs
    have kk : ∀ (d j : Nat), ¬ (d = 38 ∧ (j = 2 ∨ j = 3)) → (cm_wi (cm_wi M 38 2 ((((M.1 38 2) + 16) - 1) - (((M.1 38 2) + 16) - 1) / 16 * 16)) 38 3 ((M.1 38 3) - 1)).1 d j = M.1 d j := fun d j q => by
      rw [wi_n2 (by omega), wi_n2 (by omega)]
    refine ⟨⟨a1, fun d j b1 b2 b3 b4 => ?_, fun j hj => ?_, fun q hq => ?_, ?_, ?_⟩, ?_, ?_, ?_⟩
    · exact (a2 d j b2 b3 b4).trans (kk _ _ (by omega))
    · exact (a3 j hj).trans (kk _ _ (by omega))
    · exact (a4 q hq).trans (kk _ _ (by omega))
    · exact a5.trans (kk _ _ (by omega))
    · exact a6.trans (kk _ _ (by omega))
    · exact (a2 38 2 (by omega) (by omega) (by omega)).trans (by rw [wi_n2 (by omega), wi_at, e2])
    · exact (a2 38 3 (by omega) (by omega) (by omega)).trans (by rw [wi_at, e3])
    · exact (a2 38 4 (by omega) (by omega) (by omega)).trans (kk _ _ (by omega))
  · have z := fn_eq h
    rw [hu, ofn_0 (by omega)] at z
    refine ⟨?_, fun _ => rfl, fun q => absurd z q⟩
    rw [z]
    try rfl
/-- an image drawn -/
noncomputable def drawR (gi : Nat) (M M' : cm_M) : Prop := M'.2 = M.2 ∧ (∀ d j, ¬ (d = 38 ∧ j = 4) → d ≠ 89 + 3 * gi → d ≠ 89 + 3 * gi + 1 → d ≠ 89 + 3 * gi + 2 → M'.1 d j = M.1 d j) ∧ (∀ j, j < 6 → M'.1 (89 + 3 * gi + 1) j = M.1 33 j) ∧ (∀ q, q < 3 → M'.1 (89 + 3 * gi + 2) q = M.1 34 q) ∧ (M'.1 (89 + 3 * gi) 2 = M.1 32 2 ∧ M'.1 (89 + 3 * gi) 3 = M.1 32 3) ∧ M'.1 38 4 = Int32.ofNat (gi + 1)
theorem c_draw {M : cm_M} {gi : Nat} (hp : PQ M) (hg : M.1 38 4 = Int32.ofNat gi) (hg3 : gi ≤ 3) : cm_Lc cm_ms 41 [.ref 38, .ref 32] M (fun v M' => (gi = 3 → v = some (.int (-1)) ∧ M' = M) ∧ (gi < 3 → v = some (.int (Int32.ofNat gi)) ∧ drawR gi M M')) := by
  have z3 : (3 : Int32).toInt = 3 := by decide
  refine lb_st0 (mi := mr_41) rfl 400 ?_
  show (ev_cmp 2 (M.1 38 4) 3 = true → _) ∧ (ev_cmp 2 (M.1 38 4) 3 = false → _)
  refine ⟨fun h => ?_, fun h => ?_⟩
  · have q := fn_lt h
    rw [hg, fn_toInt (by omega)] at q
    have glt : gi < 3 := by omega
    have ha : M.2.2 40 (M.1 38 4).toNatClampNeg = some (89 + 3 * gi) := by
      rw [hg, fn_nat (by omega)]
      exact (hp.2.2.2.2 gi glt).1
    first | refine lb_to (T := (11, [(0, .ref 38), (1, .ref 32)], [.ref 38], M)) 11 [0, 1] rfl rfl rfl (fun J' h => h) (lb_g0 rfl rfl hp.2.1 ?_) | refine lb_to0 (T := (11, [(0, .ref 38), (1, .ref 32)], [.ref 38], M)) 11 [0, 1] rfl rfl rfl (fun J' h => h) (lb_g0 rfl rfl hp.2.1 ?_)
    first | refine lb_to (T := (18, [(0, .ref 38), (1, .ref 32)], [.int ((M.1 38 4)), .ref 40], M)) 18 [0, 1] rfl rfl rfl (fun J' h => h) (lb_a0 rfl ha ?_) | refine lb_to0 (T := (18, [(0, .ref 38), (1, .ref 32)], [.int ((M.1 38 4)), .ref 40], M)) 18 [0, 1] rfl rfl rfl (fun J' h => h) (lb_a0 rfl ha ?_)
    show ∃ R, cm_Lc cm_ms 23 [.ref (89 + 3 * gi), .ref 32] M R ∧ ∀ v M', R v M' → _
    refine ⟨_, c_copy (c := 89 + 3 * gi) (d := 32) (hp.2.2.2.2 gi glt).2.1 (hp.2.2.2.2 gi glt).2.2 hp.2.2.1.1 hp.2.2.1.2 (by omega), ?_⟩
    rintro v M' ⟨rfl, hs⟩
    have k4 : M'.1 38 4 = Int32.ofNat gi := (hs.2.1 38 4 (by omega) (by omega) (by omega)).trans hg
    refine ⟨fun w => by omega, fun _ => ⟨?_, ?_⟩⟩
    · show some (Value.int (M'.1 38 4 + 1 - 1)) = _
      rw [k4, (imgs_p gi (by omega)).2]
    show drawR gi M (cm_wi M' 38 4 (M'.1 38 4 + 1))
    rw [k4, (imgs_p gi (by omega)).1]
    obtain ⟨a1, a2, a3, a4, a5, a6⟩ := hs
    refine ⟨a1, fun d j b1 b2 b3 b4 => ?_, fun j hj => ?_, fun q hq => ?_, ⟨?_, ?_⟩, wi_at _ _ _ _⟩
    · rw [wi_n2 b1]
      exact a2 d j b2 b3 b4
    · rw [wi_n2 (by omega)]
      exact a3 j hj
    · rw [wi_n2 (by omega)]
      exact a4 q hq
    · rw [wi_n2 (by omega)]
      exact a5
    · rw [wi_n2 (by omega)]
      exact a6
  · have q := fn_nlt h
    rw [hg, fn_toInt (by omega)] at q
    exact ⟨fun _ => ⟨rfl, rfl⟩, fun w => by omega⟩
theorem c_restore {M : cm_M} {gi : Nat} (hp : PQ M) (hg : M.1 38 4 = Int32.ofNat gi) (hg3 : gi ≤ 3) (x : Int32) : cm_Lc cm_ms 42 [.ref 38, .int x, .ref 32] M (fun v M' => v = some (.int (bi !outB x (Int32.ofNat gi))) ∧ (outB x (Int32.ofNat gi) = true → M' = M) ∧ (∀ i, i < gi → x = Int32.ofNat i → nowR (89 + 3 * i) M M' ∧ M'.1 38 2 = M.1 38 2 ∧ M'.1 38 3 = 0 ∧ M'.1 38 4 = M.1 38 4)) := by
  have z : (0 : Int32).toInt = 0 := by decide
  have nin : ∀ i, i < gi → x = Int32.ofNat i → outB x (Int32.ofNat gi) = false := fun i hi e => by
    rw [e]
    unfold outB
    rw [fn_toInt (by omega), fn_toInt (by omega), decide_eq_false (by omega), decide_eq_false (by omega)]
    try rfl
  refine lb_st0 (mi := mr_42) rfl 400 ?_
  show (ev_cmp 2 x 0 = true → _) ∧ (ev_cmp 2 x 0 = false → _)
  refine ⟨fun h => ?_, fun h => ?_⟩
  · have q := fn_lt h
    have o : outB x (Int32.ofNat gi) = true := by
      unfold outB
      rw [decide_eq_true (by omega), Bool.true_or]
    refine ⟨by rw [o]; try rfl, fun _ => rfl, fun i hi e => ?_⟩
    rw [nin i hi e] at o
    cases o
  · have q := fn_nlt h
    show (ev_cmp 2 x (M.1 38 4) = true → _) ∧ (ev_cmp 2 x (M.1 38 4) = false → _)
    refine ⟨fun hf => ?_, fun hf => ?_⟩
    · have q2 := fn_lt hf
      rw [hg] at q2
      have o : outB x (Int32.ofNat gi) = false := by
        unfold outB
        rw [decide_eq_false (by omega), decide_eq_false (by omega)]
        try rfl
      obtain ⟨i, hi, hxi⟩ := out_nat (by omega) o
      have ha : M.2.2 40 x.toNatClampNeg = some (89 + 3 * i) := by
        rw [hxi, fn_nat (by omega)]
        exact (hp.2.2.2.2 i (by omega)).1
      first | refine lb_to (T := (16, [(0, .ref 38), (1, .int x), (2, .ref 32)], [.ref 38, .ref 32], M)) 16 [0, 1, 2] rfl rfl rfl (fun J' h => h) (lb_g0 rfl rfl hp.2.1 ?_) | refine lb_to0 (T := (16, [(0, .ref 38), (1, .int x), (2, .ref 32)], [.ref 38, .ref 32], M)) 16 [0, 1, 2] rfl rfl rfl (fun J' h => h) (lb_g0 rfl rfl hp.2.1 ?_)
      first | refine lb_to (T := (20, [(0, .ref 38), (1, .int x), (2, .ref 32)], [.int (x), .ref 40, .ref 32], M)) 20 [0, 1, 2] rfl rfl rfl (fun J' h => h) (lb_a0 rfl ha ?_) | refine lb_to0 (T := (20, [(0, .ref 38), (1, .int x), (2, .ref 32)], [.int (x), .ref 40, .ref 32], M)) 20 [0, 1, 2] rfl rfl rfl (fun J' h => h) (lb_a0 rfl ha ?_)
      show ∃ R, cm_Lc cm_ms 23 [.ref 32, .ref (89 + 3 * i)] M R ∧ ∀ v M', R v M' → _
      refine ⟨_, c_copy (c := 32) (d := 89 + 3 * i) hp.2.2.1.1 hp.2.2.1.2 (hp.2.2.2.2 i (by omega)).2.1 (hp.2.2.2.2 i (by omega)).2.2 (by omega), ?_⟩
      rintro v M' ⟨rfl, hs⟩
      refine ⟨by rw [o]; try rfl, fun w => (by rw [o] at w; cases w), fun i' hi' e => ?_⟩
      have ei : i' = i := ofn_inj (by omega) (by omega) (e.symm.trans hxi)
      subst ei
      obtain ⟨a1, a2, a3, a4, a5, a6⟩ := hs
      refine ⟨⟨a1, fun d j b1 b2 b3 b4 => ?_, fun j hj => ?_, fun q hq => ?_, ?_, ?_⟩, ?_, wi_at _ _ _ _, ?_⟩
      · show (cm_wi M' 38 3 0).1 d j = _
        rw [wi_n2 (by omega)]
        exact a2 d j b2 b3 b4
      · show (cm_wi M' 38 3 0).1 33 j = _
        rw [wi_n2 (by omega)]
        exact a3 j hj
      · show (cm_wi M' 38 3 0).1 34 q = _
        rw [wi_n2 (by omega)]
        exact a4 q hq
      · show (cm_wi M' 38 3 0).1 32 2 = _
        rw [wi_n2 (by omega)]
        exact a5
      · show (cm_wi M' 38 3 0).1 32 3 = _
        rw [wi_n2 (by omega)]
        exact a6
      · show (cm_wi M' 38 3 0).1 38 2 = _
        rw [wi_n2 (by omega)]
        exact a2 38 2 (by omega) (by omega) (by omega)
      · show (cm_wi M' 38 3 0).1 38 4 = _
        rw [wi_n2 (by omega)]
        exact a2 38 4 (by omega) (by omega) (by omega)
    · have q2 := fn_nlt hf
      rw [hg] at q2
      have o : outB x (Int32.ofNat gi) = true := by
        unfold outB
        rw [decide_eq_true (p := (Int32.ofNat gi).toInt ≤ x.toInt) (by omega), Bool.or_true]
      refine ⟨by rw [o]; try rfl, fun _ => rfl, fun i hi e => ?_⟩
      rw [nin i hi e] at o
      cases o
