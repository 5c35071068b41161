/-! QUERIES: man, motion -/
theorem c_man_out {M : cm_M} {T' me mo : Nat} (hx : CTX T' me mo M) (x y : Int32) (ho : outB x (Int32.ofNat me) = true) : cm_Lc cm_ms 98 [.ref 0, .int x, .int y] M (fun v _ => v = some (.int (-1))) := by
  have hl := c_lacksMan hx.2.1.1 x
  rw [hx.2.2.2.2.1.1, ho] at hl
  refine lb_st0 (mi := mr_98) rfl 400 ?_
  show ∃ R, cm_Lc cm_ms 161 [.ref 0, .int x] M R ∧ ∀ v M', R v M' → _
  refine ⟨_, hl, ?_⟩
  rintro v M' ⟨hM, rfl⟩
  subst M'
  show (ev_cmp 1 (bi true) 0 = true → _) ∧ (ev_cmp 1 (bi true) 0 = false → _)
  refine ⟨fun hc => ?_, fun hc => ?_⟩
  · show ∃ R, cm_Lc cm_ms 157 [.ref 0, .int 1] M R ∧ ∀ v M', R v M' → _
    refine ⟨_, c_refused 1 M, ?_⟩
    rintro v M' ⟨hM, rfl⟩
    subst M'
    exact rfl
  · exact absurd hc (by decide)
theorem c_man_what {M : cm_M} {T' me mo : Nat} (hx : CTX T' me mo M) {k : Nat} (hk : k < me) (y : Int32) (hy : y.toInt < 0 ∨ 6 < y.toInt) : cm_Lc cm_ms 98 [.ref 0, .int (Int32.ofNat k), .int y] M (fun v _ => v = some (.int (-1))) := by
  have hl := c_lacksMan hx.2.1.1 (Int32.ofNat k)
  have hme6 := hx.2.2.2.2.2.1
  have hmo5 := hx.2.2.2.2.2.2
  rw [hx.2.2.2.2.1.1, outB_lt hk (by omega)] at hl
  have ek := fn_nat (show k < 2147483648 by omega)
  have z0 : (0 : Int32).toInt = 0 := by decide
  have z6 : (6 : Int32).toInt = 6 := by decide
  have z7 : (7 : Int32).toInt = 7 := by decide
  refine lb_st0 (mi := mr_98) rfl 400 ?_
  show ∃ R, cm_Lc cm_ms 161 [.ref 0, .int (Int32.ofNat k)] M R ∧ ∀ v M', R v M' → _
  refine ⟨_, hl, ?_⟩
  rintro v M' ⟨hM, rfl⟩
  subst M'
  show (ev_cmp 1 (bi false) 0 = true → _) ∧ (ev_cmp 1 (bi false) 0 = false → _)
  refine ⟨fun hc => ?_, fun hc => ?_⟩
  · exact absurd hc (by decide)
  · show (ev_cmp 2 y 0 = true → _) ∧ (ev_cmp 2 y 0 = false → _)
    refine ⟨fun hcf => ?_, fun hcf => ?_⟩
    · show ∃ R, cm_Lc cm_ms 157 [.ref 0, .int 1] M R ∧ ∀ v M', R v M' → _
      refine ⟨_, c_refused 1 M, ?_⟩
      rintro v M' ⟨hM, rfl⟩
      subst M'
      exact rfl
    · show (ev_cmp 5 y 6 = true → _) ∧ (ev_cmp 5 y 6 = false → _)
      refine ⟨fun hcff => ?_, fun hcff => ?_⟩
      · have q1 := fn_nlt hcf
        have q2 := fn_le hcff
        rw [z0] at q1
        rw [z6] at q2
        omega
      · show ∃ R, cm_Lc cm_ms 157 [.ref 0, .int 1] M R ∧ ∀ v M', R v M' → _
        refine ⟨_, c_refused 1 M, ?_⟩
        rintro v M' ⟨hM, rfl⟩
        subst M'
        exact rfl
theorem c_man_0 {M : cm_M} {T' me mo : Nat} (hx : CTX T' me mo M) {k : Nat} (hk : k < me) : cm_Lc cm_ms 98 [.ref 0, .int (Int32.ofNat k), .int 0] M (fun v _ => v = some (.int (M.1 (T' + 1) k))) := by
  have hl := c_lacksMan hx.2.1.1 (Int32.ofNat k)
  have hme6 := hx.2.2.2.2.2.1
  have hmo5 := hx.2.2.2.2.2.2
  rw [hx.2.2.2.2.1.1, outB_lt hk (by omega)] at hl
  have ek := fn_nat (show k < 2147483648 by omega)
  refine lb_st0 (mi := mr_98) rfl 400 ?_
  show ∃ R, cm_Lc cm_ms 161 [.ref 0, .int (Int32.ofNat k)] M R ∧ ∀ v M', R v M' → _
  refine ⟨_, hl, ?_⟩
  rintro v M' ⟨hM, rfl⟩
  subst M'
  show (ev_cmp 1 (bi false) 0 = true → _) ∧ (ev_cmp 1 (bi false) 0 = false → _)
  refine ⟨fun hc => ?_, fun hc => ?_⟩
  · exact absurd hc (by decide)
  · show (ev_cmp 2 0 0 = true → _) ∧ (ev_cmp 2 0 0 = false → _)
    refine ⟨fun hcf => ?_, fun hcf => ?_⟩
    · exact absurd hcf (by decide)
    · show (ev_cmp 5 0 6 = true → _) ∧ (ev_cmp 5 0 6 = false → _)
      refine ⟨fun hcff => ?_, fun hcff => ?_⟩
      · show ((0 : Int32).toInt < 0 ∨ 5 < (0 : Int32).toInt → _) ∧ (∀ (j : Nat) (o : Int), ([39, 53, 67, 81, 106, 120] : List Int)[j]? = some o → (0 : Int32).toInt = 0 + (j : Int) → _)
        refine sw_k 0 39 rfl (by decide) (by decide) ?_
        first | refine lb_to (T := (66, [(0, .ref 0), (1, .int (Int32.ofNat k)), (2, .int 0)], [.ref 0, .ref 0], M)) 66 [0, 1, 2] rfl rfl rfl (fun J' h => h) (lb_g0 rfl rfl hx.2.1.1 ?_) | refine lb_to0 (T := (66, [(0, .ref 0), (1, .int (Int32.ofNat k)), (2, .int 0)], [.ref 0, .ref 0], M)) 66 [0, 1, 2] rfl rfl rfl (fun J' h => h) (lb_g0 rfl rfl hx.2.1.1 ?_)
        first | refine lb_to (T := (69, [(0, .ref 0), (1, .int (Int32.ofNat k)), (2, .int 0)], [.ref T', .ref 0], M)) 69 [0, 1, 2] rfl rfl rfl (fun J' h => h) (lb_g0 rfl rfl (hx.2.2.2.1 4 1 (by decide)) ?_) | refine lb_to0 (T := (69, [(0, .ref 0), (1, .int (Int32.ofNat k)), (2, .int 0)], [.ref T', .ref 0], M)) 69 [0, 1, 2] rfl rfl rfl (fun J' h => h) (lb_g0 rfl rfl (hx.2.2.2.1 4 1 (by decide)) ?_)
        show ∃ R, cm_Lc cm_ms 159 [.ref 0, .int (M.1 (T' + 1) ((Int32.ofNat k).toNatClampNeg))] M R ∧ ∀ v M', R v M' → _
        refine ⟨_, c_granted _ _, ?_⟩
        rintro v Mc ⟨hG, rfl⟩
        show some (Value.int (M.1 (T' + 1) (Int32.ofNat k).toNatClampNeg)) = some (Value.int (M.1 (T' + 1) k))
        rw [ek]
      · exact absurd hcff (by decide)
theorem c_man_1 {M : cm_M} {T' me mo : Nat} (hx : CTX T' me mo M) {k : Nat} (hk : k < me) : cm_Lc cm_ms 98 [.ref 0, .int (Int32.ofNat k), .int 1] M (fun v _ => v = some (.int (M.1 33 k))) := by
  have hl := c_lacksMan hx.2.1.1 (Int32.ofNat k)
  have hme6 := hx.2.2.2.2.2.1
  have hmo5 := hx.2.2.2.2.2.2
  rw [hx.2.2.2.2.1.1, outB_lt hk (by omega)] at hl
  have ek := fn_nat (show k < 2147483648 by omega)
  refine lb_st0 (mi := mr_98) rfl 400 ?_
  show ∃ R, cm_Lc cm_ms 161 [.ref 0, .int (Int32.ofNat k)] M R ∧ ∀ v M', R v M' → _
  refine ⟨_, hl, ?_⟩
  rintro v M' ⟨hM, rfl⟩
  subst M'
  show (ev_cmp 1 (bi false) 0 = true → _) ∧ (ev_cmp 1 (bi false) 0 = false → _)
  refine ⟨fun hc => ?_, fun hc => ?_⟩
  · exact absurd hc (by decide)
  · show (ev_cmp 2 1 0 = true → _) ∧ (ev_cmp 2 1 0 = false → _)
    refine ⟨fun hcf => ?_, fun hcf => ?_⟩
    · exact absurd hcf (by decide)
    · show (ev_cmp 5 1 6 = true → _) ∧ (ev_cmp 5 1 6 = false → _)
      refine ⟨fun hcff => ?_, fun hcff => ?_⟩
      · show ((1 : Int32).toInt < 0 ∨ 5 < (1 : Int32).toInt → _) ∧ (∀ (j : Nat) (o : Int), ([39, 53, 67, 81, 106, 120] : List Int)[j]? = some o → (1 : Int32).toInt = 0 + (j : Int) → _)
        refine sw_k 1 53 rfl (by decide) (by decide) ?_
        first | refine lb_to (T := (80, [(0, .ref 0), (1, .int (Int32.ofNat k)), (2, .int 1)], [.ref 0, .ref 0], M)) 80 [0, 1, 2] rfl rfl rfl (fun J' h => h) (lb_g0 rfl rfl hx.2.1.2.1 ?_) | refine lb_to0 (T := (80, [(0, .ref 0), (1, .int (Int32.ofNat k)), (2, .int 1)], [.ref 0, .ref 0], M)) 80 [0, 1, 2] rfl rfl rfl (fun J' h => h) (lb_g0 rfl rfl hx.2.1.2.1 ?_)
        first | refine lb_to (T := (83, [(0, .ref 0), (1, .int (Int32.ofNat k)), (2, .int 1)], [.ref 32, .ref 0], M)) 83 [0, 1, 2] rfl rfl rfl (fun J' h => h) (lb_g0 rfl rfl hx.2.2.1.2.2.1.1 ?_) | refine lb_to0 (T := (83, [(0, .ref 0), (1, .int (Int32.ofNat k)), (2, .int 1)], [.ref 32, .ref 0], M)) 83 [0, 1, 2] rfl rfl rfl (fun J' h => h) (lb_g0 rfl rfl hx.2.2.1.2.2.1.1 ?_)
        show ∃ R, cm_Lc cm_ms 159 [.ref 0, .int (M.1 33 ((Int32.ofNat k).toNatClampNeg))] M R ∧ ∀ v M', R v M' → _
        refine ⟨_, c_granted _ _, ?_⟩
        rintro v Mc ⟨hG, rfl⟩
        show some (Value.int (M.1 33 (Int32.ofNat k).toNatClampNeg)) = some (Value.int (M.1 33 k))
        rw [ek]
      · exact absurd hcff (by decide)
theorem c_man_2 {M : cm_M} {T' me mo : Nat} (hx : CTX T' me mo M) {k : Nat} (hk : k < me) : cm_Lc cm_ms 98 [.ref 0, .int (Int32.ofNat k), .int 2] M (fun v _ => v = some (.int (M.1 (T' + 3) k))) := by
  have hl := c_lacksMan hx.2.1.1 (Int32.ofNat k)
  have hme6 := hx.2.2.2.2.2.1
  have hmo5 := hx.2.2.2.2.2.2
  rw [hx.2.2.2.2.1.1, outB_lt hk (by omega)] at hl
  have ek := fn_nat (show k < 2147483648 by omega)
  refine lb_st0 (mi := mr_98) rfl 400 ?_
  show ∃ R, cm_Lc cm_ms 161 [.ref 0, .int (Int32.ofNat k)] M R ∧ ∀ v M', R v M' → _
  refine ⟨_, hl, ?_⟩
  rintro v M' ⟨hM, rfl⟩
  subst M'
  show (ev_cmp 1 (bi false) 0 = true → _) ∧ (ev_cmp 1 (bi false) 0 = false → _)
  refine ⟨fun hc => ?_, fun hc => ?_⟩
  · exact absurd hc (by decide)
  · show (ev_cmp 2 2 0 = true → _) ∧ (ev_cmp 2 2 0 = false → _)
    refine ⟨fun hcf => ?_, fun hcf => ?_⟩
    · exact absurd hcf (by decide)
    · show (ev_cmp 5 2 6 = true → _) ∧ (ev_cmp 5 2 6 = false → _)
      refine ⟨fun hcff => ?_, fun hcff => ?_⟩
      · show ((2 : Int32).toInt < 0 ∨ 5 < (2 : Int32).toInt → _) ∧ (∀ (j : Nat) (o : Int), ([39, 53, 67, 81, 106, 120] : List Int)[j]? = some o → (2 : Int32).toInt = 0 + (j : Int) → _)
        refine sw_k 2 67 rfl (by decide) (by decide) ?_
        first | refine lb_to (T := (94, [(0, .ref 0), (1, .int (Int32.ofNat k)), (2, .int 2)], [.ref 0, .ref 0], M)) 94 [0, 1, 2] rfl rfl rfl (fun J' h => h) (lb_g0 rfl rfl hx.2.1.1 ?_) | refine lb_to0 (T := (94, [(0, .ref 0), (1, .int (Int32.ofNat k)), (2, .int 2)], [.ref 0, .ref 0], M)) 94 [0, 1, 2] rfl rfl rfl (fun J' h => h) (lb_g0 rfl rfl hx.2.1.1 ?_)
        first | refine lb_to (T := (97, [(0, .ref 0), (1, .int (Int32.ofNat k)), (2, .int 2)], [.ref T', .ref 0], M)) 97 [0, 1, 2] rfl rfl rfl (fun J' h => h) (lb_g0 rfl rfl (hx.2.2.2.1 6 3 (by decide)) ?_) | refine lb_to0 (T := (97, [(0, .ref 0), (1, .int (Int32.ofNat k)), (2, .int 2)], [.ref T', .ref 0], M)) 97 [0, 1, 2] rfl rfl rfl (fun J' h => h) (lb_g0 rfl rfl (hx.2.2.2.1 6 3 (by decide)) ?_)
        show ∃ R, cm_Lc cm_ms 159 [.ref 0, .int (M.1 (T' + 3) ((Int32.ofNat k).toNatClampNeg))] M R ∧ ∀ v M', R v M' → _
        refine ⟨_, c_granted _ _, ?_⟩
        rintro v Mc ⟨hG, rfl⟩
        show some (Value.int (M.1 (T' + 3) (Int32.ofNat k).toNatClampNeg)) = some (Value.int (M.1 (T' + 3) k))
        rw [ek]
      · exact absurd hcff (by decide)
theorem c_man_3 {M : cm_M} {T' me mo : Nat} (hx : CTX T' me mo M) {k : Nat} (hk : k < me) : cm_Lc cm_ms 98 [.ref 0, .int (Int32.ofNat k), .int 3] M (fun v _ => v = some (.int (bi (bdB (M.1 T' 1) (M.1 33 k))))) := by
  have hl := c_lacksMan hx.2.1.1 (Int32.ofNat k)
  have hme6 := hx.2.2.2.2.2.1
  have hmo5 := hx.2.2.2.2.2.2
  rw [hx.2.2.2.2.1.1, outB_lt hk (by omega)] at hl
  have ek := fn_nat (show k < 2147483648 by omega)
  refine lb_st0 (mi := mr_98) rfl 400 ?_
  show ∃ R, cm_Lc cm_ms 161 [.ref 0, .int (Int32.ofNat k)] M R ∧ ∀ v M', R v M' → _
  refine ⟨_, hl, ?_⟩
  rintro v M' ⟨hM, rfl⟩
  subst M'
  show (ev_cmp 1 (bi false) 0 = true → _) ∧ (ev_cmp 1 (bi false) 0 = false → _)
  refine ⟨fun hc => ?_, fun hc => ?_⟩
  · exact absurd hc (by decide)
  · show (ev_cmp 2 3 0 = true → _) ∧ (ev_cmp 2 3 0 = false → _)
    refine ⟨fun hcf => ?_, fun hcf => ?_⟩
    · exact absurd hcf (by decide)
    · show (ev_cmp 5 3 6 = true → _) ∧ (ev_cmp 5 3 6 = false → _)
      refine ⟨fun hcff => ?_, fun hcff => ?_⟩
      · show ((3 : Int32).toInt < 0 ∨ 5 < (3 : Int32).toInt → _) ∧ (∀ (j : Nat) (o : Int), ([39, 53, 67, 81, 106, 120] : List Int)[j]? = some o → (3 : Int32).toInt = 0 + (j : Int) → _)
        refine sw_k 3 81 rfl (by decide) (by decide) ?_
        first | refine lb_to (T := (108, [(0, .ref 0), (1, .int (Int32.ofNat k)), (2, .int 3)], [.ref 0, .ref 0], M)) 108 [0, 1, 2] rfl rfl rfl (fun J' h => h) (lb_g0 rfl rfl hx.2.1.2.1 ?_) | refine lb_to0 (T := (108, [(0, .ref 0), (1, .int (Int32.ofNat k)), (2, .int 3)], [.ref 0, .ref 0], M)) 108 [0, 1, 2] rfl rfl rfl (fun J' h => h) (lb_g0 rfl rfl hx.2.1.2.1 ?_)
        first | refine lb_to (T := (112, [(0, .ref 0), (1, .int (Int32.ofNat k)), (2, .int 3)], [.ref 0, .ref 32, .ref 0], M)) 112 [0, 1, 2] rfl rfl rfl (fun J' h => h) (lb_g0 rfl rfl hx.2.1.1 ?_) | refine lb_to0 (T := (112, [(0, .ref 0), (1, .int (Int32.ofNat k)), (2, .int 3)], [.ref 0, .ref 32, .ref 0], M)) 112 [0, 1, 2] rfl rfl rfl (fun J' h => h) (lb_g0 rfl rfl hx.2.1.1 ?_)
        show ∃ R, cm_Lc cm_ms 25 [.ref 32, .ref T', .int (Int32.ofNat k)] M R ∧ ∀ v M', R v M' → _
        have hw := c_isBald (M := M) (c := 32) (T' := T') hx.2.2.1.2.2.1.1 (Int32.ofNat k)
        rw [ek] at hw
        refine ⟨_, hw, ?_⟩
        rintro v M' ⟨hM, rfl⟩
        subst M'
        show (ev_cmp 0 (bi (bdB (M.1 T' 1) (M.1 33 k))) 0 = true → _) ∧ (ev_cmp 0 (bi (bdB (M.1 T' 1) (M.1 33 k))) 0 = false → _)
        refine ⟨fun hcfftc => ?_, fun hcfftc => ?_⟩
        · show ∃ R, cm_Lc cm_ms 159 [.ref 0, .int 0] M R ∧ ∀ v M', R v M' → _
          refine ⟨_, c_granted _ _, ?_⟩
          rintro v Mc ⟨hG, rfl⟩
          show some (Value.int 0) = some (Value.int (bi (bdB (M.1 T' 1) (M.1 33 k))))
          rw [bi_0 hcfftc]
          rfl
        · show ∃ R, cm_Lc cm_ms 159 [.ref 0, .int 1] M R ∧ ∀ v M', R v M' → _
          refine ⟨_, c_granted _ _, ?_⟩
          rintro v Mc ⟨hG, rfl⟩
          show some (Value.int 1) = some (Value.int (bi (bdB (M.1 T' 1) (M.1 33 k))))
          rw [bi_1 hcfftc]
          rfl
      · exact absurd hcff (by decide)
theorem c_man_4 {M : cm_M} {T' me mo : Nat} (hx : CTX T' me mo M) {k : Nat} (hk : k < me) : cm_Lc cm_ms 98 [.ref 0, .int (Int32.ofNat k), .int 4] M (fun v _ => v = some (.int (M.1 (T' + 4) k))) := by
  have hl := c_lacksMan hx.2.1.1 (Int32.ofNat k)
  have hme6 := hx.2.2.2.2.2.1
  have hmo5 := hx.2.2.2.2.2.2
  rw [hx.2.2.2.2.1.1, outB_lt hk (by omega)] at hl
  have ek := fn_nat (show k < 2147483648 by omega)
  refine lb_st0 (mi := mr_98) rfl 400 ?_
  show ∃ R, cm_Lc cm_ms 161 [.ref 0, .int (Int32.ofNat k)] M R ∧ ∀ v M', R v M' → _
  refine ⟨_, hl, ?_⟩
  rintro v M' ⟨hM, rfl⟩
  subst M'
  show (ev_cmp 1 (bi false) 0 = true → _) ∧ (ev_cmp 1 (bi false) 0 = false → _)
  refine ⟨fun hc => ?_, fun hc => ?_⟩
  · exact absurd hc (by decide)
  · show (ev_cmp 2 4 0 = true → _) ∧ (ev_cmp 2 4 0 = false → _)
    refine ⟨fun hcf => ?_, fun hcf => ?_⟩
    · exact absurd hcf (by decide)
    · show (ev_cmp 5 4 6 = true → _) ∧ (ev_cmp 5 4 6 = false → _)
      refine ⟨fun hcff => ?_, fun hcff => ?_⟩
      · show ((4 : Int32).toInt < 0 ∨ 5 < (4 : Int32).toInt → _) ∧ (∀ (j : Nat) (o : Int), ([39, 53, 67, 81, 106, 120] : List Int)[j]? = some o → (4 : Int32).toInt = 0 + (j : Int) → _)
        refine sw_k 4 106 rfl (by decide) (by decide) ?_
        first | refine lb_to (T := (133, [(0, .ref 0), (1, .int (Int32.ofNat k)), (2, .int 4)], [.ref 0, .ref 0], M)) 133 [0, 1, 2] rfl rfl rfl (fun J' h => h) (lb_g0 rfl rfl hx.2.1.1 ?_) | refine lb_to0 (T := (133, [(0, .ref 0), (1, .int (Int32.ofNat k)), (2, .int 4)], [.ref 0, .ref 0], M)) 133 [0, 1, 2] rfl rfl rfl (fun J' h => h) (lb_g0 rfl rfl hx.2.1.1 ?_)
        first | refine lb_to (T := (136, [(0, .ref 0), (1, .int (Int32.ofNat k)), (2, .int 4)], [.ref T', .ref 0], M)) 136 [0, 1, 2] rfl rfl rfl (fun J' h => h) (lb_g0 rfl rfl (hx.2.2.2.1 7 4 (by decide)) ?_) | refine lb_to0 (T := (136, [(0, .ref 0), (1, .int (Int32.ofNat k)), (2, .int 4)], [.ref T', .ref 0], M)) 136 [0, 1, 2] rfl rfl rfl (fun J' h => h) (lb_g0 rfl rfl (hx.2.2.2.1 7 4 (by decide)) ?_)
        show ∃ R, cm_Lc cm_ms 159 [.ref 0, .int (M.1 (T' + 4) ((Int32.ofNat k).toNatClampNeg))] M R ∧ ∀ v M', R v M' → _
        refine ⟨_, c_granted _ _, ?_⟩
        rintro v Mc ⟨hG, rfl⟩
        show some (Value.int (M.1 (T' + 4) (Int32.ofNat k).toNatClampNeg)) = some (Value.int (M.1 (T' + 4) k))
        rw [ek]
      · exact absurd hcff (by decide)
theorem c_man_5 {M : cm_M} {T' me mo : Nat} (hx : CTX T' me mo M) {k : Nat} (hk : k < me) : cm_Lc cm_ms 98 [.ref 0, .int (Int32.ofNat k), .int 5] M (fun v _ => v = some (.int (M.1 (T' + 5) k))) := by
  have hl := c_lacksMan hx.2.1.1 (Int32.ofNat k)
  have hme6 := hx.2.2.2.2.2.1
  have hmo5 := hx.2.2.2.2.2.2
  rw [hx.2.2.2.2.1.1, outB_lt hk (by omega)] at hl
  have ek := fn_nat (show k < 2147483648 by omega)
  refine lb_st0 (mi := mr_98) rfl 400 ?_
  show ∃ R, cm_Lc cm_ms 161 [.ref 0, .int (Int32.ofNat k)] M R ∧ ∀ v M', R v M' → _
  refine ⟨_, hl, ?_⟩
  rintro v M' ⟨hM, rfl⟩
  subst M'
  show (ev_cmp 1 (bi false) 0 = true → _) ∧ (ev_cmp 1 (bi false) 0 = false → _)
  refine ⟨fun hc => ?_, fun hc => ?_⟩
  · exact absurd hc (by decide)
  · show (ev_cmp 2 5 0 = true → _) ∧ (ev_cmp 2 5 0 = false → _)
    refine ⟨fun hcf => ?_, fun hcf => ?_⟩
    · exact absurd hcf (by decide)
    · show (ev_cmp 5 5 6 = true → _) ∧ (ev_cmp 5 5 6 = false → _)
      refine ⟨fun hcff => ?_, fun hcff => ?_⟩
      · show ((5 : Int32).toInt < 0 ∨ 5 < (5 : Int32).toInt → _) ∧ (∀ (j : Nat) (o : Int), ([39, 53, 67, 81, 106, 120] : List Int)[j]? = some o → (5 : Int32).toInt = 0 + (j : Int) → _)
        refine sw_k 5 120 rfl (by decide) (by decide) ?_
        first | refine lb_to (T := (147, [(0, .ref 0), (1, .int (Int32.ofNat k)), (2, .int 5)], [.ref 0, .ref 0], M)) 147 [0, 1, 2] rfl rfl rfl (fun J' h => h) (lb_g0 rfl rfl hx.2.1.1 ?_) | refine lb_to0 (T := (147, [(0, .ref 0), (1, .int (Int32.ofNat k)), (2, .int 5)], [.ref 0, .ref 0], M)) 147 [0, 1, 2] rfl rfl rfl (fun J' h => h) (lb_g0 rfl rfl hx.2.1.1 ?_)
        first | refine lb_to (T := (150, [(0, .ref 0), (1, .int (Int32.ofNat k)), (2, .int 5)], [.ref T', .ref 0], M)) 150 [0, 1, 2] rfl rfl rfl (fun J' h => h) (lb_g0 rfl rfl (hx.2.2.2.1 8 5 (by decide)) ?_) | refine lb_to0 (T := (150, [(0, .ref 0), (1, .int (Int32.ofNat k)), (2, .int 5)], [.ref T', .ref 0], M)) 150 [0, 1, 2] rfl rfl rfl (fun J' h => h) (lb_g0 rfl rfl (hx.2.2.2.1 8 5 (by decide)) ?_)
        show ∃ R, cm_Lc cm_ms 159 [.ref 0, .int (M.1 (T' + 5) ((Int32.ofNat k).toNatClampNeg))] M R ∧ ∀ v M', R v M' → _
        refine ⟨_, c_granted _ _, ?_⟩
        rintro v Mc ⟨hG, rfl⟩
        show some (Value.int (M.1 (T' + 5) (Int32.ofNat k).toNatClampNeg)) = some (Value.int (M.1 (T' + 5) k))
        rw [ek]
      · exact absurd hcff (by decide)
theorem c_man_6 {M : cm_M} {T' me mo : Nat} (hx : CTX T' me mo M) {k : Nat} (hk : k < me) : cm_Lc cm_ms 98 [.ref 0, .int (Int32.ofNat k), .int 6] M (fun v _ => v = some (.int (orF (fun m => syB (M.1 T' 1) (M.1 (T' + 6) m) (M.1 (T' + 4) k) (M.1 33 k) m) mo))) := by
  have hl := c_lacksMan hx.2.1.1 (Int32.ofNat k)
  have hme6 := hx.2.2.2.2.2.1
  have hmo5 := hx.2.2.2.2.2.2
  rw [hx.2.2.2.2.1.1, outB_lt hk (by omega)] at hl
  have ek := fn_nat (show k < 2147483648 by omega)
  refine lb_st0 (mi := mr_98) rfl 400 ?_
  show ∃ R, cm_Lc cm_ms 161 [.ref 0, .int (Int32.ofNat k)] M R ∧ ∀ v M', R v M' → _
  refine ⟨_, hl, ?_⟩
  rintro v M' ⟨hM, rfl⟩
  subst M'
  show (ev_cmp 1 (bi false) 0 = true → _) ∧ (ev_cmp 1 (bi false) 0 = false → _)
  refine ⟨fun hc => ?_, fun hc => ?_⟩
  · exact absurd hc (by decide)
  · show (ev_cmp 2 6 0 = true → _) ∧ (ev_cmp 2 6 0 = false → _)
    refine ⟨fun hcf => ?_, fun hcf => ?_⟩
    · exact absurd hcf (by decide)
    · show (ev_cmp 5 6 6 = true → _) ∧ (ev_cmp 5 6 6 = false → _)
      refine ⟨fun hcff => ?_, fun hcff => ?_⟩
      · show ((6 : Int32).toInt < 0 ∨ 5 < (6 : Int32).toInt → _) ∧ (∀ (j : Nat) (o : Int), ([39, 53, 67, 81, 106, 120] : List Int)[j]? = some o → (6 : Int32).toInt = 0 + (j : Int) → _)
        refine sw_d (by decide) (by decide) ?_
        first | refine lb_to (T := (161, [(0, .ref 0), (1, .int (Int32.ofNat k)), (2, .int 6)], [.ref 0, .ref 0], M)) 161 [0, 1, 2] rfl rfl rfl (fun J' h => h) (lb_g0 rfl rfl hx.2.1.2.1 ?_) | refine lb_to0 (T := (161, [(0, .ref 0), (1, .int (Int32.ofNat k)), (2, .int 6)], [.ref 0, .ref 0], M)) 161 [0, 1, 2] rfl rfl rfl (fun J' h => h) (lb_g0 rfl rfl hx.2.1.2.1 ?_)
        first | refine lb_to (T := (165, [(0, .ref 0), (1, .int (Int32.ofNat k)), (2, .int 6)], [.ref 0, .ref 32, .ref 0], M)) 165 [0, 1, 2] rfl rfl rfl (fun J' h => h) (lb_g0 rfl rfl hx.2.1.1 ?_) | refine lb_to0 (T := (165, [(0, .ref 0), (1, .int (Int32.ofNat k)), (2, .int 6)], [.ref 0, .ref 32, .ref 0], M)) 165 [0, 1, 2] rfl rfl rfl (fun J' h => h) (lb_g0 rfl rfl hx.2.1.1 ?_)
        show ∃ R, cm_Lc cm_ms 29 [.ref 32, .ref T', .int (Int32.ofNat k)] M R ∧ ∀ v M', R v M' → _
        refine ⟨_, c_liked (M := M) (c := 32) (T' := T') (mo := mo) (w := k) hx.2.2.1.2.2.1.1 (hx.2.2.2.1 10 6 (by decide)) (hx.2.2.2.1 7 4 (by decide)) hx.2.2.2.2.1.2 hmo5 (by omega), ?_⟩
        rintro v M' ⟨hM, rfl⟩
        subst M'
        show ∃ R, cm_Lc cm_ms 159 [.ref 0, .int (orF (fun m => syB (M.1 T' 1) (M.1 (T' + 6) m) (M.1 (T' + 4) k) (M.1 33 k) m) mo)] M R ∧ ∀ v M', R v M' → _
        refine ⟨_, c_granted _ _, ?_⟩
        rintro v Mc ⟨hG, rfl⟩
        exact rfl
      · exact absurd hcff (by decide)
theorem c_motion_out {M : cm_M} {T' me mo : Nat} (hx : CTX T' me mo M) (x y : Int32) (ho : outB x (Int32.ofNat mo) = true) : cm_Lc cm_ms 99 [.ref 0, .int x, .int y] M (fun v _ => v = some (.int (-1))) := by
  have hl := c_lacksMotion hx.2.1.1 x
  rw [hx.2.2.2.2.1.2, ho] at hl
  refine lb_st0 (mi := mr_99) rfl 400 ?_
  show ∃ R, cm_Lc cm_ms 162 [.ref 0, .int x] M R ∧ ∀ v M', R v M' → _
  refine ⟨_, hl, ?_⟩
  rintro v M' ⟨hM, rfl⟩
  subst M'
  show (ev_cmp 1 (bi true) 0 = true → _) ∧ (ev_cmp 1 (bi true) 0 = false → _)
  refine ⟨fun hc => ?_, fun hc => ?_⟩
  · show ∃ R, cm_Lc cm_ms 157 [.ref 0, .int 1] M R ∧ ∀ v M', R v M' → _
    refine ⟨_, c_refused 1 M, ?_⟩
    rintro v M' ⟨hM, rfl⟩
    subst M'
    exact rfl
  · exact absurd hc (by decide)
theorem c_motion_what {M : cm_M} {T' me mo : Nat} (hx : CTX T' me mo M) {k : Nat} (hk : k < mo) (y : Int32) (hy : y.toInt < 0 ∨ 7 < y.toInt) : cm_Lc cm_ms 99 [.ref 0, .int (Int32.ofNat k), .int y] M (fun v _ => v = some (.int (-1))) := by
  have hl := c_lacksMotion hx.2.1.1 (Int32.ofNat k)
  have hme6 := hx.2.2.2.2.2.1
  have hmo5 := hx.2.2.2.2.2.2
  rw [hx.2.2.2.2.1.2, outB_lt hk (by omega)] at hl
  have ek := fn_nat (show k < 2147483648 by omega)
  have z0 : (0 : Int32).toInt = 0 := by decide
  have z6 : (6 : Int32).toInt = 6 := by decide
  have z7 : (7 : Int32).toInt = 7 := by decide
  refine lb_st0 (mi := mr_99) rfl 400 ?_
  show ∃ R, cm_Lc cm_ms 162 [.ref 0, .int (Int32.ofNat k)] M R ∧ ∀ v M', R v M' → _
  refine ⟨_, hl, ?_⟩
  rintro v M' ⟨hM, rfl⟩
  subst M'
  show (ev_cmp 1 (bi false) 0 = true → _) ∧ (ev_cmp 1 (bi false) 0 = false → _)
  refine ⟨fun hc => ?_, fun hc => ?_⟩
  · exact absurd hc (by decide)
  · show (ev_cmp 2 y 0 = true → _) ∧ (ev_cmp 2 y 0 = false → _)
    refine ⟨fun hcf => ?_, fun hcf => ?_⟩
    · show ∃ R, cm_Lc cm_ms 157 [.ref 0, .int 1] M R ∧ ∀ v M', R v M' → _
      refine ⟨_, c_refused 1 M, ?_⟩
      rintro v M' ⟨hM, rfl⟩
      subst M'
      exact rfl
    · show (ev_cmp 5 y 7 = true → _) ∧ (ev_cmp 5 y 7 = false → _)
      refine ⟨fun hcff => ?_, fun hcff => ?_⟩
      · have q1 := fn_nlt hcf
        have q2 := fn_le hcff
        rw [z0] at q1
        rw [z7] at q2
        omega
      · show ∃ R, cm_Lc cm_ms 157 [.ref 0, .int 1] M R ∧ ∀ v M', R v M' → _
        refine ⟨_, c_refused 1 M, ?_⟩
        rintro v M' ⟨hM, rfl⟩
        subst M'
        exact rfl
theorem c_motion_0 {M : cm_M} {T' me mo : Nat} (hx : CTX T' me mo M) {k : Nat} (hk : k < mo) : cm_Lc cm_ms 99 [.ref 0, .int (Int32.ofNat k), .int 0] M (fun v _ => v = some (.int (M.1 (T' + 6) k))) := by
  have hl := c_lacksMotion hx.2.1.1 (Int32.ofNat k)
  have hme6 := hx.2.2.2.2.2.1
  have hmo5 := hx.2.2.2.2.2.2
  rw [hx.2.2.2.2.1.2, outB_lt hk (by omega)] at hl
  have ek := fn_nat (show k < 2147483648 by omega)
  refine lb_st0 (mi := mr_99) rfl 400 ?_
  show ∃ R, cm_Lc cm_ms 162 [.ref 0, .int (Int32.ofNat k)] M R ∧ ∀ v M', R v M' → _
  refine ⟨_, hl, ?_⟩
  rintro v M' ⟨hM, rfl⟩
  subst M'
  show (ev_cmp 1 (bi false) 0 = true → _) ∧ (ev_cmp 1 (bi false) 0 = false → _)
  refine ⟨fun hc => ?_, fun hc => ?_⟩
  · exact absurd hc (by decide)
  · show (ev_cmp 2 0 0 = true → _) ∧ (ev_cmp 2 0 0 = false → _)
    refine ⟨fun hcf => ?_, fun hcf => ?_⟩
    · exact absurd hcf (by decide)
    · show (ev_cmp 5 0 7 = true → _) ∧ (ev_cmp 5 0 7 = false → _)
      refine ⟨fun hcff => ?_, fun hcff => ?_⟩
      · show ((0 : Int32).toInt < 0 ∨ 6 < (0 : Int32).toInt → _) ∧ (∀ (j : Nat) (o : Int), ([43, 57, 71, 85, 99, 120, 145] : List Int)[j]? = some o → (0 : Int32).toInt = 0 + (j : Int) → _)
        refine sw_k 0 43 rfl (by decide) (by decide) ?_
        first | refine lb_to (T := (70, [(0, .ref 0), (1, .int (Int32.ofNat k)), (2, .int 0)], [.ref 0, .ref 0], M)) 70 [0, 1, 2] rfl rfl rfl (fun J' h => h) (lb_g0 rfl rfl hx.2.1.1 ?_) | refine lb_to0 (T := (70, [(0, .ref 0), (1, .int (Int32.ofNat k)), (2, .int 0)], [.ref 0, .ref 0], M)) 70 [0, 1, 2] rfl rfl rfl (fun J' h => h) (lb_g0 rfl rfl hx.2.1.1 ?_)
        first | refine lb_to (T := (73, [(0, .ref 0), (1, .int (Int32.ofNat k)), (2, .int 0)], [.ref T', .ref 0], M)) 73 [0, 1, 2] rfl rfl rfl (fun J' h => h) (lb_g0 rfl rfl (hx.2.2.2.1 10 6 (by decide)) ?_) | refine lb_to0 (T := (73, [(0, .ref 0), (1, .int (Int32.ofNat k)), (2, .int 0)], [.ref T', .ref 0], M)) 73 [0, 1, 2] rfl rfl rfl (fun J' h => h) (lb_g0 rfl rfl (hx.2.2.2.1 10 6 (by decide)) ?_)
        show ∃ R, cm_Lc cm_ms 159 [.ref 0, .int (M.1 (T' + 6) ((Int32.ofNat k).toNatClampNeg))] M R ∧ ∀ v M', R v M' → _
        refine ⟨_, c_granted _ _, ?_⟩
        rintro v Mc ⟨hG, rfl⟩
        show some (Value.int (M.1 (T' + 6) (Int32.ofNat k).toNatClampNeg)) = some (Value.int (M.1 (T' + 6) k))
        rw [ek]
      · exact absurd hcff (by decide)
theorem c_motion_1 {M : cm_M} {T' me mo : Nat} (hx : CTX T' me mo M) {k : Nat} (hk : k < mo) : cm_Lc cm_ms 99 [.ref 0, .int (Int32.ofNat k), .int 1] M (fun v _ => v = some (.int (M.1 (T' + 7) k))) := by
  have hl := c_lacksMotion hx.2.1.1 (Int32.ofNat k)
  have hme6 := hx.2.2.2.2.2.1
  have hmo5 := hx.2.2.2.2.2.2
  rw [hx.2.2.2.2.1.2, outB_lt hk (by omega)] at hl
  have ek := fn_nat (show k < 2147483648 by omega)
  refine lb_st0 (mi := mr_99) rfl 400 ?_
  show ∃ R, cm_Lc cm_ms 162 [.ref 0, .int (Int32.ofNat k)] M R ∧ ∀ v M', R v M' → _
  refine ⟨_, hl, ?_⟩
  rintro v M' ⟨hM, rfl⟩
  subst M'
  show (ev_cmp 1 (bi false) 0 = true → _) ∧ (ev_cmp 1 (bi false) 0 = false → _)
  refine ⟨fun hc => ?_, fun hc => ?_⟩
  · exact absurd hc (by decide)
  · show (ev_cmp 2 1 0 = true → _) ∧ (ev_cmp 2 1 0 = false → _)
    refine ⟨fun hcf => ?_, fun hcf => ?_⟩
    · exact absurd hcf (by decide)
    · show (ev_cmp 5 1 7 = true → _) ∧ (ev_cmp 5 1 7 = false → _)
      refine ⟨fun hcff => ?_, fun hcff => ?_⟩
      · show ((1 : Int32).toInt < 0 ∨ 6 < (1 : Int32).toInt → _) ∧ (∀ (j : Nat) (o : Int), ([43, 57, 71, 85, 99, 120, 145] : List Int)[j]? = some o → (1 : Int32).toInt = 0 + (j : Int) → _)
        refine sw_k 1 57 rfl (by decide) (by decide) ?_
        first | refine lb_to (T := (84, [(0, .ref 0), (1, .int (Int32.ofNat k)), (2, .int 1)], [.ref 0, .ref 0], M)) 84 [0, 1, 2] rfl rfl rfl (fun J' h => h) (lb_g0 rfl rfl hx.2.1.1 ?_) | refine lb_to0 (T := (84, [(0, .ref 0), (1, .int (Int32.ofNat k)), (2, .int 1)], [.ref 0, .ref 0], M)) 84 [0, 1, 2] rfl rfl rfl (fun J' h => h) (lb_g0 rfl rfl hx.2.1.1 ?_)
        first | refine lb_to (T := (87, [(0, .ref 0), (1, .int (Int32.ofNat k)), (2, .int 1)], [.ref T', .ref 0], M)) 87 [0, 1, 2] rfl rfl rfl (fun J' h => h) (lb_g0 rfl rfl (hx.2.2.2.1 11 7 (by decide)) ?_) | refine lb_to0 (T := (87, [(0, .ref 0), (1, .int (Int32.ofNat k)), (2, .int 1)], [.ref T', .ref 0], M)) 87 [0, 1, 2] rfl rfl rfl (fun J' h => h) (lb_g0 rfl rfl (hx.2.2.2.1 11 7 (by decide)) ?_)
        show ∃ R, cm_Lc cm_ms 159 [.ref 0, .int (M.1 (T' + 7) ((Int32.ofNat k).toNatClampNeg))] M R ∧ ∀ v M', R v M' → _
        refine ⟨_, c_granted _ _, ?_⟩
        rintro v Mc ⟨hG, rfl⟩
        show some (Value.int (M.1 (T' + 7) (Int32.ofNat k).toNatClampNeg)) = some (Value.int (M.1 (T' + 7) k))
        rw [ek]
      · exact absurd hcff (by decide)
theorem c_motion_2 {M : cm_M} {T' me mo : Nat} (hx : CTX T' me mo M) {k : Nat} (hk : k < mo) : cm_Lc cm_ms 99 [.ref 0, .int (Int32.ofNat k), .int 2] M (fun v _ => v = some (.int (M.1 (T' + 8) k))) := by
  have hl := c_lacksMotion hx.2.1.1 (Int32.ofNat k)
  have hme6 := hx.2.2.2.2.2.1
  have hmo5 := hx.2.2.2.2.2.2
  rw [hx.2.2.2.2.1.2, outB_lt hk (by omega)] at hl
  have ek := fn_nat (show k < 2147483648 by omega)
  refine lb_st0 (mi := mr_99) rfl 400 ?_
  show ∃ R, cm_Lc cm_ms 162 [.ref 0, .int (Int32.ofNat k)] M R ∧ ∀ v M', R v M' → _
  refine ⟨_, hl, ?_⟩
  rintro v M' ⟨hM, rfl⟩
  subst M'
  show (ev_cmp 1 (bi false) 0 = true → _) ∧ (ev_cmp 1 (bi false) 0 = false → _)
  refine ⟨fun hc => ?_, fun hc => ?_⟩
  · exact absurd hc (by decide)
  · show (ev_cmp 2 2 0 = true → _) ∧ (ev_cmp 2 2 0 = false → _)
    refine ⟨fun hcf => ?_, fun hcf => ?_⟩
    · exact absurd hcf (by decide)
    · show (ev_cmp 5 2 7 = true → _) ∧ (ev_cmp 5 2 7 = false → _)
      refine ⟨fun hcff => ?_, fun hcff => ?_⟩
      · show ((2 : Int32).toInt < 0 ∨ 6 < (2 : Int32).toInt → _) ∧ (∀ (j : Nat) (o : Int), ([43, 57, 71, 85, 99, 120, 145] : List Int)[j]? = some o → (2 : Int32).toInt = 0 + (j : Int) → _)
        refine sw_k 2 71 rfl (by decide) (by decide) ?_
        first | refine lb_to (T := (98, [(0, .ref 0), (1, .int (Int32.ofNat k)), (2, .int 2)], [.ref 0, .ref 0], M)) 98 [0, 1, 2] rfl rfl rfl (fun J' h => h) (lb_g0 rfl rfl hx.2.1.1 ?_) | refine lb_to0 (T := (98, [(0, .ref 0), (1, .int (Int32.ofNat k)), (2, .int 2)], [.ref 0, .ref 0], M)) 98 [0, 1, 2] rfl rfl rfl (fun J' h => h) (lb_g0 rfl rfl hx.2.1.1 ?_)
        first | refine lb_to (T := (101, [(0, .ref 0), (1, .int (Int32.ofNat k)), (2, .int 2)], [.ref T', .ref 0], M)) 101 [0, 1, 2] rfl rfl rfl (fun J' h => h) (lb_g0 rfl rfl (hx.2.2.2.1 12 8 (by decide)) ?_) | refine lb_to0 (T := (101, [(0, .ref 0), (1, .int (Int32.ofNat k)), (2, .int 2)], [.ref T', .ref 0], M)) 101 [0, 1, 2] rfl rfl rfl (fun J' h => h) (lb_g0 rfl rfl (hx.2.2.2.1 12 8 (by decide)) ?_)
        show ∃ R, cm_Lc cm_ms 159 [.ref 0, .int (M.1 (T' + 8) ((Int32.ofNat k).toNatClampNeg))] M R ∧ ∀ v M', R v M' → _
        refine ⟨_, c_granted _ _, ?_⟩
        rintro v Mc ⟨hG, rfl⟩
        show some (Value.int (M.1 (T' + 8) (Int32.ofNat k).toNatClampNeg)) = some (Value.int (M.1 (T' + 8) k))
        rw [ek]
      · exact absurd hcff (by decide)
theorem c_motion_3 {M : cm_M} {T' me mo : Nat} (hx : CTX T' me mo M) {k : Nat} (hk : k < mo) : cm_Lc cm_ms 99 [.ref 0, .int (Int32.ofNat k), .int 3] M (fun v _ => v = some (.int (M.1 (T' + 9) k))) := by
  have hl := c_lacksMotion hx.2.1.1 (Int32.ofNat k)
  have hme6 := hx.2.2.2.2.2.1
  have hmo5 := hx.2.2.2.2.2.2
  rw [hx.2.2.2.2.1.2, outB_lt hk (by omega)] at hl
  have ek := fn_nat (show k < 2147483648 by omega)
  refine lb_st0 (mi := mr_99) rfl 400 ?_
  show ∃ R, cm_Lc cm_ms 162 [.ref 0, .int (Int32.ofNat k)] M R ∧ ∀ v M', R v M' → _
  refine ⟨_, hl, ?_⟩
  rintro v M' ⟨hM, rfl⟩
  subst M'
  show (ev_cmp 1 (bi false) 0 = true → _) ∧ (ev_cmp 1 (bi false) 0 = false → _)
  refine ⟨fun hc => ?_, fun hc => ?_⟩
  · exact absurd hc (by decide)
  · show (ev_cmp 2 3 0 = true → _) ∧ (ev_cmp 2 3 0 = false → _)
    refine ⟨fun hcf => ?_, fun hcf => ?_⟩
    · exact absurd hcf (by decide)
    · show (ev_cmp 5 3 7 = true → _) ∧ (ev_cmp 5 3 7 = false → _)
      refine ⟨fun hcff => ?_, fun hcff => ?_⟩
      · show ((3 : Int32).toInt < 0 ∨ 6 < (3 : Int32).toInt → _) ∧ (∀ (j : Nat) (o : Int), ([43, 57, 71, 85, 99, 120, 145] : List Int)[j]? = some o → (3 : Int32).toInt = 0 + (j : Int) → _)
        refine sw_k 3 85 rfl (by decide) (by decide) ?_
        first | refine lb_to (T := (112, [(0, .ref 0), (1, .int (Int32.ofNat k)), (2, .int 3)], [.ref 0, .ref 0], M)) 112 [0, 1, 2] rfl rfl rfl (fun J' h => h) (lb_g0 rfl rfl hx.2.1.1 ?_) | refine lb_to0 (T := (112, [(0, .ref 0), (1, .int (Int32.ofNat k)), (2, .int 3)], [.ref 0, .ref 0], M)) 112 [0, 1, 2] rfl rfl rfl (fun J' h => h) (lb_g0 rfl rfl hx.2.1.1 ?_)
        first | refine lb_to (T := (115, [(0, .ref 0), (1, .int (Int32.ofNat k)), (2, .int 3)], [.ref T', .ref 0], M)) 115 [0, 1, 2] rfl rfl rfl (fun J' h => h) (lb_g0 rfl rfl (hx.2.2.2.1 13 9 (by decide)) ?_) | refine lb_to0 (T := (115, [(0, .ref 0), (1, .int (Int32.ofNat k)), (2, .int 3)], [.ref T', .ref 0], M)) 115 [0, 1, 2] rfl rfl rfl (fun J' h => h) (lb_g0 rfl rfl (hx.2.2.2.1 13 9 (by decide)) ?_)
        show ∃ R, cm_Lc cm_ms 159 [.ref 0, .int (M.1 (T' + 9) ((Int32.ofNat k).toNatClampNeg))] M R ∧ ∀ v M', R v M' → _
        refine ⟨_, c_granted _ _, ?_⟩
        rintro v Mc ⟨hG, rfl⟩
        show some (Value.int (M.1 (T' + 9) (Int32.ofNat k).toNatClampNeg)) = some (Value.int (M.1 (T' + 9) k))
        rw [ek]
      · exact absurd hcff (by decide)
theorem c_motion_4 {M : cm_M} {T' me mo : Nat} (hx : CTX T' me mo M) {k : Nat} (hk : k < mo) : cm_Lc cm_ms 99 [.ref 0, .int (Int32.ofNat k), .int 4] M (fun v _ => v = some (.int (bi (hb (M.1 32 2) k)))) := by
  have hl := c_lacksMotion hx.2.1.1 (Int32.ofNat k)
  have hme6 := hx.2.2.2.2.2.1
  have hmo5 := hx.2.2.2.2.2.2
  rw [hx.2.2.2.2.1.2, outB_lt hk (by omega)] at hl
  have ek := fn_nat (show k < 2147483648 by omega)
  refine lb_st0 (mi := mr_99) rfl 400 ?_
  show ∃ R, cm_Lc cm_ms 162 [.ref 0, .int (Int32.ofNat k)] M R ∧ ∀ v M', R v M' → _
  refine ⟨_, hl, ?_⟩
  rintro v M' ⟨hM, rfl⟩
  subst M'
  show (ev_cmp 1 (bi false) 0 = true → _) ∧ (ev_cmp 1 (bi false) 0 = false → _)
  refine ⟨fun hc => ?_, fun hc => ?_⟩
  · exact absurd hc (by decide)
  · show (ev_cmp 2 4 0 = true → _) ∧ (ev_cmp 2 4 0 = false → _)
    refine ⟨fun hcf => ?_, fun hcf => ?_⟩
    · exact absurd hcf (by decide)
    · show (ev_cmp 5 4 7 = true → _) ∧ (ev_cmp 5 4 7 = false → _)
      refine ⟨fun hcff => ?_, fun hcff => ?_⟩
      · show ((4 : Int32).toInt < 0 ∨ 6 < (4 : Int32).toInt → _) ∧ (∀ (j : Nat) (o : Int), ([43, 57, 71, 85, 99, 120, 145] : List Int)[j]? = some o → (4 : Int32).toInt = 0 + (j : Int) → _)
        refine sw_k 4 99 rfl (by decide) (by decide) ?_
        first | refine lb_to (T := (126, [(0, .ref 0), (1, .int (Int32.ofNat k)), (2, .int 4)], [.ref 0, .ref 0], M)) 126 [0, 1, 2] rfl rfl rfl (fun J' h => h) (lb_g0 rfl rfl hx.2.1.2.1 ?_) | refine lb_to0 (T := (126, [(0, .ref 0), (1, .int (Int32.ofNat k)), (2, .int 4)], [.ref 0, .ref 0], M)) 126 [0, 1, 2] rfl rfl rfl (fun J' h => h) (lb_g0 rfl rfl hx.2.1.2.1 ?_)
        show ∃ R, cm_Lc cm_ms 33 [.ref 32, .int (Int32.ofNat k)] M R ∧ ∀ v M', R v M' → _
        refine ⟨_, c_wasC (M := M) (c := 32) (k := k), ?_⟩
        rintro v M' ⟨hM, rfl⟩
        subst M'
        show (ev_cmp 0 (bi (hb (M.1 32 2) k)) 0 = true → _) ∧ (ev_cmp 0 (bi (hb (M.1 32 2) k)) 0 = false → _)
        refine ⟨fun hcfftc => ?_, fun hcfftc => ?_⟩
        · show ∃ R, cm_Lc cm_ms 159 [.ref 0, .int 0] M R ∧ ∀ v M', R v M' → _
          refine ⟨_, c_granted _ _, ?_⟩
          rintro v Mc ⟨hG, rfl⟩
          show some (Value.int 0) = some (Value.int (bi (hb (M.1 32 2) k)))
          rw [bi_0 hcfftc]
          rfl
        · show ∃ R, cm_Lc cm_ms 159 [.ref 0, .int 1] M R ∧ ∀ v M', R v M' → _
          refine ⟨_, c_granted _ _, ?_⟩
          rintro v Mc ⟨hG, rfl⟩
          show some (Value.int 1) = some (Value.int (bi (hb (M.1 32 2) k)))
          rw [bi_1 hcfftc]
          rfl
      · exact absurd hcff (by decide)
theorem c_motion_5 {M : cm_M} {T' me mo : Nat} (hx : CTX T' me mo M) {k : Nat} (hk : k < mo) : cm_Lc cm_ms 99 [.ref 0, .int (Int32.ofNat k), .int 5] M (fun v _ => v = some (.int (bi (mbB (M.1 32 2) (M.1 (T' + 9) k) k)))) := by
  have hl := c_lacksMotion hx.2.1.1 (Int32.ofNat k)
  have hme6 := hx.2.2.2.2.2.1
  have hmo5 := hx.2.2.2.2.2.2
  rw [hx.2.2.2.2.1.2, outB_lt hk (by omega)] at hl
  have ek := fn_nat (show k < 2147483648 by omega)
  refine lb_st0 (mi := mr_99) rfl 400 ?_
  show ∃ R, cm_Lc cm_ms 162 [.ref 0, .int (Int32.ofNat k)] M R ∧ ∀ v M', R v M' → _
  refine ⟨_, hl, ?_⟩
  rintro v M' ⟨hM, rfl⟩
  subst M'
  show (ev_cmp 1 (bi false) 0 = true → _) ∧ (ev_cmp 1 (bi false) 0 = false → _)
  refine ⟨fun hc => ?_, fun hc => ?_⟩
  · exact absurd hc (by decide)
  · show (ev_cmp 2 5 0 = true → _) ∧ (ev_cmp 2 5 0 = false → _)
    refine ⟨fun hcf => ?_, fun hcf => ?_⟩
    · exact absurd hcf (by decide)
    · show (ev_cmp 5 5 7 = true → _) ∧ (ev_cmp 5 5 7 = false → _)
      refine ⟨fun hcff => ?_, fun hcff => ?_⟩
      · show ((5 : Int32).toInt < 0 ∨ 6 < (5 : Int32).toInt → _) ∧ (∀ (j : Nat) (o : Int), ([43, 57, 71, 85, 99, 120, 145] : List Int)[j]? = some o → (5 : Int32).toInt = 0 + (j : Int) → _)
        refine sw_k 5 120 rfl (by decide) (by decide) ?_
        first | refine lb_to (T := (147, [(0, .ref 0), (1, .int (Int32.ofNat k)), (2, .int 5)], [.ref 0, .ref 0], M)) 147 [0, 1, 2] rfl rfl rfl (fun J' h => h) (lb_g0 rfl rfl hx.2.1.2.1 ?_) | refine lb_to0 (T := (147, [(0, .ref 0), (1, .int (Int32.ofNat k)), (2, .int 5)], [.ref 0, .ref 0], M)) 147 [0, 1, 2] rfl rfl rfl (fun J' h => h) (lb_g0 rfl rfl hx.2.1.2.1 ?_)
        first | refine lb_to (T := (151, [(0, .ref 0), (1, .int (Int32.ofNat k)), (2, .int 5)], [.ref 0, .ref 32, .ref 0], M)) 151 [0, 1, 2] rfl rfl rfl (fun J' h => h) (lb_g0 rfl rfl hx.2.1.1 ?_) | refine lb_to0 (T := (151, [(0, .ref 0), (1, .int (Int32.ofNat k)), (2, .int 5)], [.ref 0, .ref 32, .ref 0], M)) 151 [0, 1, 2] rfl rfl rfl (fun J' h => h) (lb_g0 rfl rfl hx.2.1.1 ?_)
        show ∃ R, cm_Lc cm_ms 34 [.ref 32, .ref T', .int (Int32.ofNat k)] M R ∧ ∀ v M', R v M' → _
        refine ⟨_, c_mayBe (M := M) (c := 32) (T' := T') (k := k) (hx.2.2.2.1 13 9 (by decide)) (by omega), ?_⟩
        rintro v M' ⟨hM, rfl⟩
        subst M'
        show (ev_cmp 0 (bi (mbB (M.1 32 2) (M.1 (T' + 9) k) k)) 0 = true → _) ∧ (ev_cmp 0 (bi (mbB (M.1 32 2) (M.1 (T' + 9) k) k)) 0 = false → _)
        refine ⟨fun hcfftc => ?_, fun hcfftc => ?_⟩
        · show ∃ R, cm_Lc cm_ms 159 [.ref 0, .int 0] M R ∧ ∀ v M', R v M' → _
          refine ⟨_, c_granted _ _, ?_⟩
          rintro v Mc ⟨hG, rfl⟩
          show some (Value.int 0) = some (Value.int (bi (mbB (M.1 32 2) (M.1 (T' + 9) k) k)))
          rw [bi_0 hcfftc]
          rfl
        · show ∃ R, cm_Lc cm_ms 159 [.ref 0, .int 1] M R ∧ ∀ v M', R v M' → _
          refine ⟨_, c_granted _ _, ?_⟩
          rintro v Mc ⟨hG, rfl⟩
          show some (Value.int 1) = some (Value.int (bi (mbB (M.1 32 2) (M.1 (T' + 9) k) k)))
          rw [bi_1 hcfftc]
          rfl
      · exact absurd hcff (by decide)
theorem c_motion_6 {M : cm_M} {T' me mo : Nat} (hx : CTX T' me mo M) {k : Nat} (hk : k < mo) : cm_Lc cm_ms 99 [.ref 0, .int (Int32.ofNat k), .int 6] M (fun v _ => v = some (.int (voF (M.1 (T' + 3)) (orF (fun m => syB (M.1 T' 1) (M.1 (T' + 6) k) (M.1 (T' + 4) m) (M.1 33 m) k) me) me))) := by
  have hl := c_lacksMotion hx.2.1.1 (Int32.ofNat k)
  have hme6 := hx.2.2.2.2.2.1
  have hmo5 := hx.2.2.2.2.2.2
  rw [hx.2.2.2.2.1.2, outB_lt hk (by omega)] at hl
  have ek := fn_nat (show k < 2147483648 by omega)
  refine lb_st0 (mi := mr_99) rfl 400 ?_
  show ∃ R, cm_Lc cm_ms 162 [.ref 0, .int (Int32.ofNat k)] M R ∧ ∀ v M', R v M' → _
  refine ⟨_, hl, ?_⟩
  rintro v M' ⟨hM, rfl⟩
  subst M'
  show (ev_cmp 1 (bi false) 0 = true → _) ∧ (ev_cmp 1 (bi false) 0 = false → _)
  refine ⟨fun hc => ?_, fun hc => ?_⟩
  · exact absurd hc (by decide)
  · show (ev_cmp 2 6 0 = true → _) ∧ (ev_cmp 2 6 0 = false → _)
    refine ⟨fun hcf => ?_, fun hcf => ?_⟩
    · exact absurd hcf (by decide)
    · show (ev_cmp 5 6 7 = true → _) ∧ (ev_cmp 5 6 7 = false → _)
      refine ⟨fun hcff => ?_, fun hcff => ?_⟩
      · show ((6 : Int32).toInt < 0 ∨ 6 < (6 : Int32).toInt → _) ∧ (∀ (j : Nat) (o : Int), ([43, 57, 71, 85, 99, 120, 145] : List Int)[j]? = some o → (6 : Int32).toInt = 0 + (j : Int) → _)
        refine sw_k 6 145 rfl (by decide) (by decide) ?_
        first | refine lb_to (T := (172, [(0, .ref 0), (1, .int (Int32.ofNat k)), (2, .int 6)], [.ref 0, .ref 0], M)) 172 [0, 1, 2] rfl rfl rfl (fun J' h => h) (lb_g0 rfl rfl hx.2.1.2.1 ?_) | refine lb_to0 (T := (172, [(0, .ref 0), (1, .int (Int32.ofNat k)), (2, .int 6)], [.ref 0, .ref 0], M)) 172 [0, 1, 2] rfl rfl rfl (fun J' h => h) (lb_g0 rfl rfl hx.2.1.2.1 ?_)
        first | refine lb_to (T := (176, [(0, .ref 0), (1, .int (Int32.ofNat k)), (2, .int 6)], [.ref 0, .ref 32, .ref 0], M)) 176 [0, 1, 2] rfl rfl rfl (fun J' h => h) (lb_g0 rfl rfl hx.2.1.1 ?_) | refine lb_to0 (T := (176, [(0, .ref 0), (1, .int (Int32.ofNat k)), (2, .int 6)], [.ref 0, .ref 32, .ref 0], M)) 176 [0, 1, 2] rfl rfl rfl (fun J' h => h) (lb_g0 rfl rfl hx.2.1.1 ?_)
        show ∃ R, cm_Lc cm_ms 31 [.ref 32, .ref T', .int (Int32.ofNat k)] M R ∧ ∀ v M', R v M' → _
        refine ⟨_, c_yes (M := M) (c := 32) (T' := T') (me := me) (k := k) hx.2.2.1.2.2.1.1 (hx.2.2.2.1 10 6 (by decide)) (hx.2.2.2.1 7 4 (by decide)) (hx.2.2.2.1 6 3 (by decide)) hx.2.2.2.2.1.1 hme6 (by omega), ?_⟩
        rintro v M' ⟨hM, rfl⟩
        subst M'
        show ∃ R, cm_Lc cm_ms 159 [.ref 0, .int (voF (M.1 (T' + 3)) (orF (fun m => syB (M.1 T' 1) (M.1 (T' + 6) k) (M.1 (T' + 4) m) (M.1 33 m) k) me) me)] M R ∧ ∀ v M', R v M' → _
        refine ⟨_, c_granted _ _, ?_⟩
        rintro v Mc ⟨hG, rfl⟩
        exact rfl
      · exact absurd hcff (by decide)
theorem c_motion_7 {M : cm_M} {T' me mo : Nat} (hx : CTX T' me mo M) {k : Nat} (hk : k < mo) : cm_Lc cm_ms 99 [.ref 0, .int (Int32.ofNat k), .int 7] M (fun v _ => v = some (.int (orF (fun m => syB (M.1 T' 1) (M.1 (T' + 6) k) (M.1 (T' + 4) m) (M.1 33 m) k) me))) := by
  have hl := c_lacksMotion hx.2.1.1 (Int32.ofNat k)
  have hme6 := hx.2.2.2.2.2.1
  have hmo5 := hx.2.2.2.2.2.2
  rw [hx.2.2.2.2.1.2, outB_lt hk (by omega)] at hl
  have ek := fn_nat (show k < 2147483648 by omega)
  refine lb_st0 (mi := mr_99) rfl 400 ?_
  show ∃ R, cm_Lc cm_ms 162 [.ref 0, .int (Int32.ofNat k)] M R ∧ ∀ v M', R v M' → _
  refine ⟨_, hl, ?_⟩
  rintro v M' ⟨hM, rfl⟩
  subst M'
  show (ev_cmp 1 (bi false) 0 = true → _) ∧ (ev_cmp 1 (bi false) 0 = false → _)
  refine ⟨fun hc => ?_, fun hc => ?_⟩
  · exact absurd hc (by decide)
  · show (ev_cmp 2 7 0 = true → _) ∧ (ev_cmp 2 7 0 = false → _)
    refine ⟨fun hcf => ?_, fun hcf => ?_⟩
    · exact absurd hcf (by decide)
    · show (ev_cmp 5 7 7 = true → _) ∧ (ev_cmp 5 7 7 = false → _)
      refine ⟨fun hcff => ?_, fun hcff => ?_⟩
      · show ((7 : Int32).toInt < 0 ∨ 6 < (7 : Int32).toInt → _) ∧ (∀ (j : Nat) (o : Int), ([43, 57, 71, 85, 99, 120, 145] : List Int)[j]? = some o → (7 : Int32).toInt = 0 + (j : Int) → _)
        refine sw_d (by decide) (by decide) ?_
        first | refine lb_to (T := (189, [(0, .ref 0), (1, .int (Int32.ofNat k)), (2, .int 7)], [.ref 0, .ref 0], M)) 189 [0, 1, 2] rfl rfl rfl (fun J' h => h) (lb_g0 rfl rfl hx.2.1.2.1 ?_) | refine lb_to0 (T := (189, [(0, .ref 0), (1, .int (Int32.ofNat k)), (2, .int 7)], [.ref 0, .ref 0], M)) 189 [0, 1, 2] rfl rfl rfl (fun J' h => h) (lb_g0 rfl rfl hx.2.1.2.1 ?_)
        first | refine lb_to (T := (193, [(0, .ref 0), (1, .int (Int32.ofNat k)), (2, .int 7)], [.ref 0, .ref 32, .ref 0], M)) 193 [0, 1, 2] rfl rfl rfl (fun J' h => h) (lb_g0 rfl rfl hx.2.1.1 ?_) | refine lb_to0 (T := (193, [(0, .ref 0), (1, .int (Int32.ofNat k)), (2, .int 7)], [.ref 0, .ref 32, .ref 0], M)) 193 [0, 1, 2] rfl rfl rfl (fun J' h => h) (lb_g0 rfl rfl hx.2.1.1 ?_)
        show ∃ R, cm_Lc cm_ms 30 [.ref 32, .ref T', .int (Int32.ofNat k)] M R ∧ ∀ v M', R v M' → _
        refine ⟨_, c_yesMen (M := M) (c := 32) (T' := T') (me := me) (k := k) hx.2.2.1.2.2.1.1 (hx.2.2.2.1 10 6 (by decide)) (hx.2.2.2.1 7 4 (by decide)) hx.2.2.2.2.1.1 hme6 (by omega), ?_⟩
        rintro v M' ⟨hM, rfl⟩
        subst M'
        show ∃ R, cm_Lc cm_ms 159 [.ref 0, .int (orF (fun m => syB (M.1 T' 1) (M.1 (T' + 6) k) (M.1 (T' + 4) m) (M.1 33 m) k) me)] M R ∧ ∀ v M', R v M' → _
        refine ⟨_, c_granted _ _, ?_⟩
        rintro v Mc ⟨hG, rfl⟩
        exact rfl
      · exact absurd hcff (by decide)
theorem m_man_out {a : Bool} {me mo : Nat} {M : cm_M} (hx : MTX a me mo M) (x y : Int32) (ho : outB x (Int32.ofNat me) = true) : cm_Lc cm_ms 221 [.ref 124, .int x, .int y] M (fun v _ => v = some (.int (-1))) := by
  refine lb_st0 (mi := mr_221) rfl 400 ?_
  show ∃ R, cm_Lc cm_ms 164 [.ref 124] M R ∧ ∀ v M', R v M' → _
  refine ⟨_, m_goodG M, ?_⟩
  rintro v M' ⟨rfl, rfl⟩
  have hg := MTX_gd hx
  show ∃ R, cm_Lc cm_ms 205 [.ref 124, .int x] (gdM M) R ∧ ∀ v M', R v M' → _
  have hl := m_isMn hg x
  rw [ho, Bool.not_true] at hl
  refine ⟨_, hl, ?_⟩
  rintro v M' ⟨hM, rfl⟩
  subst M'
  show (ev_cmp 0 (bi false) 0 = true → _) ∧ (ev_cmp 0 (bi false) 0 = false → _)
  refine ⟨fun hcc => ?_, fun hcc => ?_⟩
  · show ∃ R, cm_Lc cm_ms 165 [.ref 124, .int 1] (gdM M) R ∧ ∀ v M', R v M' → _
    refine ⟨_, m_noG 1 (gdM M), ?_⟩
    rintro v Mz ⟨hG, rfl⟩
    exact rfl
  · exact absurd hcc (by decide)
theorem m_man_what {a : Bool} {me mo : Nat} {M : cm_M} (hx : MTX a me mo M) {k : Nat} (hk : k < me) (y : Int32) (hy : y.toInt < 0 ∨ 6 < y.toInt) : cm_Lc cm_ms 221 [.ref 124, .int (Int32.ofNat k), .int y] M (fun v _ => v = some (.int (-1))) := by
  refine lb_st0 (mi := mr_221) rfl 400 ?_
  show ∃ R, cm_Lc cm_ms 164 [.ref 124] M R ∧ ∀ v M', R v M' → _
  refine ⟨_, m_goodG M, ?_⟩
  rintro v M' ⟨rfl, rfl⟩
  have hg := MTX_gd hx
  have hme6 := hx.2.2.2.2.2.1
  have hmo5 := hx.2.2.2.2.2.2
  have e127 : (gdM M).1 127 = M.1 127 := funext fun j => gd_n (by omega)
  have e129 : (gdM M).1 129 = M.1 129 := funext fun j => gd_n (by omega)
  show ∃ R, cm_Lc cm_ms 205 [.ref 124, .int (Int32.ofNat k)] (gdM M) R ∧ ∀ v M', R v M' → _
  have hl := m_isMn hg (Int32.ofNat k)
  rw [outB_lt hk (by omega), Bool.not_false] at hl
  refine ⟨_, hl, ?_⟩
  rintro v M' ⟨hM, rfl⟩
  subst M'
  show (ev_cmp 0 (bi true) 0 = true → _) ∧ (ev_cmp 0 (bi true) 0 = false → _)
  refine ⟨fun hcc => ?_, fun hcc => ?_⟩
  · exact absurd hcc (by decide)
  · show ∃ R, cm_Lc cm_ms 167 [.int y, .int 0, .int 6] (gdM M) R ∧ ∀ v M', R v M' → _
    have hi := m_in2 y 0 6 (gdM M)
    rw [show inB y 0 6 = false from by
      unfold inB
      rw [show (0 : Int32).toInt = 0 by decide, show (6 : Int32).toInt = 6 by decide]
      rcases hy with q | q
      · rw [decide_eq_false (show ¬ (0 : Int) ≤ y.toInt by omega), Bool.false_and]
      · rw [decide_eq_false (show ¬ y.toInt ≤ 6 by omega), Bool.and_false]] at hi
    refine ⟨_, hi, ?_⟩
    rintro v M' ⟨hM, rfl⟩
    subst M'
    show (ev_cmp 1 (bi false) 0 = true → _) ∧ (ev_cmp 1 (bi false) 0 = false → _)
    refine ⟨fun hccfc => ?_, fun hccfc => ?_⟩
    · exact absurd hccfc (by decide)
    · show ∃ R, cm_Lc cm_ms 165 [.ref 124, .int 1] (gdM M) R ∧ ∀ v M', R v M' → _
      refine ⟨_, m_noG 1 (gdM M), ?_⟩
      rintro v Mz ⟨hG, rfl⟩
      exact rfl
theorem m_man_0 {a : Bool} {me mo : Nat} {M : cm_M} (hx : MTX a me mo M) {k : Nat} (hk : k < me) (ha : a = true) : cm_Lc cm_ms 221 [.ref 124, .int (Int32.ofNat k), .int 0] M (fun v _ => v = some (.int (M.1 127 (11 + 3 * k)))) := by
  have hme6' := hx.2.2.2.2.2.1
  have hmo5' := hx.2.2.2.2.2.2
  have ek := fn_nat (show k < 2147483648 by omega)
  have e11 : ((11 : Int32) + 3 * Int32.ofNat k).toNatClampNeg = 11 + 3 * k := ixr3 11 (by omega)
  have e13 : ((11 : Int32) + 3 * Int32.ofNat k + 2).toNatClampNeg = 13 + 3 * k := (ixr3n 11 2 (by omega)).trans (by omega)
  have e44 : ((44 : Int32) + Int32.ofNat k).toNatClampNeg = 44 + k := ixn 44 (by omega)
  have e55 : ((55 : Int32) + Int32.ofNat k).toNatClampNeg = 55 + k := ixn 55 (by omega)
  have e50 : ((50 : Int32) + Int32.ofNat k).toNatClampNeg = 50 + k := ixn 50 (by omega)
  have e29 : ∀ w, w < 3 → ((29 : Int32) + 3 * Int32.ofNat k + Int32.ofNat w).toNatClampNeg = 29 + 3 * k + w := fun w hw => ixr3n 29 w (by omega)
  have e29_0 : ((29 : Int32) + 3 * Int32.ofNat k + 0).toNatClampNeg = 29 + 3 * k := e29 0 (by omega)
  have e29_1 : ((29 : Int32) + 3 * Int32.ofNat k + 1).toNatClampNeg = 30 + 3 * k := (e29 1 (by omega)).trans (by omega)
  have e29_2 : ((29 : Int32) + 3 * Int32.ofNat k + 2).toNatClampNeg = 31 + 3 * k := (e29 2 (by omega)).trans (by omega)
  refine lb_st0 (mi := mr_221) rfl 400 ?_
  show ∃ R, cm_Lc cm_ms 164 [.ref 124] M R ∧ ∀ v M', R v M' → _
  refine ⟨_, m_goodG M, ?_⟩
  rintro v M' ⟨rfl, rfl⟩
  have hg := MTX_gd hx
  have hme6 := hx.2.2.2.2.2.1
  have hmo5 := hx.2.2.2.2.2.2
  have e127 : (gdM M).1 127 = M.1 127 := funext fun j => gd_n (by omega)
  have e129 : (gdM M).1 129 = M.1 129 := funext fun j => gd_n (by omega)
  show ∃ R, cm_Lc cm_ms 205 [.ref 124, .int (Int32.ofNat k)] (gdM M) R ∧ ∀ v M', R v M' → _
  have hl := m_isMn hg (Int32.ofNat k)
  rw [outB_lt hk (by omega), Bool.not_false] at hl
  refine ⟨_, hl, ?_⟩
  rintro v M' ⟨hM, rfl⟩
  subst M'
  show (ev_cmp 0 (bi true) 0 = true → _) ∧ (ev_cmp 0 (bi true) 0 = false → _)
  refine ⟨fun hcc => ?_, fun hcc => ?_⟩
  · exact absurd hcc (by decide)
  · show ∃ R, cm_Lc cm_ms 167 [.int 0, .int 0, .int 6] (gdM M) R ∧ ∀ v M', R v M' → _
    have hi := m_in2 0 0 6 (gdM M)
    rw [show inB 0 0 6 = true from by decide] at hi
    refine ⟨_, hi, ?_⟩
    rintro v M' ⟨hM, rfl⟩
    subst M'
    show (ev_cmp 1 (bi true) 0 = true → _) ∧ (ev_cmp 1 (bi true) 0 = false → _)
    refine ⟨fun hccfc => ?_, fun hccfc => ?_⟩
    · show ((0 : Int32).toInt < 0 ∨ 5 < (0 : Int32).toInt → _) ∧ (∀ (j : Nat) (o : Int), ([39, 51, 58, 72, 90, 100] : List Int)[j]? = some o → (0 : Int32).toInt = 0 + (j : Int) → _)
      refine sw_k 0 39 rfl (by decide) (by decide) ?_
      first | refine lb_to (T := (69, [(0, .ref 124), (1, .int (Int32.ofNat k)), (2, .int 0)], [.ref 124], (gdM M))) 69 [0, 1, 2] rfl rfl rfl (fun J' h => h) (lb_g0 rfl rfl (by first | exact hx.2.1.1 | (rw [hnt.1]; exact hx.2.1.1) | (rw [hs.1, hnt.1]; exact hx.2.1.1)) ?_) | refine lb_to0 (T := (69, [(0, .ref 124), (1, .int (Int32.ofNat k)), (2, .int 0)], [.ref 124], (gdM M))) 69 [0, 1, 2] rfl rfl rfl (fun J' h => h) (lb_g0 rfl rfl (by first | exact hx.2.1.1 | (rw [hnt.1]; exact hx.2.1.1) | (rw [hs.1, hnt.1]; exact hx.2.1.1)) ?_)
      show some (Value.int ((gdM M).1 127 (11 + 3 * Int32.ofNat k).toNatClampNeg)) = some (Value.int (M.1 127 (11 + 3 * k)))
      rw [e11, e127]
    · exact absurd hccfc (by decide)
theorem m_man_1 {a : Bool} {me mo : Nat} {M : cm_M} (hx : MTX a me mo M) {k : Nat} (hk : k < me) (ha : a = true) : cm_Lc cm_ms 221 [.ref 124, .int (Int32.ofNat k), .int 1] M (fun v _ => v = some (.int (M.1 129 k))) := by
  have hme6' := hx.2.2.2.2.2.1
  have hmo5' := hx.2.2.2.2.2.2
  have ek := fn_nat (show k < 2147483648 by omega)
  have e11 : ((11 : Int32) + 3 * Int32.ofNat k).toNatClampNeg = 11 + 3 * k := ixr3 11 (by omega)
  have e13 : ((11 : Int32) + 3 * Int32.ofNat k + 2).toNatClampNeg = 13 + 3 * k := (ixr3n 11 2 (by omega)).trans (by omega)
  have e44 : ((44 : Int32) + Int32.ofNat k).toNatClampNeg = 44 + k := ixn 44 (by omega)
  have e55 : ((55 : Int32) + Int32.ofNat k).toNatClampNeg = 55 + k := ixn 55 (by omega)
  have e50 : ((50 : Int32) + Int32.ofNat k).toNatClampNeg = 50 + k := ixn 50 (by omega)
  have e29 : ∀ w, w < 3 → ((29 : Int32) + 3 * Int32.ofNat k + Int32.ofNat w).toNatClampNeg = 29 + 3 * k + w := fun w hw => ixr3n 29 w (by omega)
  have e29_0 : ((29 : Int32) + 3 * Int32.ofNat k + 0).toNatClampNeg = 29 + 3 * k := e29 0 (by omega)
  have e29_1 : ((29 : Int32) + 3 * Int32.ofNat k + 1).toNatClampNeg = 30 + 3 * k := (e29 1 (by omega)).trans (by omega)
  have e29_2 : ((29 : Int32) + 3 * Int32.ofNat k + 2).toNatClampNeg = 31 + 3 * k := (e29 2 (by omega)).trans (by omega)
  refine lb_st0 (mi := mr_221) rfl 400 ?_
  show ∃ R, cm_Lc cm_ms 164 [.ref 124] M R ∧ ∀ v M', R v M' → _
  refine ⟨_, m_goodG M, ?_⟩
  rintro v M' ⟨rfl, rfl⟩
  have hg := MTX_gd hx
  have hme6 := hx.2.2.2.2.2.1
  have hmo5 := hx.2.2.2.2.2.2
  have e127 : (gdM M).1 127 = M.1 127 := funext fun j => gd_n (by omega)
  have e129 : (gdM M).1 129 = M.1 129 := funext fun j => gd_n (by omega)
  show ∃ R, cm_Lc cm_ms 205 [.ref 124, .int (Int32.ofNat k)] (gdM M) R ∧ ∀ v M', R v M' → _
  have hl := m_isMn hg (Int32.ofNat k)
  rw [outB_lt hk (by omega), Bool.not_false] at hl
  refine ⟨_, hl, ?_⟩
  rintro v M' ⟨hM, rfl⟩
  subst M'
  show (ev_cmp 0 (bi true) 0 = true → _) ∧ (ev_cmp 0 (bi true) 0 = false → _)
  refine ⟨fun hcc => ?_, fun hcc => ?_⟩
  · exact absurd hcc (by decide)
  · show ∃ R, cm_Lc cm_ms 167 [.int 1, .int 0, .int 6] (gdM M) R ∧ ∀ v M', R v M' → _
    have hi := m_in2 1 0 6 (gdM M)
    rw [show inB 1 0 6 = true from by decide] at hi
    refine ⟨_, hi, ?_⟩
    rintro v M' ⟨hM, rfl⟩
    subst M'
    show (ev_cmp 1 (bi true) 0 = true → _) ∧ (ev_cmp 1 (bi true) 0 = false → _)
    refine ⟨fun hccfc => ?_, fun hccfc => ?_⟩
    · show ((1 : Int32).toInt < 0 ∨ 5 < (1 : Int32).toInt → _) ∧ (∀ (j : Nat) (o : Int), ([39, 51, 58, 72, 90, 100] : List Int)[j]? = some o → (1 : Int32).toInt = 0 + (j : Int) → _)
      refine sw_k 1 51 rfl (by decide) (by decide) ?_
      first | refine lb_to (T := (81, [(0, .ref 124), (1, .int (Int32.ofNat k)), (2, .int 1)], [.ref 124], (gdM M))) 81 [0, 1, 2] rfl rfl rfl (fun J' h => h) (lb_g0 rfl rfl (by first | exact hx.2.1.2.1 | (rw [hnt.1]; exact hx.2.1.2.1) | (rw [hs.1, hnt.1]; exact hx.2.1.2.1)) ?_) | refine lb_to0 (T := (81, [(0, .ref 124), (1, .int (Int32.ofNat k)), (2, .int 1)], [.ref 124], (gdM M))) 81 [0, 1, 2] rfl rfl rfl (fun J' h => h) (lb_g0 rfl rfl (by first | exact hx.2.1.2.1 | (rw [hnt.1]; exact hx.2.1.2.1) | (rw [hs.1, hnt.1]; exact hx.2.1.2.1)) ?_)
      show some (Value.int ((gdM M).1 129 (Int32.ofNat k).toNatClampNeg)) = some (Value.int (M.1 129 k))
      rw [ek, e129]
    · exact absurd hccfc (by decide)
theorem m_man_2 {a : Bool} {me mo : Nat} {M : cm_M} (hx : MTX a me mo M) {k : Nat} (hk : k < me) (ha : a = true) : cm_Lc cm_ms 221 [.ref 124, .int (Int32.ofNat k), .int 2] M (fun v _ => v = some (.int (M.1 127 (13 + 3 * k)))) := by
  have hme6' := hx.2.2.2.2.2.1
  have hmo5' := hx.2.2.2.2.2.2
  have ek := fn_nat (show k < 2147483648 by omega)
  have e11 : ((11 : Int32) + 3 * Int32.ofNat k).toNatClampNeg = 11 + 3 * k := ixr3 11 (by omega)
  have e13 : ((11 : Int32) + 3 * Int32.ofNat k + 2).toNatClampNeg = 13 + 3 * k := (ixr3n 11 2 (by omega)).trans (by omega)
  have e44 : ((44 : Int32) + Int32.ofNat k).toNatClampNeg = 44 + k := ixn 44 (by omega)
  have e55 : ((55 : Int32) + Int32.ofNat k).toNatClampNeg = 55 + k := ixn 55 (by omega)
  have e50 : ((50 : Int32) + Int32.ofNat k).toNatClampNeg = 50 + k := ixn 50 (by omega)
  have e29 : ∀ w, w < 3 → ((29 : Int32) + 3 * Int32.ofNat k + Int32.ofNat w).toNatClampNeg = 29 + 3 * k + w := fun w hw => ixr3n 29 w (by omega)
  have e29_0 : ((29 : Int32) + 3 * Int32.ofNat k + 0).toNatClampNeg = 29 + 3 * k := e29 0 (by omega)
  have e29_1 : ((29 : Int32) + 3 * Int32.ofNat k + 1).toNatClampNeg = 30 + 3 * k := (e29 1 (by omega)).trans (by omega)
  have e29_2 : ((29 : Int32) + 3 * Int32.ofNat k + 2).toNatClampNeg = 31 + 3 * k := (e29 2 (by omega)).trans (by omega)
  refine lb_st0 (mi := mr_221) rfl 400 ?_
  show ∃ R, cm_Lc cm_ms 164 [.ref 124] M R ∧ ∀ v M', R v M' → _
  refine ⟨_, m_goodG M, ?_⟩
  rintro v M' ⟨rfl, rfl⟩
  have hg := MTX_gd hx
  have hme6 := hx.2.2.2.2.2.1
  have hmo5 := hx.2.2.2.2.2.2
  have e127 : (gdM M).1 127 = M.1 127 := funext fun j => gd_n (by omega)
  have e129 : (gdM M).1 129 = M.1 129 := funext fun j => gd_n (by omega)
  show ∃ R, cm_Lc cm_ms 205 [.ref 124, .int (Int32.ofNat k)] (gdM M) R ∧ ∀ v M', R v M' → _
  have hl := m_isMn hg (Int32.ofNat k)
  rw [outB_lt hk (by omega), Bool.not_false] at hl
  refine ⟨_, hl, ?_⟩
  rintro v M' ⟨hM, rfl⟩
  subst M'
  show (ev_cmp 0 (bi true) 0 = true → _) ∧ (ev_cmp 0 (bi true) 0 = false → _)
  refine ⟨fun hcc => ?_, fun hcc => ?_⟩
  · exact absurd hcc (by decide)
  · show ∃ R, cm_Lc cm_ms 167 [.int 2, .int 0, .int 6] (gdM M) R ∧ ∀ v M', R v M' → _
    have hi := m_in2 2 0 6 (gdM M)
    rw [show inB 2 0 6 = true from by decide] at hi
    refine ⟨_, hi, ?_⟩
    rintro v M' ⟨hM, rfl⟩
    subst M'
    show (ev_cmp 1 (bi true) 0 = true → _) ∧ (ev_cmp 1 (bi true) 0 = false → _)
    refine ⟨fun hccfc => ?_, fun hccfc => ?_⟩
    · show ((2 : Int32).toInt < 0 ∨ 5 < (2 : Int32).toInt → _) ∧ (∀ (j : Nat) (o : Int), ([39, 51, 58, 72, 90, 100] : List Int)[j]? = some o → (2 : Int32).toInt = 0 + (j : Int) → _)
      refine sw_k 2 58 rfl (by decide) (by decide) ?_
      first | refine lb_to (T := (88, [(0, .ref 124), (1, .int (Int32.ofNat k)), (2, .int 2)], [.ref 124], (gdM M))) 88 [0, 1, 2] rfl rfl rfl (fun J' h => h) (lb_g0 rfl rfl (by first | exact hx.2.1.1 | (rw [hnt.1]; exact hx.2.1.1) | (rw [hs.1, hnt.1]; exact hx.2.1.1)) ?_) | refine lb_to0 (T := (88, [(0, .ref 124), (1, .int (Int32.ofNat k)), (2, .int 2)], [.ref 124], (gdM M))) 88 [0, 1, 2] rfl rfl rfl (fun J' h => h) (lb_g0 rfl rfl (by first | exact hx.2.1.1 | (rw [hnt.1]; exact hx.2.1.1) | (rw [hs.1, hnt.1]; exact hx.2.1.1)) ?_)
      show some (Value.int ((gdM M).1 127 (11 + 3 * Int32.ofNat k + 2).toNatClampNeg)) = some (Value.int (M.1 127 (13 + 3 * k)))
      rw [e13, e127]
    · exact absurd hccfc (by decide)
theorem m_man_3 {a : Bool} {me mo : Nat} {M : cm_M} (hx : MTX a me mo M) {k : Nat} (hk : k < me) (ha : a = true) : cm_Lc cm_ms 221 [.ref 124, .int (Int32.ofNat k), .int 3] M (fun v _ => v = some (.int (bi (bdB (M.1 127 1) (M.1 129 k))))) := by
  have hme6' := hx.2.2.2.2.2.1
  have hmo5' := hx.2.2.2.2.2.2
  have ek := fn_nat (show k < 2147483648 by omega)
  have e11 : ((11 : Int32) + 3 * Int32.ofNat k).toNatClampNeg = 11 + 3 * k := ixr3 11 (by omega)
  have e13 : ((11 : Int32) + 3 * Int32.ofNat k + 2).toNatClampNeg = 13 + 3 * k := (ixr3n 11 2 (by omega)).trans (by omega)
  have e44 : ((44 : Int32) + Int32.ofNat k).toNatClampNeg = 44 + k := ixn 44 (by omega)
  have e55 : ((55 : Int32) + Int32.ofNat k).toNatClampNeg = 55 + k := ixn 55 (by omega)
  have e50 : ((50 : Int32) + Int32.ofNat k).toNatClampNeg = 50 + k := ixn 50 (by omega)
  have e29 : ∀ w, w < 3 → ((29 : Int32) + 3 * Int32.ofNat k + Int32.ofNat w).toNatClampNeg = 29 + 3 * k + w := fun w hw => ixr3n 29 w (by omega)
  have e29_0 : ((29 : Int32) + 3 * Int32.ofNat k + 0).toNatClampNeg = 29 + 3 * k := e29 0 (by omega)
  have e29_1 : ((29 : Int32) + 3 * Int32.ofNat k + 1).toNatClampNeg = 30 + 3 * k := (e29 1 (by omega)).trans (by omega)
  have e29_2 : ((29 : Int32) + 3 * Int32.ofNat k + 2).toNatClampNeg = 31 + 3 * k := (e29 2 (by omega)).trans (by omega)
  refine lb_st0 (mi := mr_221) rfl 400 ?_
  show ∃ R, cm_Lc cm_ms 164 [.ref 124] M R ∧ ∀ v M', R v M' → _
  refine ⟨_, m_goodG M, ?_⟩
  rintro v M' ⟨rfl, rfl⟩
  have hg := MTX_gd hx
  have hme6 := hx.2.2.2.2.2.1
  have hmo5 := hx.2.2.2.2.2.2
  have e127 : (gdM M).1 127 = M.1 127 := funext fun j => gd_n (by omega)
  have e129 : (gdM M).1 129 = M.1 129 := funext fun j => gd_n (by omega)
  show ∃ R, cm_Lc cm_ms 205 [.ref 124, .int (Int32.ofNat k)] (gdM M) R ∧ ∀ v M', R v M' → _
  have hl := m_isMn hg (Int32.ofNat k)
  rw [outB_lt hk (by omega), Bool.not_false] at hl
  refine ⟨_, hl, ?_⟩
  rintro v M' ⟨hM, rfl⟩
  subst M'
  show (ev_cmp 0 (bi true) 0 = true → _) ∧ (ev_cmp 0 (bi true) 0 = false → _)
  refine ⟨fun hcc => ?_, fun hcc => ?_⟩
  · exact absurd hcc (by decide)
  · show ∃ R, cm_Lc cm_ms 167 [.int 3, .int 0, .int 6] (gdM M) R ∧ ∀ v M', R v M' → _
    have hi := m_in2 3 0 6 (gdM M)
    rw [show inB 3 0 6 = true from by decide] at hi
    refine ⟨_, hi, ?_⟩
    rintro v M' ⟨hM, rfl⟩
    subst M'
    show (ev_cmp 1 (bi true) 0 = true → _) ∧ (ev_cmp 1 (bi true) 0 = false → _)
    refine ⟨fun hccfc => ?_, fun hccfc => ?_⟩
    · show ((3 : Int32).toInt < 0 ∨ 5 < (3 : Int32).toInt → _) ∧ (∀ (j : Nat) (o : Int), ([39, 51, 58, 72, 90, 100] : List Int)[j]? = some o → (3 : Int32).toInt = 0 + (j : Int) → _)
      refine sw_k 3 72 rfl (by decide) (by decide) ?_
      first | refine lb_to (T := (103, [(0, .ref 124), (1, .int (Int32.ofNat k)), (2, .int 3)], [.ref 124, .ref 124], (gdM M))) 103 [0, 1, 2] rfl rfl rfl (fun J' h => h) (lb_g0 rfl rfl (by first | exact hx.2.1.2.1 | (rw [hnt.1]; exact hx.2.1.2.1) | (rw [hs.1, hnt.1]; exact hx.2.1.2.1)) ?_) | refine lb_to0 (T := (103, [(0, .ref 124), (1, .int (Int32.ofNat k)), (2, .int 3)], [.ref 124, .ref 124], (gdM M))) 103 [0, 1, 2] rfl rfl rfl (fun J' h => h) (lb_g0 rfl rfl (by first | exact hx.2.1.2.1 | (rw [hnt.1]; exact hx.2.1.2.1) | (rw [hs.1, hnt.1]; exact hx.2.1.2.1)) ?_)
      show ∃ R, cm_Lc cm_ms 209 [.ref 124, .ref 129, .int (Int32.ofNat k)] (gdM M) R ∧ ∀ v M', R v M' → _
      have hw := m_isBaldR (M := gdM M) (d := 129) hx.2.1.1 (Int32.ofNat k)
      rw [e127, e129, ek] at hw
      refine ⟨_, hw, ?_⟩
      rintro v M' ⟨hM, rfl⟩
      subst M'
      show (ev_cmp 0 (bi (bdB (M.1 127 1) (M.1 129 k))) 0 = true → _) ∧ (ev_cmp 0 (bi (bdB (M.1 127 1) (M.1 129 k))) 0 = false → _)
      refine ⟨fun hccfctc => ?_, fun hccfctc => ?_⟩
      · show some (Value.int 0) = some (Value.int (bi (bdB (M.1 127 1) (M.1 129 k))))
        rw [bi_0 hccfctc]
        rfl
      · show some (Value.int 1) = some (Value.int (bi (bdB (M.1 127 1) (M.1 129 k))))
        rw [bi_1 hccfctc]
        rfl
    · exact absurd hccfc (by decide)
theorem m_man_4 {a : Bool} {me mo : Nat} {M : cm_M} (hx : MTX a me mo M) {k : Nat} (hk : k < me) (ha : a = true) : cm_Lc cm_ms 221 [.ref 124, .int (Int32.ofNat k), .int 4] M (fun v _ => v = some (.int (M.1 127 (44 + k)))) := by
  have hme6' := hx.2.2.2.2.2.1
  have hmo5' := hx.2.2.2.2.2.2
  have ek := fn_nat (show k < 2147483648 by omega)
  have e11 : ((11 : Int32) + 3 * Int32.ofNat k).toNatClampNeg = 11 + 3 * k := ixr3 11 (by omega)
  have e13 : ((11 : Int32) + 3 * Int32.ofNat k + 2).toNatClampNeg = 13 + 3 * k := (ixr3n 11 2 (by omega)).trans (by omega)
  have e44 : ((44 : Int32) + Int32.ofNat k).toNatClampNeg = 44 + k := ixn 44 (by omega)
  have e55 : ((55 : Int32) + Int32.ofNat k).toNatClampNeg = 55 + k := ixn 55 (by omega)
  have e50 : ((50 : Int32) + Int32.ofNat k).toNatClampNeg = 50 + k := ixn 50 (by omega)
  have e29 : ∀ w, w < 3 → ((29 : Int32) + 3 * Int32.ofNat k + Int32.ofNat w).toNatClampNeg = 29 + 3 * k + w := fun w hw => ixr3n 29 w (by omega)
  have e29_0 : ((29 : Int32) + 3 * Int32.ofNat k + 0).toNatClampNeg = 29 + 3 * k := e29 0 (by omega)
  have e29_1 : ((29 : Int32) + 3 * Int32.ofNat k + 1).toNatClampNeg = 30 + 3 * k := (e29 1 (by omega)).trans (by omega)
  have e29_2 : ((29 : Int32) + 3 * Int32.ofNat k + 2).toNatClampNeg = 31 + 3 * k := (e29 2 (by omega)).trans (by omega)
  refine lb_st0 (mi := mr_221) rfl 400 ?_
  show ∃ R, cm_Lc cm_ms 164 [.ref 124] M R ∧ ∀ v M', R v M' → _
  refine ⟨_, m_goodG M, ?_⟩
  rintro v M' ⟨rfl, rfl⟩
  have hg := MTX_gd hx
  have hme6 := hx.2.2.2.2.2.1
  have hmo5 := hx.2.2.2.2.2.2
  have e127 : (gdM M).1 127 = M.1 127 := funext fun j => gd_n (by omega)
  have e129 : (gdM M).1 129 = M.1 129 := funext fun j => gd_n (by omega)
  show ∃ R, cm_Lc cm_ms 205 [.ref 124, .int (Int32.ofNat k)] (gdM M) R ∧ ∀ v M', R v M' → _
  have hl := m_isMn hg (Int32.ofNat k)
  rw [outB_lt hk (by omega), Bool.not_false] at hl
  refine ⟨_, hl, ?_⟩
  rintro v M' ⟨hM, rfl⟩
  subst M'
  show (ev_cmp 0 (bi true) 0 = true → _) ∧ (ev_cmp 0 (bi true) 0 = false → _)
  refine ⟨fun hcc => ?_, fun hcc => ?_⟩
  · exact absurd hcc (by decide)
  · show ∃ R, cm_Lc cm_ms 167 [.int 4, .int 0, .int 6] (gdM M) R ∧ ∀ v M', R v M' → _
    have hi := m_in2 4 0 6 (gdM M)
    rw [show inB 4 0 6 = true from by decide] at hi
    refine ⟨_, hi, ?_⟩
    rintro v M' ⟨hM, rfl⟩
    subst M'
    show (ev_cmp 1 (bi true) 0 = true → _) ∧ (ev_cmp 1 (bi true) 0 = false → _)
    refine ⟨fun hccfc => ?_, fun hccfc => ?_⟩
    · show ((4 : Int32).toInt < 0 ∨ 5 < (4 : Int32).toInt → _) ∧ (∀ (j : Nat) (o : Int), ([39, 51, 58, 72, 90, 100] : List Int)[j]? = some o → (4 : Int32).toInt = 0 + (j : Int) → _)
      refine sw_k 4 90 rfl (by decide) (by decide) ?_
      first | refine lb_to (T := (120, [(0, .ref 124), (1, .int (Int32.ofNat k)), (2, .int 4)], [.ref 124], (gdM M))) 120 [0, 1, 2] rfl rfl rfl (fun J' h => h) (lb_g0 rfl rfl (by first | exact hx.2.1.1 | (rw [hnt.1]; exact hx.2.1.1) | (rw [hs.1, hnt.1]; exact hx.2.1.1)) ?_) | refine lb_to0 (T := (120, [(0, .ref 124), (1, .int (Int32.ofNat k)), (2, .int 4)], [.ref 124], (gdM M))) 120 [0, 1, 2] rfl rfl rfl (fun J' h => h) (lb_g0 rfl rfl (by first | exact hx.2.1.1 | (rw [hnt.1]; exact hx.2.1.1) | (rw [hs.1, hnt.1]; exact hx.2.1.1)) ?_)
      show some (Value.int ((gdM M).1 127 (44 + Int32.ofNat k).toNatClampNeg)) = some (Value.int (M.1 127 (44 + k)))
      rw [e44, e127]
    · exact absurd hccfc (by decide)
theorem m_man_5 {a : Bool} {me mo : Nat} {M : cm_M} (hx : MTX a me mo M) {k : Nat} (hk : k < me) (ha : a = true) : cm_Lc cm_ms 221 [.ref 124, .int (Int32.ofNat k), .int 5] M (fun v _ => v = some (.int (M.1 127 (55 + k)))) := by
  have hme6' := hx.2.2.2.2.2.1
  have hmo5' := hx.2.2.2.2.2.2
  have ek := fn_nat (show k < 2147483648 by omega)
  have e11 : ((11 : Int32) + 3 * Int32.ofNat k).toNatClampNeg = 11 + 3 * k := ixr3 11 (by omega)
  have e13 : ((11 : Int32) + 3 * Int32.ofNat k + 2).toNatClampNeg = 13 + 3 * k := (ixr3n 11 2 (by omega)).trans (by omega)
  have e44 : ((44 : Int32) + Int32.ofNat k).toNatClampNeg = 44 + k := ixn 44 (by omega)
  have e55 : ((55 : Int32) + Int32.ofNat k).toNatClampNeg = 55 + k := ixn 55 (by omega)
  have e50 : ((50 : Int32) + Int32.ofNat k).toNatClampNeg = 50 + k := ixn 50 (by omega)
  have e29 : ∀ w, w < 3 → ((29 : Int32) + 3 * Int32.ofNat k + Int32.ofNat w).toNatClampNeg = 29 + 3 * k + w := fun w hw => ixr3n 29 w (by omega)
  have e29_0 : ((29 : Int32) + 3 * Int32.ofNat k + 0).toNatClampNeg = 29 + 3 * k := e29 0 (by omega)
  have e29_1 : ((29 : Int32) + 3 * Int32.ofNat k + 1).toNatClampNeg = 30 + 3 * k := (e29 1 (by omega)).trans (by omega)
  have e29_2 : ((29 : Int32) + 3 * Int32.ofNat k + 2).toNatClampNeg = 31 + 3 * k := (e29 2 (by omega)).trans (by omega)
  refine lb_st0 (mi := mr_221) rfl 400 ?_
  show ∃ R, cm_Lc cm_ms 164 [.ref 124] M R ∧ ∀ v M', R v M' → _
  refine ⟨_, m_goodG M, ?_⟩
  rintro v M' ⟨rfl, rfl⟩
  have hg := MTX_gd hx
  have hme6 := hx.2.2.2.2.2.1
  have hmo5 := hx.2.2.2.2.2.2
  have e127 : (gdM M).1 127 = M.1 127 := funext fun j => gd_n (by omega)
  have e129 : (gdM M).1 129 = M.1 129 := funext fun j => gd_n (by omega)
  show ∃ R, cm_Lc cm_ms 205 [.ref 124, .int (Int32.ofNat k)] (gdM M) R ∧ ∀ v M', R v M' → _
  have hl := m_isMn hg (Int32.ofNat k)
  rw [outB_lt hk (by omega), Bool.not_false] at hl
  refine ⟨_, hl, ?_⟩
  rintro v M' ⟨hM, rfl⟩
  subst M'
  show (ev_cmp 0 (bi true) 0 = true → _) ∧ (ev_cmp 0 (bi true) 0 = false → _)
  refine ⟨fun hcc => ?_, fun hcc => ?_⟩
  · exact absurd hcc (by decide)
  · show ∃ R, cm_Lc cm_ms 167 [.int 5, .int 0, .int 6] (gdM M) R ∧ ∀ v M', R v M' → _
    have hi := m_in2 5 0 6 (gdM M)
    rw [show inB 5 0 6 = true from by decide] at hi
    refine ⟨_, hi, ?_⟩
    rintro v M' ⟨hM, rfl⟩
    subst M'
    show (ev_cmp 1 (bi true) 0 = true → _) ∧ (ev_cmp 1 (bi true) 0 = false → _)
    refine ⟨fun hccfc => ?_, fun hccfc => ?_⟩
    · show ((5 : Int32).toInt < 0 ∨ 5 < (5 : Int32).toInt → _) ∧ (∀ (j : Nat) (o : Int), ([39, 51, 58, 72, 90, 100] : List Int)[j]? = some o → (5 : Int32).toInt = 0 + (j : Int) → _)
      refine sw_k 5 100 rfl (by decide) (by decide) ?_
      first | refine lb_to (T := (130, [(0, .ref 124), (1, .int (Int32.ofNat k)), (2, .int 5)], [.ref 124], (gdM M))) 130 [0, 1, 2] rfl rfl rfl (fun J' h => h) (lb_g0 rfl rfl (by first | exact hx.2.1.1 | (rw [hnt.1]; exact hx.2.1.1) | (rw [hs.1, hnt.1]; exact hx.2.1.1)) ?_) | refine lb_to0 (T := (130, [(0, .ref 124), (1, .int (Int32.ofNat k)), (2, .int 5)], [.ref 124], (gdM M))) 130 [0, 1, 2] rfl rfl rfl (fun J' h => h) (lb_g0 rfl rfl (by first | exact hx.2.1.1 | (rw [hnt.1]; exact hx.2.1.1) | (rw [hs.1, hnt.1]; exact hx.2.1.1)) ?_)
      show some (Value.int ((gdM M).1 127 (55 + Int32.ofNat k).toNatClampNeg)) = some (Value.int (M.1 127 (55 + k)))
      rw [e55, e127]
    · exact absurd hccfc (by decide)
theorem m_man_6 {a : Bool} {me mo : Nat} {M : cm_M} (hx : MTX a me mo M) {k : Nat} (hk : k < me) (ha : a = true) : cm_Lc cm_ms 221 [.ref 124, .int (Int32.ofNat k), .int 6] M (fun v _ => v = some (.int (orF (fun m => syB (M.1 127 1) (M.1 127 (29 + 3 * m)) (M.1 127 (44 + k)) (M.1 129 k) m) mo))) := by
  have hme6' := hx.2.2.2.2.2.1
  have hmo5' := hx.2.2.2.2.2.2
  have ek := fn_nat (show k < 2147483648 by omega)
  have e11 : ((11 : Int32) + 3 * Int32.ofNat k).toNatClampNeg = 11 + 3 * k := ixr3 11 (by omega)
  have e13 : ((11 : Int32) + 3 * Int32.ofNat k + 2).toNatClampNeg = 13 + 3 * k := (ixr3n 11 2 (by omega)).trans (by omega)
  have e44 : ((44 : Int32) + Int32.ofNat k).toNatClampNeg = 44 + k := ixn 44 (by omega)
  have e55 : ((55 : Int32) + Int32.ofNat k).toNatClampNeg = 55 + k := ixn 55 (by omega)
  have e50 : ((50 : Int32) + Int32.ofNat k).toNatClampNeg = 50 + k := ixn 50 (by omega)
  have e29 : ∀ w, w < 3 → ((29 : Int32) + 3 * Int32.ofNat k + Int32.ofNat w).toNatClampNeg = 29 + 3 * k + w := fun w hw => ixr3n 29 w (by omega)
  have e29_0 : ((29 : Int32) + 3 * Int32.ofNat k + 0).toNatClampNeg = 29 + 3 * k := e29 0 (by omega)
  have e29_1 : ((29 : Int32) + 3 * Int32.ofNat k + 1).toNatClampNeg = 30 + 3 * k := (e29 1 (by omega)).trans (by omega)
  have e29_2 : ((29 : Int32) + 3 * Int32.ofNat k + 2).toNatClampNeg = 31 + 3 * k := (e29 2 (by omega)).trans (by omega)
  refine lb_st0 (mi := mr_221) rfl 400 ?_
  show ∃ R, cm_Lc cm_ms 164 [.ref 124] M R ∧ ∀ v M', R v M' → _
  refine ⟨_, m_goodG M, ?_⟩
  rintro v M' ⟨rfl, rfl⟩
  have hg := MTX_gd hx
  have hme6 := hx.2.2.2.2.2.1
  have hmo5 := hx.2.2.2.2.2.2
  have e127 : (gdM M).1 127 = M.1 127 := funext fun j => gd_n (by omega)
  have e129 : (gdM M).1 129 = M.1 129 := funext fun j => gd_n (by omega)
  show ∃ R, cm_Lc cm_ms 205 [.ref 124, .int (Int32.ofNat k)] (gdM M) R ∧ ∀ v M', R v M' → _
  have hl := m_isMn hg (Int32.ofNat k)
  rw [outB_lt hk (by omega), Bool.not_false] at hl
  refine ⟨_, hl, ?_⟩
  rintro v M' ⟨hM, rfl⟩
  subst M'
  show (ev_cmp 0 (bi true) 0 = true → _) ∧ (ev_cmp 0 (bi true) 0 = false → _)
  refine ⟨fun hcc => ?_, fun hcc => ?_⟩
  · exact absurd hcc (by decide)
  · show ∃ R, cm_Lc cm_ms 167 [.int 6, .int 0, .int 6] (gdM M) R ∧ ∀ v M', R v M' → _
    have hi := m_in2 6 0 6 (gdM M)
    rw [show inB 6 0 6 = true from by decide] at hi
    refine ⟨_, hi, ?_⟩
    rintro v M' ⟨hM, rfl⟩
    subst M'
    show (ev_cmp 1 (bi true) 0 = true → _) ∧ (ev_cmp 1 (bi true) 0 = false → _)
    refine ⟨fun hccfc => ?_, fun hccfc => ?_⟩
    · show ((6 : Int32).toInt < 0 ∨ 5 < (6 : Int32).toInt → _) ∧ (∀ (j : Nat) (o : Int), ([39, 51, 58, 72, 90, 100] : List Int)[j]? = some o → (6 : Int32).toInt = 0 + (j : Int) → _)
      refine sw_d (by decide) (by decide) ?_
      show ∃ R, cm_Lc cm_ms 222 [.ref 124, .int (Int32.ofNat k)] (gdM M) R ∧ ∀ v M', R v M' → _
      have hw := m_saidBy (M := gdM M) (mo := mo) (w := k) hx.2.1.1 hx.2.1.2.1 (by rw [e127]; exact (hx.2.2.1 ha).2) hmo5 (by omega)
      rw [e127, e129] at hw
      refine ⟨_, hw, ?_⟩
      rintro v M' ⟨hM, rfl⟩
      subst M'
      exact rfl
    · exact absurd hccfc (by decide)
theorem m_motion_out {a : Bool} {me mo : Nat} {M : cm_M} (hx : MTX a me mo M) (x y : Int32) (ho : outB x (Int32.ofNat mo) = true) : cm_Lc cm_ms 223 [.ref 124, .int x, .int y] M (fun v _ => v = some (.int (-1))) := by
  refine lb_st0 (mi := mr_223) rfl 400 ?_
  show ∃ R, cm_Lc cm_ms 164 [.ref 124] M R ∧ ∀ v M', R v M' → _
  refine ⟨_, m_goodG M, ?_⟩
  rintro v M' ⟨rfl, rfl⟩
  have hg := MTX_gd hx
  show ∃ R, cm_Lc cm_ms 206 [.ref 124, .int x] (gdM M) R ∧ ∀ v M', R v M' → _
  have hl := m_isMot hg x
  rw [ho, Bool.not_true] at hl
  refine ⟨_, hl, ?_⟩
  rintro v M' ⟨hM, rfl⟩
  subst M'
  show (ev_cmp 0 (bi false) 0 = true → _) ∧ (ev_cmp 0 (bi false) 0 = false → _)
  refine ⟨fun hcc => ?_, fun hcc => ?_⟩
  · show ∃ R, cm_Lc cm_ms 165 [.ref 124, .int 1] (gdM M) R ∧ ∀ v M', R v M' → _
    refine ⟨_, m_noG 1 (gdM M), ?_⟩
    rintro v Mz ⟨hG, rfl⟩
    exact rfl
  · exact absurd hcc (by decide)
theorem m_motion_what {a : Bool} {me mo : Nat} {M : cm_M} (hx : MTX a me mo M) {k : Nat} (hk : k < mo) (y : Int32) (hy : y.toInt < 0 ∨ 7 < y.toInt) : cm_Lc cm_ms 223 [.ref 124, .int (Int32.ofNat k), .int y] M (fun v _ => v = some (.int (-1))) := by
  refine lb_st0 (mi := mr_223) rfl 400 ?_
  show ∃ R, cm_Lc cm_ms 164 [.ref 124] M R ∧ ∀ v M', R v M' → _
  refine ⟨_, m_goodG M, ?_⟩
  rintro v M' ⟨rfl, rfl⟩
  have hg := MTX_gd hx
  have hme6 := hx.2.2.2.2.2.1
  have hmo5 := hx.2.2.2.2.2.2
  have e127 : (gdM M).1 127 = M.1 127 := funext fun j => gd_n (by omega)
  have e129 : (gdM M).1 129 = M.1 129 := funext fun j => gd_n (by omega)
  show ∃ R, cm_Lc cm_ms 206 [.ref 124, .int (Int32.ofNat k)] (gdM M) R ∧ ∀ v M', R v M' → _
  have hl := m_isMot hg (Int32.ofNat k)
  rw [outB_lt hk (by omega), Bool.not_false] at hl
  refine ⟨_, hl, ?_⟩
  rintro v M' ⟨hM, rfl⟩
  subst M'
  show (ev_cmp 0 (bi true) 0 = true → _) ∧ (ev_cmp 0 (bi true) 0 = false → _)
  refine ⟨fun hcc => ?_, fun hcc => ?_⟩
  · exact absurd hcc (by decide)
  · show ∃ R, cm_Lc cm_ms 167 [.int y, .int 0, .int 7] (gdM M) R ∧ ∀ v M', R v M' → _
    have hi := m_in2 y 0 7 (gdM M)
    rw [show inB y 0 7 = false from by
      unfold inB
      rw [show (0 : Int32).toInt = 0 by decide, show (7 : Int32).toInt = 7 by decide]
      rcases hy with q | q
      · rw [decide_eq_false (show ¬ (0 : Int) ≤ y.toInt by omega), Bool.false_and]
      · rw [decide_eq_false (show ¬ y.toInt ≤ 7 by omega), Bool.and_false]] at hi
    refine ⟨_, hi, ?_⟩
    rintro v M' ⟨hM, rfl⟩
    subst M'
    show (ev_cmp 1 (bi false) 0 = true → _) ∧ (ev_cmp 1 (bi false) 0 = false → _)
    refine ⟨fun hccfc => ?_, fun hccfc => ?_⟩
    · exact absurd hccfc (by decide)
    · show ∃ R, cm_Lc cm_ms 165 [.ref 124, .int 1] (gdM M) R ∧ ∀ v M', R v M' → _
      refine ⟨_, m_noG 1 (gdM M), ?_⟩
      rintro v Mz ⟨hG, rfl⟩
      exact rfl
theorem m_motion_0 {a : Bool} {me mo : Nat} {M : cm_M} (hx : MTX a me mo M) {k : Nat} (hk : k < mo) (ha : a = true) : cm_Lc cm_ms 223 [.ref 124, .int (Int32.ofNat k), .int 0] M (fun v _ => v = some (.int (M.1 127 (29 + 3 * k)))) := by
  have hme6' := hx.2.2.2.2.2.1
  have hmo5' := hx.2.2.2.2.2.2
  have ek := fn_nat (show k < 2147483648 by omega)
  have e11 : ((11 : Int32) + 3 * Int32.ofNat k).toNatClampNeg = 11 + 3 * k := ixr3 11 (by omega)
  have e13 : ((11 : Int32) + 3 * Int32.ofNat k + 2).toNatClampNeg = 13 + 3 * k := (ixr3n 11 2 (by omega)).trans (by omega)
  have e44 : ((44 : Int32) + Int32.ofNat k).toNatClampNeg = 44 + k := ixn 44 (by omega)
  have e55 : ((55 : Int32) + Int32.ofNat k).toNatClampNeg = 55 + k := ixn 55 (by omega)
  have e50 : ((50 : Int32) + Int32.ofNat k).toNatClampNeg = 50 + k := ixn 50 (by omega)
  have e29 : ∀ w, w < 3 → ((29 : Int32) + 3 * Int32.ofNat k + Int32.ofNat w).toNatClampNeg = 29 + 3 * k + w := fun w hw => ixr3n 29 w (by omega)
  have e29_0 : ((29 : Int32) + 3 * Int32.ofNat k + 0).toNatClampNeg = 29 + 3 * k := e29 0 (by omega)
  have e29_1 : ((29 : Int32) + 3 * Int32.ofNat k + 1).toNatClampNeg = 30 + 3 * k := (e29 1 (by omega)).trans (by omega)
  have e29_2 : ((29 : Int32) + 3 * Int32.ofNat k + 2).toNatClampNeg = 31 + 3 * k := (e29 2 (by omega)).trans (by omega)
  refine lb_st0 (mi := mr_223) rfl 400 ?_
  show ∃ R, cm_Lc cm_ms 164 [.ref 124] M R ∧ ∀ v M', R v M' → _
  refine ⟨_, m_goodG M, ?_⟩
  rintro v M' ⟨rfl, rfl⟩
  have hg := MTX_gd hx
  have hme6 := hx.2.2.2.2.2.1
  have hmo5 := hx.2.2.2.2.2.2
  have e127 : (gdM M).1 127 = M.1 127 := funext fun j => gd_n (by omega)
  have e129 : (gdM M).1 129 = M.1 129 := funext fun j => gd_n (by omega)
  show ∃ R, cm_Lc cm_ms 206 [.ref 124, .int (Int32.ofNat k)] (gdM M) R ∧ ∀ v M', R v M' → _
  have hl := m_isMot hg (Int32.ofNat k)
  rw [outB_lt hk (by omega), Bool.not_false] at hl
  refine ⟨_, hl, ?_⟩
  rintro v M' ⟨hM, rfl⟩
  subst M'
  show (ev_cmp 0 (bi true) 0 = true → _) ∧ (ev_cmp 0 (bi true) 0 = false → _)
  refine ⟨fun hcc => ?_, fun hcc => ?_⟩
  · exact absurd hcc (by decide)
  · show ∃ R, cm_Lc cm_ms 167 [.int 0, .int 0, .int 7] (gdM M) R ∧ ∀ v M', R v M' → _
    have hi := m_in2 0 0 7 (gdM M)
    rw [show inB 0 0 7 = true from by decide] at hi
    refine ⟨_, hi, ?_⟩
    rintro v M' ⟨hM, rfl⟩
    subst M'
    show (ev_cmp 1 (bi true) 0 = true → _) ∧ (ev_cmp 1 (bi true) 0 = false → _)
    refine ⟨fun hccfc => ?_, fun hccfc => ?_⟩
    · show ((0 : Int32).toInt < 0 ∨ 6 < (0 : Int32).toInt → _) ∧ (∀ (j : Nat) (o : Int), ([43, 43, 43, 57, 67, 79, 97] : List Int)[j]? = some o → (0 : Int32).toInt = 0 + (j : Int) → _)
      refine sw_k 0 43 rfl (by decide) (by decide) ?_
      first | refine lb_to (T := (73, [(0, .ref 124), (1, .int (Int32.ofNat k)), (2, .int 0)], [.ref 124], (gdM M))) 73 [0, 1, 2] rfl rfl rfl (fun J' h => h) (lb_g0 rfl rfl (by first | exact hx.2.1.1 | (rw [hnt.1]; exact hx.2.1.1) | (rw [hs.1, hnt.1]; exact hx.2.1.1)) ?_) | refine lb_to0 (T := (73, [(0, .ref 124), (1, .int (Int32.ofNat k)), (2, .int 0)], [.ref 124], (gdM M))) 73 [0, 1, 2] rfl rfl rfl (fun J' h => h) (lb_g0 rfl rfl (by first | exact hx.2.1.1 | (rw [hnt.1]; exact hx.2.1.1) | (rw [hs.1, hnt.1]; exact hx.2.1.1)) ?_)
      show some (Value.int ((gdM M).1 127 (29 + 3 * Int32.ofNat k + 0).toNatClampNeg)) = some (Value.int (M.1 127 (29 + 3 * k)))
      rw [e29_0, e127]
    · exact absurd hccfc (by decide)
theorem m_motion_1 {a : Bool} {me mo : Nat} {M : cm_M} (hx : MTX a me mo M) {k : Nat} (hk : k < mo) (ha : a = true) : cm_Lc cm_ms 223 [.ref 124, .int (Int32.ofNat k), .int 1] M (fun v _ => v = some (.int (M.1 127 (30 + 3 * k)))) := by
  have hme6' := hx.2.2.2.2.2.1
  have hmo5' := hx.2.2.2.2.2.2
  have ek := fn_nat (show k < 2147483648 by omega)
  have e11 : ((11 : Int32) + 3 * Int32.ofNat k).toNatClampNeg = 11 + 3 * k := ixr3 11 (by omega)
  have e13 : ((11 : Int32) + 3 * Int32.ofNat k + 2).toNatClampNeg = 13 + 3 * k := (ixr3n 11 2 (by omega)).trans (by omega)
  have e44 : ((44 : Int32) + Int32.ofNat k).toNatClampNeg = 44 + k := ixn 44 (by omega)
  have e55 : ((55 : Int32) + Int32.ofNat k).toNatClampNeg = 55 + k := ixn 55 (by omega)
  have e50 : ((50 : Int32) + Int32.ofNat k).toNatClampNeg = 50 + k := ixn 50 (by omega)
  have e29 : ∀ w, w < 3 → ((29 : Int32) + 3 * Int32.ofNat k + Int32.ofNat w).toNatClampNeg = 29 + 3 * k + w := fun w hw => ixr3n 29 w (by omega)
  have e29_0 : ((29 : Int32) + 3 * Int32.ofNat k + 0).toNatClampNeg = 29 + 3 * k := e29 0 (by omega)
  have e29_1 : ((29 : Int32) + 3 * Int32.ofNat k + 1).toNatClampNeg = 30 + 3 * k := (e29 1 (by omega)).trans (by omega)
  have e29_2 : ((29 : Int32) + 3 * Int32.ofNat k + 2).toNatClampNeg = 31 + 3 * k := (e29 2 (by omega)).trans (by omega)
  refine lb_st0 (mi := mr_223) rfl 400 ?_
  show ∃ R, cm_Lc cm_ms 164 [.ref 124] M R ∧ ∀ v M', R v M' → _
  refine ⟨_, m_goodG M, ?_⟩
  rintro v M' ⟨rfl, rfl⟩
  have hg := MTX_gd hx
  have hme6 := hx.2.2.2.2.2.1
  have hmo5 := hx.2.2.2.2.2.2
  have e127 : (gdM M).1 127 = M.1 127 := funext fun j => gd_n (by omega)
  have e129 : (gdM M).1 129 = M.1 129 := funext fun j => gd_n (by omega)
  show ∃ R, cm_Lc cm_ms 206 [.ref 124, .int (Int32.ofNat k)] (gdM M) R ∧ ∀ v M', R v M' → _
  have hl := m_isMot hg (Int32.ofNat k)
  rw [outB_lt hk (by omega), Bool.not_false] at hl
  refine ⟨_, hl, ?_⟩
  rintro v M' ⟨hM, rfl⟩
  subst M'
  show (ev_cmp 0 (bi true) 0 = true → _) ∧ (ev_cmp 0 (bi true) 0 = false → _)
  refine ⟨fun hcc => ?_, fun hcc => ?_⟩
  · exact absurd hcc (by decide)
  · show ∃ R, cm_Lc cm_ms 167 [.int 1, .int 0, .int 7] (gdM M) R ∧ ∀ v M', R v M' → _
    have hi := m_in2 1 0 7 (gdM M)
    rw [show inB 1 0 7 = true from by decide] at hi
    refine ⟨_, hi, ?_⟩
    rintro v M' ⟨hM, rfl⟩
    subst M'
    show (ev_cmp 1 (bi true) 0 = true → _) ∧ (ev_cmp 1 (bi true) 0 = false → _)
    refine ⟨fun hccfc => ?_, fun hccfc => ?_⟩
    · show ((1 : Int32).toInt < 0 ∨ 6 < (1 : Int32).toInt → _) ∧ (∀ (j : Nat) (o : Int), ([43, 43, 43, 57, 67, 79, 97] : List Int)[j]? = some o → (1 : Int32).toInt = 0 + (j : Int) → _)
      refine sw_k 1 43 rfl (by decide) (by decide) ?_
      first | refine lb_to (T := (73, [(0, .ref 124), (1, .int (Int32.ofNat k)), (2, .int 1)], [.ref 124], (gdM M))) 73 [0, 1, 2] rfl rfl rfl (fun J' h => h) (lb_g0 rfl rfl (by first | exact hx.2.1.1 | (rw [hnt.1]; exact hx.2.1.1) | (rw [hs.1, hnt.1]; exact hx.2.1.1)) ?_) | refine lb_to0 (T := (73, [(0, .ref 124), (1, .int (Int32.ofNat k)), (2, .int 1)], [.ref 124], (gdM M))) 73 [0, 1, 2] rfl rfl rfl (fun J' h => h) (lb_g0 rfl rfl (by first | exact hx.2.1.1 | (rw [hnt.1]; exact hx.2.1.1) | (rw [hs.1, hnt.1]; exact hx.2.1.1)) ?_)
      show some (Value.int ((gdM M).1 127 (29 + 3 * Int32.ofNat k + 1).toNatClampNeg)) = some (Value.int (M.1 127 (30 + 3 * k)))
      rw [e29_1, e127]
    · exact absurd hccfc (by decide)
theorem m_motion_2 {a : Bool} {me mo : Nat} {M : cm_M} (hx : MTX a me mo M) {k : Nat} (hk : k < mo) (ha : a = true) : cm_Lc cm_ms 223 [.ref 124, .int (Int32.ofNat k), .int 2] M (fun v _ => v = some (.int (M.1 127 (31 + 3 * k)))) := by
  have hme6' := hx.2.2.2.2.2.1
  have hmo5' := hx.2.2.2.2.2.2
  have ek := fn_nat (show k < 2147483648 by omega)
  have e11 : ((11 : Int32) + 3 * Int32.ofNat k).toNatClampNeg = 11 + 3 * k := ixr3 11 (by omega)
  have e13 : ((11 : Int32) + 3 * Int32.ofNat k + 2).toNatClampNeg = 13 + 3 * k := (ixr3n 11 2 (by omega)).trans (by omega)
  have e44 : ((44 : Int32) + Int32.ofNat k).toNatClampNeg = 44 + k := ixn 44 (by omega)
  have e55 : ((55 : Int32) + Int32.ofNat k).toNatClampNeg = 55 + k := ixn 55 (by omega)
  have e50 : ((50 : Int32) + Int32.ofNat k).toNatClampNeg = 50 + k := ixn 50 (by omega)
  have e29 : ∀ w, w < 3 → ((29 : Int32) + 3 * Int32.ofNat k + Int32.ofNat w).toNatClampNeg = 29 + 3 * k + w := fun w hw => ixr3n 29 w (by omega)
  have e29_0 : ((29 : Int32) + 3 * Int32.ofNat k + 0).toNatClampNeg = 29 + 3 * k := e29 0 (by omega)
  have e29_1 : ((29 : Int32) + 3 * Int32.ofNat k + 1).toNatClampNeg = 30 + 3 * k := (e29 1 (by omega)).trans (by omega)
  have e29_2 : ((29 : Int32) + 3 * Int32.ofNat k + 2).toNatClampNeg = 31 + 3 * k := (e29 2 (by omega)).trans (by omega)
  refine lb_st0 (mi := mr_223) rfl 400 ?_
  show ∃ R, cm_Lc cm_ms 164 [.ref 124] M R ∧ ∀ v M', R v M' → _
  refine ⟨_, m_goodG M, ?_⟩
  rintro v M' ⟨rfl, rfl⟩
  have hg := MTX_gd hx
  have hme6 := hx.2.2.2.2.2.1
  have hmo5 := hx.2.2.2.2.2.2
  have e127 : (gdM M).1 127 = M.1 127 := funext fun j => gd_n (by omega)
  have e129 : (gdM M).1 129 = M.1 129 := funext fun j => gd_n (by omega)
  show ∃ R, cm_Lc cm_ms 206 [.ref 124, .int (Int32.ofNat k)] (gdM M) R ∧ ∀ v M', R v M' → _
  have hl := m_isMot hg (Int32.ofNat k)
  rw [outB_lt hk (by omega), Bool.not_false] at hl
  refine ⟨_, hl, ?_⟩
  rintro v M' ⟨hM, rfl⟩
  subst M'
  show (ev_cmp 0 (bi true) 0 = true → _) ∧ (ev_cmp 0 (bi true) 0 = false → _)
  refine ⟨fun hcc => ?_, fun hcc => ?_⟩
  · exact absurd hcc (by decide)
  · show ∃ R, cm_Lc cm_ms 167 [.int 2, .int 0, .int 7] (gdM M) R ∧ ∀ v M', R v M' → _
    have hi := m_in2 2 0 7 (gdM M)
    rw [show inB 2 0 7 = true from by decide] at hi
    refine ⟨_, hi, ?_⟩
    rintro v M' ⟨hM, rfl⟩
    subst M'
    show (ev_cmp 1 (bi true) 0 = true → _) ∧ (ev_cmp 1 (bi true) 0 = false → _)
    refine ⟨fun hccfc => ?_, fun hccfc => ?_⟩
    · show ((2 : Int32).toInt < 0 ∨ 6 < (2 : Int32).toInt → _) ∧ (∀ (j : Nat) (o : Int), ([43, 43, 43, 57, 67, 79, 97] : List Int)[j]? = some o → (2 : Int32).toInt = 0 + (j : Int) → _)
      refine sw_k 2 43 rfl (by decide) (by decide) ?_
      first | refine lb_to (T := (73, [(0, .ref 124), (1, .int (Int32.ofNat k)), (2, .int 2)], [.ref 124], (gdM M))) 73 [0, 1, 2] rfl rfl rfl (fun J' h => h) (lb_g0 rfl rfl (by first | exact hx.2.1.1 | (rw [hnt.1]; exact hx.2.1.1) | (rw [hs.1, hnt.1]; exact hx.2.1.1)) ?_) | refine lb_to0 (T := (73, [(0, .ref 124), (1, .int (Int32.ofNat k)), (2, .int 2)], [.ref 124], (gdM M))) 73 [0, 1, 2] rfl rfl rfl (fun J' h => h) (lb_g0 rfl rfl (by first | exact hx.2.1.1 | (rw [hnt.1]; exact hx.2.1.1) | (rw [hs.1, hnt.1]; exact hx.2.1.1)) ?_)
      show some (Value.int ((gdM M).1 127 (29 + 3 * Int32.ofNat k + 2).toNatClampNeg)) = some (Value.int (M.1 127 (31 + 3 * k)))
      rw [e29_2, e127]
    · exact absurd hccfc (by decide)
theorem m_motion_3 {a : Bool} {me mo : Nat} {M : cm_M} (hx : MTX a me mo M) {k : Nat} (hk : k < mo) (ha : a = true) : cm_Lc cm_ms 223 [.ref 124, .int (Int32.ofNat k), .int 3] M (fun v _ => v = some (.int (M.1 127 (50 + k)))) := by
  have hme6' := hx.2.2.2.2.2.1
  have hmo5' := hx.2.2.2.2.2.2
  have ek := fn_nat (show k < 2147483648 by omega)
  have e11 : ((11 : Int32) + 3 * Int32.ofNat k).toNatClampNeg = 11 + 3 * k := ixr3 11 (by omega)
  have e13 : ((11 : Int32) + 3 * Int32.ofNat k + 2).toNatClampNeg = 13 + 3 * k := (ixr3n 11 2 (by omega)).trans (by omega)
  have e44 : ((44 : Int32) + Int32.ofNat k).toNatClampNeg = 44 + k := ixn 44 (by omega)
  have e55 : ((55 : Int32) + Int32.ofNat k).toNatClampNeg = 55 + k := ixn 55 (by omega)
  have e50 : ((50 : Int32) + Int32.ofNat k).toNatClampNeg = 50 + k := ixn 50 (by omega)
  have e29 : ∀ w, w < 3 → ((29 : Int32) + 3 * Int32.ofNat k + Int32.ofNat w).toNatClampNeg = 29 + 3 * k + w := fun w hw => ixr3n 29 w (by omega)
  have e29_0 : ((29 : Int32) + 3 * Int32.ofNat k + 0).toNatClampNeg = 29 + 3 * k := e29 0 (by omega)
  have e29_1 : ((29 : Int32) + 3 * Int32.ofNat k + 1).toNatClampNeg = 30 + 3 * k := (e29 1 (by omega)).trans (by omega)
  have e29_2 : ((29 : Int32) + 3 * Int32.ofNat k + 2).toNatClampNeg = 31 + 3 * k := (e29 2 (by omega)).trans (by omega)
  refine lb_st0 (mi := mr_223) rfl 400 ?_
  show ∃ R, cm_Lc cm_ms 164 [.ref 124] M R ∧ ∀ v M', R v M' → _
  refine ⟨_, m_goodG M, ?_⟩
  rintro v M' ⟨rfl, rfl⟩
  have hg := MTX_gd hx
  have hme6 := hx.2.2.2.2.2.1
  have hmo5 := hx.2.2.2.2.2.2
  have e127 : (gdM M).1 127 = M.1 127 := funext fun j => gd_n (by omega)
  have e129 : (gdM M).1 129 = M.1 129 := funext fun j => gd_n (by omega)
  show ∃ R, cm_Lc cm_ms 206 [.ref 124, .int (Int32.ofNat k)] (gdM M) R ∧ ∀ v M', R v M' → _
  have hl := m_isMot hg (Int32.ofNat k)
  rw [outB_lt hk (by omega), Bool.not_false] at hl
  refine ⟨_, hl, ?_⟩
  rintro v M' ⟨hM, rfl⟩
  subst M'
  show (ev_cmp 0 (bi true) 0 = true → _) ∧ (ev_cmp 0 (bi true) 0 = false → _)
  refine ⟨fun hcc => ?_, fun hcc => ?_⟩
  · exact absurd hcc (by decide)
  · show ∃ R, cm_Lc cm_ms 167 [.int 3, .int 0, .int 7] (gdM M) R ∧ ∀ v M', R v M' → _
    have hi := m_in2 3 0 7 (gdM M)
    rw [show inB 3 0 7 = true from by decide] at hi
    refine ⟨_, hi, ?_⟩
    rintro v M' ⟨hM, rfl⟩
    subst M'
    show (ev_cmp 1 (bi true) 0 = true → _) ∧ (ev_cmp 1 (bi true) 0 = false → _)
    refine ⟨fun hccfc => ?_, fun hccfc => ?_⟩
    · show ((3 : Int32).toInt < 0 ∨ 6 < (3 : Int32).toInt → _) ∧ (∀ (j : Nat) (o : Int), ([43, 43, 43, 57, 67, 79, 97] : List Int)[j]? = some o → (3 : Int32).toInt = 0 + (j : Int) → _)
      refine sw_k 3 57 rfl (by decide) (by decide) ?_
      first | refine lb_to (T := (87, [(0, .ref 124), (1, .int (Int32.ofNat k)), (2, .int 3)], [.ref 124], (gdM M))) 87 [0, 1, 2] rfl rfl rfl (fun J' h => h) (lb_g0 rfl rfl (by first | exact hx.2.1.1 | (rw [hnt.1]; exact hx.2.1.1) | (rw [hs.1, hnt.1]; exact hx.2.1.1)) ?_) | refine lb_to0 (T := (87, [(0, .ref 124), (1, .int (Int32.ofNat k)), (2, .int 3)], [.ref 124], (gdM M))) 87 [0, 1, 2] rfl rfl rfl (fun J' h => h) (lb_g0 rfl rfl (by first | exact hx.2.1.1 | (rw [hnt.1]; exact hx.2.1.1) | (rw [hs.1, hnt.1]; exact hx.2.1.1)) ?_)
      show some (Value.int ((gdM M).1 127 (50 + Int32.ofNat k).toNatClampNeg)) = some (Value.int (M.1 127 (50 + k)))
      rw [e50, e127]
    · exact absurd hccfc (by decide)
theorem m_motion_4 {a : Bool} {me mo : Nat} {M : cm_M} (hx : MTX a me mo M) {k : Nat} (hk : k < mo) (ha : a = true) : cm_Lc cm_ms 223 [.ref 124, .int (Int32.ofNat k), .int 4] M (fun v _ => v = some (.int (bi (hb (M.1 129 9) k)))) := by
  have hme6' := hx.2.2.2.2.2.1
  have hmo5' := hx.2.2.2.2.2.2
  have ek := fn_nat (show k < 2147483648 by omega)
  have e11 : ((11 : Int32) + 3 * Int32.ofNat k).toNatClampNeg = 11 + 3 * k := ixr3 11 (by omega)
  have e13 : ((11 : Int32) + 3 * Int32.ofNat k + 2).toNatClampNeg = 13 + 3 * k := (ixr3n 11 2 (by omega)).trans (by omega)
  have e44 : ((44 : Int32) + Int32.ofNat k).toNatClampNeg = 44 + k := ixn 44 (by omega)
  have e55 : ((55 : Int32) + Int32.ofNat k).toNatClampNeg = 55 + k := ixn 55 (by omega)
  have e50 : ((50 : Int32) + Int32.ofNat k).toNatClampNeg = 50 + k := ixn 50 (by omega)
  have e29 : ∀ w, w < 3 → ((29 : Int32) + 3 * Int32.ofNat k + Int32.ofNat w).toNatClampNeg = 29 + 3 * k + w := fun w hw => ixr3n 29 w (by omega)
  have e29_0 : ((29 : Int32) + 3 * Int32.ofNat k + 0).toNatClampNeg = 29 + 3 * k := e29 0 (by omega)
  have e29_1 : ((29 : Int32) + 3 * Int32.ofNat k + 1).toNatClampNeg = 30 + 3 * k := (e29 1 (by omega)).trans (by omega)
  have e29_2 : ((29 : Int32) + 3 * Int32.ofNat k + 2).toNatClampNeg = 31 + 3 * k := (e29 2 (by omega)).trans (by omega)
  refine lb_st0 (mi := mr_223) rfl 400 ?_
  show ∃ R, cm_Lc cm_ms 164 [.ref 124] M R ∧ ∀ v M', R v M' → _
  refine ⟨_, m_goodG M, ?_⟩
  rintro v M' ⟨rfl, rfl⟩
  have hg := MTX_gd hx
  have hme6 := hx.2.2.2.2.2.1
  have hmo5 := hx.2.2.2.2.2.2
  have e127 : (gdM M).1 127 = M.1 127 := funext fun j => gd_n (by omega)
  have e129 : (gdM M).1 129 = M.1 129 := funext fun j => gd_n (by omega)
  show ∃ R, cm_Lc cm_ms 206 [.ref 124, .int (Int32.ofNat k)] (gdM M) R ∧ ∀ v M', R v M' → _
  have hl := m_isMot hg (Int32.ofNat k)
  rw [outB_lt hk (by omega), Bool.not_false] at hl
  refine ⟨_, hl, ?_⟩
  rintro v M' ⟨hM, rfl⟩
  subst M'
  show (ev_cmp 0 (bi true) 0 = true → _) ∧ (ev_cmp 0 (bi true) 0 = false → _)
  refine ⟨fun hcc => ?_, fun hcc => ?_⟩
  · exact absurd hcc (by decide)
  · show ∃ R, cm_Lc cm_ms 167 [.int 4, .int 0, .int 7] (gdM M) R ∧ ∀ v M', R v M' → _
    have hi := m_in2 4 0 7 (gdM M)
    rw [show inB 4 0 7 = true from by decide] at hi
    refine ⟨_, hi, ?_⟩
    rintro v M' ⟨hM, rfl⟩
    subst M'
    show (ev_cmp 1 (bi true) 0 = true → _) ∧ (ev_cmp 1 (bi true) 0 = false → _)
    refine ⟨fun hccfc => ?_, fun hccfc => ?_⟩
    · show ((4 : Int32).toInt < 0 ∨ 6 < (4 : Int32).toInt → _) ∧ (∀ (j : Nat) (o : Int), ([43, 43, 43, 57, 67, 79, 97] : List Int)[j]? = some o → (4 : Int32).toInt = 0 + (j : Int) → _)
      refine sw_k 4 67 rfl (by decide) (by decide) ?_
      first | refine lb_to (T := (97, [(0, .ref 124), (1, .int (Int32.ofNat k)), (2, .int 4)], [.ref 124], (gdM M))) 97 [0, 1, 2] rfl rfl rfl (fun J' h => h) (lb_g0 rfl rfl (by first | exact hx.2.1.2.1 | (rw [hnt.1]; exact hx.2.1.2.1) | (rw [hs.1, hnt.1]; exact hx.2.1.2.1)) ?_) | refine lb_to0 (T := (97, [(0, .ref 124), (1, .int (Int32.ofNat k)), (2, .int 4)], [.ref 124], (gdM M))) 97 [0, 1, 2] rfl rfl rfl (fun J' h => h) (lb_g0 rfl rfl (by first | exact hx.2.1.2.1 | (rw [hnt.1]; exact hx.2.1.2.1) | (rw [hs.1, hnt.1]; exact hx.2.1.2.1)) ?_)
      show some (Value.int (((gdM M).1 129 9 >>> (Int32.ofNat k &&& 31)) &&& 1)) = some (Value.int (bi (hb (M.1 129 9) k)))
      rw [e129]
      unfold hb
      rcases and01 (M.1 129 9 >>> (Int32.ofNat k &&& 31)) with q | q
      · rw [q]
        rfl
      · rw [q]
        rfl
    · exact absurd hccfc (by decide)
theorem m_motion_5 {a : Bool} {me mo : Nat} {M : cm_M} (hx : MTX a me mo M) {k : Nat} (hk : k < mo) (ha : a = true) : cm_Lc cm_ms 223 [.ref 124, .int (Int32.ofNat k), .int 5] M (fun v _ => v = some (.int (bi (mbB (M.1 129 9) (M.1 127 (50 + k)) k)))) := by
  have hme6' := hx.2.2.2.2.2.1
  have hmo5' := hx.2.2.2.2.2.2
  have ek := fn_nat (show k < 2147483648 by omega)
  have e11 : ((11 : Int32) + 3 * Int32.ofNat k).toNatClampNeg = 11 + 3 * k := ixr3 11 (by omega)
  have e13 : ((11 : Int32) + 3 * Int32.ofNat k + 2).toNatClampNeg = 13 + 3 * k := (ixr3n 11 2 (by omega)).trans (by omega)
  have e44 : ((44 : Int32) + Int32.ofNat k).toNatClampNeg = 44 + k := ixn 44 (by omega)
  have e55 : ((55 : Int32) + Int32.ofNat k).toNatClampNeg = 55 + k := ixn 55 (by omega)
  have e50 : ((50 : Int32) + Int32.ofNat k).toNatClampNeg = 50 + k := ixn 50 (by omega)
  have e29 : ∀ w, w < 3 → ((29 : Int32) + 3 * Int32.ofNat k + Int32.ofNat w).toNatClampNeg = 29 + 3 * k + w := fun w hw => ixr3n 29 w (by omega)
  have e29_0 : ((29 : Int32) + 3 * Int32.ofNat k + 0).toNatClampNeg = 29 + 3 * k := e29 0 (by omega)
  have e29_1 : ((29 : Int32) + 3 * Int32.ofNat k + 1).toNatClampNeg = 30 + 3 * k := (e29 1 (by omega)).trans (by omega)
  have e29_2 : ((29 : Int32) + 3 * Int32.ofNat k + 2).toNatClampNeg = 31 + 3 * k := (e29 2 (by omega)).trans (by omega)
  refine lb_st0 (mi := mr_223) rfl 400 ?_
  show ∃ R, cm_Lc cm_ms 164 [.ref 124] M R ∧ ∀ v M', R v M' → _
  refine ⟨_, m_goodG M, ?_⟩
  rintro v M' ⟨rfl, rfl⟩
  have hg := MTX_gd hx
  have hme6 := hx.2.2.2.2.2.1
  have hmo5 := hx.2.2.2.2.2.2
  have e127 : (gdM M).1 127 = M.1 127 := funext fun j => gd_n (by omega)
  have e129 : (gdM M).1 129 = M.1 129 := funext fun j => gd_n (by omega)
  show ∃ R, cm_Lc cm_ms 206 [.ref 124, .int (Int32.ofNat k)] (gdM M) R ∧ ∀ v M', R v M' → _
  have hl := m_isMot hg (Int32.ofNat k)
  rw [outB_lt hk (by omega), Bool.not_false] at hl
  refine ⟨_, hl, ?_⟩
  rintro v M' ⟨hM, rfl⟩
  subst M'
  show (ev_cmp 0 (bi true) 0 = true → _) ∧ (ev_cmp 0 (bi true) 0 = false → _)
  refine ⟨fun hcc => ?_, fun hcc => ?_⟩
  · exact absurd hcc (by decide)
  · show ∃ R, cm_Lc cm_ms 167 [.int 5, .int 0, .int 7] (gdM M) R ∧ ∀ v M', R v M' → _
    have hi := m_in2 5 0 7 (gdM M)
    rw [show inB 5 0 7 = true from by decide] at hi
    refine ⟨_, hi, ?_⟩
    rintro v M' ⟨hM, rfl⟩
    subst M'
    show (ev_cmp 1 (bi true) 0 = true → _) ∧ (ev_cmp 1 (bi true) 0 = false → _)
    refine ⟨fun hccfc => ?_, fun hccfc => ?_⟩
    · show ((5 : Int32).toInt < 0 ∨ 6 < (5 : Int32).toInt → _) ∧ (∀ (j : Nat) (o : Int), ([43, 43, 43, 57, 67, 79, 97] : List Int)[j]? = some o → (5 : Int32).toInt = 0 + (j : Int) → _)
      refine sw_k 5 79 rfl (by decide) (by decide) ?_
      first | refine lb_to (T := (110, [(0, .ref 124), (1, .int (Int32.ofNat k)), (2, .int 5)], [.ref 124, .ref 124], (gdM M))) 110 [0, 1, 2] rfl rfl rfl (fun J' h => h) (lb_g0 rfl rfl (by first | exact hx.2.1.2.1 | (rw [hnt.1]; exact hx.2.1.2.1) | (rw [hs.1, hnt.1]; exact hx.2.1.2.1)) ?_) | refine lb_to0 (T := (110, [(0, .ref 124), (1, .int (Int32.ofNat k)), (2, .int 5)], [.ref 124, .ref 124], (gdM M))) 110 [0, 1, 2] rfl rfl rfl (fun J' h => h) (lb_g0 rfl rfl (by first | exact hx.2.1.2.1 | (rw [hnt.1]; exact hx.2.1.2.1) | (rw [hs.1, hnt.1]; exact hx.2.1.2.1)) ?_)
      show ∃ R, cm_Lc cm_ms 216 [.ref 124, .ref 129, .int (Int32.ofNat k)] (gdM M) R ∧ ∀ v M', R v M' → _
      have hw := m_mayBe (M := gdM M) (d := 129) (k := k) hx.2.1.1 (by omega)
      rw [e127, e129] at hw
      refine ⟨_, hw, ?_⟩
      rintro v M' ⟨hM, rfl⟩
      subst M'
      show (ev_cmp 0 (bi (mbB (M.1 129 9) (M.1 127 (50 + k)) k)) 0 = true → _) ∧ (ev_cmp 0 (bi (mbB (M.1 129 9) (M.1 127 (50 + k)) k)) 0 = false → _)
      refine ⟨fun hccfctc => ?_, fun hccfctc => ?_⟩
      · show some (Value.int 0) = some (Value.int (bi (mbB (M.1 129 9) (M.1 127 (50 + k)) k)))
        rw [bi_0 hccfctc]
        rfl
      · show some (Value.int 1) = some (Value.int (bi (mbB (M.1 129 9) (M.1 127 (50 + k)) k)))
        rw [bi_1 hccfctc]
        rfl
    · exact absurd hccfc (by decide)
theorem m_motion_6 {a : Bool} {me mo : Nat} {M : cm_M} (hx : MTX a me mo M) {k : Nat} (hk : k < mo) (ha : a = true) : cm_Lc cm_ms 223 [.ref 124, .int (Int32.ofNat k), .int 6] M (fun v _ => v = some (.int (voF (fun m => M.1 127 (13 + 3 * m)) (orF (fun m => syB (M.1 127 1) (M.1 127 (29 + 3 * k)) (M.1 127 (44 + m)) (M.1 129 m) k) me) me))) := by
  have hme6' := hx.2.2.2.2.2.1
  have hmo5' := hx.2.2.2.2.2.2
  have ek := fn_nat (show k < 2147483648 by omega)
  have e11 : ((11 : Int32) + 3 * Int32.ofNat k).toNatClampNeg = 11 + 3 * k := ixr3 11 (by omega)
  have e13 : ((11 : Int32) + 3 * Int32.ofNat k + 2).toNatClampNeg = 13 + 3 * k := (ixr3n 11 2 (by omega)).trans (by omega)
  have e44 : ((44 : Int32) + Int32.ofNat k).toNatClampNeg = 44 + k := ixn 44 (by omega)
  have e55 : ((55 : Int32) + Int32.ofNat k).toNatClampNeg = 55 + k := ixn 55 (by omega)
  have e50 : ((50 : Int32) + Int32.ofNat k).toNatClampNeg = 50 + k := ixn 50 (by omega)
  have e29 : ∀ w, w < 3 → ((29 : Int32) + 3 * Int32.ofNat k + Int32.ofNat w).toNatClampNeg = 29 + 3 * k + w := fun w hw => ixr3n 29 w (by omega)
  have e29_0 : ((29 : Int32) + 3 * Int32.ofNat k + 0).toNatClampNeg = 29 + 3 * k := e29 0 (by omega)
  have e29_1 : ((29 : Int32) + 3 * Int32.ofNat k + 1).toNatClampNeg = 30 + 3 * k := (e29 1 (by omega)).trans (by omega)
  have e29_2 : ((29 : Int32) + 3 * Int32.ofNat k + 2).toNatClampNeg = 31 + 3 * k := (e29 2 (by omega)).trans (by omega)
  refine lb_st0 (mi := mr_223) rfl 400 ?_
  show ∃ R, cm_Lc cm_ms 164 [.ref 124] M R ∧ ∀ v M', R v M' → _
  refine ⟨_, m_goodG M, ?_⟩
  rintro v M' ⟨rfl, rfl⟩
  have hg := MTX_gd hx
  have hme6 := hx.2.2.2.2.2.1
  have hmo5 := hx.2.2.2.2.2.2
  have e127 : (gdM M).1 127 = M.1 127 := funext fun j => gd_n (by omega)
  have e129 : (gdM M).1 129 = M.1 129 := funext fun j => gd_n (by omega)
  show ∃ R, cm_Lc cm_ms 206 [.ref 124, .int (Int32.ofNat k)] (gdM M) R ∧ ∀ v M', R v M' → _
  have hl := m_isMot hg (Int32.ofNat k)
  rw [outB_lt hk (by omega), Bool.not_false] at hl
  refine ⟨_, hl, ?_⟩
  rintro v M' ⟨hM, rfl⟩
  subst M'
  show (ev_cmp 0 (bi true) 0 = true → _) ∧ (ev_cmp 0 (bi true) 0 = false → _)
  refine ⟨fun hcc => ?_, fun hcc => ?_⟩
  · exact absurd hcc (by decide)
  · show ∃ R, cm_Lc cm_ms 167 [.int 6, .int 0, .int 7] (gdM M) R ∧ ∀ v M', R v M' → _
    have hi := m_in2 6 0 7 (gdM M)
    rw [show inB 6 0 7 = true from by decide] at hi
    refine ⟨_, hi, ?_⟩
    rintro v M' ⟨hM, rfl⟩
    subst M'
    show (ev_cmp 1 (bi true) 0 = true → _) ∧ (ev_cmp 1 (bi true) 0 = false → _)
    refine ⟨fun hccfc => ?_, fun hccfc => ?_⟩
    · show ((6 : Int32).toInt < 0 ∨ 6 < (6 : Int32).toInt → _) ∧ (∀ (j : Nat) (o : Int), ([43, 43, 43, 57, 67, 79, 97] : List Int)[j]? = some o → (6 : Int32).toInt = 0 + (j : Int) → _)
      refine sw_k 6 97 rfl (by decide) (by decide) ?_
      first | refine lb_to (T := (128, [(0, .ref 124), (1, .int (Int32.ofNat k)), (2, .int 6)], [.ref 124, .ref 124], (gdM M))) 128 [0, 1, 2] rfl rfl rfl (fun J' h => h) (lb_g0 rfl rfl (by first | exact hx.2.1.2.1 | (rw [hnt.1]; exact hx.2.1.2.1) | (rw [hs.1, hnt.1]; exact hx.2.1.2.1)) ?_) | refine lb_to0 (T := (128, [(0, .ref 124), (1, .int (Int32.ofNat k)), (2, .int 6)], [.ref 124, .ref 124], (gdM M))) 128 [0, 1, 2] rfl rfl rfl (fun J' h => h) (lb_g0 rfl rfl (by first | exact hx.2.1.2.1 | (rw [hnt.1]; exact hx.2.1.2.1) | (rw [hs.1, hnt.1]; exact hx.2.1.2.1)) ?_)
      show ∃ R, cm_Lc cm_ms 214 [.ref 124, .ref 129, .int (Int32.ofNat k)] (gdM M) R ∧ ∀ v M', R v M' → _
      have hw := m_yes (M := gdM M) (d := 129) (me := me) (k := k) hx.2.1.1 (by rw [e127]; exact (hx.2.2.1 ha).1) hme6 (by omega)
      rw [e127, e129] at hw
      refine ⟨_, hw, ?_⟩
      rintro v M' ⟨hM, rfl⟩
      subst M'
      exact rfl
    · exact absurd hccfc (by decide)
theorem m_motion_7 {a : Bool} {me mo : Nat} {M : cm_M} (hx : MTX a me mo M) {k : Nat} (hk : k < mo) (ha : a = true) : cm_Lc cm_ms 223 [.ref 124, .int (Int32.ofNat k), .int 7] M (fun v _ => v = some (.int (orF (fun m => syB (M.1 127 1) (M.1 127 (29 + 3 * k)) (M.1 127 (44 + m)) (M.1 129 m) k) me))) := by
  have hme6' := hx.2.2.2.2.2.1
  have hmo5' := hx.2.2.2.2.2.2
  have ek := fn_nat (show k < 2147483648 by omega)
  have e11 : ((11 : Int32) + 3 * Int32.ofNat k).toNatClampNeg = 11 + 3 * k := ixr3 11 (by omega)
  have e13 : ((11 : Int32) + 3 * Int32.ofNat k + 2).toNatClampNeg = 13 + 3 * k := (ixr3n 11 2 (by omega)).trans (by omega)
  have e44 : ((44 : Int32) + Int32.ofNat k).toNatClampNeg = 44 + k := ixn 44 (by omega)
  have e55 : ((55 : Int32) + Int32.ofNat k).toNatClampNeg = 55 + k := ixn 55 (by omega)
  have e50 : ((50 : Int32) + Int32.ofNat k).toNatClampNeg = 50 + k := ixn 50 (by omega)
  have e29 : ∀ w, w < 3 → ((29 : Int32) + 3 * Int32.ofNat k + Int32.ofNat w).toNatClampNeg = 29 + 3 * k + w := fun w hw => ixr3n 29 w (by omega)
  have e29_0 : ((29 : Int32) + 3 * Int32.ofNat k + 0).toNatClampNeg = 29 + 3 * k := e29 0 (by omega)
  have e29_1 : ((29 : Int32) + 3 * Int32.ofNat k + 1).toNatClampNeg = 30 + 3 * k := (e29 1 (by omega)).trans (by omega)
  have e29_2 : ((29 : Int32) + 3 * Int32.ofNat k + 2).toNatClampNeg = 31 + 3 * k := (e29 2 (by omega)).trans (by omega)
  refine lb_st0 (mi := mr_223) rfl 400 ?_
  show ∃ R, cm_Lc cm_ms 164 [.ref 124] M R ∧ ∀ v M', R v M' → _
  refine ⟨_, m_goodG M, ?_⟩
  rintro v M' ⟨rfl, rfl⟩
  have hg := MTX_gd hx
  have hme6 := hx.2.2.2.2.2.1
  have hmo5 := hx.2.2.2.2.2.2
  have e127 : (gdM M).1 127 = M.1 127 := funext fun j => gd_n (by omega)
  have e129 : (gdM M).1 129 = M.1 129 := funext fun j => gd_n (by omega)
  show ∃ R, cm_Lc cm_ms 206 [.ref 124, .int (Int32.ofNat k)] (gdM M) R ∧ ∀ v M', R v M' → _
  have hl := m_isMot hg (Int32.ofNat k)
  rw [outB_lt hk (by omega), Bool.not_false] at hl
  refine ⟨_, hl, ?_⟩
  rintro v M' ⟨hM, rfl⟩
  subst M'
  show (ev_cmp 0 (bi true) 0 = true → _) ∧ (ev_cmp 0 (bi true) 0 = false → _)
  refine ⟨fun hcc => ?_, fun hcc => ?_⟩
  · exact absurd hcc (by decide)
  · show ∃ R, cm_Lc cm_ms 167 [.int 7, .int 0, .int 7] (gdM M) R ∧ ∀ v M', R v M' → _
    have hi := m_in2 7 0 7 (gdM M)
    rw [show inB 7 0 7 = true from by decide] at hi
    refine ⟨_, hi, ?_⟩
    rintro v M' ⟨hM, rfl⟩
    subst M'
    show (ev_cmp 1 (bi true) 0 = true → _) ∧ (ev_cmp 1 (bi true) 0 = false → _)
    refine ⟨fun hccfc => ?_, fun hccfc => ?_⟩
    · show ((7 : Int32).toInt < 0 ∨ 6 < (7 : Int32).toInt → _) ∧ (∀ (j : Nat) (o : Int), ([43, 43, 43, 57, 67, 79, 97] : List Int)[j]? = some o → (7 : Int32).toInt = 0 + (j : Int) → _)
      refine sw_d (by decide) (by decide) ?_
      first | refine lb_to (T := (138, [(0, .ref 124), (1, .int (Int32.ofNat k)), (2, .int 7)], [.ref 124, .ref 124], (gdM M))) 138 [0, 1, 2] rfl rfl rfl (fun J' h => h) (lb_g0 rfl rfl (by first | exact hx.2.1.2.1 | (rw [hnt.1]; exact hx.2.1.2.1) | (rw [hs.1, hnt.1]; exact hx.2.1.2.1)) ?_) | refine lb_to0 (T := (138, [(0, .ref 124), (1, .int (Int32.ofNat k)), (2, .int 7)], [.ref 124, .ref 124], (gdM M))) 138 [0, 1, 2] rfl rfl rfl (fun J' h => h) (lb_g0 rfl rfl (by first | exact hx.2.1.2.1 | (rw [hnt.1]; exact hx.2.1.2.1) | (rw [hs.1, hnt.1]; exact hx.2.1.2.1)) ?_)
      show ∃ R, cm_Lc cm_ms 212 [.ref 124, .ref 129, .int (Int32.ofNat k)] (gdM M) R ∧ ∀ v M', R v M' → _
      have hw := m_sayers (M := gdM M) (d := 129) (me := me) (k := k) hx.2.1.1 (by rw [e127]; exact (hx.2.2.1 ha).1) hme6 (by omega)
      rw [e127, e129] at hw
      refine ⟨_, hw, ?_⟩
      rintro v M' ⟨hM, rfl⟩
      subst M'
      exact rfl
    · exact absurd hccfc (by decide)
