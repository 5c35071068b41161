/-! ANSWERS OF BOTH SIDES: left, peace -/
theorem c_qtold {M : cm_M} {T' me q : Nat} {qu : Nat → Nat} (hT : T' = 6 ∨ T' = 19) (h8 : M.2.2 T' 8 = some (T' + 5)) (h3 : M.1 T' 3 = Int32.ofNat me) (hme : me ≤ 6) (hq : QU me (M.1 (T' + 5)) qu) (hs : su qu me = 2 * q) : cm_Lc cm_ms 16 [.ref T'] M (fun v M' => M' = M ∧ v = some (.int (Int32.ofNat q))) := by
  have hle := su_le qu me
  have e : bS (M.1 (T' + 5)) (min (M.1 T' 3).toNatClampNeg 6) / 2 = Int32.ofNat q := by
    rw [h3, fn_nat (by omega), Nat.min_eq_left hme, bS_su me hq, hs]
    exact half_t q (by omega)
  have f : cm_Lc cm_ms 12 [.ref (T' + 5), .int (M.1 T' 3)] M (fun v M' => v = some (.int (bS (M.1 (T' + 5)) (min (M.1 T' 3).toNatClampNeg 6))) ∧ M' = M) := by
    rcases hT with rfl | rfl
    · exact f_bits11 _ M
    · exact f_bits24 _ M
  refine lb_st0 (mi := mr_16) rfl 400 ?_
  first | refine lb_to (T := (1, [(0, .ref T')], [.ref T'], M)) 1 [0] rfl rfl rfl (fun J' h => h) (lb_g0 rfl rfl h8 ?_) | refine lb_to0 (T := (1, [(0, .ref T')], [.ref T'], M)) 1 [0] rfl rfl rfl (fun J' h => h) (lb_g0 rfl rfl h8 ?_)
  show ∃ R, cm_Lc cm_ms 12 [.ref (T' + 5), .int (M.1 T' 3)] M R ∧ ∀ v M', R v M' → _
  refine ⟨_, f, ?_⟩
  rintro v M1 ⟨rfl, rfl⟩
  refine ⟨rfl, ?_⟩
  show some (Value.int (bS (M1.1 (T' + 5)) (min (M1.1 T' 3).toNatClampNeg 6) / 2)) = _
  rw [e]
def leF (a : Bool) (me q : Nat) (qu : Nat → Nat) : Int32 := pgF a (Int32.ofNat q - Int32.ofNat (qa qu (bsF qu me (hv me)) me))
theorem c_left {M : cm_M} {T' me q : Nat} {a : Bool} {qu : Nat → Nat} (hT : T' = 6 ∨ T' = 19) (h03 : M.2.2 0 3 = some T') (h8 : M.2.2 T' 8 = some (T' + 5)) (h3 : M.1 T' 3 = Int32.ofNat me) (hme : me ≤ 6) (ha : decide (M.1 T' 3 = 0) = !a) (hm0 : a = true → 0 < me) (hq : QU me (M.1 (T' + 5)) qu) (hs : su qu me = 2 * q) : cm_Lc cm_ms 125 [.ref 0] M (fun v _ => v = some (.int (leF a me q qu))) := by
  have qn := c_noTown h03
  rw [ha] at qn
  refine lb_st0 (mi := mr_125) rfl 400 ?_
  show ∃ R, cm_Lc cm_ms 160 [.ref 0] M R ∧ ∀ v M', R v M' → _
  refine ⟨_, qn, ?_⟩
  rintro v M1 ⟨rfl, rfl⟩
  show (ev_cmp 0 (bi !a) 0 = true → _) ∧ (ev_cmp 0 (bi !a) 0 = false → ∃ R, cm_Lc cm_ms 157 [.ref 0, .int 1] M1 R ∧ ∀ v M', R v M' → _)
  refine ⟨fun h => lb_to (T := (15, [(0, .ref 0)], [.ref 0, .ref 0], M1)) 15 [0] rfl rfl rfl (fun J' h => h) (lb_g0 rfl rfl h03 ?_), fun h => ⟨_, c_refused 1 M1, ?_⟩⟩
  · have e := bi_0 h
    rw [Bool.not_eq_false'] at e
    have m0 := hm0 e
    have hh := hv_2 m0
    have h64 := p2_64 hme
    have hb := bsF_le qu me (hv me)
    have hb2 : bsF qu me (hv me) < 64 := by
      have := bsF_lt qu me (hv me) (by
        have : 2 ≤ 2 ^ me := by
          have := Nat.pow_le_pow_right (n := 2) (by omega) m0
          omega
        omega)
      omega
    show ∃ R, cm_Lc cm_ms 16 [.ref T'] M1 R ∧ ∀ v M', R v M' → _
    refine ⟨_, c_qtold hT h8 h3 hme hq hs, ?_⟩
    rintro v M2 ⟨rfl, rfl⟩
    first | refine lb_to (T := (22, [(0, .ref 0)], [.ref 0, .int (Int32.ofNat q), .ref 0], M2)) 22 [0] rfl rfl rfl (fun J' h => h) (lb_g0 rfl rfl h03 ?_) | refine lb_to0 (T := (22, [(0, .ref 0)], [.ref 0, .int (Int32.ofNat q), .ref 0], M2)) 22 [0] rfl rfl rfl (fun J' h => h) (lb_g0 rfl rfl h03 ?_)
    first | refine lb_to (T := (26, [(0, .ref 0)], [.ref 0, .ref T', .int (Int32.ofNat q), .ref 0], M2)) 26 [0] rfl rfl rfl (fun J' h => h) (lb_g0 rfl rfl h03 ?_) | refine lb_to0 (T := (26, [(0, .ref 0)], [.ref 0, .ref T', .int (Int32.ofNat q), .ref 0], M2)) 26 [0] rfl rfl rfl (fun J' h => h) (lb_g0 rfl rfl h03 ?_)
    show ∃ R, cm_Lc cm_ms 18 [.ref T'] M2 R ∧ ∀ v M', R v M' → _
    refine ⟨_, c_best h8 h3 hme m0 hq, ?_⟩
    rintro v M3 ⟨rfl, rfl⟩
    show ∃ R, cm_Lc cm_ms 17 [.ref T', .int (Int32.ofNat (bsF qu me (hv me)))] M3 R ∧ ∀ v M', R v M' → _
    refine ⟨_, c_across h8 h3 hme hq hb2, ?_⟩
    rintro v M4 ⟨rfl, rfl⟩
    show ∃ R, cm_Lc cm_ms 159 [.ref 0, .int (Int32.ofNat q - Int32.ofNat (qa qu (bsF qu me (hv me)) me))] M4 R ∧ ∀ v M', R v M' → _
    refine ⟨_, c_granted _ M4, ?_⟩
    rintro v M5 ⟨-, rfl⟩
    show some (Value.int (Int32.ofNat q - Int32.ofNat (qa qu (bsF qu me (hv me)) me))) = _
    unfold leF
    rw [e]
    try rfl
  · rintro v M2 ⟨-, rfl⟩
    have e := bi_1 h
    rw [Bool.not_eq_true'] at e
    show some (Value.int (-1)) = _
    unfold leF
    rw [e]
    try rfl
theorem m_left {M : cm_M} {me q : Nat} {a : Bool} {qu : Nat → Nat} (ha : M.1 124 14 = bi a) (h15 : M.2.2 124 15 = some 127) (h3 : a = true → M.1 127 3 = Int32.ofNat me ∧ 0 < me ∧ QU me (fun m => M.1 127 (55 + m)) qu ∧ M.1 127 7 = Int32.ofNat q) (hme : me ≤ 6) : cm_Lc cm_ms 257 [.ref 124] M (fun v _ => v = some (.int (leF a me q qu))) := by
  refine lb_st0 (mi := mr_257) rfl 400 ?_
  show ∃ R, cm_Lc cm_ms 164 [.ref 124] M R ∧ ∀ v M', R v M' → _
  refine ⟨_, m_good2 M, ?_⟩
  rintro v M1 ⟨rfl, rfl⟩
  show (ev_cmp 1 (M.1 124 14) 0 = true → ∃ R, cm_Lc cm_ms 255 [.ref 124] (cm_wi (cm_wi M 124 0 0) 124 11 0) R ∧ ∀ v M', R v M' → _) ∧ (ev_cmp 1 (M.1 124 14) 0 = false → ∃ R, cm_Lc cm_ms 165 [.ref 124, .int 1] (cm_wi (cm_wi M 124 0 0) 124 11 0) R ∧ ∀ v M', R v M' → _)
  refine ⟨fun h => ?_, fun h => ⟨_, m_no2 _ _, ?_⟩⟩
  · rw [ha] at h
    have e := bi_t h
    obtain ⟨k1, k2, k3, k4⟩ := h3 e
    have hh := hv_2 k2
    have h64 := p2_64 hme
    have hb2 : bsF qu me (hv me) < 64 := by
      have := bsF_lt qu me (hv me) (by
        have : 2 ≤ 2 ^ me := by
          have := Nat.pow_le_pow_right (n := 2) (by omega) k2
          omega
        omega)
      omega
    refine ⟨_, m_partingOf (M := cm_wi (cm_wi M 124 0 0) 124 11 0) h15 k1 hme k2 k3, ?_⟩
    rintro v M1 ⟨rfl, rfl⟩
    first | refine lb_to (T := (23, [(0, .ref 124), (1, .int (Int32.ofNat (bsF qu me (hv me))))], [.ref 124], cm_wi (cm_wi M 124 0 0) 124 11 0)) 23 [0, 1] rfl rfl rfl (fun J' h => h) (lb_g0 rfl rfl h15 ?_) | refine lb_to0 (T := (23, [(0, .ref 124), (1, .int (Int32.ofNat (bsF qu me (hv me))))], [.ref 124], cm_wi (cm_wi M 124 0 0) 124 11 0)) 23 [0, 1] rfl rfl rfl (fun J' h => h) (lb_g0 rfl rfl h15 ?_)
    show ∃ R, cm_Lc cm_ms 254 [.ref 124, .int (Int32.ofNat (bsF qu me (hv me))), .int (Int32.ofNat (bsF qu me (hv me)) ^^^ -1)] (cm_wi (cm_wi M 124 0 0) 124 11 0) R ∧ ∀ v M', R v M' → _
    refine ⟨_, m_qOf (M := cm_wi (cm_wi M 124 0 0) 124 11 0) h15 k1 hme k3 hb2 (g := cpl (bsF qu me (hv me))) (fun a ha => and_t a ha _ hb2), ?_⟩
    rintro v M1 ⟨-, rfl⟩
    show some (Value.int (M.1 127 7 - Int32.ofNat (qg (cpl (bsF qu me (hv me))) qu (bsF qu me (hv me)) me))) = _
    unfold leF
    rw [e, k4]
    try rfl
  · rintro v M1 ⟨rfl, -⟩
    rw [ha] at h
    show some (Value.int (-1)) = _
    unfold leF
    rw [bi_f h]
    try rfl
/-! peace -/
def quB (qu : Nat → Nat) (s : Nat) : Nat → Bool
  | 0 => true
  | m + 1 => quB qu s m && (decide (s / 2 ^ m % 2 ≠ 0) || decide (cpl s (qu m) = 0))
theorem quB_f (qu : Nat → Nat) (s m : Nat) : ∀ d, quB qu s m = false → quB qu s (m + d) = false
  | 0, h => h
  | d + 1, h => by
    show (quB qu s (m + d) && _) = false
    rw [quB_f qu s m d h, Bool.false_and]
theorem ofn_0 {a : Nat} (ha : a < 2147483648) : Int32.ofNat a = 0 ↔ a = 0 := ⟨fun h => ofn_inj (b := 0) ha (by omega) h, fun h => by rw [h]; try rfl⟩
set_option maxRecDepth 100000 in
theorem c_quiet {M : cm_M} {T' me s : Nat} {qu : Nat → Nat} (h8 : M.2.2 T' 8 = some (T' + 5)) (h3 : M.1 T' 3 = Int32.ofNat me) (hme : me ≤ 6) (hq : QU me (M.1 (T' + 5)) qu) (hs : s < 64) : cm_Lc cm_ms 20 [.ref T', .int (Int32.ofNat s)] M (fun v M' => M' = M ∧ v = some (.int (bi (quB qu s me)))) := by
  refine lb_of (mi := mr_20) rfl [(2, [0, 1, 2])] (fun S => ∃ m, m ≤ me ∧ quB qu s m = true ∧ S = (2, [(0, .ref T'), (1, .int (Int32.ofNat s)), (2, .int (Int32.ofNat m))], [], M)) 400 (fun S hS => ?_) 400 ?_
  · obtain ⟨m, hm, hqb, rfl⟩ := hS
    have es : quB qu s (m + 1) = (quB qu s m && (decide (s / 2 ^ m % 2 ≠ 0) || decide (cpl s (qu m) = 0))) := rfl
    show (ev_cmp 3 (Int32.ofNat m) (M.1 T' 3) = true → _) ∧ (ev_cmp 3 (Int32.ofNat m) (M.1 T' 3) = false → (ev_cmp 1 ((Int32.ofNat s >>> (Int32.ofNat m &&& 31)) &&& 1) 0 = true → ∃ m', m' ≤ me ∧ _ ∧ (2, [(0, Value.ref T'), (1, .int (Int32.ofNat s)), (2, .int (Int32.ofNat m + 1))], [], M) = _) ∧ (ev_cmp 1 ((Int32.ofNat s >>> (Int32.ofNat m &&& 31)) &&& 1) 0 = false → _))
    refine ⟨fun h => ⟨rfl, ?_⟩, fun h => ⟨fun h2 => ?_, fun h2 => lb_to (T := (19, [(0, .ref T'), (1, .int (Int32.ofNat s)), (2, .int (Int32.ofNat m))], [.ref T'], M)) 19 [0, 1, 2] rfl rfl rfl (fun J' h => h) (lb_g0 rfl rfl h8 ?_)⟩⟩
    · have g := fn_ge h
      rw [h3, fn_toInt (by omega), fn_toInt (by omega)] at g
      have : m = me := by omega
      subst this
      rw [hqb]
      try rfl
    · have g := fn_nge h
      rw [h3, fn_toInt (by omega), fn_toInt (by omega)] at g
      refine ⟨m + 1, by omega, ?_, by rw [ofn_s1]⟩
      rw [es, hqb, decide_eq_true (show s / 2 ^ m % 2 ≠ 0 from fun z => fn_ne h2 ((bit_t s hs m (by omega)).mpr z))]
      try rfl
    · have g := fn_nge h
      rw [h3, fn_toInt (by omega), fn_toInt (by omega)] at g
      have k1 := hq m (by omega)
      have k2 := and_t (qu m) k1.2 s hs
      have ex : M.1 (T' + 5) (Int32.ofNat m).toNatClampNeg &&& (Int32.ofNat s ^^^ -1) = Int32.ofNat (cpl s (qu m)) := by
        rw [fn_nat (by omega), k1.1, k2.1]
      have e0 : s / 2 ^ m % 2 = 0 := (bit_t s hs m (by omega)).mp (fn_eq h2)
      show (ev_cmp 0 (M.1 (T' + 5) (Int32.ofNat m).toNatClampNeg &&& (Int32.ofNat s ^^^ -1)) 0 = true → ∃ m', m' ≤ me ∧ _ ∧ (2, [(0, Value.ref T'), (1, .int (Int32.ofNat s)), (2, .int (Int32.ofNat m + 1))], [], M) = _) ∧ (ev_cmp 0 (M.1 (T' + 5) (Int32.ofNat m).toNatClampNeg &&& (Int32.ofNat s ^^^ -1)) 0 = false → _)
      refine ⟨fun h4 => ⟨m + 1, by omega, ?_, by rw [ofn_s1]⟩, fun h4 => ⟨rfl, ?_⟩⟩
      · have z := fn_eq0 h4
        rw [ex, ofn_0 (by omega)] at z
        rw [es, hqb, decide_eq_true z, Bool.or_true]
        try rfl
      · have z := fn_ne0 h4
        rw [ex, ne_eq, ofn_0 (by omega)] at z
        have ef : quB qu s (m + 1) = false := by
          rw [es, decide_eq_false z, decide_eq_false (fun w => w e0), Bool.or_self, Bool.and_false]
        have ee := quB_f qu s (m + 1) (me - (m + 1)) ef
        rw [Nat.add_sub_of_le (by omega)] at ee
        rw [ee]
        try rfl
  · show ∃ m', m' ≤ me ∧ _ ∧ (2, [(0, Value.ref T'), (1, .int (Int32.ofNat s)), (2, .int (Int32.ofNat 0))], [], M) = _
    exact ⟨0, Nat.zero_le _, rfl, rfl⟩
/-- the first of the fewest that are gone for peace: who, how many -/
def peF (qu : Nat → Nat) (me : Nat) : Nat → Nat × Nat
  | 0 => (0, 7)
  | d + 1 => if (decide (pc d < (peF qu me d).2) && quB qu d me) = true then (d, pc d) else peF qu me d
theorem peF_le (qu : Nat → Nat) (me : Nat) : ∀ d, (peF qu me d).1 ≤ d ∧ (peF qu me d).2 ≤ 7
  | 0 => ⟨Nat.le_refl _, Nat.le_refl _⟩
  | d + 1 => by
    have := peF_le qu me d
    have := pc_6 d
    unfold peF
    split
    · dsimp only
      omega
    · omega
set_option maxRecDepth 100000 in
theorem c_fewest {M : cm_M} {T' me : Nat} {qu : Nat → Nat} (h8 : M.2.2 T' 8 = some (T' + 5)) (h3 : M.1 T' 3 = Int32.ofNat me) (hme : me ≤ 6) (hq : QU me (M.1 (T' + 5)) qu) : cm_Lc cm_ms 19 [.ref T'] M (fun v M' => M' = M ∧ v = some (.int (Int32.ofNat (peF qu me (2 ^ me)).1))) := by
  have h64 := p2_64 hme
  have hpw : (1 : Int32) <<< (M.1 T' 3 &&& 31) = Int32.ofNat (2 ^ me) := by
    rw [h3]
    exact sB_t me (by omega)
  refine lb_of (mi := mr_19) rfl [(7, [0, 1, 2, 3])] (fun S => ∃ d, d ≤ 2 ^ me ∧ S = (7, [(0, .ref T'), (1, .int (Int32.ofNat (peF qu me d).1)), (2, .int (Int32.ofNat (peF qu me d).2)), (3, .int (Int32.ofNat d))], [], M)) 400 (fun S hS => ?_) 400 ?_
  · obtain ⟨d, hd, rfl⟩ := hS
    have l7 := peF_le qu me d
    have es : peF qu me (d + 1) = if (decide (pc d < (peF qu me d).2) && quB qu d me) = true then (d, pc d) else peF qu me d := rfl
    show (ev_cmp 3 (Int32.ofNat d) ((1 : Int32) <<< (M.1 T' 3 &&& 31)) = true → _) ∧ (ev_cmp 3 (Int32.ofNat d) ((1 : Int32) <<< (M.1 T' 3 &&& 31)) = false → ∃ R, cm_Lc cm_ms 0 [.int (Int32.ofNat d)] M R ∧ ∀ v M', R v M' → _)
    refine ⟨fun h => ⟨rfl, ?_⟩, fun h => ?_⟩
    · have g := fn_ge h
      rw [hpw, fn_toInt (by omega), fn_toInt (by omega)] at g
      have : d = 2 ^ me := by omega
      subst this
      rfl
    · have g := fn_nge h
      rw [hpw, fn_toInt (by omega), fn_toInt (by omega)] at g
      have qb : ∀ M, cm_Lc cm_ms 0 [.int (Int32.ofNat d)] M (fun v M' => v = some (.int (Int32.ofNat (pc d))) ∧ M' = M) := fun M => by
        have q := f_bc (Int32.ofNat d) M
        rw [bc_t d (by omega)] at q
        exact q
      have lp := pc_6 d
      refine ⟨_, qb M, ?_⟩
      rintro v M1 ⟨rfl, rfl⟩
      show (ev_cmp 3 (Int32.ofNat (pc d)) (Int32.ofNat (peF qu me d).2) = true → ∃ d', d' ≤ 2 ^ me ∧ (7, [(0, Value.ref T'), (1, .int (Int32.ofNat (peF qu me d).1)), (2, .int (Int32.ofNat (peF qu me d).2)), (3, .int (Int32.ofNat d + 1))], [], M1) = _) ∧ (ev_cmp 3 (Int32.ofNat (pc d)) (Int32.ofNat (peF qu me d).2) = false → ∃ R, cm_Lc cm_ms 20 [.ref T', .int (Int32.ofNat d)] M1 R ∧ ∀ v M', R v M' → _)
      refine ⟨fun h2 => ⟨d + 1, by omega, ?_⟩, fun h2 => ⟨_, c_quiet h8 h3 hme hq (by omega), ?_⟩⟩
      · have g2 := fn_ge h2
        rw [fn_toInt (by omega), fn_toInt (by omega)] at g2
        rw [ofn_s1, es, decide_eq_false (by omega), Bool.false_and, if_neg (by decide)]
      · have g2 := fn_nge h2
        rw [fn_toInt (by omega), fn_toInt (by omega)] at g2
        rintro v M2 ⟨rfl, rfl⟩
        show (ev_cmp 0 (bi (quB qu d me)) 0 = true → ∃ d', d' ≤ 2 ^ me ∧ (7, [(0, Value.ref T'), (1, .int (Int32.ofNat (peF qu me d).1)), (2, .int (Int32.ofNat (peF qu me d).2)), (3, .int (Int32.ofNat d + 1))], [], M2) = _) ∧ (ev_cmp 0 (bi (quB qu d me)) 0 = false → ∃ R, cm_Lc cm_ms 0 [.int (Int32.ofNat d)] M2 R ∧ ∀ v M', R v M' → _)
        refine ⟨fun h4 => ⟨d + 1, by omega, ?_⟩, fun h4 => ⟨_, qb M2, ?_⟩⟩
        · rw [ofn_s1, es, bi_0 h4, Bool.and_false, if_neg (by decide)]
        · rintro v M3 ⟨rfl, rfl⟩
          show ∃ d', d' ≤ 2 ^ me ∧ (7, [(0, Value.ref T'), (1, .int (Int32.ofNat d)), (2, .int (Int32.ofNat (pc d))), (3, .int (Int32.ofNat d + 1))], [], M3) = _
          refine ⟨d + 1, by omega, ?_⟩
          rw [ofn_s1, es, decide_eq_true (by omega), bi_1 h4, if_pos (by decide)]
  · show ∃ d', d' ≤ 2 ^ me ∧ (7, [(0, Value.ref T'), (1, .int (Int32.ofNat 0)), (2, .int (Int32.ofNat 7)), (3, .int (Int32.ofNat 0))], [], M) = _
    exact ⟨0, Nat.zero_le _, rfl⟩
theorem c_peace {M : cm_M} {T' me : Nat} {a : Bool} {qu : Nat → Nat} (h03 : M.2.2 0 3 = some T') (h8 : M.2.2 T' 8 = some (T' + 5)) (h3 : M.1 T' 3 = Int32.ofNat me) (hme : me ≤ 6) (ha : decide (M.1 T' 3 = 0) = !a) (hq : QU me (M.1 (T' + 5)) qu) : cm_Lc cm_ms 126 [.ref 0] M (fun v _ => v = some (.int (pgF a (Int32.ofNat (peF qu me (2 ^ me)).1)))) := by
  have q := c_noTown h03
  rw [ha] at q
  refine lb_st0 (mi := mr_126) rfl 400 ?_
  show ∃ R, cm_Lc cm_ms 160 [.ref 0] M R ∧ ∀ v M', R v M' → _
  refine ⟨_, q, ?_⟩
  rintro v M1 ⟨rfl, rfl⟩
  show (ev_cmp 0 (bi !a) 0 = true → _) ∧ (ev_cmp 0 (bi !a) 0 = false → ∃ R, cm_Lc cm_ms 157 [.ref 0, .int 1] M1 R ∧ ∀ v M', R v M' → _)
  refine ⟨fun h => lb_to (T := (17, [(0, .ref 0)], [.ref 0, .ref 0], M1)) 17 [0] rfl rfl rfl (fun J' h => h) (lb_g0 rfl rfl h03 ?_), fun h => ⟨_, c_refused 1 M1, ?_⟩⟩
  · have e := bi_0 h
    rw [Bool.not_eq_false'] at e
    show ∃ R, cm_Lc cm_ms 19 [.ref T'] M1 R ∧ ∀ v M', R v M' → _
    refine ⟨_, c_fewest h8 h3 hme hq, ?_⟩
    rintro v M2 ⟨rfl, rfl⟩
    show ∃ R, cm_Lc cm_ms 159 [.ref 0, .int (Int32.ofNat (peF qu me (2 ^ me)).1)] M2 R ∧ ∀ v M', R v M' → _
    refine ⟨_, c_granted _ M2, ?_⟩
    rintro v M3 ⟨-, rfl⟩
    show some (Value.int (Int32.ofNat (peF qu me (2 ^ me)).1)) = _
    rw [e]
    try rfl
  · rintro v M2 ⟨-, rfl⟩
    have e := bi_1 h
    rw [Bool.not_eq_true'] at e
    show some (Value.int (-1)) = _
    rw [e]
    try rfl
/-! the reference's -/
def qz (qu : Nat → Nat) (me d : Nat) : Nat := qg (fun x => x &&& cpl d (2 ^ me - 1)) qu (cpl d (2 ^ me - 1)) me
def pbF (qu : Nat → Nat) (me : Nat) : Nat → Nat
  | 0 => 2 ^ me - 1
  | d + 1 => if pc d < pc (pbF qu me d) ∧ qz qu me d = 0 then d else pbF qu me d
theorem pbF_lt (qu : Nat → Nat) (me : Nat) : ∀ d, d ≤ 2 ^ me → pbF qu me d < 2 ^ me
  | 0, _ => by
    have := Nat.one_le_two_pow (n := me)
    show 2 ^ me - 1 < 2 ^ me
    omega
  | d + 1, h => by
    have := pbF_lt qu me d (by omega)
    unfold pbF
    split <;> omega
set_option maxRecDepth 100000 in
theorem cpl_t1 : ∀ me, me < 7 → ∀ d, d < 2 ^ me → ∀ m, m < me → (cpl d (2 ^ me - 1) / 2 ^ m % 2 = 0 ↔ d / 2 ^ m % 2 ≠ 0) := by decide +kernel
set_option maxRecDepth 100000 in
theorem cpl_t2 : ∀ me, me < 7 → ∀ d, d < 2 ^ me → ∀ a, a < 2 ^ me → a &&& cpl d (2 ^ me - 1) = cpl d a := by decide +kernel
set_option maxRecDepth 100000 in
theorem pc_t0 : ∀ a, a < 64 → (pc a = 0 ↔ a = 0) := by decide +kernel
set_option maxRecDepth 100000 in
theorem pc_t1 : ∀ me, me < 7 → ∀ d, d < 2 ^ me - 1 → pc d < pc (2 ^ me - 1) := by decide +kernel
set_option maxRecDepth 100000 in
theorem and2_t : ∀ a, a < 64 → ∀ b, b < 64 → Int32.ofNat a &&& Int32.ofNat b = Int32.ofNat (a &&& b) ∧ a &&& b < 64 := by decide +kernel
theorem qz_s {qu : Nat → Nat} {me d : Nat} (hme : me ≤ 6) (hd : d < 2 ^ me) (hq : ∀ m, m < me → qu m < 2 ^ me) : ∀ n, n ≤ me → (qg (fun x => x &&& cpl d (2 ^ me - 1)) qu (cpl d (2 ^ me - 1)) n = 0 ↔ quB qu d n = true)
  | 0, _ => ⟨fun _ => rfl, fun _ => rfl⟩
  | n + 1, hn => by
    have ih := qz_s hme hd hq n (by omega)
    have h64 := p2_64 hme
    have c1 := cpl_t1 me (by omega) d hd n (by omega)
    have c2 := cpl_t2 me (by omega) d hd (qu n) (hq n (by omega))
    have hqn := hq n (by omega)
    have c3 : cpl d (qu n) < 64 := (and_t (qu n) (by omega) d (by omega)).2
    have c4 := pc_t0 _ c3
    unfold qg quB
    rw [Bool.and_eq_true, ← ih, Bool.or_eq_true, decide_eq_true_eq, decide_eq_true_eq]
    by_cases z : cpl d (2 ^ me - 1) / 2 ^ n % 2 = 0
    · rw [if_pos z]
      exact ⟨fun q => ⟨by omega, Or.inl (c1.mp z)⟩, fun q => by omega⟩
    · rw [if_neg z, c2]
      have z2 : ¬ (d / 2 ^ n % 2 ≠ 0) := fun w => z (c1.mpr w)
      constructor
      · intro q
        exact ⟨by omega, Or.inr (c4.mp (by omega))⟩
      · rintro ⟨q1, q2 | q2⟩
        · exact absurd q2 z2
        · have := c4.mpr q2
          omega
theorem pe_pb {qu : Nat → Nat} {me : Nat} (hme : me ≤ 6) (hq : ∀ m, m < me → qu m < 2 ^ me) : ∀ d, d ≤ 2 ^ me - 1 → ((peF qu me d).2 = 7 ∧ pbF qu me d = 2 ^ me - 1) ∨ (peF qu me d = (pbF qu me d, pc (pbF qu me d)))
  | 0, _ => Or.inl ⟨rfl, rfl⟩
  | d + 1, hd => by
    have ih := pe_pb hme hq d (by omega)
    have hz := qz_s hme (d := d) (by omega) hq me (Nat.le_refl _)
    have hz : qz qu me d = 0 ↔ quB qu d me = true := hz
    have lp := pc_6 d
    have e1 : peF qu me (d + 1) = if (decide (pc d < (peF qu me d).2) && quB qu d me) = true then (d, pc d) else peF qu me d := rfl
    have e2 : pbF qu me (d + 1) = if pc d < pc (pbF qu me d) ∧ qz qu me d = 0 then d else pbF qu me d := rfl
    rw [e1, e2]
    rcases ih with ⟨i1, i2⟩ | i1
    · have t1 := pc_t1 me (by omega) d (by omega)
      rw [i1, i2, decide_eq_true (by omega), Bool.true_and]
      by_cases b : quB qu d me = true
      · rw [if_pos b, if_pos ⟨t1, hz.mpr b⟩]
        exact Or.inr rfl
      · rw [if_neg b, if_neg (fun w => b (hz.mp w.2))]
        exact Or.inl ⟨i1, rfl⟩
    · rw [i1]
      dsimp only
      by_cases b : pc d < pc (pbF qu me d) ∧ qz qu me d = 0
      · rw [if_pos b, if_pos (by rw [decide_eq_true b.1, hz.mp b.2]; try rfl)]
        exact Or.inr rfl
      · rw [if_neg b, if_neg (fun w => by
          rw [Bool.and_eq_true, decide_eq_true_eq] at w
          exact b ⟨w.1, hz.mpr w.2⟩)]
        exact Or.inr rfl
theorem quB_all (qu : Nat → Nat) {me : Nat} (hme : me ≤ 6) : ∀ n, n ≤ me → quB qu (2 ^ me - 1) n = true
  | 0, _ => rfl
  | n + 1, h => by
    have t : ∀ me, me < 7 → ∀ n, n < me → (2 ^ me - 1) / 2 ^ n % 2 ≠ 0 := by decide +kernel
    show (quB qu (2 ^ me - 1) n && _) = true
    rw [quB_all qu hme n (by omega), decide_eq_true (t me (by omega) n (by omega))]
    try rfl
theorem pe_end {qu : Nat → Nat} {me : Nat} (hme : me ≤ 6) (hq : ∀ m, m < me → qu m < 2 ^ me) : (peF qu me (2 ^ me)).1 = pbF qu me (2 ^ me) := by
  have h1 := Nat.one_le_two_pow (n := me)
  obtain ⟨d, hd⟩ : ∃ d, 2 ^ me = d + 1 := ⟨2 ^ me - 1, by omega⟩
  have ih := pe_pb hme hq d (by omega)
  have hz := qz_s hme (d := d) (by omega) hq me (Nat.le_refl _)
  have hz : qz qu me d = 0 ↔ quB qu d me = true := hz
  have lp := pc_6 d
  have e1 : peF qu me (d + 1) = if (decide (pc d < (peF qu me d).2) && quB qu d me) = true then (d, pc d) else peF qu me d := rfl
  have e2 : pbF qu me (d + 1) = if pc d < pc (pbF qu me d) ∧ qz qu me d = 0 then d else pbF qu me d := rfl
  have hall : quB qu d me = true := by
    have := quB_all qu hme me (Nat.le_refl _)
    rwa [hd, Nat.add_sub_cancel] at this
  rw [hd, e1, e2]
  rcases ih with ⟨i1, i2⟩ | i1
  · have i3 : pbF qu me d = d := by omega
    rw [i1, i3, hall, decide_eq_true (by omega), if_pos (by decide), if_neg (fun w => Nat.lt_irrefl _ w.1)]
  · rw [i1]
    dsimp only
    by_cases b : pc d < pc (pbF qu me d) ∧ qz qu me d = 0
    · rw [if_pos b, if_pos (by rw [decide_eq_true b.1, hz.mp b.2]; try rfl)]
    · rw [if_neg b, if_neg (fun w => by
        rw [Bool.and_eq_true, decide_eq_true_eq] at w
        exact b ⟨w.1, hz.mpr w.2⟩)]
set_option maxRecDepth 100000 in
theorem m_peace {M : cm_M} {me : Nat} {a : Bool} {qu : Nat → Nat} (ha : M.1 124 14 = bi a) (h15 : M.2.2 124 15 = some 127) (h3 : a = true → M.1 127 3 = Int32.ofNat me ∧ QU me (fun m => M.1 127 (55 + m)) qu) (hme : me ≤ 6) : cm_Lc cm_ms 258 [.ref 124] M (fun v _ => v = some (.int (pgF a (Int32.ofNat (pbF qu me (2 ^ me)))))) := by
  have h64 := p2_64 hme
  have h1 := Nat.one_le_two_pow (n := me)
  refine lb_of (mi := mr_258) rfl [(24, [0, 1, 2])] (fun S => a = true ∧ ∃ d, d ≤ 2 ^ me ∧ S = (24, [(0, .ref 124), (1, .int (Int32.ofNat (pbF qu me d))), (2, .int (Int32.ofNat d))], [], cm_wi (cm_wi M 124 0 0) 124 11 0)) 400 (fun S hS => ?_) 400 ?_
  · obtain ⟨e, d, hd, rfl⟩ := hS
    obtain ⟨k1, k2⟩ := h3 e
    have lb := pbF_lt qu me d hd
    have es : pbF qu me (d + 1) = if pc d < pc (pbF qu me d) ∧ qz qu me d = 0 then d else pbF qu me d := rfl
    have am := m_allMen (M := cm_wi (cm_wi M 124 0 0) 124 11 0) h15 k1 hme
    show ∃ R, cm_Lc cm_ms 208 [.ref 124] (cm_wi (cm_wi M 124 0 0) 124 11 0) R ∧ ∀ v M', R v M' → _
    refine ⟨_, am, ?_⟩
    rintro v M1 ⟨rfl, rfl⟩
    show (ev_cmp 4 (Int32.ofNat d) (Int32.ofNat (2 ^ me - 1)) = true → _) ∧ (ev_cmp 4 (Int32.ofNat d) (Int32.ofNat (2 ^ me - 1)) = false → ∃ R, cm_Lc cm_ms 169 [.int (Int32.ofNat d)] (cm_wi (cm_wi M 124 0 0) 124 11 0) R ∧ ∀ v M', R v M' → _)
    refine ⟨fun h => ?_, fun h => ?_⟩
    · have g := fn_gt h
      rw [fn_toInt (by omega), fn_toInt (by omega)] at g
      have : d = 2 ^ me := by omega
      subst this
      show some (Value.int (Int32.ofNat (pbF qu me (2 ^ me)))) = _
      rw [e]
      try rfl
    · have g := fn_ngt h
      rw [fn_toInt (by omega), fn_toInt (by omega)] at g
      refine ⟨_, m_ones (by omega) _, ?_⟩
      rintro v M1 ⟨rfl, rfl⟩
      show ∃ R, cm_Lc cm_ms 169 [.int (Int32.ofNat (pbF qu me d))] (cm_wi (cm_wi M 124 0 0) 124 11 0) R ∧ ∀ v M', R v M' → _
      refine ⟨_, m_ones (by omega) _, ?_⟩
      rintro v M1 ⟨rfl, rfl⟩
      have l1 := pc_6 d
      have l2 := pc_6 (pbF qu me d)
      have a1 := and_t (2 ^ me - 1) (by omega) d (by omega)
      show (ev_cmp 3 (Int32.ofNat (pc d)) (Int32.ofNat (pc (pbF qu me d))) = true → (_ ∧ ∃ d', d' ≤ 2 ^ me ∧ (24, [(0, Value.ref 124), (1, .int (Int32.ofNat (pbF qu me d))), (2, .int (Int32.ofNat d + 1))], [], cm_wi (cm_wi M 124 0 0) 124 11 0) = _)) ∧ (ev_cmp 3 (Int32.ofNat (pc d)) (Int32.ofNat (pc (pbF qu me d))) = false → ∃ R, cm_Lc cm_ms 208 [.ref 124] (cm_wi (cm_wi M 124 0 0) 124 11 0) R ∧ ∀ v M', R v M' → _)
      refine ⟨fun h2 => ⟨e, d + 1, by omega, ?_⟩, fun h2 => ⟨_, am, ?_⟩⟩
      · have g2 := fn_ge h2
        rw [fn_toInt (by omega), fn_toInt (by omega)] at g2
        rw [ofn_s1, es, if_neg (fun w => by have := w.1; omega)]
      · have g2 := fn_nge h2
        rw [fn_toInt (by omega), fn_toInt (by omega)] at g2
        rintro v M1 ⟨rfl, rfl⟩
        show ∃ R, cm_Lc cm_ms 208 [.ref 124] (cm_wi (cm_wi M 124 0 0) 124 11 0) R ∧ ∀ v M', R v M' → _
        refine ⟨_, am, ?_⟩
        rintro v M1 ⟨rfl, rfl⟩
        have qo := m_qOf (M := cm_wi (cm_wi M 124 0 0) 124 11 0) h15 k1 hme k2 (s := cpl d (2 ^ me - 1)) a1.2 (g := fun x => x &&& cpl d (2 ^ me - 1)) (y := Int32.ofNat (cpl d (2 ^ me - 1))) (fun x hx => and2_t x hx _ a1.2)
        rw [← a1.1] at qo
        show ∃ R, cm_Lc cm_ms 254 [.ref 124, .int (Int32.ofNat (2 ^ me - 1) &&& (Int32.ofNat d ^^^ -1)), .int (Int32.ofNat (2 ^ me - 1) &&& (Int32.ofNat d ^^^ -1))] (cm_wi (cm_wi M 124 0 0) 124 11 0) R ∧ ∀ v M', R v M' → _
        refine ⟨_, qo, ?_⟩
        rintro v M1 ⟨rfl, rfl⟩
        have l3 : qz qu me d ≤ 6 * me := qg_le _ _ _ _
        show (ev_cmp 1 (Int32.ofNat (qz qu me d)) 0 = true → (_ ∧ ∃ d', d' ≤ 2 ^ me ∧ (24, [(0, Value.ref 124), (1, .int (Int32.ofNat (pbF qu me d))), (2, .int (Int32.ofNat d + 1))], [], cm_wi (cm_wi M 124 0 0) 124 11 0) = _)) ∧ (ev_cmp 1 (Int32.ofNat (qz qu me d)) 0 = false → (_ ∧ ∃ d', d' ≤ 2 ^ me ∧ (24, [(0, Value.ref 124), (1, .int (Int32.ofNat d)), (2, .int (Int32.ofNat d + 1))], [], cm_wi (cm_wi M 124 0 0) 124 11 0) = _))
        refine ⟨fun h4 => ⟨e, d + 1, by omega, ?_⟩, fun h4 => ⟨e, d + 1, by omega, ?_⟩⟩
        · have z := fn_ne h4
          rw [ne_eq, ofn_0 (by omega)] at z
          rw [ofn_s1, es, if_neg (fun w => z w.2)]
        · have z := fn_eq h4
          rw [ofn_0 (by omega)] at z
          rw [ofn_s1, es, if_pos ⟨by omega, z⟩]
  · show ∃ R, cm_Lc cm_ms 164 [.ref 124] M R ∧ ∀ v M', R v M' → _
    refine ⟨_, m_good2 M, ?_⟩
    rintro v M1 ⟨rfl, rfl⟩
    show (ev_cmp 1 (M.1 124 14) 0 = true → ∃ R, cm_Lc cm_ms 208 [.ref 124] (cm_wi (cm_wi M 124 0 0) 124 11 0) R ∧ ∀ v M', R v M' → _) ∧ (ev_cmp 1 (M.1 124 14) 0 = false → ∃ R, cm_Lc cm_ms 165 [.ref 124, .int 1] (cm_wi (cm_wi M 124 0 0) 124 11 0) R ∧ ∀ v M', R v M' → _)
    refine ⟨fun h => ?_, fun h => ⟨_, m_no2 _ _, ?_⟩⟩
    · rw [ha] at h
      have e := bi_t h
      obtain ⟨k1, k2⟩ := h3 e
      refine ⟨_, m_allMen (M := cm_wi (cm_wi M 124 0 0) 124 11 0) h15 k1 hme, ?_⟩
      rintro v M1 ⟨rfl, rfl⟩
      show a = true ∧ ∃ d', d' ≤ 2 ^ me ∧ (24, [(0, Value.ref 124), (1, .int (Int32.ofNat (2 ^ me - 1))), (2, .int (Int32.ofNat 0))], [], cm_wi (cm_wi M 124 0 0) 124 11 0) = _
      exact ⟨e, 0, Nat.zero_le _, rfl⟩
    · rintro v M1 ⟨rfl, -⟩
      rw [ha] at h
      show some (Value.int (-1)) = _
      rw [bi_f h]
      try rfl
