/-! THE REFERENCE'S READER: names found -/
theorem ix1 (a : Nat) {n : Nat} (ha : a < 1000) (h : n < 1000) : (Int32.ofNat a + Int32.ofNat n).toNatClampNeg = a + n := by
  rw [← Int32.ofNat_add, fn_nat (by omega)]
theorem ix3 (a b : Nat) {n : Nat} (ha : a < 1000) (hb : b < 1000) (h : n < 1000) : (Int32.ofNat a + Int32.ofNat b * Int32.ofNat n).toNatClampNeg = a + b * n := by
  have : b * n < 1000000 := by
    have h1 : b * n ≤ 1000 * n := Nat.mul_le_mul_right n (by omega)
    omega
  rw [← Int32.ofNat_mul, ← Int32.ofNat_add, fn_nat (by omega)]
theorem ix2 (a b : Nat) {n k : Nat} (ha : a < 1000) (hb : b < 1000) (h : n < 1000) (hk : k < 1000) : (Int32.ofNat a + Int32.ofNat b * Int32.ofNat n + Int32.ofNat k).toNatClampNeg = a + b * n + k := by
  have : b * n < 1000000 := by
    have h1 : b * n ≤ 1000 * n := Nat.mul_le_mul_right n (by omega)
    omega
  rw [← Int32.ofNat_mul, ← Int32.ofNat_add, ← Int32.ofNat_add, fn_nat (by omega)]
theorem ofn_inj {a b : Nat} (ha : a < 2147483648) (hb : b < 2147483648) (h : Int32.ofNat a = Int32.ofNat b) : a = b := by
  have := congrArg Int32.toInt h
  rw [fn_toInt ha, fn_toInt hb] at this
  omega
/-- a name stands in a slot -/
def sl (F L : Nat → Int32) (ns n : Nat) : Prop := F (69 + n) = Int32.ofNat ns ∧ ∀ k, k < ns → F (85 + 8 * n + k) = L k
def fi_J (D : cm_M) (ns : Nat) (S : cm_S) : Prop :=
  (∃ n, n ≤ 16 ∧ (∀ i, i < n → ¬ sl (D.1 128) (D.1 126) ns i) ∧ S = (2, [(0, .ref 124), (1, .int (Int32.ofNat n))], [], fm D)) ∨
  (∃ n k b, n < 16 ∧ k ≤ ns ∧ (∀ i, i < n → ¬ sl (D.1 128) (D.1 126) ns i) ∧ (b = true → D.1 128 (69 + n) = Int32.ofNat ns ∧ ∀ i, i < k → D.1 128 (85 + 8 * n + i) = D.1 126 i) ∧ (b = false → ¬ sl (D.1 128) (D.1 126) ns n) ∧ S = (44, [(0, .ref 124), (1, .int (Int32.ofNat n)), (2, .int (bi b)), (3, .int (Int32.ofNat k))], [], fm D))
abbrev fi_R (D : cm_M) (ns : Nat) : cm_K := fun v M' => M' = fm D ∧ ((v = some (.int (-1)) ∧ ∀ n, n < 16 → ¬ sl (D.1 128) (D.1 126) ns n) ∨ (∃ n, n < 16 ∧ v = some (.int (Int32.ofNat n)) ∧ sl (D.1 128) (D.1 126) ns n))
abbrev fi_st : List (Nat × List Nat) := [(2, [0, 1]), (44, [0, 1, 2, 3])]
theorem ix_69 {n : Nat} (h : n < 1000) : ((69 : Int32) + Int32.ofNat n).toNatClampNeg = 69 + n := ix1 69 (by decide) h
theorem ix_44 {n : Nat} (h : n < 1000) : ((44 : Int32) + Int32.ofNat n).toNatClampNeg = 44 + n := ix1 44 (by decide) h
theorem ix_50 {n : Nat} (h : n < 1000) : ((50 : Int32) + Int32.ofNat n).toNatClampNeg = 50 + n := ix1 50 (by decide) h
theorem ix_55 {n : Nat} (h : n < 1000) : ((55 : Int32) + Int32.ofNat n).toNatClampNeg = 55 + n := ix1 55 (by decide) h
theorem ix_61 {n : Nat} (h : n < 1000) : ((61 : Int32) + Int32.ofNat n).toNatClampNeg = 61 + n := ix1 61 (by decide) h
theorem ix_66 {n : Nat} (h : n < 1000) : ((66 : Int32) + Int32.ofNat n).toNatClampNeg = 66 + n := ix1 66 (by decide) h
theorem of_6 (n : Nat) : (6 : Int32) + Int32.ofNat n = Int32.ofNat (6 + n) := by
  rw [Int32.ofNat_add]
  rfl
theorem of_11 (n : Nat) : (11 : Int32) + Int32.ofNat n = Int32.ofNat (11 + n) := by
  rw [Int32.ofNat_add]
  rfl
theorem of3_11 (n : Nat) : (11 : Int32) + 3 * Int32.ofNat n = Int32.ofNat (11 + 3 * n) := by
  rw [Int32.ofNat_add, Int32.ofNat_mul]
  rfl
theorem of3_29 (n : Nat) : (29 : Int32) + 3 * Int32.ofNat n = Int32.ofNat (29 + 3 * n) := by
  rw [Int32.ofNat_add, Int32.ofNat_mul]
  rfl
set_option maxRecDepth 100000 in
set_option maxHeartbeats 4000000 in
theorem m_find {D : cm_M} {ns : Nat} (h8 : D.1 124 8 = Int32.ofNat ns) (hns : ns ≤ 8) (hpos : 0 < ns) : cm_Lc cm_ms 182 [.ref 124] (fm D) (fi_R D ns) := by
  have e16 : (16 : Int32).toInt = 16 := by decide
  refine lb_of (mi := mr_182) rfl fi_st (fi_J D ns) 60 (fun S hS => ?_) 10 ?_
  · rcases hS with ⟨n, n16, hn, rfl⟩ | ⟨n, k, b, n16, hk, hn, hbt, hbf, rfl⟩
    · have lt16 : ev_cmp 3 (Int32.ofNat n) 16 = false → n < 16 := fun q => by
        have g := fn_nge q
        rw [fn_toInt (by omega)] at g
        omega
      show (ev_cmp 3 (Int32.ofNat n) 16 = true → _) ∧ (ev_cmp 3 (Int32.ofNat n) 16 = false → _)
      refine ⟨fun h1 => ?_, fun h1 => ?_⟩
      · show fi_R D ns (some (.int (-1))) (fm D)
        have g := fn_ge h1
        rw [fn_toInt (by omega)] at g
        have : n = 16 := by omega
        subst this
        exact ⟨rfl, Or.inl ⟨rfl, hn⟩⟩
      · show (ev_cmp 5 (D.1 128 ((69 + (Int32.ofNat n)).toNatClampNeg)) 0 = true → _) ∧ (ev_cmp 5 (D.1 128 ((69 + (Int32.ofNat n)).toNatClampNeg)) 0 = false → _)
        refine ⟨fun h2 => ?_, fun h2 => ?_⟩
        · show fi_J D ns (44, [(0, .ref 124), (1, .int (Int32.ofNat n)), (2, .int (bi false)), (3, .int (Int32.ofNat 0))], [], fm D)
          refine Or.inr ⟨n, 0, false, lt16 h1, Nat.zero_le _, hn, fun q => (by cases q), fun _ q => ?_, rfl⟩
          have g := fn_le h2
          rw [ix_69 (by omega), q.1, fn_toInt (by omega)] at g
          have e0 : (0 : Int32).toInt = 0 := by decide
          omega
        · show (ev_cmp 1 (D.1 128 ((69 + (Int32.ofNat n)).toNatClampNeg)) (D.1 124 8) = true → _) ∧ (ev_cmp 1 (D.1 128 ((69 + (Int32.ofNat n)).toNatClampNeg)) (D.1 124 8) = false → _)
          refine ⟨fun h3 => ?_, fun h3 => ?_⟩
          · show fi_J D ns (44, [(0, .ref 124), (1, .int (Int32.ofNat n)), (2, .int (bi false)), (3, .int (Int32.ofNat 0))], [], fm D)
            refine Or.inr ⟨n, 0, false, lt16 h1, Nat.zero_le _, hn, fun q => (by cases q), fun _ q => ?_, rfl⟩
            have g := fn_ne h3
            rw [ix_69 (by omega), h8] at g
            exact g q.1
          · show fi_J D ns (44, [(0, .ref 124), (1, .int (Int32.ofNat n)), (2, .int (bi true)), (3, .int (Int32.ofNat 0))], [], fm D)
            refine Or.inr ⟨n, 0, true, lt16 h1, Nat.zero_le _, hn, fun _ => ⟨?_, fun i hi => by omega⟩, fun q => (by cases q), rfl⟩
            have g := fn_eq h3
            rw [ix_69 (by omega), h8] at g
            exact g
    · show (ev_cmp 3 (Int32.ofNat k) (D.1 124 8) = true → _) ∧ (ev_cmp 3 (Int32.ofNat k) (D.1 124 8) = false → _)
      refine ⟨fun h1 => ?_, fun h1 => ?_⟩
      · show (ev_cmp 0 (bi b) 0 = true → _) ∧ (ev_cmp 0 (bi b) 0 = false → _)
        refine ⟨fun h2 => ?_, fun h2 => ?_⟩
        · show fi_J D ns (2, [(0, .ref 124), (1, .int (Int32.ofNat n + 1))], [], fm D)
          rw [fn_succ]
          refine Or.inl ⟨n + 1, by omega, fun i hi => ?_, rfl⟩
          rcases Nat.lt_or_ge i n with hc | hc
          · exact hn i hc
          · have : i = n := by omega
            rw [this]
            exact hbf (bi_0 h2)
        · show fi_R D ns (some (.int (Int32.ofNat n))) (fm D)
          have g := fn_ge h1
          rw [h8, fn_toInt (by omega), fn_toInt (by omega)] at g
          have hk9 : k = ns := by omega
          exact ⟨rfl, Or.inr ⟨n, n16, rfl, (hbt (bi_1 h2)).1, fun i hi => (hbt (bi_1 h2)).2 i (by omega)⟩⟩
      · show (ev_cmp 0 (bi b) 0 = true → _) ∧ (ev_cmp 0 (bi b) 0 = false → _)
        refine ⟨fun h3 => ?_, fun h3 => ?_⟩
        · show (ev_cmp 0 (bi b) 0 = true → _) ∧ (ev_cmp 0 (bi b) 0 = false → _)
          refine ⟨fun h4 => ?_, fun h4 => ?_⟩
          · show fi_J D ns (2, [(0, .ref 124), (1, .int (Int32.ofNat n + 1))], [], fm D)
            rw [fn_succ]
            refine Or.inl ⟨n + 1, by omega, fun i hi => ?_, rfl⟩
            rcases Nat.lt_or_ge i n with hc | hc
            · exact hn i hc
            · have : i = n := by omega
              rw [this]
              exact hbf (bi_0 h4)
          · show fi_R D ns (some (.int (Int32.ofNat n))) (fm D)
            exact absurd (bi_0 h3) (by rw [bi_1 h4]; decide)
        · show (ev_cmp 1 (D.1 128 (((85 + (8 * (Int32.ofNat n))) + (Int32.ofNat k)).toNatClampNeg)) (D.1 126 ((Int32.ofNat k).toNatClampNeg)) = true → _) ∧ (ev_cmp 1 (D.1 128 (((85 + (8 * (Int32.ofNat n))) + (Int32.ofNat k)).toNatClampNeg)) (D.1 126 ((Int32.ofNat k).toNatClampNeg)) = false → _)
          refine ⟨fun h5 => ?_, fun h5 => ?_⟩
          · have g := fn_nge h1
            rw [h8, fn_toInt (by omega), fn_toInt (by omega)] at g
            have hbb := bi_1 h3
            have ix : (Int32.ofNat 85 + Int32.ofNat 8 * Int32.ofNat n + Int32.ofNat k).toNatClampNeg = 85 + 8 * n + k := ix2 85 8 (by decide) (by decide) (by omega) (by omega)
            have iy : (Int32.ofNat k).toNatClampNeg = k := fn_nat (by omega)
            show fi_J D ns (44, [(0, .ref 124), (1, .int (Int32.ofNat n)), (2, .int (bi false)), (3, .int (Int32.ofNat k + 1))], [], fm D)
            rw [fn_succ]
            refine Or.inr ⟨n, k + 1, false, n16, by omega, hn, fun q => (by cases q), fun _ q => ?_, rfl⟩
            have g2 : D.1 128 (Int32.ofNat 85 + Int32.ofNat 8 * Int32.ofNat n + Int32.ofNat k).toNatClampNeg ≠ D.1 126 (Int32.ofNat k).toNatClampNeg := fn_ne h5
            rw [ix, iy] at g2
            exact g2 (q.2 k (by omega))
          · have g := fn_nge h1
            rw [h8, fn_toInt (by omega), fn_toInt (by omega)] at g
            have hbb := bi_1 h3
            have ix : (Int32.ofNat 85 + Int32.ofNat 8 * Int32.ofNat n + Int32.ofNat k).toNatClampNeg = 85 + 8 * n + k := ix2 85 8 (by decide) (by decide) (by omega) (by omega)
            have iy : (Int32.ofNat k).toNatClampNeg = k := fn_nat (by omega)
            show fi_J D ns (44, [(0, .ref 124), (1, .int (Int32.ofNat n)), (2, .int (bi true)), (3, .int (Int32.ofNat k + 1))], [], fm D)
            rw [fn_succ]
            refine Or.inr ⟨n, k + 1, true, n16, by omega, hn, fun _ => ⟨(hbt hbb).1, fun i hi => ?_⟩, fun q => (by cases q), rfl⟩
            have g2 : D.1 128 (Int32.ofNat 85 + Int32.ofNat 8 * Int32.ofNat n + Int32.ofNat k).toNatClampNeg = D.1 126 (Int32.ofNat k).toNatClampNeg := fn_eq h5
            rw [ix, iy] at g2
            rcases Nat.lt_or_ge i k with hc | hc
            · exact (hbt hbb).2 i hc
            · have : i = k := by omega
              rw [this]
              exact g2
  · show fi_J D ns (2, [(0, .ref 124), (1, .int (Int32.ofNat 0))], [], fm D)
    exact Or.inl ⟨0, by omega, fun i hi => by omega, rfl⟩
