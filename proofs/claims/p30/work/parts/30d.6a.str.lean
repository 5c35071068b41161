/-! FUNCTIONS: texts -/
theorem fn_coder (c : Nat) (M : cm_M) : cm_Lc cm_ms 3 [.ref c] M (fun v M' => M' = M ∧ v = some (.int 0)) := by
  refine lb_st0 (mi := mr_3) rfl 20 ?_
  show (ev_cmp 0 1 0 = true → _) ∧ (ev_cmp 0 1 0 = false → _)
  exact ⟨fun h => absurd h (by decide), fun _ => ⟨rfl, rfl⟩⟩
theorem fn_isLatin1 (c : Nat) (M : cm_M) : cm_Lc cm_ms 4 [.ref c] M (fun v M' => M' = M ∧ v = some (.int 1)) := by
  refine lb_st0 (mi := mr_4) rfl 20 ?_
  show (ev_cmp 0 1 0 = true → _) ∧ (ev_cmp 0 1 0 = false → (ev_cmp 1 0 0 = true → _) ∧ (ev_cmp 1 0 0 = false → _))
  exact ⟨fun h => absurd h (by decide), fun _ => ⟨fun h => absurd h (by decide), fun _ => ⟨rfl, rfl⟩⟩⟩
theorem fn_preCheck (i n : Int32) (f : Value) (M : cm_M) (h0 : 0 ≤ i.toInt) (h1 : i.toInt < n.toInt) : cm_Lc cm_ms 7 [.int i, .int n, f] M (fun v M' => M' = M ∧ v = some (.int i)) := by
  refine lb_st0 (mi := mr_7) rfl 20 ?_
  show (ev_cmp 2 i 0 = true → _) ∧ (ev_cmp 2 i 0 = false → (ev_cmp 2 i n = true → _) ∧ (ev_cmp 2 i n = false → _))
  have z : (0 : Int32).toInt = 0 := by decide
  exact ⟨fun h => absurd (fn_lt h) (by omega), fun _ => ⟨fun _ => ⟨rfl, rfl⟩, fun h => absurd (fn_nlt h) (by omega)⟩⟩
theorem fn_strCheck (i n : Int32) (M : cm_M) (h0 : 0 ≤ i.toInt) (h1 : i.toInt < n.toInt) : cm_Lc cm_ms 5 [.int i, .int n] M (fun v M' => M' = M ∧ v = none) := by
  refine lb_st0 (mi := mr_5) rfl 20 ?_
  show (∃ R, cm_Lc cm_ms 7 [.int i, .int n, .null] M R ∧ ∀ v M', R v M' → _) ∧ (∃ R, cm_Lc cm_ms 7 [.int i, .int n, .ref 1101] M R ∧ ∀ v M', R v M' → _)
  refine ⟨⟨_, fn_preCheck i n _ M h0 h1, ?_⟩, ⟨_, fn_preCheck i n _ M h0 h1, ?_⟩⟩
  · rintro v M' ⟨rfl, rfl⟩
    exact ⟨rfl, rfl⟩
  · rintro v M' ⟨rfl, rfl⟩
    exact ⟨rfl, rfl⟩
theorem cq_alenS_of {E : cm_E} {P : ev_P} {t : ev_T} {pc c : Nat} {L : List (Nat × Value)} {st : List Value} {M : cm_M} {k : cm_S → Prop} {r : String × Nat × String × List Int32} (hz : ev_strs[(c - 1001) / 2]? = some r) (h : k (pc + 1, L, .int (Int32.ofNat r.2.2.2.length) :: st, M)) : cq_alenS E P t (pc, L, .ref c :: st, M) k := by
  unfold cq_alenS
  dsimp only
  rw [hz]
  dsimp only
  rw [cq_adv_eq]
  exact h
theorem cq_baloadS_of {E : cm_E} {P : ev_P} {t : ev_T} {pc c : Nat} {i : Int32} {L : List (Nat × Value)} {st : List Value} {M : cm_M} {k : cm_S → Prop} {r : String × Nat × String × List Int32} (hz : ev_strs[(c - 1001) / 2]? = some r) (h : k (pc + 1, L, .int (r.2.2.2.getD i.toNatClampNeg 0) :: st, M)) : cq_baloadS E P t (pc, L, .int i :: .ref c :: st, M) k := by
  unfold cq_baloadS
  dsimp only
  rw [hz]
  dsimp only
  rw [cq_adv_eq]
  exact h
theorem fn_length {c : Nat} {r : String × Nat × String × List Int32} (hz : ev_strs[(c + 1 - 1001) / 2]? = some r) (M : cm_M) : cm_Lc cm_ms 1 [.ref c] M (fun v M' => M' = M ∧ v = some (.int (Int32.ofNat r.2.2.2.length))) := by
  refine lb_st0 (mi := mr_1) rfl 20 ?_
  show cq_alenS none (cm_P mr_1) (0, 0, 0, []) (4, [(0, .ref c)], [.ref (c + 1)], M) _
  refine cq_alenS_of hz ?_
  show ∃ R, cm_Lc cm_ms 3 [.ref c] M R ∧ ∀ v M', R v M' → _
  refine ⟨_, fn_coder c M, ?_⟩
  rintro v M' ⟨rfl, rfl⟩
  refine ⟨rfl, ?_⟩
  show some (Value.int (Int32.ofNat r.2.2.2.length >>> ((0 : Int32) &&& 31))) = _
  rw [show ((0 : Int32) &&& 31) = 0 from by decide, Int32.shiftRight_zero]
def chr (b : Int32) : Int32 := ((b &&& 255).toUInt32 % 65536).toInt32
theorem fn_latChar {c : Nat} {i : Int32} {r : String × Nat × String × List Int32} (hz : ev_strs[(c + 1 - 1001) / 2]? = some r) (hl : r.2.2.2.length < 1000) (h0 : 0 ≤ i.toInt) (h1 : i.toInt < (r.2.2.2.length : Int)) (M : cm_M) : cm_Lc cm_ms 6 [.ref (c + 1), .int i] M (fun v M' => M' = M ∧ v = some (.int (chr (r.2.2.2.getD i.toNatClampNeg 0)))) := by
  refine lb_st0 (mi := mr_6) rfl 20 ?_
  show cq_alenS none (cm_P mr_6) (0, 0, 0, []) (2, [(0, .ref (c + 1)), (1, .int i)], [.ref (c + 1), .int i], M) _
  refine cq_alenS_of hz ?_
  show ∃ R, cm_Lc cm_ms 5 [.int i, .int (Int32.ofNat r.2.2.2.length)] M R ∧ ∀ v M', R v M' → _
  refine ⟨_, fn_strCheck i _ M h0 (by rw [fn_toInt (by omega)]; exact h1), ?_⟩
  rintro v M' ⟨rfl, rfl⟩
  show cq_baloadS none (cm_P mr_6) (0, 0, 0, []) (8, [(0, .ref (c + 1)), (1, .int i)], [.int i, .ref (c + 1)], M') _
  refine cq_baloadS_of hz ?_
  exact ⟨rfl, rfl⟩
theorem fn_charAt {c : Nat} {i : Int32} {r : String × Nat × String × List Int32} (hz : ev_strs[(c + 1 - 1001) / 2]? = some r) (hl : r.2.2.2.length < 1000) (h0 : 0 ≤ i.toInt) (h1 : i.toInt < (r.2.2.2.length : Int)) (M : cm_M) : cm_Lc cm_ms 2 [.ref c, .int i] M (fun v M' => M' = M ∧ v = some (.int (chr (r.2.2.2.getD i.toNatClampNeg 0)))) := by
  refine lb_st0 (mi := mr_2) rfl 20 ?_
  show ∃ R, cm_Lc cm_ms 4 [.ref c] M R ∧ ∀ v M', R v M' → _
  refine ⟨_, fn_isLatin1 c M, ?_⟩
  rintro v M' ⟨rfl, rfl⟩
  show (ev_cmp 0 1 0 = true → _) ∧ (ev_cmp 0 1 0 = false → ∃ R, cm_Lc cm_ms 6 [.ref (c + 1), .int i] M' R ∧ ∀ v M', R v M' → _)
  refine ⟨fun h => absurd h (by decide), fun _ => ⟨_, fn_latChar hz hl h0 h1 M', ?_⟩⟩
  rintro v M' ⟨rfl, rfl⟩
  exact ⟨rfl, rfl⟩
/-- a text's number -/
def sw (B : List Int32) : Nat → Int64
  | 0 => 0
  | i + 1 => sw B i * 32 + (chr (B.getD i 0)).toInt64 - 97 + 1
def iw_J (M : cm_M) (c : Nat) (B : List Int32) (S : cm_S) : Prop := ∃ i, i ≤ B.length ∧ S = (5, [(0, .ref 2), (1, .ref c), (2, .long (sw B i)), (4, .int (Int32.ofNat i))], [], M)
abbrev iw_R (M : cm_M) (B : List Int32) : cm_K := fun v M' => M' = M ∧ v = some (.int (bi (decide (M.1 2 3 = 1) && decide (M.2.1 2 6 = sw B B.length))))
theorem fn_lne {x y : Int64} (h : ev_cmp 1 (lg_cmp x y) 0 = true) : x ≠ y := fun e => by
  subst e
  have h1 := fn_ne h
  exact h1 (by unfold lg_cmp; simp)
theorem fn_leq {x y : Int64} (h : ev_cmp 1 (lg_cmp x y) 0 = false) : x = y := by
  have h1 := fn_eq h
  unfold lg_cmp at h1
  split at h1
  · exact absurd h1 (by decide)
  · split at h1
    · rename_i hh
      exact hh
    · exact absurd h1 (by decide)
set_option maxRecDepth 100000 in
set_option maxHeartbeats 4000000 in
theorem fn_isWord {c : Nat} {r : String × Nat × String × List Int32} (hz : ev_strs[(c + 1 - 1001) / 2]? = some r) (hl : r.2.2.2.length < 1000) (M : cm_M) : cm_Lc cm_ms 86 [.ref 2, .ref c] M (iw_R M r.2.2.2) := by
  refine lb_of (mi := mr_86) rfl [(5, [0, 1, 2, 4])] (iw_J M c r.2.2.2) 60 (fun S hS => ?_) 20 ?_
  · obtain ⟨i, hi, rfl⟩ := hS
    show ∃ R, cm_Lc cm_ms 1 [.ref c] M R ∧ ∀ v M', R v M' → _
    refine ⟨_, fn_length hz M, ?_⟩
    rintro v M' ⟨rfl, rfl⟩
    show (ev_cmp 3 (Int32.ofNat i) (Int32.ofNat r.2.2.2.length) = true → (ev_cmp 1 (M'.1 2 3) 1 = true → _) ∧ (ev_cmp 1 (M'.1 2 3) 1 = false → (ev_cmp 1 (lg_cmp (M'.2.1 2 6) (sw r.2.2.2 i)) 0 = true → _) ∧ (ev_cmp 1 (lg_cmp (M'.2.1 2 6) (sw r.2.2.2 i)) 0 = false → _))) ∧ (ev_cmp 3 (Int32.ofNat i) (Int32.ofNat r.2.2.2.length) = false → ∃ R, cm_Lc cm_ms 2 [.ref c, .int (Int32.ofNat i)] M' R ∧ ∀ v M', R v M' → _)
    refine ⟨fun h => ?_, fun h => ?_⟩
    · have h1 := fn_ge h
      rw [fn_toInt (by omega), fn_toInt (by omega)] at h1
      have hi2 : i = r.2.2.2.length := by omega
      refine ⟨fun h2 => ⟨rfl, ?_⟩, fun h2 => ⟨fun h3 => ⟨rfl, ?_⟩, fun h3 => ⟨rfl, ?_⟩⟩⟩
      · rw [decide_eq_false (fn_ne h2), Bool.false_and]
        rfl
      · rw [← hi2, decide_eq_false (fn_lne h3), Bool.and_false]
        rfl
      · rw [← hi2, decide_eq_true (fn_eq h2), decide_eq_true (fn_leq h3)]
        rfl
    · have h1 := fn_nge h
      rw [fn_toInt (by omega), fn_toInt (by omega)] at h1
      refine ⟨_, fn_charAt hz hl (by rw [fn_toInt (by omega)]; omega) (by rw [fn_toInt (by omega)]; omega) M', ?_⟩
      rintro v M' ⟨rfl, rfl⟩
      show ∃ R, cm_Lc cm_ms 87 [.long (sw r.2.2.2 i), .int (chr (r.2.2.2.getD (Int32.ofNat i).toNatClampNeg 0))] M' R ∧ ∀ v M', R v M' → _
      refine ⟨_, fn_pack _ _ M', ?_⟩
      rintro v M' ⟨rfl, rfl⟩
      show iw_J M' c r.2.2.2 (5, [(0, .ref 2), (1, .ref c), (2, .long (sw r.2.2.2 i * 32 + (chr (r.2.2.2.getD (Int32.ofNat i).toNatClampNeg 0)).toInt64 - 97 + 1)), (4, .int (Int32.ofNat i + 1))], [], M')
      rw [fn_nat (by omega), fn_succ]
      exact ⟨i + 1, by omega, rfl⟩
  · show iw_J M c r.2.2.2 (5, [(0, .ref 2), (1, .ref c), (2, .long 0), (4, .int 0)], [], M)
    exact ⟨0, Nat.zero_le _, rfl⟩
/-! the reference's -/
def mw_same (M : cm_M) (B : List Int32) (n : Nat) : Bool := decide (∀ k, k < n → M.1 126 k = chr (B.getD k 0))
theorem mw_same_s (M : cm_M) (B : List Int32) (n : Nat) : mw_same M B (n + 1) = (mw_same M B n && decide (M.1 126 n = chr (B.getD n 0))) := by
  unfold mw_same
  rw [← Bool.decide_and]
  congr 1
  refine propext ⟨fun h => ⟨fun k hk => h k (by omega), h n (by omega)⟩, fun h k hk => ?_⟩
  rcases Nat.lt_or_ge k n with hn | hn
  · exact h.1 k hn
  · have : k = n := by omega
    rw [this]
    exact h.2
theorem mw_same_0 (M : cm_M) (B : List Int32) : mw_same M B 0 = true := decide_eq_true (fun k hk => by omega)
def mw_J (M : cm_M) (c : Nat) (B : List Int32) (S : cm_S) : Prop := M.1 124 13 = 0 ∧ M.1 124 6 = 2 ∧ M.1 124 8 = Int32.ofNat B.length ∧ ∃ i, i ≤ B.length ∧ S = (32, [(0, .ref 124), (1, .ref c), (2, .int (bi (mw_same M B i))), (3, .int (Int32.ofNat i))], [], mn_f M)
abbrev mw_R (M : cm_M) (B : List Int32) : cm_K := fun v M' => M' = M ∧ v = some (.int (bi (decide (M.1 124 13 = 0) && (decide (M.1 124 6 = 2) && (decide (M.1 124 8 = Int32.ofNat B.length) && mw_same M B B.length)))))
theorem fn_eq0 {x y : Int32} (h : ev_cmp 0 x y = true) : x = y := of_decide_eq_true h
theorem fn_ne0 {x y : Int32} (h : ev_cmp 0 x y = false) : x ≠ y := of_decide_eq_false h
set_option maxRecDepth 100000 in
set_option maxHeartbeats 4000000 in
theorem fn_mIsWord {c : Nat} {r : String × Nat × String × List Int32} (hz : ev_strs[(c + 1 - 1001) / 2]? = some r) (hl : r.2.2.2.length < 1000) {M : cm_M} (h1 : M.2.2 124 1 = some 125) (h12 : M.2.2 124 12 = some 126) : cm_Lc cm_ms 178 [.ref 124, .ref c] M (mw_R M r.2.2.2) := by
  have hf := mn_f_eq h1 h12
  refine lb_of (mi := mr_178) rfl [(32, [0, 1, 2, 3])] (mw_J M c r.2.2.2) 60 (fun S hS => ?_) 40 ?_
  · obtain ⟨a1, a2, a3, i, hi, rfl⟩ := hS
    show (ev_cmp 3 (Int32.ofNat i) (M.1 124 8) = true → _) ∧ (ev_cmp 3 (Int32.ofNat i) (M.1 124 8) = false → (ev_cmp 0 (bi (mw_same M r.2.2.2 i)) 0 = true → mw_J M c r.2.2.2 (32, [(0, .ref 124), (1, .ref c), (2, .int 0), (3, .int (Int32.ofNat i + 1))], [], mn_f M)) ∧ (ev_cmp 0 (bi (mw_same M r.2.2.2 i)) 0 = false → ∃ R, cm_Lc cm_ms 2 [.ref c, .int (Int32.ofNat i)] (mn_f M) R ∧ ∀ v M', R v M' → _))
    refine ⟨fun h => ?_, fun h => ?_⟩
    · have g := fn_ge h
      rw [a3, fn_toInt (by omega), fn_toInt (by omega)] at g
      have hi2 : i = r.2.2.2.length := by omega
      show mw_R M r.2.2.2 (some (.int (bi (mw_same M r.2.2.2 i)))) (mn_f M)
      refine ⟨hf, ?_⟩
      rw [decide_eq_true a1, decide_eq_true a2, decide_eq_true a3, hi2]
      rfl
    · have g := fn_nge h
      rw [a3, fn_toInt (by omega), fn_toInt (by omega)] at g
      have hs := mw_same_s M r.2.2.2 i
      refine ⟨fun h2 => ?_, fun h2 => ?_⟩
      · have b0 := bi_0 h2
        rw [b0, Bool.false_and] at hs
        refine ⟨a1, a2, a3, i + 1, by omega, ?_⟩
        rw [hs, fn_succ]
        rfl
      · have b1 := bi_1 h2
        rw [b1, Bool.true_and] at hs
        refine ⟨_, fn_charAt hz hl (by rw [fn_toInt (by omega)]; omega) (by rw [fn_toInt (by omega)]; omega) _, ?_⟩
        rintro v M' ⟨rfl, rfl⟩
        show (ev_cmp 1 (M.1 126 (Int32.ofNat i).toNatClampNeg) (chr (r.2.2.2.getD (Int32.ofNat i).toNatClampNeg 0)) = true → mw_J M c r.2.2.2 (32, [(0, .ref 124), (1, .ref c), (2, .int 0), (3, .int (Int32.ofNat i + 1))], [], mn_f M)) ∧ (ev_cmp 1 (M.1 126 (Int32.ofNat i).toNatClampNeg) (chr (r.2.2.2.getD (Int32.ofNat i).toNatClampNeg 0)) = false → mw_J M c r.2.2.2 (32, [(0, .ref 124), (1, .ref c), (2, .int 1), (3, .int (Int32.ofNat i + 1))], [], mn_f M))
        rw [fn_nat (show i < 2147483648 by omega)]
        refine ⟨fun h3 => ⟨a1, a2, a3, i + 1, by omega, ?_⟩, fun h3 => ⟨a1, a2, a3, i + 1, by omega, ?_⟩⟩
        · rw [hs, decide_eq_false (fn_ne h3), fn_succ]
          rfl
        · rw [hs, decide_eq_true (fn_eq h3), fn_succ]
          rfl
  · show (ev_cmp 1 (M.1 124 13) 0 = true → _) ∧ (ev_cmp 1 (M.1 124 13) 0 = false → (ev_cmp 1 (M.1 124 6) 2 = true → _) ∧ (ev_cmp 1 (M.1 124 6) 2 = false → ∃ R, cm_Lc cm_ms 1 [.ref c] M R ∧ ∀ v M', R v M' → _))
    refine ⟨fun h => ⟨rfl, ?_⟩, fun h => ⟨fun h2 => ⟨rfl, ?_⟩, fun h2 => ⟨_, fn_length hz M, ?_⟩⟩⟩
    · rw [decide_eq_false (fn_ne h), Bool.false_and]
      rfl
    · rw [decide_eq_false (fn_ne h2), Bool.false_and, Bool.and_false]
      rfl
    · rintro v M' ⟨rfl, rfl⟩
      show (ev_cmp 0 (M'.1 124 8) (Int32.ofNat r.2.2.2.length) = true → mw_J M' c r.2.2.2 (32, [(0, .ref 124), (1, .ref c), (2, .int 1), (3, .int 0)], [], M')) ∧ (ev_cmp 0 (M'.1 124 8) (Int32.ofNat r.2.2.2.length) = false → _)
      refine ⟨fun h3 => ⟨fn_eq h, fn_eq h2, fn_eq0 h3, 0, Nat.zero_le _, ?_⟩, fun h3 => ⟨rfl, ?_⟩⟩
      · rw [mw_same_0, hf]
        rfl
      · rw [decide_eq_false (fn_ne0 h3), Bool.false_and, Bool.and_false, Bool.and_false]
        rfl
