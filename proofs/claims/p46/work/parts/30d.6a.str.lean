theorem fn_coder (c : Nat) (M : cm_M) : cm_Lc cm_ms 3 [.ref c] M (fun v M' => M' = M ∧ v = some (.int 0)) := by
  refine lb_st0 (mi := mr_3) rfl 20 ?_
  show (ev_cmp 0 1 0 = true → _) ∧ (ev_cmp 0 1 0 = false → _)
  exact ⟨fun h => absurd h (by decide), fun _ => ⟨rfl, rfl⟩⟩
theorem fn_isLatin1 (c : Nat) (M : cm_M) : cm_Lc cm_ms 4 [.ref c] M (fun v M' => M' = M ∧ v = some (.int 1)) := by
  refine lb_st0 (mi := mr_4) rfl 20 ?_
  show (ev_cmp 0 1 0 = true → _) ∧ (ev_cmp 0 1 0 = false → (ev_cmp 1 0 0 = true → _) ∧ (ev_cmp 1 0 0 = false → _))
  exact ⟨fun h => absurd h (by decide), fun _ => ⟨fun h => absurd h (by decide), fun _ => ⟨rfl, rfl⟩⟩⟩
theorem fn_preCheck (i n : Int32) (f : Value) (M : cm_M) (h0 : 0 ≤ i.toInt) (h1 : i.toInt < n.toInt) : cm_Lc cm_ms 7 [.int i, .int n, f] M (fun v M' => M' = M ∧ v = some (.int i)) := by
  refine lb_st0 (mi := mr_7) rfl 20 ?_
  show (ev_cmp 2 i 0 = true → _) ∧ (ev_cmp 2 i 0 = false → (ev_cmp 2 i n = true → _) ∧ (ev_cmp 2 i n = false → _))
  have z : (0 : Int32).toInt = 0 := by decide
  exact ⟨fun h => absurd (fn_lt h) (by omega), fun _ => ⟨fun _ => ⟨rfl, rfl⟩, fun h => absurd (fn_nlt h) (by omega)⟩⟩
theorem fn_strCheck (i n : Int32) (M : cm_M) (h0 : 0 ≤ i.toInt) (h1 : i.toInt < n.toInt) : cm_Lc cm_ms 5 [.int i, .int n] M (fun v M' => M' = M ∧ v = none) := by
  refine lb_st0 (mi := mr_5) rfl 20 ?_
  show (∃ R, cm_Lc cm_ms 7 [.int i, .int n, .null] M R ∧ ∀ v M', R v M' → _) ∧ (∃ R, cm_Lc cm_ms 7 [.int i, .int n, .ref 1101] M R ∧ ∀ v M', R v M' → _)
  refine ⟨⟨_, fn_preCheck i n _ M h0 h1, ?_⟩, ⟨_, fn_preCheck i n _ M h0 h1, ?_⟩⟩
  · rintro v M' ⟨rfl, rfl⟩
    exact ⟨rfl, rfl⟩
  · rintro v M' ⟨rfl, rfl⟩
    exact ⟨rfl, rfl⟩
theorem cq_alenS_of {E : cm_E} {P : ev_P} {t : ev_T} {pc c : Nat} {L : List (Nat × Value)} {st : List Value} {M : cm_M} {k : cm_S → Prop} {r : String × Nat × String × List Int32} (hz : ev_strs[(c - 1001) / 2]? = some r) (h : k (pc + 1, L, .int (Int32.ofNat r.2.2.2.length) :: st, M)) : cq_alenS E P t (pc, L, .ref c :: st, M) k := by
  unfold cq_alenS
  dsimp only
  rw [hz]
  dsimp only
  rw [cq_adv_eq]
  exact h
theorem cq_baloadS_of {E : cm_E} {P : ev_P} {t : ev_T} {pc c : Nat} {i : Int32} {L : List (Nat × Value)} {st : List Value} {M : cm_M} {k : cm_S → Prop} {r : String × Nat × String × List Int32} (hz : ev_strs[(c - 1001) / 2]? = some r) (h : k (pc + 1, L, .int (r.2.2.2.getD i.toNatClampNeg 0) :: st, M)) : cq_baloadS E P t (pc, L, .int i :: .ref c :: st, M) k := by
  unfold cq_baloadS
  dsimp only
  rw [hz]
  dsimp only
  rw [cq_adv_eq]
  exact h
theorem fn_length {c : Nat} {r : String × Nat × String × List Int32} (hz : ev_strs[(c + 1 - 1001) / 2]? = some r) (M : cm_M) : cm_Lc cm_ms 1 [.ref c] M (fun v M' => M' = M ∧ v = some (.int (Int32.ofNat r.2.2.2.length))) := by
  refine lb_st0 (mi := mr_1) rfl 20 ?_
  show cq_alenS none (cm_P mr_1) (0, 0, 0, []) (4, [(0, .ref c)], [.ref (c + 1)], M) _
  refine cq_alenS_of hz ?_
  show ∃ R, cm_Lc cm_ms 3 [.ref c] M R ∧ ∀ v M', R v M' → _
  refine ⟨_, fn_coder c M, ?_⟩
  rintro v M' ⟨rfl, rfl⟩
  refine ⟨rfl, ?_⟩
  show some (Value.int (Int32.ofNat r.2.2.2.length >>> ((0 : Int32) &&& 31))) = _
  rw [show ((0 : Int32) &&& 31) = 0 from by decide, Int32.shiftRight_zero]
noncomputable def chr (b : Int32) : Int32 := ((b &&& 255).toUInt32 % 65536).toInt32
theorem fn_latChar {c : Nat} {i : Int32} {r : String × Nat × String × List Int32} (hz : ev_strs[(c + 1 - 1001) / 2]? = some r) (hl : r.2.2.2.length < 1000) (h0 : 0 ≤ i.toInt) (h1 : i.toInt < (r.2.2.2.length : Int)) (M : cm_M) : cm_Lc cm_ms 6 [.ref (c + 1), .int i] M (fun v M' => M' = M ∧ v = some (.int (chr (r.2.2.2.getD i.toNatClampNeg 0)))) := by
  refine lb_st0 (mi := mr_6) rfl 20 ?_
  show cq_alenS none (cm_P mr_6) (0, 0, 0, []) (2, [(0, .ref (c + 1)), (1, .int i)], [.ref (c + 1), .int i], M) _
  refine cq_alenS_of hz ?_
  show ∃ R, cm_Lc cm_ms 5 [.int i, .int (Int32.ofNat r.2.2.2.length)] M R ∧ ∀ v M', R v M' → _
  refine ⟨_, fn_strCheck i _ M h0 (by rw [fn_toInt (by omega)]; exact h1), ?_⟩
  rintro v M' ⟨rfl, rfl⟩
  show cq_baloadS none (cm_P mr_6) (0, 0, 0, []) (8, [(0, .ref (c + 1)), (1, .int i)], [.int i, .ref (c + 1)], M') _
  refine cq_baloadS_of hz ?_
  exact ⟨rfl, rfl⟩
theorem fn_charAt {c : Nat} {i : Int32} {r : String × Nat × String × List Int32} (hz : ev_strs[(c + 1 - 1001) / 2]? = some r) (hl : r.2.2.2.length < 1000) (h0 : 0 ≤ i.toInt) (h1 : i.toInt < (r.2.2.2.length : Int)) (M : cm_M) : cm_Lc cm_ms 2 [.ref c, .int i] M (fun v M' => M' = M ∧ v = some (.int (chr (r.2.2.2.getD i.toNatClampNeg 0)))) := by
  refine lb_st0 (mi := mr_2) rfl 20 ?_
  show ∃ R, cm_Lc cm_ms 4 [.ref c] M R ∧ ∀ v M', R v M' → _
  refine ⟨_, fn_isLatin1 c M, ?_⟩
  rintro v M' ⟨rfl, rfl⟩
  show (ev_cmp 0 1 0 = true → _) ∧ (ev_cmp 0 1 0 = false → ∃ R, cm_Lc cm_ms 6 [.ref (c + 1), .int i] M' R ∧ ∀ v M', R v M' → _)
  refine ⟨fun h => absurd h (by decide), fun _ => ⟨_, fn_latChar hz hl h0 h1 M', ?_⟩⟩
  rintro v M' ⟨rfl, rfl⟩
  exact ⟨rfl, rfl⟩
/-- a text's number -/
noncomputable def sw (B : List Int32) : Nat → Int64
  | 0 => 0
  | i + 1 => sw B i * 32 + (chr (B.getD i 0)).toInt64 - 97 + 1
noncomputable def iw_J (M : cm_M) (c : Nat) (B : List Int32) (S : cm_S) : Prop := ∃ i, i ≤ B.length ∧ S = (5, [(0, .ref 2), (1, .ref c), (2, .long (sw B i)), (4, .int (Int32.ofNat i))], [], M)
noncomputable abbrev iw_R (M : cm_M) (B : List Int32) : cm_K := fun v M' => M' = M ∧ v = some (.int (bi (decide (M.1 2 3 = 1) && decide (M.2.1 2 6 = sw B B.length))))
theorem fn_lne {x y : Int64} (h : ev_cmp 1 (lg_cmp x y) 0 = true) : x ≠ y := fun e => by
  subst e
  have h1 := fn_ne h
  exact h1 (by unfold lg_cmp; simp)
theorem fn_leq {x y : Int64} (h : ev_cmp 1 (lg_cmp x y) 0 = false) : x = y := by
  have h1 := fn_eq h
  unfold lg_cmp at h1
  split at h1
  · exact absurd h1 (by decide)
  · split at h1
    · rename_i hh
      exact hh
    · exact absurd h1 (by decide)
set_option maxRecDepth 100000 in
set_option maxHeartbeats 4000000 in
theorem fn_isWord {c : Nat} {r : String × Nat × String × List Int32} (hz : ev_strs[(c + 1 - 1001) / 2]? = some r) (hl : r.2.2.2.length < 1000) (M : cm_M) : cm_Lc cm_ms 86 [.ref 2, .ref c] M (iw_R M r.2.2.2) := by
  refine lb_of (mi := mr_86) rfl [(5, [0, 1, 2, 4])] (iw_J M c r.2.2.2) 60 (fun S hS => ?_) 20 ?_
  · obtain ⟨i, hi, rfl⟩ := hS
    show ∃ R, cm_Lc cm_ms 1 [.ref c] M R ∧ ∀ v M', R v M' → _
    refine ⟨_, fn_length hz M, ?_⟩
    rintro v M' ⟨rfl, rfl⟩
    show (ev_cmp 3 (Int32.ofNat i) (Int32.ofNat r.2.2.2.length) = true → (ev_cmp 1 (M'.1 2 3) 1 = true → _) ∧ (ev_cmp 1 (M'.1 2 3) 1 = false → (ev_cmp 1 (lg_cmp (M'.2.1 2 6) (sw r.2.2.2 i)) 0 = true → _) ∧ (ev_cmp 1 (lg_cmp (M'.2.1 2 6) (sw r.2.2.2 i)) 0 = false → _))) ∧ (ev_cmp 3 (Int32.ofNat i) (Int32.ofNat r.2.2.2.length) = false → ∃ R, cm_Lc cm_ms 2 [.ref c, .int (Int32.ofNat i)] M' R ∧ ∀ v M', R v M' → _)
    refine ⟨fun h => ?_, fun h => ?_⟩
    · have h1 := fn_ge h
      rw [fn_toInt (by omega), fn_toInt (by omega)] at h1
      have hi2 : i = r.2.2.2.length := by omega
      refine ⟨fun h2 => ⟨rfl, ?_⟩, fun h2 => ⟨fun h3 => ⟨rfl, ?_⟩, fun h3 => ⟨rfl, ?_⟩⟩⟩
      · rw [decide_eq_false (fn_ne h2), Bool.false_and]
        try rfl
      · rw [← hi2, decide_eq_false (fn_lne h3), Bool.and_false]
        try rfl
      · rw [← hi2, decide_eq_true (fn_eq h2), decide_eq_true (fn_leq h3)]
        try rfl
    · have h1 := fn_nge h
      rw [fn_toInt (by omega), fn_toInt (by omega)] at h1
      refine ⟨_, fn_charAt hz hl (by rw [fn_toInt (by omega)]; omega) (by rw [fn_toInt (by omega)]; omega) M', ?_⟩
      rintro v M' ⟨rfl, rfl⟩
      show ∃ R, cm_Lc cm_ms 87 [.long (sw r.2.2.2 i), .int (chr (r.2.2.2.getD (Int32.ofNat i).toNatClampNeg 0))] M' R ∧ ∀ v M', R v M' → _
      refine ⟨_, fn_pack _ _ M', ?_⟩
      rintro v M' ⟨rfl, rfl⟩
      show iw_J M' c r.2.2.2 (5, [(0, .ref 2), (1, .ref c), (2, .long (sw r.2.2.2 i * 32 + (chr (r.2.2.2.getD (Int32.ofNat i).toNatClampNeg 0)).toInt64 - 97 + 1)), (4, .int (Int32.ofNat i + 1))], [], M')
      rw [fn_nat (by omega), fn_succ]
      exact ⟨i + 1, by omega, rfl⟩
  · show iw_J M c r.2.2.2 (5, [(0, .ref 2), (1, .ref c), (2, .long 0), (4, .int 0)], [], M)
    exact ⟨0, Nat.zero_le _, rfl⟩
noncomputable def mw_same (M : cm_M) (B : List Int32) (n : Nat) : Bool := decide (∀ k, k < n → M.1 126 k = chr (B.getD k 0))
theorem mw_same_s (M : cm_M) (B : List Int32) (n : Nat) : mw_same M B (n + 1) = (mw_same M B n && decide (M.1 126 n = chr (B.getD n 0))) := by
  unfold mw_same
  rw [← Bool.decide_and]
  congr 1
  refine propext ⟨fun h => ⟨fun k hk => h k (by omega), h n (by omega)⟩, fun h k hk => ?_⟩
  rcases Nat.lt_or_ge k n with hn | hn
  · exact h.1 k hn
  · have : k = n := by omega
    rw [this]
    exact h.2
theorem mw_same_0 (M : cm_M) (B : List Int32) : mw_same M B 0 = true := decide_eq_true (fun k hk => by omega)
noncomputable def mw_J (M : cm_M) (c : Nat) (B : List Int32) (S : cm_S) : Prop := M.1 124 13 = 0 ∧ M.1 124 6 = 2 ∧ M.1 124 8 = Int32.ofNat B.length ∧ ∃ i, i ≤ B.length ∧ S = (32, [(0, .ref 124), (1, .ref c), (2, .int (bi (mw_same M B i))), (3, .int (Int32.ofNat i))], [], mn_f M)
noncomputable abbrev mw_R (M : cm_M) (B : List Int32) : cm_K := fun v M' => M' = M ∧ v = some (.int (bi (decide (M.1 124 13 = 0) && (decide (M.1 124 6 = 2) && (decide (M.1 124 8 = Int32.ofNat B.length) && mw_same M B B.length)))))
theorem fn_eq0 {x y : Int32} (h : ev_cmp 0 x y = true) : x = y := of_decide_eq_true h
theorem fn_ne0 {x y : Int32} (h : ev_cmp 0 x y = false) : x ≠ y := of_decide_eq_false h
set_option maxRecDepth 100000 in
set_option maxHeartbeats 4000000 in
theorem fn_mIsWord {c : Nat} {r : String × Nat × String × List Int32} (hz : ev_strs[(c + 1 - 1001) / 2]? = some r) (hl : r.2.2.2.length < 1000) {M : cm_M} (h1 : M.2.2 124 1 = some 125) (h12 : M.2.2 124 12 = some 126) : cm_Lc cm_ms 178 [.ref 124, .ref c] M (mw_R M r.2.2.2) := by
  have hf := mn_f_eq h1 h12
  refine lb_of (mi := mr_178) rfl [(32, [0, 1, 2, 3])] (mw_J M c r.2.2.2) 60 (fun S hS => ?_) 40 ?_
  · obtain ⟨a1, a2, a3, i, hi, rfl⟩ := hS
    show (ev_cmp 3 (Int32.ofNat i) (M.1 124 8) = true → _) ∧ (ev_cmp 3 (Int32.ofNat i) (M.1 124 8) = false → (ev_cmp 0 (bi (mw_same M r.2.2.2 i)) 0 = true → mw_J M c r.2.2.2 (32, [(0, .ref 124), (1, .ref c), (2, .int 0), (3, .int (Int32.ofNat i + 1))], [], mn_f M)) ∧ (ev_cmp 0 (bi (mw_same M r.2.2.2 i)) 0 = false → ∃ R, cm_Lc cm_ms 2 [.ref c, .int (Int32.ofNat i)] (mn_f M) R ∧ ∀ v M', R v M' → _))
    refine ⟨fun h => ?_, fun h => ?_⟩
    · have g := fn_ge h
      rw [a3, fn_toInt (by omega), fn_toInt (by omega)] at g
      have hi2 : i = r.2.2.2.length := by omega
      show mw_R M r.2.2.2 (some (.int (bi (mw_same M r.2.2.2 i)))) (mn_f M)
      refine ⟨hf, ?_⟩
      rw [decide_eq_true a1, decide_eq_true a2, decide_eq_true a3, hi2]
      try rfl
    · have g := fn_nge h
      rw [a3, fn_toInt (by omega), fn_toInt (by omega)] at g
      have hs := mw_same_s M r.2.2.2 i
      refine ⟨fun h2 => ?_, fun h2 => ?_⟩
      · have b0 := bi_0 h2
        rw [b0, Bool.false_and] at hs
        refine ⟨a1, a2, a3, i + 1, by omega, ?_⟩
        rw [hs, fn_succ]
        try rfl
      · have b1 := bi_1 h2
        rw [b1, Bool.true_and] at hs
        refine ⟨_, fn_charAt hz hl (by rw [fn_toInt (by omega)]; omega) (by rw [fn_toInt (by omega)]; omega) _, ?_⟩
        rintro v M' ⟨rfl, rfl⟩
        show (ev_cmp 1 (M.1 126 (Int32.ofNat i).toNatClampNeg) (chr (r.2.2.2.getD (Int32.ofNat i).toNatClampNeg 0)) = true → mw_J M c r.2.2.2 (32, [(0, .ref 124), (1, .ref c), (2, .int 0), (3, .int (Int32.ofNat i + 1))], [], mn_f M)) ∧ (ev_cmp 1 (M.1 126 (Int32.ofNat i).toNatClampNeg) (chr (r.2.2.2.getD (Int32.ofNat i).toNatClampNeg 0)) = false → mw_J M c r.2.2.2 (32, [(0, .ref 124), (1, .ref c), (2, .int 1), (3, .int (Int32.ofNat i + 1))], [], mn_f M))
        rw [fn_nat (show i < 2147483648 by omega)]
        refine ⟨fun h3 => ⟨a1, a2, a3, i + 1, by omega, ?_⟩, fun h3 => ⟨a1, a2, a3, i + 1, by omega, ?_⟩⟩
        · rw [hs, decide_eq_false (fn_ne h3), fn_succ]
          try rfl
        · rw [hs, decide_eq_true (fn_eq h3), fn_succ]
          try rfl
  · show (ev_cmp 1 (M.1 124 13) 0 = true → _) ∧ (ev_cmp 1 (M.1 124 13) 0 = false → (ev_cmp 1 (M.1 124 6) 2 = true → _) ∧ (ev_cmp 1 (M.1 124 6) 2 = false → ∃ R, cm_Lc cm_ms 1 [.ref c] M R ∧ ∀ v M', R v M' → _))
    refine ⟨fun h => ⟨rfl, ?_⟩, fun h => ⟨fun h2 => ⟨rfl, ?_⟩, fun h2 => ⟨_, fn_length hz M, ?_⟩⟩⟩
    · rw [decide_eq_false (fn_ne h), Bool.false_and]
      try rfl
    · rw [decide_eq_false (fn_ne h2), Bool.false_and, Bool.and_false]
      try rfl
    · rintro v M' ⟨rfl, rfl⟩
      show (ev_cmp 0 (M'.1 124 8) (Int32.ofNat r.2.2.2.length) = true → mw_J M' c r.2.2.2 (32, [(0, .ref 124), (1, .ref c), (2, .int 1), (3, .int 0)], [], M')) ∧ (ev_cmp 0 (M'.1 124 8) (Int32.ofNat r.2.2.2.length) = false → _)
      refine ⟨fun h3 => ⟨fn_eq h, fn_eq h2, fn_eq0 h3, 0, Nat.zero_le _, ?_⟩, fun h3 => ⟨rfl, ?_⟩⟩
      · rw [mw_same_0, hf]
        try rfl
      · rw [decide_eq_false (fn_ne0 h3), Bool.false_and, Bool.and_false, Bool.and_false]
        try rfl
theorem tk_e_ex (p : Int32 → Bool) (T : Nat → Int32) (N : Nat) : ∀ (f k : Nat), k ≤ N → N ≤ k + f → ∃ e, tk_e p T N k e
  | 0, k, h1, h2 => ⟨k, Nat.le_refl _, h1, fun j a b => by omega, fun h => by omega⟩
  | f + 1, k, h1, h2 => by
    by_cases hk : k < N ∧ p (T k) = true
    · obtain ⟨e, a1, a2, a3, a4⟩ := tk_e_ex p T N f (k + 1) (by omega) (by omega)
      refine ⟨e, by omega, a2, fun j b1 b2 => ?_, a4⟩
      rcases Nat.lt_or_ge k j with hj | hj
      · exact a3 j hj b2
      · have : j = k := by omega
        rw [this]
        exact hk.2
    · refine ⟨k, Nat.le_refl _, h1, fun j a b => by omega, fun h => ?_⟩
      cases hp : p (T k) with
      | false => rfl
      | true => exact absurd ⟨h, hp⟩ hk
noncomputable abbrev tk_Q (T : Nat → Int32) (N k : Nat) (t : Nat × Nat × Int32 × Int32 × Int64) : Prop := tk_e ch_s T N k t.1 ∧ tk_k T N t.1 t.2.1 t.2.2.1 t.2.2.2.1 t.2.2.2.2
theorem tk_k_ex (T : Nat → Int32) (N s : Nat) (h : s ≤ N) : ∃ e kd va wd, tk_k T N s e kd va wd := by
  rcases Nat.lt_or_ge s N with hs | hs
  · cases hl : ch_l (T s) with
    | true =>
      obtain ⟨e, he⟩ := tk_e_ex ch_l T N N s h (by omega)
      exact ⟨e, _, _, _, Or.inr (Or.inl ⟨hs, hl, he, rfl, rfl, rfl⟩)⟩
    | false =>
      cases hd : ch_d (T s) with
      | true =>
        obtain ⟨e, he⟩ := tk_e_ex ch_d T N N s h (by omega)
        exact ⟨e, _, _, _, Or.inr (Or.inr (Or.inl ⟨hs, hl, hd, he, rfl, rfl, rfl⟩))⟩
      | false => exact ⟨s + 1, _, _, _, Or.inr (Or.inr (Or.inr ⟨hs, hl, hd, rfl, rfl, rfl, rfl⟩))⟩
  · exact ⟨s, _, _, _, Or.inl ⟨by omega, rfl, rfl, rfl, rfl⟩⟩
theorem tk_Q_ex (T : Nat → Int32) (N k : Nat) (h : k ≤ N) : ∃ t, tk_Q T N k t := by
  obtain ⟨s, hs⟩ := tk_e_ex ch_s T N N k h (by omega)
  obtain ⟨e, kd, va, wd, hk⟩ := tk_k_ex T N s hs.2.1
  exact ⟨(s, e, kd, va, wd), hs, hk⟩
theorem tk_k_uni {T : Nat → Int32} {N s e e' : Nat} {kd va kd' va' : Int32} {wd wd' : Int64} (h : tk_k T N s e kd va wd) (h' : tk_k T N s e' kd' va' wd') : e = e' ∧ kd = kd' ∧ va = va' ∧ wd = wd' := by
  rcases h with ⟨a1, rfl, rfl, rfl, rfl⟩ | ⟨a1, a2, a3, rfl, rfl, rfl⟩ | ⟨a1, a2, a3, a4, rfl, rfl, rfl⟩ | ⟨a1, a2, a3, rfl, rfl, rfl, rfl⟩
  · rcases h' with ⟨b1, rfl, rfl, rfl, rfl⟩ | ⟨b1, b2, b3, rfl, rfl, rfl⟩ | ⟨b1, b2, b3, b4, rfl, rfl, rfl⟩ | ⟨b1, b2, b3, rfl, rfl, rfl, rfl⟩
    · exact ⟨rfl, rfl, rfl, rfl⟩
    · omega
    · omega
    · omega
  · rcases h' with ⟨b1, rfl, rfl, rfl, rfl⟩ | ⟨b1, b2, b3, rfl, rfl, rfl⟩ | ⟨b1, b2, b3, b4, rfl, rfl, rfl⟩ | ⟨b1, b2, b3, rfl, rfl, rfl, rfl⟩
    · omega
    · have := tk_e_uni a3 b3
      subst this
      exact ⟨rfl, rfl, rfl, rfl⟩
    · rw [a2] at b2; cases b2
    · rw [a2] at b2; cases b2
  · rcases h' with ⟨b1, rfl, rfl, rfl, rfl⟩ | ⟨b1, b2, b3, rfl, rfl, rfl⟩ | ⟨b1, b2, b3, b4, rfl, rfl, rfl⟩ | ⟨b1, b2, b3, rfl, rfl, rfl, rfl⟩
    · omega
    · rw [a2] at b2; cases b2
    · have := tk_e_uni a4 b4
      subst this
      exact ⟨rfl, rfl, rfl, rfl⟩
    · rw [a3] at b3; cases b3
  · rcases h' with ⟨b1, rfl, rfl, rfl, rfl⟩ | ⟨b1, b2, b3, rfl, rfl, rfl⟩ | ⟨b1, b2, b3, b4, rfl, rfl, rfl⟩ | ⟨b1, b2, b3, rfl, rfl, rfl, rfl⟩
    · omega
    · rw [a2] at b2; cases b2
    · rw [a3] at b3; cases b3
    · exact ⟨rfl, rfl, rfl, rfl⟩
theorem tk_Q_uni {T : Nat → Int32} {N k : Nat} {t t' : Nat × Nat × Int32 × Int32 × Int64} (h : tk_Q T N k t) (h' : tk_Q T N k t') : t = t' := by
  obtain ⟨s, e, kd, va, wd⟩ := t
  obtain ⟨s', e', kd', va', wd'⟩ := t'
  have e1 : s = s' := tk_e_uni h.1 h'.1
  subst e1
  obtain ⟨rfl, rfl, rfl, rfl⟩ := tk_k_uni h.2 h'.2
  rfl
/-- the next token -/
noncomputable def tk_of (T : Nat → Int32) (N k : Nat) : Nat × Nat × Int32 × Int32 × Int64 := Classical.epsilon (tk_Q T N k)
theorem tk_of_ok {T : Nat → Int32} {N k : Nat} (h : k ≤ N) : tk_Q T N k (tk_of T N k) := Classical.epsilon_spec (tk_Q_ex T N k h)
theorem tk_of_eq {T : Nat → Int32} {N k : Nat} {t : Nat × Nat × Int32 × Int32 × Int64} (h : tk_Q T N k t) : tk_of T N k = t := tk_Q_uni (Classical.epsilon_spec ⟨t, h⟩) h
/-- the reader stands on a text of N signs -/
noncomputable def rs_ok (N : Nat) (M : cm_M) : Prop := M.2.2 2 0 = some 1 ∧ M.1 2 1 = Int32.ofNat N ∧ N ≤ 900 ∧ ∃ k, k ≤ N ∧ M.1 2 2 = Int32.ofNat k
noncomputable def cF_tok (N : Nat) (M : cm_M) : Nat × Nat × Int32 × Int32 × Int64 := tk_of (M.1 1) N (M.1 2 2).toNatClampNeg
noncomputable def cF_step (N : Nat) (M : cm_M) : cm_M := if M.1 2 9 = 0 then tk_m M (cF_tok N M).1 (cF_tok N M).2.1 (cF_tok N M).2.2.1 (cF_tok N M).2.2.2.1 (cF_tok N M).2.2.2.2 else M
theorem cs_step {N : Nat} {M : cm_M} (h : rs_ok N M) : cm_Lc cm_ms 88 [.ref 2] M (fun v M' => v = none ∧ M' = cF_step N M) := by
  obtain ⟨h1, h2, h3, k, h4, h5⟩ := h
  refine cm_Lc_im (fn_stepOn h1 h2 h3 h5 h4) (fun v M' q => ⟨q.1, ?_⟩)
  unfold cF_step
  by_cases hf : M.1 2 9 = 0
  · rw [if_pos hf]
    obtain ⟨s, e, kd, va, wd, g1, g2, rfl⟩ := q.2.2 hf
    have : cF_tok N M = (s, e, kd, va, wd) := by
      unfold cF_tok
      rw [h5, fn_nat (by omega)]
      exact tk_of_eq ⟨g1, g2⟩
    rw [this]
  · rw [if_neg hf]
    exact q.2.1 hf
theorem tk_k_e {T : Nat → Int32} {N s e : Nat} {kd va : Int32} {wd : Int64} (hs : s ≤ N) (h : tk_k T N s e kd va wd) : e ≤ N := by
  rcases h with ⟨a1, rfl, -⟩ | ⟨a1, a2, a3, -⟩ | ⟨a1, a2, a3, a4, -⟩ | ⟨a1, a2, a3, rfl, -⟩
  · exact hs
  · exact a3.2.1
  · exact a4.2.1
  · omega
theorem rs_step {N : Nat} {M : cm_M} (h : rs_ok N M) : rs_ok N (cF_step N M) := by
  unfold cF_step
  by_cases hf : M.1 2 9 = 0
  · rw [if_pos hf]
    obtain ⟨h1, h2, h3, k, h4, h5⟩ := h
    have ht : tk_Q (M.1 1) N k (cF_tok N M) := by
      unfold cF_tok
      rw [h5, fn_nat (by omega)]
      exact tk_of_ok h4
    exact ⟨h1, h2, h3, (cF_tok N M).2.1, tk_k_e ht.1.2.1 ht.2, rfl⟩
  · rw [if_neg hf]
    exact h
/-- a fault is told -/
noncomputable def cF_fail (x : Int32) (M : cm_M) : cm_M := if M.1 2 9 = 0 then cm_wi M 2 9 x else M
theorem rs_fail {N : Nat} {M : cm_M} (x : Int32) (h : rs_ok N M) : rs_ok N (cF_fail x M) := by
  unfold cF_fail
  split
  · exact h
  · exact h
theorem cs_fail (x : Int32) (M : cm_M) : cm_Lc cm_ms 66 [.ref 2, .int x] M (fun v M' => v = none ∧ M' = cF_fail x M) := by
  refine lb_st0 (mi := mr_66) rfl 20 ?_
  show (ev_cmp 1 (M.1 2 9) 0 = true → _) ∧ (ev_cmp 1 (M.1 2 9) 0 = false → _)
  refine ⟨fun h => ⟨rfl, ?_⟩, fun h => ⟨rfl, ?_⟩⟩
  · unfold cF_fail
    rw [if_neg (fn_ne h)]
    try rfl
  · unfold cF_fail
    rw [if_pos (fn_eq h)]
    try rfl
/-- the number of a text constant -/
noncomputable def sn (t : Nat) : Int64 := match ev_strs[t]? with
  | some r => sw r.2.2.2 r.2.2.2.length
  | none => 0
/-- the token is this word -/
noncomputable def wt (t : Nat) (M : cm_M) : Bool := decide (M.1 2 3 = 1) && decide (M.2.1 2 6 = sn t)
set_option maxRecDepth 1000000 in
theorem strs_len : ∀ r ∈ ev_strs, r.2.2.2.length < 1000 := by decide +kernel
set_option maxRecDepth 1000000 in
theorem strs_40 : ev_strs.length = 40 := by decide +kernel
theorem strs_at {t : Nat} (ht : t < 40) : ∃ r, ev_strs[(1001 + 2 * t + 1 - 1001) / 2]? = some r ∧ r.2.2.2.length < 1000 ∧ sn t = sw r.2.2.2 r.2.2.2.length := by
  have hl : t < ev_strs.length := by rw [strs_40]; exact ht
  have e : (1001 + 2 * t + 1 - 1001) / 2 = t := by omega
  have h1 := List.getElem?_eq_getElem hl
  refine ⟨ev_strs[t], by rw [e]; exact h1, strs_len _ (List.mem_of_getElem? h1), ?_⟩
  unfold sn
  rw [h1]
theorem cs_isWord {t : Nat} (ht : t < 40) (M : cm_M) : cm_Lc cm_ms 86 [.ref 2, .ref (1001 + 2 * t)] M (fun v M' => M' = M ∧ v = some (.int (bi (wt t M)))) := by
  obtain ⟨r, h1, h2, h3⟩ := strs_at ht
  refine cm_Lc_im (fn_isWord h1 h2 M) (fun v M' q => ⟨q.1, ?_⟩)
  unfold wt
  rw [h3]
  exact q.2
/-- a word that is due -/
noncomputable def cF_due (t : Nat) (M : cm_M) : cm_M := if wt t M = true then M else cF_fail 1 M
theorem bi_n1 {b : Bool} (h : ev_cmp 1 (bi b) 0 = true) : b = true := by
  cases b with
  | true => rfl
  | false => exact absurd h (by decide)
theorem bi_n0 {b : Bool} (h : ev_cmp 1 (bi b) 0 = false) : b = false := by
  cases b with
  | false => rfl
  | true => exact absurd h (by decide)
theorem cs_takeWord {N t : Nat} (ht : t < 40) {M : cm_M} (h : rs_ok N M) : cm_Lc cm_ms 78 [.ref 2, .ref (1001 + 2 * t)] M (fun v M' => v = none ∧ M' = cF_step N (cF_due t M)) := by
  refine lb_st0 (mi := mr_78) rfl 20 ?_
  show ∃ R, cm_Lc cm_ms 86 [.ref 2, .ref (1001 + 2 * t)] M R ∧ ∀ v M', R v M' → _
  refine ⟨_, cs_isWord ht M, ?_⟩
  rintro v M' ⟨rfl, rfl⟩
  show (ev_cmp 1 (bi (wt t M')) 0 = true → ∃ R, cm_Lc cm_ms 88 [.ref 2] M' R ∧ ∀ v M', R v M' → _) ∧ (ev_cmp 1 (bi (wt t M')) 0 = false → ∃ R, cm_Lc cm_ms 66 [.ref 2, .int 1] M' R ∧ ∀ v M', R v M' → _)
  refine ⟨fun h1 => ⟨_, cs_step h, ?_⟩, fun h1 => ⟨_, cs_fail 1 M', ?_⟩⟩
  · rintro v M2 ⟨rfl, rfl⟩
    refine ⟨rfl, ?_⟩
    show cF_step N M' = _
    unfold cF_due
    rw [if_pos (bi_n1 h1)]
  · rintro v M2 ⟨rfl, rfl⟩
    show ∃ R, cm_Lc cm_ms 88 [.ref 2] (cF_fail 1 M') R ∧ ∀ v M', R v M' → _
    refine ⟨_, cs_step (rs_fail 1 h), ?_⟩
    rintro v M3 ⟨rfl, rfl⟩
    refine ⟨rfl, ?_⟩
    show cF_step N (cF_fail 1 M') = _
    unfold cF_due
    rw [if_neg (by rw [bi_n0 h1]; decide)]
/-- a whole number within bounds -/
noncomputable def cF_whole (lo hi : Int32) (M : cm_M) : cm_M := if M.1 2 3 = 2 then (if M.1 2 5 < lo ∨ hi < M.1 2 5 then cF_fail 4 M else M) else cF_fail 1 M
theorem cF_fail_5 (x : Int32) (M : cm_M) : (cF_fail x M).1 2 5 = M.1 2 5 := by
  unfold cF_fail
  split
  · rfl
  · rfl
noncomputable abbrev cw_R (N : Nat) (lo hi : Int32) (M : cm_M) : cm_K := fun v M' => v = some (.int (M.1 2 5)) ∧ M' = cF_step N (cF_whole lo hi M)
set_option maxRecDepth 100000 in
theorem cs_takeWhole {N : Nat} (lo hi : Int32) {M : cm_M} (h : rs_ok N M) : cm_Lc cm_ms 79 [.ref 2, .int lo, .int hi] M (cw_R N lo hi M) := by
  refine lb_st0 (mi := mr_79) rfl 40 ?_
  have go : ∀ X : cm_M, X.1 2 5 = M.1 2 5 → X = cF_whole lo hi M → rs_ok N X → cm_Lc cm_ms 88 [.ref 2] X (fun v M' => v = none ∧ M' = cF_step N (cF_whole lo hi M)) := fun X h1 h2 h3 => by rw [← h2]; exact cs_step h3
  show (ev_cmp 0 (M.1 2 3) 2 = true → (ev_cmp 2 (M.1 2 5) lo = true → ∃ R, cm_Lc cm_ms 66 [.ref 2, .int 4] M R ∧ ∀ v M', R v M' → _) ∧ (ev_cmp 2 (M.1 2 5) lo = false → (ev_cmp 5 (M.1 2 5) hi = true → ∃ R, cm_Lc cm_ms 88 [.ref 2] M R ∧ ∀ v M', R v M' → _) ∧ (ev_cmp 5 (M.1 2 5) hi = false → ∃ R, cm_Lc cm_ms 66 [.ref 2, .int 4] M R ∧ ∀ v M', R v M' → _))) ∧ (ev_cmp 0 (M.1 2 3) 2 = false → ∃ R, cm_Lc cm_ms 66 [.ref 2, .int 1] M R ∧ ∀ v M', R v M' → _)
  have four : (M.1 2 3 = 2) → (M.1 2 5 < lo ∨ hi < M.1 2 5) → cF_fail 4 M = cF_whole lo hi M := fun a b => by unfold cF_whole; rw [if_pos a, if_pos b]
  refine ⟨fun h1 => ⟨fun h2 => ⟨_, cs_fail 4 M, ?_⟩, fun h2 => ⟨fun h3 => ⟨_, go M rfl ?_ h, ?_⟩, fun h3 => ⟨_, cs_fail 4 M, ?_⟩⟩⟩, fun h1 => ⟨_, cs_fail 1 M, ?_⟩⟩
  · rintro v M' ⟨rfl, rfl⟩
    show ∃ R, cm_Lc cm_ms 88 [.ref 2] (cF_fail 4 M) R ∧ ∀ v M', R v M' → _
    refine ⟨_, go (cF_fail 4 M) (cF_fail_5 4 M) (four (fn_eq0 h1) (Or.inl (of_decide_eq_true h2))) (rs_fail 4 h), ?_⟩
    have e5 := cF_fail_5 4 M
    rintro v2 M2 ⟨rfl, rfl⟩
    show cw_R N lo hi M (some (.int ((cF_fail 4 M).1 2 5))) (cF_step N (cF_whole lo hi M))
    exact ⟨by rw [e5], rfl⟩
  · unfold cF_whole
    rw [if_pos (fn_eq0 h1), if_neg]
    have g2 := fn_nlt h2
    have g3 := fn_le h3
    rintro (c | c)
    · rw [Int32.lt_iff_toInt_lt] at c; omega
    · rw [Int32.lt_iff_toInt_lt] at c; omega
  · rintro v2 M2 ⟨rfl, rfl⟩
    show cw_R N lo hi M (some (.int (M.1 2 5))) (cF_step N (cF_whole lo hi M))
    exact ⟨rfl, rfl⟩
  · rintro v M' ⟨rfl, rfl⟩
    show ∃ R, cm_Lc cm_ms 88 [.ref 2] (cF_fail 4 M) R ∧ ∀ v M', R v M' → _
    refine ⟨_, go (cF_fail 4 M) (cF_fail_5 4 M) (four (fn_eq0 h1) (Or.inr (Int32.lt_iff_toInt_lt.mpr (fn_nle h3)))) (rs_fail 4 h), ?_⟩
    have e5 := cF_fail_5 4 M
    rintro v2 M2 ⟨rfl, rfl⟩
    show cw_R N lo hi M (some (.int ((cF_fail 4 M).1 2 5))) (cF_step N (cF_whole lo hi M))
    exact ⟨by rw [e5], rfl⟩
  · rintro v M' ⟨rfl, rfl⟩
    show ∃ R, cm_Lc cm_ms 88 [.ref 2] (cF_fail 1 M) R ∧ ∀ v M', R v M' → _
    refine ⟨_, go (cF_fail 1 M) (cF_fail_5 1 M) (by unfold cF_whole; rw [if_neg (fn_ne0 h1)]) (rs_fail 1 h), ?_⟩
    have e5 := cF_fail_5 1 M
    rintro v2 M2 ⟨rfl, rfl⟩
    show cw_R N lo hi M (some (.int ((cF_fail 1 M).1 2 5))) (cF_step N (cF_whole lo hi M))
    exact ⟨by rw [e5], rfl⟩
/-- a colour's number, and what is told if there is none -/
noncomputable def cF_col (M : cm_M) : Int32 := if wt 11 M = true then 0 else if wt 12 M = true then 1 else if wt 13 M = true then 2 else -1
noncomputable def cF_colour (M : cm_M) : cm_M := if wt 11 M = true then M else if wt 12 M = true then M else if wt 13 M = true then M else cF_fail 1 M
theorem cs_colour (M : cm_M) : cm_Lc cm_ms 83 [.ref 2] M (fun v M' => v = some (.int (cF_col M)) ∧ M' = cF_colour M) := by
  refine lb_st0 (mi := mr_83) rfl 40 ?_
  show ∃ R, cm_Lc cm_ms 86 [.ref 2, .ref (1001 + 2 * 11)] M R ∧ ∀ v M', R v M' → _
  refine ⟨_, cs_isWord (by decide) M, ?_⟩
  rintro v M' ⟨rfl, rfl⟩
  show (ev_cmp 0 (bi (wt 11 M')) 0 = true → ∃ R, cm_Lc cm_ms 86 [.ref 2, .ref (1001 + 2 * 12)] M' R ∧ ∀ v M', R v M' → _) ∧ (ev_cmp 0 (bi (wt 11 M')) 0 = false → _)
  refine ⟨fun h => ⟨_, cs_isWord (by decide) M', ?_⟩, fun h => ?_⟩
  · have w1 := bi_0 h
    rintro v M' ⟨rfl, rfl⟩
    show (ev_cmp 0 (bi (wt 12 M')) 0 = true → ∃ R, cm_Lc cm_ms 86 [.ref 2, .ref (1001 + 2 * 13)] M' R ∧ ∀ v M', R v M' → _) ∧ (ev_cmp 0 (bi (wt 12 M')) 0 = false → _)
    refine ⟨fun h => ⟨_, cs_isWord (by decide) M', ?_⟩, fun h => ?_⟩
    · have w2 := bi_0 h
      rintro v M' ⟨rfl, rfl⟩
      show (ev_cmp 0 (bi (wt 13 M')) 0 = true → ∃ R, cm_Lc cm_ms 66 [.ref 2, .int 1] M' R ∧ ∀ v M', R v M' → _) ∧ (ev_cmp 0 (bi (wt 13 M')) 0 = false → _)
      refine ⟨fun h => ⟨_, cs_fail 1 M', ?_⟩, fun h => ?_⟩
      · have w3 := bi_0 h
        rintro v M2 ⟨rfl, rfl⟩
        refine ⟨?_, ?_⟩
        · unfold cF_col; rw [w1, w2, w3]; try rfl
        · unfold cF_colour; rw [w1, w2, w3]; try rfl
      · have w3 := bi_1 h
        refine ⟨?_, ?_⟩
        · unfold cF_col; rw [w1, w2, w3]; try rfl
        · unfold cF_colour; rw [w1, w2, w3]; try rfl
    · have w2 := bi_1 h
      refine ⟨?_, ?_⟩
      · unfold cF_col; rw [w1, w2]; try rfl
      · unfold cF_colour; rw [w1, w2]; try rfl
  · have w1 := bi_1 h
    refine ⟨?_, ?_⟩
    · unfold cF_col; rw [w1]; try rfl
    · unfold cF_colour; rw [w1]; try rfl
/-- the line's first word -/
theorem cs_first0 (M : cm_M) : cm_Lc cm_ms 85 [.int 0] M (fun v M' => M' = M ∧ v = some (.ref (1001 + 2 * 0))) := by
  refine lb_st0 (mi := mr_85) rfl 20 ?_
  refine ⟨fun h => ?_, fun j o ho hj => ?_⟩
  · exact absurd h (by decide)
  · have hj : (0 : Int) = 0 + (j : Int) := hj
    have : j = 0 := by omega
    subst this
    cases ho
    exact ⟨rfl, rfl⟩
theorem cs_first1 (M : cm_M) : cm_Lc cm_ms 85 [.int 1] M (fun v M' => M' = M ∧ v = some (.ref (1001 + 2 * 1))) := by
  refine lb_st0 (mi := mr_85) rfl 20 ?_
  refine ⟨fun h => ?_, fun j o ho hj => ?_⟩
  · exact absurd h (by decide)
  · have hj : (1 : Int) = 0 + (j : Int) := hj
    have : j = 1 := by omega
    subst this
    cases ho
    exact ⟨rfl, rfl⟩
theorem cs_first2 (M : cm_M) : cm_Lc cm_ms 85 [.int 2] M (fun v M' => M' = M ∧ v = some (.ref (1001 + 2 * 2))) := by
  refine lb_st0 (mi := mr_85) rfl 20 ?_
  refine ⟨fun h => ?_, fun j o ho hj => ?_⟩
  · exact absurd h (by decide)
  · have hj : (2 : Int) = 0 + (j : Int) := hj
    have : j = 2 := by omega
    subst this
    cases ho
    exact ⟨rfl, rfl⟩
theorem cs_first3 (M : cm_M) : cm_Lc cm_ms 85 [.int 3] M (fun v M' => M' = M ∧ v = some (.ref (1001 + 2 * 3))) := by
  refine lb_st0 (mi := mr_85) rfl 20 ?_
  refine ⟨fun h => ?_, fun j o ho hj => ?_⟩
  · exact absurd h (by decide)
  · have hj : (3 : Int) = 0 + (j : Int) := hj
    have : j = 3 := by omega
    subst this
    cases ho
    exact ⟨rfl, rfl⟩
theorem cs_first4 (M : cm_M) : cm_Lc cm_ms 85 [.int 4] M (fun v M' => M' = M ∧ v = some (.ref (1001 + 2 * 4))) := by
  refine lb_st0 (mi := mr_85) rfl 20 ?_
  refine ⟨fun h => ?_, fun j o ho hj => ?_⟩
  · exact absurd h (by decide)
  · have hj : (4 : Int) = 0 + (j : Int) := hj
    have : j = 4 := by omega
    subst this
    cases ho
    exact ⟨rfl, rfl⟩
theorem cs_first5 (M : cm_M) : cm_Lc cm_ms 85 [.int 5] M (fun v M' => M' = M ∧ v = some (.ref (1001 + 2 * 5))) := by
  refine lb_st0 (mi := mr_85) rfl 20 ?_
  refine ⟨fun h => ?_, fun j o ho hj => ?_⟩
  · exact absurd h (by decide)
  · have hj : (5 : Int) = 0 + (j : Int) := hj
    have : j = 5 := by omega
    subst this
    cases ho
    exact ⟨rfl, rfl⟩
theorem cs_first6 (M : cm_M) : cm_Lc cm_ms 85 [.int 6] M (fun v M' => M' = M ∧ v = some (.ref (1001 + 2 * 6))) := by
  refine lb_st0 (mi := mr_85) rfl 20 ?_
  refine ⟨fun h => ?_, fun j o ho hj => ?_⟩
  · exact absurd h (by decide)
  · have hj : (6 : Int) = 0 + (j : Int) := hj
    have : j = 6 := by omega
    subst this
    cases ho
    exact ⟨rfl, rfl⟩
theorem cs_first7 (M : cm_M) : cm_Lc cm_ms 85 [.int 7] M (fun v M' => M' = M ∧ v = some (.ref (1001 + 2 * 7))) := by
  refine lb_st0 (mi := mr_85) rfl 20 ?_
  refine ⟨fun h => ⟨rfl, rfl⟩, fun j o ho hj => ?_⟩
  have hj : (7 : Int) = 0 + (j : Int) := hj
  have : j = 7 := by omega
  subst this
  cases ho
theorem cs_first {j : Nat} (h : j < 8) (M : cm_M) : cm_Lc cm_ms 85 [.int (Int32.ofNat j)] M (fun v M' => M' = M ∧ v = some (.ref (1001 + 2 * j))) := by
  match j, h with
  | 0, _ => exact cs_first0 M
  | 1, _ => exact cs_first1 M
  | 2, _ => exact cs_first2 M
  | 3, _ => exact cs_first3 M
  | 4, _ => exact cs_first4 M
  | 5, _ => exact cs_first5 M
  | 6, _ => exact cs_first6 M
  | 7, _ => exact cs_first7 M
  | n + 8, h => omega
noncomputable def ln_f (M : cm_M) : Nat → Nat → Int32
  | 0, _ => -1
  | f + 1, j => if wt j M = true then Int32.ofNat j else ln_f M f (j + 1)
noncomputable def cF_line (M : cm_M) : Int32 := ln_f M 8 0
noncomputable def li_J (M : cm_M) (S : cm_S) : Prop := ∃ j, j ≤ 8 ∧ cF_line M = ln_f M (8 - j) j ∧ S = (2, [(0, .ref 2), (1, .int (Int32.ofNat j))], [], M)
set_option maxRecDepth 100000 in
theorem cs_line (M : cm_M) : cm_Lc cm_ms 84 [.ref 2] M (fun v M' => M' = M ∧ v = some (.int (cF_line M))) := by
  refine lb_of (mi := mr_84) rfl [(2, [0, 1])] (li_J M) 30 (fun S hS => ?_) 10 ?_
  · obtain ⟨j, hj, hl, rfl⟩ := hS
    have e8 : (8 : Int32).toInt = 8 := by decide
    show (ev_cmp 3 (Int32.ofNat j) 8 = true → _) ∧ (ev_cmp 3 (Int32.ofNat j) 8 = false → ∃ R, cm_Lc cm_ms 85 [.int (Int32.ofNat j)] M R ∧ ∀ v M', R v M' → _)
    refine ⟨fun h => ⟨rfl, ?_⟩, fun h => ?_⟩
    · have h1 := fn_ge h
      rw [fn_toInt (by omega)] at h1
      have : j = 8 := by omega
      subst this
      rw [hl]
      try rfl
    · have h1 := fn_nge h
      rw [fn_toInt (by omega)] at h1
      refine ⟨_, cs_first (by omega) M, ?_⟩
      rintro v M' ⟨rfl, rfl⟩
      show ∃ R, cm_Lc cm_ms 86 [.ref 2, .ref (1001 + 2 * j)] M' R ∧ ∀ v M', R v M' → _
      refine ⟨_, cs_isWord (by omega) M', ?_⟩
      rintro v M' ⟨rfl, rfl⟩
      have e : 8 - j = (8 - (j + 1)) + 1 := by omega
      rw [e] at hl
      unfold ln_f at hl
      show (ev_cmp 0 (bi (wt j M')) 0 = true → li_J M' (2, [(0, .ref 2), (1, .int (Int32.ofNat j + 1))], [], M')) ∧ (ev_cmp 0 (bi (wt j M')) 0 = false → _)
      refine ⟨fun h2 => ?_, fun h2 => ⟨rfl, ?_⟩⟩
      · rw [if_neg (by rw [bi_0 h2]; decide)] at hl
        rw [fn_succ]
        exact ⟨j + 1, by omega, hl, rfl⟩
      · rw [if_pos (bi_1 h2)] at hl
        rw [hl]
  · show li_J M (2, [(0, .ref 2), (1, .int 0)], [], M)
    exact ⟨0, by omega, rfl, rfl⟩
noncomputable def bt (x sh : Int32) : Int32 := vp_nar .byte ((x >>> (sh &&& 31)).toInt8.toInt32)
noncomputable def fd_f (M : cm_M) : cm_M := cm_wr M 0 0 (some 1)
/-- the memory behind c signs of a number -/
noncomputable def sb (M : cm_M) (x : Int32) (t : Nat) : Nat → cm_M
  | 0 => M
  | c + 1 => cm_wi (cm_wi (sb M x t c) 1 (t + c) (bt x (Int32.ofInt (24 - 8 * (c : Int))))) 0 1 (Int32.ofNat (t + c + 1))
theorem sb_t {M : cm_M} {x : Int32} {t : Nat} (h : M.1 0 1 = Int32.ofNat t) : ∀ c, (sb M x t c).1 0 1 = Int32.ofNat (t + c)
  | 0 => h
  | c + 1 => rfl
theorem sb_r (M : cm_M) (x : Int32) (t : Nat) : ∀ c, (sb M x t c).2 = M.2
  | 0 => rfl
  | c + 1 => sb_r M x t c
noncomputable def sb_J (M : cm_M) (x : Int32) (t : Nat) (S : cm_S) : Prop := ∃ c : Nat, c ≤ 4 ∧ S = (3, [(0, .ref 0), (1, .int x), (2, .int (Int32.ofInt (24 - 8 * (c : Int))))], [], fd_f (sb M x t c))
theorem fn_i32 {z : Int} (h1 : -2147483648 ≤ z) (h2 : z ≤ 2147483647) : (Int32.ofInt z).toInt = z := by
  rw [Int32.toInt_ofInt]
  exact ev_bm h1 h2
set_option maxRecDepth 100000 in
theorem fn_store {M : cm_M} {x : Int32} {t : Nat} (hr : M.2.2 0 0 = some 1) (ht : M.1 0 1 = Int32.ofNat t) (h9 : t + 4 ≤ 900) : cm_Lc cm_ms 94 [.ref 0, .int x] M (fun v M' => v = none ∧ M' = sb M x t 4) := by
  refine lb_of (mi := mr_94) rfl [(3, [0, 1, 2])] (sb_J M x t) 40 (fun S hS => ?_) 10 ?_
  · obtain ⟨c, hc, rfl⟩ := hS
    have e1 := sb_t (x := x) ht c
    have z0 : (0 : Int32).toInt = 0 := by decide
    have z9 : (900 : Int32).toInt = 900 := by decide
    have zs : (Int32.ofInt (24 - 8 * (c : Int))).toInt = 24 - 8 * (c : Int) := fn_i32 (by omega) (by omega)
    show (ev_cmp 2 (Int32.ofInt (24 - 8 * (c : Int))) 0 = true → _) ∧ (ev_cmp 2 (Int32.ofInt (24 - 8 * (c : Int))) 0 = false → (ev_cmp 3 ((sb M x t c).1 0 1) 900 = true → _) ∧ (ev_cmp 3 ((sb M x t c).1 0 1) 900 = false → sb_J M x t (3, [(0, .ref 0), (1, .int x), (2, .int (Int32.ofInt (24 - 8 * (c : Int)) + Int32.ofInt (-8)))], [], cm_wi (cm_wi (fd_f (sb M x t c)) 1 ((sb M x t c).1 0 1).toNatClampNeg (bt x (Int32.ofInt (24 - 8 * (c : Int))))) 0 1 ((sb M x t c).1 0 1 + 1))))
    refine ⟨fun h => ?_, fun h => ⟨fun h2 => ?_, fun h2 => ?_⟩⟩
    · have h1 := fn_lt h
      have : c = 4 := by omega
      subst this
      refine ⟨rfl, ?_⟩
      show fd_f (sb M x t 4) = sb M x t 4
      exact wr_id (by rw [sb_r]; exact hr)
    · have h1 := fn_nlt h
      have h3 := fn_ge h2
      rw [e1, fn_toInt (by omega)] at h3
      omega
    · have h1 := fn_nlt h
      rw [e1, fn_nat (by omega), fn_succ]
      refine ⟨c + 1, by omega, ?_⟩
      have e2 : Int32.ofInt (24 - 8 * (c : Int)) + Int32.ofInt (-8) = Int32.ofInt (24 - 8 * ((c + 1 : Nat) : Int)) := by
        apply Int32.toInt_inj.mp
        rw [Int32.toInt_add, zs, fn_i32 (by omega) (by omega), fn_i32 (by omega) (by omega), ev_bm (by omega) (by omega)]
        omega
      rw [e2]
      try rfl
  · show sb_J M x t (3, [(0, .ref 0), (1, .int x), (2, .int 24)], [], M)
    refine ⟨0, by omega, ?_⟩
    show _ = ((3, [(0, .ref 0), (1, .int x), (2, .int 24)], [], fd_f M) : cm_S)
    rw [show fd_f M = M from wr_id hr]
/-- the memory behind a feed -/
noncomputable def fd_m (M : cm_M) (t : Nat) (a b c d e : Int32) : cm_M := sb (sb (sb (sb (sb M a t 4) b (t + 4) 4) c (t + 8) 4) d (t + 12) 4) e (t + 16) 4
noncomputable abbrev fc_R (M : cm_M) (t : Nat) (a b c d e : Int32) : cm_K := fun v M' => (880 < t → v = some (.int (-1)) ∧ M' = M) ∧ (t ≤ 880 → v = some (.int (Int32.ofNat (t + 20))) ∧ M' = fd_m M t a b c d e)
set_option maxRecDepth 100000 in
set_option maxHeartbeats 4000000 in
theorem fn_feed {M : cm_M} {t : Nat} (hr : M.2.2 0 0 = some 1) (ht : M.1 0 1 = Int32.ofNat t) (h9 : t ≤ 900) (a b c d e : Int32) : cm_Lc cm_ms 93 [.ref 0, .int a, .int b, .int c, .int d, .int e] M (fc_R M t a b c d e) := by
  have z : (M.1 0 1 + 20).toInt = (t : Int) + 20 := by
    have h20 : (20 : Int32).toInt = 20 := by decide
    rw [ht, Int32.toInt_add, fn_toInt (by omega), h20, ev_bm (by omega) (by omega)]
  have z9 : (900 : Int32).toInt = 900 := by decide
  refine lb_st0 (mi := mr_93) rfl 60 ?_
  show (ev_cmp 5 (M.1 0 1 + 20) 900 = true → ∃ R, cm_Lc cm_ms 94 [.ref 0, .int a] M R ∧ ∀ v M', R v M' → _) ∧ (ev_cmp 5 (M.1 0 1 + 20) 900 = false → _)
  refine ⟨fun h => ?_, fun h => ?_⟩
  · have h1 := fn_le h
    have h8 : t ≤ 880 := by omega
    refine ⟨_, fn_store hr ht (by omega), ?_⟩
    rintro v M1 ⟨rfl, rfl⟩
    show ∃ R, cm_Lc cm_ms 94 [.ref 0, .int b] (sb M a t 4) R ∧ ∀ v M', R v M' → _
    refine ⟨_, fn_store (t := t + 4) (by rw [sb_r]; exact hr) (sb_t ht 4) (by omega), ?_⟩
    rintro v M1 ⟨rfl, rfl⟩
    show ∃ R, cm_Lc cm_ms 94 [.ref 0, .int c] (sb (sb M a t 4) b (t + 4) 4) R ∧ ∀ v M', R v M' → _
    refine ⟨_, fn_store (t := t + 8) (by rw [sb_r, sb_r]; exact hr) (sb_t (sb_t ht 4) 4) (by omega), ?_⟩
    rintro v M1 ⟨rfl, rfl⟩
    show ∃ R, cm_Lc cm_ms 94 [.ref 0, .int d] (sb (sb (sb M a t 4) b (t + 4) 4) c (t + 8) 4) R ∧ ∀ v M', R v M' → _
    refine ⟨_, fn_store (t := t + 12) (by rw [sb_r, sb_r, sb_r]; exact hr) (sb_t (sb_t (sb_t ht 4) 4) 4) (by omega), ?_⟩
    rintro v M1 ⟨rfl, rfl⟩
    show ∃ R, cm_Lc cm_ms 94 [.ref 0, .int e] (sb (sb (sb (sb M a t 4) b (t + 4) 4) c (t + 8) 4) d (t + 12) 4) R ∧ ∀ v M', R v M' → _
    refine ⟨_, fn_store (t := t + 16) (by rw [sb_r, sb_r, sb_r, sb_r]; exact hr) (sb_t (sb_t (sb_t (sb_t ht 4) 4) 4) 4) (by omega), ?_⟩
    rintro v M1 ⟨rfl, rfl⟩
    show fc_R M t a b c d e (some (.int ((fd_m M t a b c d e).1 0 1))) (fd_m M t a b c d e)
    exact ⟨fun h => by omega, fun _ => ⟨rfl, rfl⟩⟩
  · have h1 := fn_nle h
    show fc_R M t a b c d e (some (.int (-1))) M
    exact ⟨fun _ => ⟨rfl, rfl⟩, fun h => by omega⟩
noncomputable def mf_f (M : cm_M) : cm_M := cm_wr M 124 1 (some 125)
noncomputable def mt (x : Int32) (c : Nat) : Int32 := (x >>> ((24 - 8 * (Int32.ofNat c - Int32.ofNat c / 4 * 4)) &&& 31)) &&& 255
noncomputable def sm (M : cm_M) (w : Nat → Int32) (t : Nat) : Nat → cm_M
  | 0 => M
  | c + 1 => cm_wi (cm_wi (sm M w t c) 125 (t + c) (mt (w c) c)) 124 2 (Int32.ofNat (t + c + 1))
theorem sm_t {M : cm_M} {w : Nat → Int32} {t : Nat} (h : M.1 124 2 = Int32.ofNat t) : ∀ c, (sm M w t c).1 124 2 = Int32.ofNat (t + c)
  | 0 => h
  | c + 1 => rfl
theorem sm_r (M : cm_M) (w : Nat → Int32) (t : Nat) : ∀ c, (sm M w t c).2 = M.2
  | 0 => rfl
  | c + 1 => sm_r M w t c
noncomputable def w5 (a b c d e : Int32) (k : Nat) : Int32 := if k < 4 then a else if k < 8 then b else if k < 12 then c else if k < 16 then d else e
noncomputable abbrev mfd_m (M : cm_M) (t : Nat) (a b c d e : Int32) : cm_M := sm (cm_wi M 124 0 0) (w5 a b c d e) t 20
noncomputable abbrev fm_R (M : cm_M) (t : Nat) (a b c d e : Int32) : cm_K := fun v M' => (880 < t → v = some (.int (-1)) ∧ M' = cm_wi M 124 0 0) ∧ (t ≤ 880 → v = some (.int (Int32.ofNat (t + 20))) ∧ M' = mfd_m M t a b c d e)
noncomputable abbrev mfd_L (a b c d e k : Int32) : List (Nat × Value) := [(0, .ref 124), (1, .int a), (2, .int b), (3, .int c), (4, .int d), (5, .int e), (6, .int k)]
noncomputable def mfd_J (M : cm_M) (t : Nat) (a b c d e : Int32) (S : cm_S) : Prop := t ≤ 880 ∧ ∃ k : Nat, (k ≤ 20 ∧ S = (23, mfd_L a b c d e (Int32.ofNat k), [], mf_f (sm (cm_wi M 124 0 0) (w5 a b c d e) t k))) ∨ (k < 20 ∧ S = (76, mfd_L a b c d e (Int32.ofNat k), [.int (w5 a b c d e k)], mf_f (sm (cm_wi M 124 0 0) (w5 a b c d e) t k)))
noncomputable abbrev mfd_st : List (Nat × List Nat) := [(23, [0, 1, 2, 3, 4, 5, 6]), (76, [0, 1, 2, 3, 4, 5, 6])]
set_option maxRecDepth 100000 in
set_option maxHeartbeats 4000000 in
theorem fn_mfeed {M : cm_M} {t : Nat} (hr : M.2.2 124 1 = some 125) (ht : M.1 124 2 = Int32.ofNat t) (h9 : t ≤ 900) (a b c d e : Int32) : cm_Lc cm_ms 172 [.ref 124, .int a, .int b, .int c, .int d, .int e] M (fm_R M t a b c d e) := by
  have z : (M.1 124 2 + 20).toInt = (t : Int) + 20 := by
    have h20 : (20 : Int32).toInt = 20 := by decide
    rw [ht, Int32.toInt_add, fn_toInt (by omega), h20, ev_bm (by omega) (by omega)]
  have z9 : (900 : Int32).toInt = 900 := by decide
  have ht1 : (cm_wi M 124 0 0).1 124 2 = Int32.ofNat t := ht
  refine lb_of (mi := mr_172) rfl mfd_st (mfd_J M t a b c d e) 40 (fun S hS => ?_) 20 ?_
  · obtain ⟨h8, k, ⟨hk, rfl⟩ | ⟨hk, rfl⟩⟩ := hS
    · have e1 := sm_t (w := w5 a b c d e) ht1 k
      have z20 : (20 : Int32).toInt = 20 := by decide
      have z4 : (4 : Int32).toInt = 4 := by decide
      have z8 : (8 : Int32).toInt = 8 := by decide
      have z12 : (12 : Int32).toInt = 12 := by decide
      have z16 : (16 : Int32).toInt = 16 := by decide
      have zk : (Int32.ofNat k).toInt = (k : Int) := fn_toInt (by omega)
      show (ev_cmp 3 (Int32.ofNat k) 20 = true → _) ∧ (ev_cmp 3 (Int32.ofNat k) 20 = false → (ev_cmp 3 (Int32.ofNat k) 4 = true → (ev_cmp 3 (Int32.ofNat k) 8 = true → (ev_cmp 3 (Int32.ofNat k) 12 = true → (ev_cmp 3 (Int32.ofNat k) 16 = true → mfd_J M t a b c d e (76, mfd_L a b c d e (Int32.ofNat k), [.int e], mf_f (sm (cm_wi M 124 0 0) (w5 a b c d e) t k))) ∧ (ev_cmp 3 (Int32.ofNat k) 16 = false → mfd_J M t a b c d e (76, mfd_L a b c d e (Int32.ofNat k), [.int d], mf_f (sm (cm_wi M 124 0 0) (w5 a b c d e) t k)))) ∧ (ev_cmp 3 (Int32.ofNat k) 12 = false → mfd_J M t a b c d e (76, mfd_L a b c d e (Int32.ofNat k), [.int c], mf_f (sm (cm_wi M 124 0 0) (w5 a b c d e) t k)))) ∧ (ev_cmp 3 (Int32.ofNat k) 8 = false → mfd_J M t a b c d e (76, mfd_L a b c d e (Int32.ofNat k), [.int b], mf_f (sm (cm_wi M 124 0 0) (w5 a b c d e) t k)))) ∧ (ev_cmp 3 (Int32.ofNat k) 4 = false → mfd_J M t a b c d e (76, mfd_L a b c d e (Int32.ofNat k), [.int a], mf_f (sm (cm_wi M 124 0 0) (w5 a b c d e) t k))))
      have to76 : ∀ x : Int32, k < 20 → w5 a b c d e k = x → mfd_J M t a b c d e (76, mfd_L a b c d e (Int32.ofNat k), [.int x], mf_f (sm (cm_wi M 124 0 0) (w5 a b c d e) t k)) := fun x hk2 hx => ⟨h8, k, Or.inr ⟨hk2, by rw [hx]⟩⟩
      refine ⟨fun h => ?_, fun h => ⟨fun h2 => ⟨fun h3 => ⟨fun h4 => ⟨fun h5 => ?_, fun h5 => ?_⟩, fun h4 => ?_⟩, fun h3 => ?_⟩, fun h2 => ?_⟩⟩
      · have g := fn_ge h
        have : k = 20 := by omega
        subst this
        show fm_R M t a b c d e (some (.int ((sm (cm_wi M 124 0 0) (w5 a b c d e) t 20).1 124 2))) (mf_f (sm (cm_wi M 124 0 0) (w5 a b c d e) t 20))
        refine ⟨fun h => by omega, fun _ => ⟨by rw [e1], ?_⟩⟩
        exact wr_id (by rw [sm_r]; exact hr)
      · have g := fn_nge h
        have g5 := fn_ge h5
        exact to76 e (by omega) (by unfold w5; rw [if_neg (by omega), if_neg (by omega), if_neg (by omega), if_neg (by omega)])
      · have g := fn_nge h
        have g4 := fn_ge h4
        have g5 := fn_nge h5
        exact to76 d (by omega) (by unfold w5; rw [if_neg (by omega), if_neg (by omega), if_neg (by omega), if_pos (by omega)])
      · have g := fn_nge h
        have g4 := fn_nge h4
        have g3 := fn_ge h3
        exact to76 c (by omega) (by unfold w5; rw [if_neg (by omega), if_neg (by omega), if_pos (by omega)])
      · have g := fn_nge h
        have g3 := fn_nge h3
        have g2 := fn_ge h2
        exact to76 b (by omega) (by unfold w5; rw [if_neg (by omega), if_pos (by omega)])
      · have g := fn_nge h
        have g2 := fn_nge h2
        exact to76 a (by omega) (by unfold w5; rw [if_pos (by omega)])
    · have e1 := sm_t (w := w5 a b c d e) ht1 k
      show mfd_J M t a b c d e (23, mfd_L a b c d e (Int32.ofNat k + 1), [], cm_wi (cm_wi (mf_f (sm (cm_wi M 124 0 0) (w5 a b c d e) t k)) 125 ((sm (cm_wi M 124 0 0) (w5 a b c d e) t k).1 124 2).toNatClampNeg (mt (w5 a b c d e k) k)) 124 2 ((sm (cm_wi M 124 0 0) (w5 a b c d e) t k).1 124 2 + 1))
      rw [e1, fn_nat (by omega), fn_succ, fn_succ]
      exact ⟨h8, k + 1, Or.inl ⟨by omega, rfl⟩⟩
  · show (ev_cmp 5 (M.1 124 2 + 20) 900 = true → mfd_J M t a b c d e (23, mfd_L a b c d e 0, [], cm_wi M 124 0 0)) ∧ (ev_cmp 5 (M.1 124 2 + 20) 900 = false → _)
    refine ⟨fun h => ?_, fun h => ?_⟩
    · have g := fn_le h
      refine ⟨by omega, 0, Or.inl ⟨by omega, ?_⟩⟩
      show _ = (((23, mfd_L a b c d e 0, [], mf_f (cm_wi M 124 0 0)) : cm_S))
      rw [show mf_f (cm_wi M 124 0 0) = cm_wi M 124 0 0 from wr_id hr]
    · have g := fn_nle h
      show fm_R M t a b c d e (some (.int (-1))) (cm_wi M 124 0 0)
      exact ⟨fun _ => ⟨rfl, rfl⟩, fun h => by omega⟩
/-- a sign of the class's tape and of the reference's -/
noncomputable def tb (b m : Int32) : Prop := 0 ≤ m.toInt ∧ m.toInt ≤ 255 ∧ (b.toInt = m.toInt ∨ (128 ≤ m.toInt ∧ b.toInt = m.toInt - 256))
theorem and255 (y : Int32) : (y &&& 255).toInt = y.toInt % 256 := by
  have h1 : (y &&& 255).toBitVec.toNat = y.toBitVec.toNat % 256 := by
    show (y.toBitVec &&& (255 : Int32).toBitVec).toNat = _
    rw [BitVec.toNat_and, show (255 : Int32).toBitVec.toNat = 2 ^ 8 - 1 from by decide, Nat.and_two_pow_sub_one_eq_mod]
  have h2 : (y &&& 255).toInt = (y &&& 255).toBitVec.toInt := rfl
  have h3 : y.toInt = y.toBitVec.toInt := rfl
  have h4 := BitVec.toInt_eq_toNat_cond (y &&& 255).toBitVec
  have h5 := BitVec.toInt_eq_toNat_cond y.toBitVec
  have h6 := y.toBitVec.isLt
  rw [h2, h3, h4, h5, h1]
  split <;> split <;> omega
theorem narb (z : Int32) : (vp_nar .byte z).toInt = z.toInt.bmod 256 := by
  show (z.toInt8.toInt32).toInt = _
  rw [Int8.toInt_toInt32, Int32.toInt_toInt8]
theorem tb_y (y : Int32) : tb (vp_nar .byte y.toInt8.toInt32) (y &&& 255) := by
  have h1 := and255 y
  have h2 : (vp_nar .byte y.toInt8.toInt32).toInt = (y.toInt.bmod 256).bmod 256 := by
    rw [narb, Int8.toInt_toInt32, Int32.toInt_toInt8]
  rw [Int.bmod_bmod] at h2
  unfold tb
  rw [h1, h2]
  have h3 : y.toInt.bmod 256 = if y.toInt % 256 < (256 + 1) / 2 then y.toInt % 256 else y.toInt % 256 - 256 := Int.bmod_def ..
  rw [h3]
  split <;> omega
theorem tb_l {b m : Int32} (h : tb b m) : ch_l m = ch_l b := by
  obtain ⟨h1, h2, h3⟩ := h
  unfold ch_l
  rw [← Bool.decide_and, ← Bool.decide_and]
  exact decide_eq_decide.mpr (by omega)
theorem tb_d {b m : Int32} (h : tb b m) : ch_d m = ch_d b := by
  obtain ⟨h1, h2, h3⟩ := h
  unfold ch_d
  rw [← Bool.decide_and, ← Bool.decide_and]
  exact decide_eq_decide.mpr (by omega)
theorem tb_c {b m c : Int32} (hc : 0 ≤ c.toInt) (hc2 : c.toInt < 128) (h : tb b m) : (m = c) ↔ (b = c) := by
  obtain ⟨h1, h2, h3⟩ := h
  rw [← Int32.toInt_inj, ← Int32.toInt_inj]
  omega
theorem tb_s {b m : Int32} (h : tb b m) : ch_s m = ch_s b := decide_eq_decide.mpr (tb_c (by decide) (by decide) h)
/-- where the sign is a letter or a digit it is the same on both -/
theorem tb_eq {b m : Int32} (h : tb b m) (hb : ch_l b = true ∨ ch_d b = true) : m = b := by
  obtain ⟨h1, h2, h3⟩ := h
  have : 0 ≤ b.toInt := by
    rcases hb with hb | hb
    · unfold ch_l at hb
      simp only [Bool.and_eq_true, decide_eq_true_eq] at hb
      omega
    · unfold ch_d at hb
      simp only [Bool.and_eq_true, decide_eq_true_eq] at hb
      omega
  exact Int32.toInt_inj.mp (by omega)
theorem tk_e_tb {p : Int32 → Bool} {T T' : Nat → Int32} {N k e : Nat} (h : ∀ j, j < N → p (T' j) = p (T j)) (he : tk_e p T' N k e) : tk_e p T N k e := ⟨he.1, he.2.1, fun j a b => by rw [← h j (by have := he.2.1; omega)]; exact he.2.2.1 j a b, fun a => by rw [← h e a]; exact he.2.2.2 a⟩
theorem tk_v_tb {T T' : Nat → Int32} {s : Nat} : ∀ c, (∀ j, j < c → T' (s + j) = T (s + j)) → tk_v T' s c = tk_v T s c
  | 0, _ => rfl
  | c + 1, h => by rw [tk_v_succ, tk_v_succ, tk_v_tb c (fun j hj => h j (by omega)), h c (by omega)]
/-- the two tokens -/
noncomputable def tk_r (T : Nat → Int32) (s e : Nat) (kd va : Int32) (wd : Int64) (tok wh : Int32) (ns : Nat) : Prop :=
  (kd = 0 ∧ tok = 0) ∨ (kd = 1 ∧ tok = 2 ∧ ns = e - s ∧ ns ≤ 8 ∧ 0 < ns ∧ wd = tk_w T s ns ∧ ∀ j, s ≤ j → j < e → ch_l (T j) = true) ∨ (kd = 2 ∧ tok = 3 ∧ va = wh) ∨ (kd = 3 ∧ tok = 59) ∨ (kd = 4 ∧ tok = 1)
theorem tk_two {T T' : Nat → Int32} {N k s e s' e' : Nat} {kd va tok wh : Int32} {wd : Int64} {ns : Nat} (h : ∀ j, j < N → tb (T j) (T' j)) (a1 : tk_e ch_s T N k s) (a2 : tk_k T N s e kd va wd) (b1 : tk_e ch_s T' N k s') (b2 : mk_k T' N s' e' tok wh ns) : s' = s ∧ e' = e ∧ tk_r T s e kd va wd tok wh ns := by
  have hs : s' = s := tk_e_uni (tk_e_tb (fun j hj => tb_s (h j hj)) b1) a1
  subst hs
  refine ⟨rfl, ?_⟩
  rcases b2 with ⟨c1, rfl, rfl, rfl, rfl⟩ | ⟨c1, c2, c3, rfl, rfl, rfl⟩ | ⟨c1, c2, c3, c4, rfl, rfl, rfl⟩ | ⟨c1, c2, c3, rfl, rfl, rfl, rfl⟩
  · rcases a2 with ⟨d1, rfl, rfl, rfl, rfl⟩ | ⟨d1, -⟩ | ⟨d1, -⟩ | ⟨d1, -⟩
    · exact ⟨rfl, Or.inl ⟨rfl, rfl⟩⟩
    · omega
    · omega
    · omega
  · rw [tb_l (h s' c1)] at c2
    have c3' := tk_e_tb (fun j hj => tb_l (h j hj)) c3
    have hpos : s' < e' := by
      rcases Nat.lt_or_ge s' e' with hh | hh
      · exact hh
      · have : e' = s' := by have := c3'.1; omega
        have h4 := c3'.2.2.2 (by omega)
        rw [this, c2] at h4
        cases h4
    rcases a2 with ⟨d1, -⟩ | ⟨d1, d2, d3, rfl, rfl, rfl⟩ | ⟨d1, d2, -⟩ | ⟨d1, d2, -⟩
    · omega
    · have := tk_e_uni c3' d3
      subst this
      refine ⟨rfl, ?_⟩
      by_cases h8 : e' - s' ≤ 8
      · exact Or.inr (Or.inl ⟨if_pos h8, if_pos h8, rfl, h8, by omega, rfl, c3'.2.2.1⟩)
      · exact Or.inr (Or.inr (Or.inr (Or.inr ⟨if_neg h8, if_neg h8⟩)))
    · rw [c2] at d2; cases d2
    · rw [c2] at d2; cases d2
  · rw [tb_l (h s' c1)] at c2
    rw [tb_d (h s' c1)] at c3
    have c4' := tk_e_tb (fun j hj => tb_d (h j hj)) c4
    rcases a2 with ⟨d1, -⟩ | ⟨d1, d2, -⟩ | ⟨d1, d2, d3, d4, rfl, rfl, rfl⟩ | ⟨d1, d2, d3, -⟩
    · omega
    · rw [c2] at d2; cases d2
    · have := tk_e_uni c4' d4
      subst this
      refine ⟨rfl, ?_⟩
      by_cases h8 : e' - s' ≤ 3
      · refine Or.inr (Or.inr (Or.inl ⟨if_pos h8, if_pos h8, ?_⟩))
        rw [Nat.min_eq_left h8]
        refine (tk_v_tb _ (fun j hj => ?_)).symm
        have hj2 : s' + j < e' := by omega
        exact tb_eq (h _ (by have := c4'.2.1; omega)) (Or.inr (c4'.2.2.1 _ (by omega) hj2))
      · exact Or.inr (Or.inr (Or.inr (Or.inr ⟨if_neg h8, if_neg h8⟩)))
    · rw [c3] at d3; cases d3
  · rw [tb_l (h s' c1)] at c2
    rw [tb_d (h s' c1)] at c3
    rcases a2 with ⟨d1, -⟩ | ⟨d1, d2, -⟩ | ⟨d1, d2, d3, -⟩ | ⟨d1, d2, d3, rfl, rfl, rfl, rfl⟩
    · omega
    · rw [c2] at d2; cases d2
    · rw [c3] at d3; cases d3
    · refine ⟨rfl, ?_⟩
      have h59 := tb_c (c := 59) (by decide) (by decide) (h s' c1)
      by_cases hc : T s' = 59
      · exact Or.inr (Or.inr (Or.inr (Or.inl ⟨if_pos hc, if_pos (h59.mpr hc)⟩)))
      · exact Or.inr (Or.inr (Or.inr (Or.inr ⟨if_neg hc, if_neg (fun hh => hc (h59.mp hh))⟩)))
noncomputable def pk (f : Nat → Int) : Nat → Int
  | 0 => 0
  | c + 1 => pk f c * 32 + f c
theorem pk_bd {f : Nat → Int} : ∀ n, (∀ j, j < n → 1 ≤ f j ∧ f j ≤ 26) → 0 ≤ pk f n ∧ pk f n < 32 ^ n
  | 0, _ => ⟨Int.le_refl _, by show (0 : Int) < 32 ^ 0; decide⟩
  | n + 1, h => by
    obtain ⟨a, b⟩ := pk_bd n (fun j hj => h j (by omega))
    have hn := h n (by omega)
    have e : (32 : Int) ^ (n + 1) = 32 ^ n * 32 := Int.pow_succ 32 n
    unfold pk
    rw [e]
    omega
theorem pk_inj {f g : Nat → Int} : ∀ n m, (∀ j, j < n → 1 ≤ f j ∧ f j ≤ 26) → (∀ j, j < m → 1 ≤ g j ∧ g j ≤ 26) → pk f n = pk g m → n = m ∧ ∀ j, j < n → f j = g j
  | 0, 0, _, _, _ => ⟨rfl, fun j h => by omega⟩
  | 0, m + 1, _, hg, h => by
    have a := (pk_bd m (fun j hj => hg j (by omega))).1
    have b := hg m (by omega)
    have h : (0 : Int) = pk g m * 32 + g m := h
    omega
  | n + 1, 0, hf, _, h => by
    have a := (pk_bd n (fun j hj => hf j (by omega))).1
    have b := hf n (by omega)
    have h : pk f n * 32 + f n = 0 := h
    omega
  | n + 1, m + 1, hf, hg, h => by
    have h : pk f n * 32 + f n = pk g m * 32 + g m := h
    have b := hf n (by omega)
    have d := hg m (by omega)
    obtain ⟨e1, e2⟩ := pk_inj n m (fun j hj => hf j (by omega)) (fun j hj => hg j (by omega)) (by omega)
    subst e1
    refine ⟨rfl, fun j hj => ?_⟩
    rcases Nat.lt_or_ge j n with hh | hh
    · exact e2 j hh
    · have : j = n := by omega
      subst this
      omega
theorem ch_l_bd {x : Int32} (h : ch_l x = true) : 97 ≤ x.toInt ∧ x.toInt ≤ 122 := by
  unfold ch_l at h
  simp only [Bool.and_eq_true, decide_eq_true_eq] at h
  exact h
theorem lbm {n : Int} (h1 : -9223372036854775808 ≤ n) (h2 : n ≤ 9223372036854775807) : n.bmod (2 ^ 64) = n := Int.bmod_eq_of_le (by omega) (by omega)
theorem tk_w_pk {T : Nat → Int32} {s : Nat} : ∀ n, n ≤ 8 → (∀ j, j < n → ch_l (T (s + j)) = true) → (tk_w T s n).toInt = pk (fun j => (T (s + j)).toInt - 96) n
  | 0, _, _ => by show (0 : Int64).toInt = 0; decide
  | n + 1, h8, h => by
    have ih := tk_w_pk n (by omega) (fun j hj => h j (by omega))
    have bd := pk_bd (f := fun j => (T (s + j)).toInt - 96) n (fun j hj => by
      have := ch_l_bd (h j (by omega))
      omega)
    have hb : (32 : Int) ^ n ≤ 32 ^ 7 := by
      have : n = 0 ∨ n = 1 ∨ n = 2 ∨ n = 3 ∨ n = 4 ∨ n = 5 ∨ n = 6 ∨ n = 7 := by omega
      rcases this with rfl | rfl | rfl | rfl | rfl | rfl | rfl | rfl <;> decide
    have h7 : (32 : Int) ^ 7 = 34359738368 := by decide
    have hx := ch_l_bd (h n (by omega))
    have e32 : (32 : Int64).toInt = 32 := by decide
    have e97 : (97 : Int64).toInt = 97 := by decide
    have e1 : (1 : Int64).toInt = 1 := by decide
    rw [tk_w_succ, Int64.toInt_add, Int64.toInt_sub, Int64.toInt_add, Int64.toInt_mul, ih, Int32.toInt_toInt64, e32, e97, e1]
    show _ = pk (fun j => (T (s + j)).toInt - 96) n * 32 + ((T (s + n)).toInt - 96)
    generalize pk (fun j => (T (s + j)).toInt - 96) n = p at bd ⊢
    generalize (T (s + n)).toInt = x at hx ⊢
    rw [lbm (n := p * 32) (by omega) (by omega), lbm (n := p * 32 + x) (by omega) (by omega), lbm (n := p * 32 + x - 97) (by omega) (by omega), lbm (by omega) (by omega)]
    omega
/-- a word's number and its letters -/
noncomputable def wrep (W : Int64) (L : Nat → Int32) (n : Nat) : Prop := n ≤ 8 ∧ (∀ j, j < n → ch_l (L j) = true) ∧ W = tk_w L 0 n
theorem tk_w_sh (T : Nat → Int32) (s : Nat) : ∀ n, tk_w T s n = tk_w (fun j => T (s + j)) 0 n
  | 0 => rfl
  | n + 1 => by rw [tk_w_succ, tk_w_succ, tk_w_sh T s n, Nat.zero_add]
theorem tk_w_cg {L L' : Nat → Int32} : ∀ n, (∀ j, j < n → L j = L' j) → tk_w L 0 n = tk_w L' 0 n
  | 0, _ => rfl
  | n + 1, h => by rw [tk_w_succ, tk_w_succ, tk_w_cg n (fun j hj => h j (by omega)), Nat.zero_add, h n (by omega)]
theorem wrep_eq {W W' : Int64} {L L' : Nat → Int32} {n n' : Nat} (h : wrep W L n) (h' : wrep W' L' n') : W = W' ↔ (n = n' ∧ ∀ j, j < n → L j = L' j) := by
  obtain ⟨a1, a2, rfl⟩ := h
  obtain ⟨b1, b2, rfl⟩ := h'
  constructor
  · intro he
    have e1 := tk_w_pk (T := L) (s := 0) n a1 (fun j hj => by rw [Nat.zero_add]; exact a2 j hj)
    have e2 := tk_w_pk (T := L') (s := 0) n' b1 (fun j hj => by rw [Nat.zero_add]; exact b2 j hj)
    rw [he, e2] at e1
    obtain ⟨g1, g2⟩ := pk_inj n n' (fun j hj => by
        have := ch_l_bd (a2 j hj)
        rw [Nat.zero_add]
        omega) (fun j hj => by
        have := ch_l_bd (b2 j hj)
        rw [Nat.zero_add]
        omega) e1.symm
    refine ⟨g1, fun j hj => ?_⟩
    have := g2 j hj
    rw [Nat.zero_add] at this
    exact Int32.toInt_inj.mp (by omega)
  · rintro ⟨rfl, he⟩
    exact tk_w_cg n he
theorem sw_tk (B : List Int32) : ∀ n, sw B n = tk_w (fun j => chr (B.getD j 0)) 0 n
  | 0 => rfl
  | n + 1 => by
    rw [tk_w_succ, ← sw_tk B n, Nat.zero_add]
    try rfl
set_option maxRecDepth 1000000 in
theorem strs_rep : ∀ r ∈ ev_strs, r.2.2.2.length ≤ 8 ∧ ∀ j, j < r.2.2.2.length → ch_l (chr (r.2.2.2.getD j 0)) = true := by decide +kernel
theorem sn_rep {t : Nat} {r : String × Nat × String × List Int32} (h : ev_strs[t]? = some r) : wrep (sn t) (fun j => chr (r.2.2.2.getD j 0)) r.2.2.2.length := by
  obtain ⟨a, b⟩ := strs_rep r (List.mem_of_getElem? h)
  refine ⟨a, b, ?_⟩
  unfold sn
  rw [h]
  exact sw_tk _ _
noncomputable def rn_ok (M : cm_M) : Prop := M.2.2 2 11 = some 3 ∧ M.2.2 2 12 = some 4 ∧ M.2.2 2 13 = some 5 ∧ ∃ nn, nn ≤ 16 ∧ M.1 2 10 = Int32.ofNat nn
noncomputable def nm_f (M : cm_M) : Nat → Nat → Int32
  | 0, _ => -1
  | f + 1, i => if M.1 2 3 = 1 ∧ M.2.1 3 i = M.2.1 2 6 then Int32.ofNat i else nm_f M f (i + 1)
noncomputable def cF_name (M : cm_M) : Int32 := nm_f M (M.1 2 10).toNatClampNeg 0
noncomputable def nh_f (M : cm_M) : cm_M := cm_wr M 2 11 (some 3)
noncomputable def nh_J (M : cm_M) (nn : Nat) (S : cm_S) : Prop := ∃ i, i ≤ nn ∧ cF_name M = nm_f M (nn - i) i ∧ S = (2, [(0, .ref 2), (1, .int (Int32.ofNat i))], [], nh_f M)
set_option maxRecDepth 100000 in
theorem cs_nameHere {M : cm_M} (h : rn_ok M) : cm_Lc cm_ms 82 [.ref 2] M (fun v M' => M' = M ∧ v = some (.int (cF_name M))) := by
  obtain ⟨r11, r12, r13, nn, hn, hnn⟩ := h
  have hf : nh_f M = M := wr_id r11
  refine lb_of (mi := mr_82) rfl [(2, [0, 1])] (nh_J M nn) 40 (fun S hS => ?_) 10 ?_
  · obtain ⟨i, hi, hl, rfl⟩ := hS
    have hz : M.2.1 3 (Int32.ofNat i).toNatClampNeg = M.2.1 3 i := by rw [fn_nat (by omega)]
    show (ev_cmp 3 (Int32.ofNat i) (M.1 2 10) = true → _) ∧ (ev_cmp 3 (Int32.ofNat i) (M.1 2 10) = false → (ev_cmp 1 (M.1 2 3) 1 = true → nh_J M nn (2, [(0, .ref 2), (1, .int (Int32.ofNat i + 1))], [], nh_f M)) ∧ (ev_cmp 1 (M.1 2 3) 1 = false → (ev_cmp 1 (lg_cmp (M.2.1 3 (Int32.ofNat i).toNatClampNeg) (M.2.1 2 6)) 0 = true → nh_J M nn (2, [(0, .ref 2), (1, .int (Int32.ofNat i + 1))], [], nh_f M)) ∧ (ev_cmp 1 (lg_cmp (M.2.1 3 (Int32.ofNat i).toNatClampNeg) (M.2.1 2 6)) 0 = false → _)))
    have nxt : i < nn → ¬ (M.1 2 3 = 1 ∧ M.2.1 3 i = M.2.1 2 6) → nh_J M nn (2, [(0, .ref 2), (1, .int (Int32.ofNat i + 1))], [], nh_f M) := by
      intro hlt hne
      rw [fn_succ]
      refine ⟨i + 1, by omega, ?_, rfl⟩
      rw [hl, show nn - i = (nn - (i + 1)) + 1 by omega]
      show (if _ then _ else _) = _
      rw [if_neg hne]
    refine ⟨fun h1 => ⟨hf, ?_⟩, fun h1 => ?_⟩
    · have g := fn_ge h1
      rw [hnn, fn_toInt (by omega), fn_toInt (by omega)] at g
      have : i = nn := by omega
      subst this
      rw [hl, Nat.sub_self]
      try rfl
    · have g := fn_nge h1
      rw [hnn, fn_toInt (by omega), fn_toInt (by omega)] at g
      refine ⟨fun h2 => nxt (by omega) (fun hh => fn_ne h2 hh.1), fun h2 => ⟨fun h3 => ?_, fun h3 => ⟨hf, ?_⟩⟩⟩
      · rw [hz] at h3
        exact nxt (by omega) (fun hh => fn_lne h3 hh.2)
      · rw [hz] at h3
        rw [hl, show nn - i = (nn - (i + 1)) + 1 by omega]
        show _ = some (Value.int (if _ then _ else _))
        rw [if_pos ⟨fn_eq h2, fn_leq h3⟩]
  · show nh_J M nn (2, [(0, .ref 2), (1, .int 0)], [], M)
    refine ⟨0, Nat.zero_le _, ?_, ?_⟩
    · unfold cF_name
      rw [hnn, fn_nat (by omega)]
      try rfl
    · rw [hf]
      try rfl
theorem rn_fail {M : cm_M} (x : Int32) (h : rn_ok M) : rn_ok (cF_fail x M) := by
  unfold cF_fail
  split
  · exact h
  · exact h
/-- a name that is to be new -/
noncomputable def cF_newChk (M : cm_M) : cm_M := if M.1 2 3 = 1 ∧ cF_line M = -1 then (if cF_name M = -1 then M else cF_fail 3 M) else cF_fail 1 M
theorem rs_newChk {N : Nat} {M : cm_M} (h : rs_ok N M) : rs_ok N (cF_newChk M) := by
  unfold cF_newChk
  split
  · split
    · exact h
    · exact rs_fail 3 h
  · exact rs_fail 1 h
theorem rn_newChk {M : cm_M} (h : rn_ok M) : rn_ok (cF_newChk M) := by
  unfold cF_newChk
  split
  · split
    · exact h
    · exact rn_fail 3 h
  · exact rn_fail 1 h
noncomputable def cF_put (so nu : Int32) (X : cm_M) : cm_M := if X.1 2 9 = 0 ∧ (X.1 2 10).toInt < 16 then cm_wi (cm_wi (cm_wi (cm_wl X 3 (X.1 2 10).toNatClampNeg (X.2.1 2 6)) 4 (X.1 2 10).toNatClampNeg so) 5 (X.1 2 10).toNatClampNeg nu) 2 10 (X.1 2 10 + 1) else X
theorem rs_put {N : Nat} {X : cm_M} (so nu : Int32) (h : rs_ok N X) : rs_ok N (cF_put so nu X) := by
  unfold cF_put
  split
  · exact h
  · exact h
noncomputable def cF_newName (N : Nat) (so nu : Int32) (M : cm_M) : cm_M := cF_step N (cF_put so nu (cF_newChk M))
noncomputable def rn_f (M : cm_M) : cm_M := cm_wr (cm_wr (cm_wr M 2 11 (some 3)) 2 12 (some 4)) 2 13 (some 5)
theorem rn_f_eq {M : cm_M} (h : rn_ok M) : rn_f M = M := by
  unfold rn_f
  rw [wr_id h.1, wr_id h.2.1, wr_id h.2.2.1]
noncomputable def nn_J (M : cm_M) (so nu : Int32) (S : cm_S) : Prop := S = (37, [(0, .ref 2), (1, .int so), (2, .int nu)], [], rn_f (cF_newChk M)) ∨ S = (96, [(0, .ref 2)], [], cF_put so nu (cF_newChk M))
noncomputable abbrev nn_st : List (Nat × List Nat) := [(37, [0, 1, 2]), (96, [0])]
set_option maxRecDepth 100000 in
set_option maxHeartbeats 4000000 in
theorem cs_newName {N : Nat} (so nu : Int32) {M : cm_M} (h : rs_ok N M) (hn : rn_ok M) : cm_Lc cm_ms 80 [.ref 2, .int so, .int nu] M (fun v M' => v = none ∧ M' = cF_newName N so nu M) := by
  have hX := rn_f_eq (rn_newChk hn)
  refine lb_of (mi := mr_80) rfl nn_st (nn_J M so nu) 60 (fun S hS => ?_) 40 ?_
  · rcases hS with rfl | rfl
    · generalize hXX : cF_newChk M = X at hX
      have z16 : (16 : Int32).toInt = 16 := by decide
      show (ev_cmp 1 (X.1 2 9) 0 = true → nn_J M so nu (96, [(0, .ref 2)], [], rn_f X)) ∧ (ev_cmp 1 (X.1 2 9) 0 = false → (ev_cmp 3 (X.1 2 10) 16 = true → nn_J M so nu (96, [(0, .ref 2)], [], rn_f X)) ∧ (ev_cmp 3 (X.1 2 10) 16 = false → nn_J M so nu (96, [(0, .ref 2)], [], cm_wi (cm_wi (cm_wi (cm_wl (rn_f X) 3 (X.1 2 10).toNatClampNeg (X.2.1 2 6)) 4 (X.1 2 10).toNatClampNeg so) 5 (X.1 2 10).toNatClampNeg nu) 2 10 (X.1 2 10 + 1))))
      have fin : ∀ Y, Y = cF_put so nu X → nn_J M so nu (96, [(0, .ref 2)], [], Y) := fun Y hY => Or.inr (by rw [hY, hXX])
      refine ⟨fun h1 => fin _ ?_, fun h1 => ⟨fun h2 => fin _ ?_, fun h2 => fin _ ?_⟩⟩
      · rw [hX]
        unfold cF_put
        rw [if_neg (fun hh => fn_ne h1 hh.1)]
      · rw [hX]
        have g := fn_ge h2
        unfold cF_put
        rw [if_neg (fun hh => by have := hh.2; omega)]
      · rw [hX]
        have g := fn_nge h2
        unfold cF_put
        rw [if_pos ⟨fn_eq h1, by omega⟩]
    · show ∃ R, cm_Lc cm_ms 88 [.ref 2] (cF_put so nu (cF_newChk M)) R ∧ ∀ v M', R v M' → _
      refine ⟨_, cs_step (rs_put so nu (rs_newChk h)), ?_⟩
      rintro v M' ⟨rfl, rfl⟩
      exact ⟨rfl, rfl⟩
  · have to37 : ∀ Y, Y = cF_newChk M → nn_J M so nu (37, [(0, .ref 2), (1, .int so), (2, .int nu)], [], Y) := fun Y hY => Or.inl (by rw [hY, hX])
    show (ev_cmp 1 (M.1 2 3) 1 = true → ∃ R, cm_Lc cm_ms 66 [.ref 2, .int 1] M R ∧ ∀ v M', R v M' → _) ∧ (ev_cmp 1 (M.1 2 3) 1 = false → ∃ R, cm_Lc cm_ms 84 [.ref 2] M R ∧ ∀ v M', R v M' → _)
    refine ⟨fun h1 => ⟨_, cs_fail 1 M, ?_⟩, fun h1 => ⟨_, cs_line M, ?_⟩⟩
    · rintro v M' ⟨rfl, rfl⟩
      show nn_J M so nu (37, [(0, .ref 2), (1, .int so), (2, .int nu)], [], cF_fail 1 M)
      refine to37 _ ?_
      unfold cF_newChk
      rw [if_neg (fun hh => fn_ne h1 hh.1)]
    · rintro v M' ⟨rfl, rfl⟩
      show (ev_cmp 0 (cF_line M') (-1) = true → ∃ R, cm_Lc cm_ms 82 [.ref 2] M' R ∧ ∀ v M', R v M' → _) ∧ (ev_cmp 0 (cF_line M') (-1) = false → ∃ R, cm_Lc cm_ms 66 [.ref 2, .int 1] M' R ∧ ∀ v M', R v M' → _)
      refine ⟨fun h2 => ⟨_, cs_nameHere hn, ?_⟩, fun h2 => ⟨_, cs_fail 1 M', ?_⟩⟩
      · rintro v M' ⟨rfl, rfl⟩
        show (ev_cmp 0 (cF_name M') (-1) = true → nn_J M' so nu (37, [(0, .ref 2), (1, .int so), (2, .int nu)], [], M')) ∧ (ev_cmp 0 (cF_name M') (-1) = false → ∃ R, cm_Lc cm_ms 66 [.ref 2, .int 3] M' R ∧ ∀ v M', R v M' → _)
        refine ⟨fun h3 => to37 _ ?_, fun h3 => ⟨_, cs_fail 3 M', ?_⟩⟩
        · unfold cF_newChk
          rw [if_pos ⟨fn_eq h1, fn_eq0 h2⟩, if_pos (fn_eq0 h3)]
        · rintro v M2 ⟨rfl, rfl⟩
          show nn_J M' so nu (37, [(0, .ref 2), (1, .int so), (2, .int nu)], [], cF_fail 3 M')
          refine to37 _ ?_
          unfold cF_newChk
          rw [if_pos ⟨fn_eq h1, fn_eq0 h2⟩, if_neg (fn_ne0 h3)]
      · rintro v M2 ⟨rfl, rfl⟩
        show nn_J M' so nu (37, [(0, .ref 2), (1, .int so), (2, .int nu)], [], cF_fail 1 M')
        refine to37 _ ?_
        unfold cF_newChk
        rw [if_neg (fun hh => fn_ne0 h2 hh.2)]
noncomputable def cF_told (so : Int32) (M : cm_M) : cm_M := if M.1 2 3 = 1 ∧ cF_line M = -1 then (if cF_name M = -1 ∨ M.1 4 (cF_name M).toNatClampNeg ≠ so then cF_fail 2 M else M) else cF_fail 1 M
noncomputable def cF_toldV (so : Int32) (M : cm_M) : Int32 := if (cF_told so M).1 2 9 ≠ 0 ∨ cF_name M = -1 then -1 else (cF_told so M).1 5 (cF_name M).toNatClampNeg
theorem rn_told {M : cm_M} (so : Int32) (h : rn_ok M) : rn_ok (cF_told so M) := by
  unfold cF_told
  split
  · split
    · exact rn_fail 2 h
    · exact h
  · exact rn_fail 1 h
noncomputable def th_J (M : cm_M) (so : Int32) (S : cm_S) : Prop := S = (49, [(0, .ref 2), (2, .int (cF_name M))], [], rn_f (cF_told so M))
noncomputable abbrev th_R (so : Int32) (M : cm_M) : cm_K := fun v M' => v = some (.int (cF_toldV so M)) ∧ M' = cF_told so M
set_option maxRecDepth 100000 in
set_option maxHeartbeats 4000000 in
theorem cs_told0 (so : Int32) {M0 M : cm_M} (e0 : M = rn_f M0) (hn : rn_ok M) : cm_Lc cm_ms 81 [.ref 2, .int so] (rn_f M0) (th_R so M) := by
  have hX := rn_f_eq (rn_told so hn)
  refine lb_of (mi := mr_81) rfl [(49, [0, 2])] (th_J M so) 40 (fun S hS => ?_) 40 ?_
  · rcases hS with rfl
    have hv : cF_toldV so M = if (cF_told so M).1 2 9 ≠ 0 ∨ cF_name M = -1 then -1 else (cF_told so M).1 5 (cF_name M).toNatClampNeg := rfl
    generalize hXX : cF_told so M = X at hX hv
    show (ev_cmp 1 (X.1 2 9) 0 = true → _) ∧ (ev_cmp 1 (X.1 2 9) 0 = false → (ev_cmp 1 (cF_name M) (-1) = true → _) ∧ (ev_cmp 1 (cF_name M) (-1) = false → _))
    refine ⟨fun h1 => ?_, fun h1 => ⟨fun h2 => ?_, fun h2 => ?_⟩⟩
    · show th_R so M (some (.int (-1))) (rn_f X)
      exact ⟨by rw [hv, if_pos (Or.inl (fn_ne h1))], by rw [hX, hXX]⟩
    · show th_R so M (some (.int (X.1 5 (cF_name M).toNatClampNeg))) (rn_f X)
      exact ⟨by rw [hv, if_neg (fun hh => hh.elim (fun q => q (fn_eq h1)) (fun q => fn_ne h2 q))], by rw [hX, hXX]⟩
    · show th_R so M (some (.int (-1))) (rn_f X)
      exact ⟨by rw [hv, if_pos (Or.inr (fn_eq h2))], by rw [hX, hXX]⟩
  · have to49 : ∀ Y, Y = cF_told so M → th_J M so (49, [(0, .ref 2), (2, .int (cF_name M))], [], Y) := fun Y hY => by rw [hY]; show _ = _; rw [hX]
    show ∃ R, cm_Lc cm_ms 82 [.ref 2] (rn_f M0) R ∧ ∀ v M', R v M' → _
    refine ⟨_, (by rw [← e0]; exact cs_nameHere hn : cm_Lc cm_ms 82 [.ref 2] (rn_f M0) (fun v M' => M' = rn_f M0 ∧ v = some (.int (cF_name M)))), ?_⟩
    rintro v M' ⟨rfl, rfl⟩
    show (ev_cmp 1 (M0.1 2 3) 1 = true → ∃ R, cm_Lc cm_ms 66 [.ref 2, .int 1] (rn_f M0) R ∧ ∀ v M', R v M' → _) ∧ (ev_cmp 1 (M0.1 2 3) 1 = false → ∃ R, cm_Lc cm_ms 84 [.ref 2] (rn_f M0) R ∧ ∀ v M', R v M' → _)
    have e3 : M.1 2 3 = M0.1 2 3 := by rw [e0]; try rfl
    have e4 : ∀ j, M.1 4 j = M0.1 4 j := fun j => by rw [e0]; try rfl
    have f1 : ¬ (M.1 2 3 = 1 ∧ cF_line M = -1) → cF_fail 1 (rn_f M0) = cF_told so M := fun hh => by rw [← e0]; unfold cF_told; rw [if_neg hh]
    refine ⟨fun h1 => ⟨_, cs_fail 1 _, ?_⟩, fun h1 => ⟨_, (by rw [← e0]; exact cs_line M : cm_Lc cm_ms 84 [.ref 2] (rn_f M0) (fun v M' => M' = rn_f M0 ∧ v = some (.int (cF_line M)))), ?_⟩⟩
    · rintro v M' ⟨rfl, rfl⟩
      show th_J M so (49, [(0, .ref 2), (2, .int (cF_name M))], [], cF_fail 1 (rn_f M0))
      exact to49 _ (f1 (fun hh => fn_ne h1 (e3 ▸ hh.1)))
    · rintro v M' ⟨rfl, rfl⟩
      show (ev_cmp 0 (cF_line M) (-1) = true → (ev_cmp 0 (cF_name M) (-1) = true → ∃ R, cm_Lc cm_ms 66 [.ref 2, .int 2] (rn_f M0) R ∧ ∀ v M', R v M' → _) ∧ (ev_cmp 0 (cF_name M) (-1) = false → (ev_cmp 0 (M0.1 4 (cF_name M).toNatClampNeg) so = true → th_J M so (49, [(0, .ref 2), (2, .int (cF_name M))], [], rn_f M0)) ∧ (ev_cmp 0 (M0.1 4 (cF_name M).toNatClampNeg) so = false → ∃ R, cm_Lc cm_ms 66 [.ref 2, .int 2] (rn_f M0) R ∧ ∀ v M', R v M' → _))) ∧ (ev_cmp 0 (cF_line M) (-1) = false → ∃ R, cm_Lc cm_ms 66 [.ref 2, .int 1] (rn_f M0) R ∧ ∀ v M', R v M' → _)
      have a1 : M.1 2 3 = 1 := e3.trans (fn_eq h1)
      have f2 : cF_line M = -1 → (cF_name M = -1 ∨ M.1 4 (cF_name M).toNatClampNeg ≠ so) → cF_fail 2 (rn_f M0) = cF_told so M := fun h2 hh => by rw [← e0]; unfold cF_told; rw [if_pos ⟨a1, h2⟩, if_pos hh]
      refine ⟨fun h2 => ⟨fun h3 => ⟨_, cs_fail 2 _, ?_⟩, fun h3 => ⟨fun h4 => to49 _ ?_, fun h4 => ⟨_, cs_fail 2 _, ?_⟩⟩⟩, fun h2 => ⟨_, cs_fail 1 _, ?_⟩⟩
      · rintro v M' ⟨rfl, rfl⟩
        show th_J M so (49, [(0, .ref 2), (2, .int (cF_name M))], [], cF_fail 2 (rn_f M0))
        exact to49 _ (f2 (fn_eq0 h2) (Or.inl (fn_eq0 h3)))
      · rw [← e0]
        unfold cF_told
        rw [if_pos ⟨a1, fn_eq0 h2⟩, if_neg (fun hh => hh.elim (fun q => fn_ne0 h3 q) (fun q => q ((e4 _).trans (fn_eq0 h4))))]
      · rintro v M' ⟨rfl, rfl⟩
        show th_J M so (49, [(0, .ref 2), (2, .int (cF_name M))], [], cF_fail 2 (rn_f M0))
        exact to49 _ (f2 (fn_eq0 h2) (Or.inr (fun q => fn_ne0 h4 ((e4 _).symm.trans q))))
      · rintro v M' ⟨rfl, rfl⟩
        show th_J M so (49, [(0, .ref 2), (2, .int (cF_name M))], [], cF_fail 1 (rn_f M0))
        exact to49 _ (f1 (fun hh => fn_ne0 h2 hh.2))
theorem cs_told (so : Int32) {M : cm_M} (hn : rn_ok M) : cm_Lc cm_ms 81 [.ref 2, .int so] M (th_R so M) := by
  have h := cs_told0 so (M0 := M) (M := M) (rn_f_eq hn).symm hn
  rw [rn_f_eq hn] at h
  exact h
