section NX
variable {M : cm_M} {N k : Nat}
set_option maxRecDepth 100000 in
set_option maxHeartbeats 4000000 in
theorem nx_21 (h1 : M.2.2 124 1 = some 125) (h12 : M.2.2 124 12 = some 126) (hN : M.1 124 3 = Int32.ofNat N) (hN9 : N ≤ 900) (hpos : ∀ j, j < N → 0 ≤ (M.1 125 j).toInt) {s : Nat} (hs : tk_e ch_s (M.1 125) N k s) : lb_ cm_ms none (cm_P mr_176) mr_176.2.2.2.2.2.2 nx_st (nx_J M N k) (cm_rl (nx_R M N k)) 80 (21, [(0, .ref 124), (1, .int (Int32.ofNat s))], [], mn_f M) := by
  have hsN := hs.2.1
  have hb := nx_b0 M s
  show ∃ R, cm_Lc cm_ms 173 [.ref 124, .int (Int32.ofNat s)] (mn_f (cm_wi M 124 4 (Int32.ofNat s))) R ∧ ∀ v M', R v M' → _
  refine ⟨_, fn_see (M := cm_wi M 124 4 (Int32.ofNat s)) hN hN9 (by omega), ?_⟩
  rintro v M' ⟨rfl, rfl⟩
  show (ev_cmp 1 (se (M.1 125) N s) (-1) = true → ∃ R, cm_Lc cm_ms 174 [.int (se (M.1 125) N s)] (mn_f (cm_wi (cm_wi (cm_wi M 124 4 (Int32.ofNat s)) 124 8 0) 124 7 0)) R ∧ ∀ v M', R v M' → _) ∧ (ev_cmp 1 (se (M.1 125) N s) (-1) = false → _)
  have hse : s < N → ch_l (se (M.1 125) N s) = ch_l (M.1 125 s) ∧ ch_d (se (M.1 125) N s) = ch_d (M.1 125 s) := fun h => by rw [se_in h]; exact ⟨rfl, rfl⟩
  refine ⟨fun h => ⟨_, fn_isSmall _ _, ?_⟩, fun h => ?_⟩
  · have hlt : s < N := by
      rcases Nat.lt_or_ge s N with hj | hj
      · exact hj
      · rw [se_out (by omega)] at h
        exact absurd rfl (fn_ne h)
    obtain ⟨hl, hd⟩ := hse hlt
    rintro v M' ⟨rfl, rfl⟩
    show (ev_cmp 0 (bi (ch_l (se (M.1 125) N s))) 0 = true → ∃ R, cm_Lc cm_ms 175 [.int (se (M.1 125) N s)] (mn_f (cm_wi (cm_wi (cm_wi M 124 4 (Int32.ofNat s)) 124 8 0) 124 7 0)) R ∧ ∀ v M', R v M' → _) ∧ (ev_cmp 0 (bi (ch_l (se (M.1 125) N s))) 0 = false → nx_J M N k (67, [(0, .ref 124), (1, .int (Int32.ofNat s))], [], mn_f (cm_wi (cm_wi (cm_wi M 124 4 (Int32.ofNat s)) 124 8 0) 124 7 0)))
    refine ⟨fun h2 => ⟨_, fn_isDig _ _, ?_⟩, fun h2 => ?_⟩
    · rw [hl] at h2
      rintro v M' ⟨rfl, rfl⟩
      have l0 := bi_0 h2
      show (ev_cmp 0 (bi (ch_d (se (M.1 125) N s))) 0 = true → (ev_cmp 1 (se (M.1 125) N s) 59 = true → _) ∧ (ev_cmp 1 (se (M.1 125) N s) 59 = false → _)) ∧ (ev_cmp 0 (bi (ch_d (se (M.1 125) N s))) 0 = false → nx_J M N k (152, [(0, .ref 124), (1, .int (Int32.ofNat s)), (3, .int 0)], [], mn_f (cm_wi (cm_wi (cm_wi M 124 4 (Int32.ofNat s)) 124 8 0) 124 7 0)))
      have fin : ∀ tok : Int32, ch_d (M.1 125 s) = false → tok = (if M.1 125 s = 59 then 59 else 1) → nx_R M N k none (cm_wi (cm_wi (mn_f (cm_wi (cm_wi (cm_wi M 124 4 (Int32.ofNat s)) 124 8 0) 124 7 0)) 124 5 (Int32.ofNat s + 1)) 124 6 tok) := by
        intro tok d0 ht
        rw [hb, mn_f_eq (show (nx_b M s 0 0).2.2 124 1 = some 125 from h1) (show (nx_b M s 0 0).2.2 124 12 = some 126 from h12), fn_succ]
        exact ⟨rfl, s, s + 1, tok, 0, 0, hs, Or.inr (Or.inr (Or.inr ⟨hlt, l0, d0, rfl, ht, rfl, rfl⟩)), rfl⟩
      refine ⟨fun h3 => ⟨fun h4 => ?_, fun h4 => ?_⟩, fun h3 => ?_⟩
      · rw [hd] at h3
        rw [se_in hlt] at h4
        show nx_R M N k none (cm_wi (cm_wi (mn_f (cm_wi (cm_wi (cm_wi M 124 4 (Int32.ofNat s)) 124 8 0) 124 7 0)) 124 5 (Int32.ofNat s + 1)) 124 6 1)
        exact fin 1 (bi_0 h3) (if_neg (fn_ne h4)).symm
      · rw [hd] at h3
        have h5 := fn_eq h4
        show nx_R M N k none (cm_wi (cm_wi (mn_f (cm_wi (cm_wi (cm_wi M 124 4 (Int32.ofNat s)) 124 8 0) 124 7 0)) 124 5 (Int32.ofNat s + 1)) 124 6 (se (M.1 125) N s))
        rw [h5]
        rw [se_in hlt] at h5
        exact fin 59 (bi_0 h3) (if_pos h5).symm
      · rw [hd] at h3
        rw [hb]
        refine Or.inr (Or.inr (Or.inr ⟨s, s, hs, hlt, l0, bi_1 h3, Nat.le_refl _, by omega, fun i i1 i2 => by omega, ?_⟩))
        rw [Nat.sub_self]
        try rfl
    · rw [hl] at h2
      rw [hb]
      refine Or.inr (Or.inr (Or.inl ⟨s, s, hs, hlt, bi_1 h2, Nat.le_refl _, by omega, fun i i1 i2 => by omega, ?_⟩))
      rw [Nat.sub_self]
  · have h5 := fn_eq h
    have hN' : s = N := by
      rcases Nat.lt_or_ge s N with hj | hj
      · have := hpos s hj
        rw [se_in hj] at h5
        rw [h5] at this
        exact absurd this (by decide)
      · omega
    show nx_R M N k none (cm_wi (cm_wi (mn_f (cm_wi (cm_wi (cm_wi M 124 4 (Int32.ofNat s)) 124 8 0) 124 7 0)) 124 6 0) 124 5 (Int32.ofNat s))
    rw [hb, mn_f_eq (show (nx_b M s 0 0).2.2 124 1 = some 125 from h1) (show (nx_b M s 0 0).2.2 124 12 = some 126 from h12), wi_comm _ (c := 124) (i := 6) (c' := 124) (i' := 5) _ _ (by decide)]
    exact ⟨rfl, s, s, 0, 0, 0, hs, Or.inl ⟨hN', rfl, rfl, rfl, rfl⟩, rfl⟩
set_option maxRecDepth 100000 in
theorem fn_next (h1 : M.2.2 124 1 = some 125) (h12 : M.2.2 124 12 = some 126) (hN : M.1 124 3 = Int32.ofNat N) (hN9 : N ≤ 900) (hpos : ∀ j, j < N → 0 ≤ (M.1 125 j).toInt) (hk : M.1 124 5 = Int32.ofNat k) (hkN : k ≤ N) : cm_Lc cm_ms 176 [.ref 124] M (nx_R M N k) := by
  refine lb_of (mi := mr_176) rfl nx_st (nx_J M N k) 80 (fun S hS => ?_) 80 ?_
  · rcases hS with ⟨j, n1, n2, n3, rfl⟩ | ⟨s, hs, rfl⟩ | ⟨s, j, a1, a2, a3, a4, a5, a6, rfl⟩ | ⟨s, j, a1, a2, a3, a4, a5, a6, a7, rfl⟩
    · exact nx_5 hN hN9 n1 n2 n3
    · exact nx_21 h1 h12 hN hN9 hpos hs
    · exact nx_67 h1 h12 hN hN9 a1 a2 a3 a4 a5 a6
    · exact nx_152 h1 h12 hN hN9 a1 a2 a3 a4 a5 a6 a7
  · show nx_J M N k (5, [(0, .ref 124), (1, .int (M.1 124 5))], [], M)
    refine Or.inl ⟨k, Nat.le_refl _, hkN, fun i i1 i2 => by omega, ?_⟩
    rw [hk, mn_f_eq h1 h12]
end NX
theorem fn_coder (c : Nat) (M : cm_M) : cm_Lc cm_ms 3 [.ref c] M (fun v M' => M' = M ∧ v = some (.int 0)) := by
  refine lb_st0 (mi := mr_3) rfl 20 ?_
  show (ev_cmp 0 1 0 = true → _) ∧ (ev_cmp 0 1 0 = false → _)
  exact ⟨fun h => absurd h (by decide), fun _ => ⟨rfl, rfl⟩⟩
theorem fn_isLatin1 (c : Nat) (M : cm_M) : cm_Lc cm_ms 4 [.ref c] M (fun v M' => M' = M ∧ v = some (.int 1)) := by
  refine lb_st0 (mi := mr_4) rfl 20 ?_
  show (ev_cmp 0 1 0 = true → _) ∧ (ev_cmp 0 1 0 = false → (ev_cmp 1 0 0 = true → _) ∧ (ev_cmp 1 0 0 = false → _))
  exact ⟨fun h => absurd h (by decide), fun _ => ⟨fun h => absurd h (by decide), fun _ => ⟨rfl, rfl⟩⟩⟩
theorem fn_preCheck (i n : Int32) (f : Value) (M : cm_M) (h0 : 0 ≤ i.toInt) (h1 : i.toInt < n.toInt) : cm_Lc cm_ms 7 [.int i, .int n, f] M (fun v M' => M' = M ∧ v = some (.int i)) := by
  refine lb_st0 (mi := mr_7) rfl 20 ?_
  show (ev_cmp 2 i 0 = true → _) ∧ (ev_cmp 2 i 0 = false → (ev_cmp 2 i n = true → _) ∧ (ev_cmp 2 i n = false → _))
  have z : (0 : Int32).toInt = 0 := by decide
  exact ⟨fun h => absurd (fn_lt h) (by omega), fun _ => ⟨fun _ => ⟨rfl, rfl⟩, fun h => absurd (fn_nlt h) (by omega)⟩⟩
theorem fn_strCheck (i n : Int32) (M : cm_M) (h0 : 0 ≤ i.toInt) (h1 : i.toInt < n.toInt) : cm_Lc cm_ms 5 [.int i, .int n] M (fun v M' => M' = M ∧ v = none) := by
  refine lb_st0 (mi := mr_5) rfl 20 ?_
  show (∃ R, cm_Lc cm_ms 7 [.int i, .int n, .null] M R ∧ ∀ v M', R v M' → _) ∧ (∃ R, cm_Lc cm_ms 7 [.int i, .int n, .ref 1101] M R ∧ ∀ v M', R v M' → _)
  refine ⟨⟨_, fn_preCheck i n _ M h0 h1, ?_⟩, ⟨_, fn_preCheck i n _ M h0 h1, ?_⟩⟩
  · rintro v M' ⟨rfl, rfl⟩
    exact ⟨rfl, rfl⟩
  · rintro v M' ⟨rfl, rfl⟩
    exact ⟨rfl, rfl⟩
theorem cq_alenS_of {E : cm_E} {P : ev_P} {t : ev_T} {pc c : Nat} {L : List (Nat × Value)} {st : List Value} {M : cm_M} {k : cm_S → Prop} {r : String × Nat × String × List Int32} (hz : ev_strs[(c - 1001) / 2]? = some r) (h : k (pc + 1, L, .int (Int32.ofNat r.2.2.2.length) :: st, M)) : cq_alenS E P t (pc, L, .ref c :: st, M) k := by
  unfold cq_alenS
  dsimp only
  rw [hz]
  dsimp only
  rw [cq_adv_eq]
  exact h
theorem cq_baloadS_of {E : cm_E} {P : ev_P} {t : ev_T} {pc c : Nat} {i : Int32} {L : List (Nat × Value)} {st : List Value} {M : cm_M} {k : cm_S → Prop} {r : String × Nat × String × List Int32} (hz : ev_strs[(c - 1001) / 2]? = some r) (h : k (pc + 1, L, .int (r.2.2.2.getD i.toNatClampNeg 0) :: st, M)) : cq_baloadS E P t (pc, L, .int i :: .ref c :: st, M) k := by
  unfold cq_baloadS
  dsimp only
  rw [hz]
  dsimp only
  rw [cq_adv_eq]
  exact h
theorem fn_length {c : Nat} {r : String × Nat × String × List Int32} (hz : ev_strs[(c + 1 - 1001) / 2]? = some r) (M : cm_M) : cm_Lc cm_ms 1 [.ref c] M (fun v M' => M' = M ∧ v = some (.int (Int32.ofNat r.2.2.2.length))) := by
  refine lb_st0 (mi := mr_1) rfl 20 ?_
  show cq_alenS none (cm_P mr_1) (0, 0, 0, []) (4, [(0, .ref c)], [.ref (c + 1)], M) _
  refine cq_alenS_of hz ?_
  show ∃ R, cm_Lc cm_ms 3 [.ref c] M R ∧ ∀ v M', R v M' → _
  refine ⟨_, fn_coder c M, ?_⟩
  rintro v M' ⟨rfl, rfl⟩
  refine ⟨rfl, ?_⟩
  show some (Value.int (Int32.ofNat r.2.2.2.length >>> ((0 : Int32) &&& 31))) = _
  rw [show ((0 : Int32) &&& 31) = 0 from by decide, Int32.shiftRight_zero]
noncomputable def chr (b : Int32) : Int32 := ((b &&& 255).toUInt32 % 65536).toInt32
theorem fn_latChar {c : Nat} {i : Int32} {r : String × Nat × String × List Int32} (hz : ev_strs[(c + 1 - 1001) / 2]? = some r) (hl : r.2.2.2.length < 1000) (h0 : 0 ≤ i.toInt) (h1 : i.toInt < (r.2.2.2.length : Int)) (M : cm_M) : cm_Lc cm_ms 6 [.ref (c + 1), .int i] M (fun v M' => M' = M ∧ v = some (.int (chr (r.2.2.2.getD i.toNatClampNeg 0)))) := by
  refine lb_st0 (mi := mr_6) rfl 20 ?_
  show cq_alenS none (cm_P mr_6) (0, 0, 0, []) (2, [(0, .ref (c + 1)), (1, .int i)], [.ref (c + 1), .int i], M) _
  refine cq_alenS_of hz ?_
  show ∃ R, cm_Lc cm_ms 5 [.int i, .int (Int32.ofNat r.2.2.2.length)] M R ∧ ∀ v M', R v M' → _
  refine ⟨_, fn_strCheck i _ M h0 (by rw [fn_toInt (by omega)]; exact h1), ?_⟩
  rintro v M' ⟨rfl, rfl⟩
  show cq_baloadS none (cm_P mr_6) (0, 0, 0, []) (8, [(0, .ref (c + 1)), (1, .int i)], [.int i, .ref (c + 1)], M') _
  refine cq_baloadS_of hz ?_
  exact ⟨rfl, rfl⟩
theorem fn_charAt {c : Nat} {i : Int32} {r : String × Nat × String × List Int32} (hz : ev_strs[(c + 1 - 1001) / 2]? = some r) (hl : r.2.2.2.length < 1000) (h0 : 0 ≤ i.toInt) (h1 : i.toInt < (r.2.2.2.length : Int)) (M : cm_M) : cm_Lc cm_ms 2 [.ref c, .int i] M (fun v M' => M' = M ∧ v = some (.int (chr (r.2.2.2.getD i.toNatClampNeg 0)))) := by
  refine lb_st0 (mi := mr_2) rfl 20 ?_
  show ∃ R, cm_Lc cm_ms 4 [.ref c] M R ∧ ∀ v M', R v M' → _
  refine ⟨_, fn_isLatin1 c M, ?_⟩
  rintro v M' ⟨rfl, rfl⟩
  show (ev_cmp 0 1 0 = true → _) ∧ (ev_cmp 0 1 0 = false → ∃ R, cm_Lc cm_ms 6 [.ref (c + 1), .int i] M' R ∧ ∀ v M', R v M' → _)
  refine ⟨fun h => absurd h (by decide), fun _ => ⟨_, fn_latChar hz hl h0 h1 M', ?_⟩⟩
  rintro v M' ⟨rfl, rfl⟩
  exact ⟨rfl, rfl⟩
/-- a text's number -/
noncomputable def sw (B : List Int32) : Nat → Int64
  | 0 => 0
  | i + 1 => sw B i * 32 + (chr (B.getD i 0)).toInt64 - 97 + 1
noncomputable def iw_J (M : cm_M) (c : Nat) (B : List Int32) (S : cm_S) : Prop := ∃ i, i ≤ B.length ∧ S = (5, [(0, .ref 2), (1, .ref c), (2, .long (sw B i)), (4, .int (Int32.ofNat i))], [], M)
noncomputable abbrev iw_R (M : cm_M) (B : List Int32) : cm_K := fun v M' => M' = M ∧ v = some (.int (bi (decide (M.1 2 3 = 1) && decide (M.2.1 2 6 = sw B B.length))))
theorem fn_lne {x y : Int64} (h : ev_cmp 1 (lg_cmp x y) 0 = true) : x ≠ y := fun e => by
  subst e
  have h1 := fn_ne h
  exact h1 (by unfold lg_cmp; simp)
theorem fn_leq {x y : Int64} (h : ev_cmp 1 (lg_cmp x y) 0 = false) : x = y := by
  have h1 := fn_eq h
  unfold lg_cmp at h1
  split at h1
  · exact absurd h1 (by decide)
  · split at h1
    · rename_i hh
      exact hh
    · exact absurd h1 (by decide)
set_option maxRecDepth 100000 in
set_option maxHeartbeats 4000000 in
theorem fn_isWord {c : Nat} {r : String × Nat × String × List Int32} (hz : ev_strs[(c + 1 - 1001) / 2]? = some r) (hl : r.2.2.2.length < 1000) (M : cm_M) : cm_Lc cm_ms 86 [.ref 2, .ref c] M (iw_R M r.2.2.2) := by
  refine lb_of (mi := mr_86) rfl [(5, [0, 1, 2, 4])] (iw_J M c r.2.2.2) 60 (fun S hS => ?_) 20 ?_
  · obtain ⟨i, hi, rfl⟩ := hS
    show ∃ R, cm_Lc cm_ms 1 [.ref c] M R ∧ ∀ v M', R v M' → _
    refine ⟨_, fn_length hz M, ?_⟩
    rintro v M' ⟨rfl, rfl⟩
    show (ev_cmp 3 (Int32.ofNat i) (Int32.ofNat r.2.2.2.length) = true → (ev_cmp 1 (M'.1 2 3) 1 = true → _) ∧ (ev_cmp 1 (M'.1 2 3) 1 = false → (ev_cmp 1 (lg_cmp (M'.2.1 2 6) (sw r.2.2.2 i)) 0 = true → _) ∧ (ev_cmp 1 (lg_cmp (M'.2.1 2 6) (sw r.2.2.2 i)) 0 = false → _))) ∧ (ev_cmp 3 (Int32.ofNat i) (Int32.ofNat r.2.2.2.length) = false → ∃ R, cm_Lc cm_ms 2 [.ref c, .int (Int32.ofNat i)] M' R ∧ ∀ v M', R v M' → _)
    refine ⟨fun h => ?_, fun h => ?_⟩
    · have h1 := fn_ge h
      rw [fn_toInt (by omega), fn_toInt (by omega)] at h1
      have hi2 : i = r.2.2.2.length := by omega
      refine ⟨fun h2 => ⟨rfl, ?_⟩, fun h2 => ⟨fun h3 => ⟨rfl, ?_⟩, fun h3 => ⟨rfl, ?_⟩⟩⟩
      · rw [decide_eq_false (fn_ne h2), Bool.false_and]
        try rfl
      · rw [← hi2, decide_eq_false (fn_lne h3), Bool.and_false]
        try rfl
      · rw [← hi2, decide_eq_true (fn_eq h2), decide_eq_true (fn_leq h3)]
        try rfl
    · have h1 := fn_nge h
      rw [fn_toInt (by omega), fn_toInt (by omega)] at h1
      refine ⟨_, fn_charAt hz hl (by rw [fn_toInt (by omega)]; omega) (by rw [fn_toInt (by omega)]; omega) M', ?_⟩
      rintro v M' ⟨rfl, rfl⟩
      show ∃ R, cm_Lc cm_ms 87 [.long (sw r.2.2.2 i), .int (chr (r.2.2.2.getD (Int32.ofNat i).toNatClampNeg 0))] M' R ∧ ∀ v M', R v M' → _
      refine ⟨_, fn_pack _ _ M', ?_⟩
      rintro v M' ⟨rfl, rfl⟩
      show iw_J M' c r.2.2.2 (5, [(0, .ref 2), (1, .ref c), (2, .long (sw r.2.2.2 i * 32 + (chr (r.2.2.2.getD (Int32.ofNat i).toNatClampNeg 0)).toInt64 - 97 + 1)), (4, .int (Int32.ofNat i + 1))], [], M')
      rw [fn_nat (by omega), fn_succ]
      exact ⟨i + 1, by omega, rfl⟩
  · show iw_J M c r.2.2.2 (5, [(0, .ref 2), (1, .ref c), (2, .long 0), (4, .int 0)], [], M)
    exact ⟨0, Nat.zero_le _, rfl⟩
noncomputable def mw_same (M : cm_M) (B : List Int32) (n : Nat) : Bool := decide (∀ k, k < n → M.1 126 k = chr (B.getD k 0))
theorem mw_same_s (M : cm_M) (B : List Int32) (n : Nat) : mw_same M B (n + 1) = (mw_same M B n && decide (M.1 126 n = chr (B.getD n 0))) := by
  unfold mw_same
  rw [← Bool.decide_and]
  congr 1
  refine propext ⟨fun h => ⟨fun k hk => h k (by omega), h n (by omega)⟩, fun h k hk => ?_⟩
  rcases Nat.lt_or_ge k n with hn | hn
  · exact h.1 k hn
  · have : k = n := by omega
    rw [this]
    exact h.2
theorem mw_same_0 (M : cm_M) (B : List Int32) : mw_same M B 0 = true := decide_eq_true (fun k hk => by omega)
noncomputable def mw_J (M : cm_M) (c : Nat) (B : List Int32) (S : cm_S) : Prop := M.1 124 13 = 0 ∧ M.1 124 6 = 2 ∧ M.1 124 8 = Int32.ofNat B.length ∧ ∃ i, i ≤ B.length ∧ S = (32, [(0, .ref 124), (1, .ref c), (2, .int (bi (mw_same M B i))), (3, .int (Int32.ofNat i))], [], mn_f M)
noncomputable abbrev mw_R (M : cm_M) (B : List Int32) : cm_K := fun v M' => M' = M ∧ v = some (.int (bi (decide (M.1 124 13 = 0) && (decide (M.1 124 6 = 2) && (decide (M.1 124 8 = Int32.ofNat B.length) && mw_same M B B.length)))))
theorem fn_eq0 {x y : Int32} (h : ev_cmp 0 x y = true) : x = y := of_decide_eq_true h
theorem fn_ne0 {x y : Int32} (h : ev_cmp 0 x y = false) : x ≠ y := of_decide_eq_false h
set_option maxRecDepth 100000 in
set_option maxHeartbeats 4000000 in
theorem fn_mIsWord {c : Nat} {r : String × Nat × String × List Int32} (hz : ev_strs[(c + 1 - 1001) / 2]? = some r) (hl : r.2.2.2.length < 1000) {M : cm_M} (h1 : M.2.2 124 1 = some 125) (h12 : M.2.2 124 12 = some 126) : cm_Lc cm_ms 178 [.ref 124, .ref c] M (mw_R M r.2.2.2) := by
  have hf := mn_f_eq h1 h12
  refine lb_of (mi := mr_178) rfl [(32, [0, 1, 2, 3])] (mw_J M c r.2.2.2) 60 (fun S hS => ?_) 40 ?_
  · obtain ⟨a1, a2, a3, i, hi, rfl⟩ := hS
    show (ev_cmp 3 (Int32.ofNat i) (M.1 124 8) = true → _) ∧ (ev_cmp 3 (Int32.ofNat i) (M.1 124 8) = false → (ev_cmp 0 (bi (mw_same M r.2.2.2 i)) 0 = true → mw_J M c r.2.2.2 (32, [(0, .ref 124), (1, .ref c), (2, .int 0), (3, .int (Int32.ofNat i + 1))], [], mn_f M)) ∧ (ev_cmp 0 (bi (mw_same M r.2.2.2 i)) 0 = false → ∃ R, cm_Lc cm_ms 2 [.ref c, .int (Int32.ofNat i)] (mn_f M) R ∧ ∀ v M', R v M' → _))
    refine ⟨fun h => ?_, fun h => ?_⟩
    · have g := fn_ge h
      rw [a3, fn_toInt (by omega), fn_toInt (by omega)] at g
      have hi2 : i = r.2.2.2.length := by omega
      show mw_R M r.2.2.2 (some (.int (bi (mw_same M r.2.2.2 i)))) (mn_f M)
      refine ⟨hf, ?_⟩
      rw [decide_eq_true a1, decide_eq_true a2, decide_eq_true a3, hi2]
      try rfl
    · have g := fn_nge h
      rw [a3, fn_toInt (by omega), fn_toInt (by omega)] at g
      have hs := mw_same_s M r.2.2.2 i
      refine ⟨fun h2 => ?_, fun h2 => ?_⟩
      · have b0 := bi_0 h2
        rw [b0, Bool.false_and] at hs
        refine ⟨a1, a2, a3, i + 1, by omega, ?_⟩
        rw [hs, fn_succ]
        try rfl
      · have b1 := bi_1 h2
        rw [b1, Bool.true_and] at hs
        refine ⟨_, fn_charAt hz hl (by rw [fn_toInt (by omega)]; omega) (by rw [fn_toInt (by omega)]; omega) _, ?_⟩
        rintro v M' ⟨rfl, rfl⟩
        show (ev_cmp 1 (M.1 126 (Int32.ofNat i).toNatClampNeg) (chr (r.2.2.2.getD (Int32.ofNat i).toNatClampNeg 0)) = true → mw_J M c r.2.2.2 (32, [(0, .ref 124), (1, .ref c), (2, .int 0), (3, .int (Int32.ofNat i + 1))], [], mn_f M)) ∧ (ev_cmp 1 (M.1 126 (Int32.ofNat i).toNatClampNeg) (chr (r.2.2.2.getD (Int32.ofNat i).toNatClampNeg 0)) = false → mw_J M c r.2.2.2 (32, [(0, .ref 124), (1, .ref c), (2, .int 1), (3, .int (Int32.ofNat i + 1))], [], mn_f M))
        rw [fn_nat (show i < 2147483648 by omega)]
        refine ⟨fun h3 => ⟨a1, a2, a3, i + 1, by omega, ?_⟩, fun h3 => ⟨a1, a2, a3, i + 1, by omega, ?_⟩⟩
        · rw [hs, decide_eq_false (fn_ne h3), fn_succ]
          try rfl
        · rw [hs, decide_eq_true (fn_eq h3), fn_succ]
          try rfl
  · show (ev_cmp 1 (M.1 124 13) 0 = true → _) ∧ (ev_cmp 1 (M.1 124 13) 0 = false → (ev_cmp 1 (M.1 124 6) 2 = true → _) ∧ (ev_cmp 1 (M.1 124 6) 2 = false → ∃ R, cm_Lc cm_ms 1 [.ref c] M R ∧ ∀ v M', R v M' → _))
    refine ⟨fun h => ⟨rfl, ?_⟩, fun h => ⟨fun h2 => ⟨rfl, ?_⟩, fun h2 => ⟨_, fn_length hz M, ?_⟩⟩⟩
    · rw [decide_eq_false (fn_ne h), Bool.false_and]
      try rfl
    · rw [decide_eq_false (fn_ne h2), Bool.false_and, Bool.and_false]
      try rfl
    · rintro v M' ⟨rfl, rfl⟩
      show (ev_cmp 0 (M'.1 124 8) (Int32.ofNat r.2.2.2.length) = true → mw_J M' c r.2.2.2 (32, [(0, .ref 124), (1, .ref c), (2, .int 1), (3, .int 0)], [], M')) ∧ (ev_cmp 0 (M'.1 124 8) (Int32.ofNat r.2.2.2.length) = false → _)
      refine ⟨fun h3 => ⟨fn_eq h, fn_eq h2, fn_eq0 h3, 0, Nat.zero_le _, ?_⟩, fun h3 => ⟨rfl, ?_⟩⟩
      · rw [mw_same_0, hf]
        try rfl
      · rw [decide_eq_false (fn_ne0 h3), Bool.false_and, Bool.and_false, Bool.and_false]
        try rfl
theorem tk_e_ex (p : Int32 → Bool) (T : Nat → Int32) (N : Nat) : ∀ (f k : Nat), k ≤ N → N ≤ k + f → ∃ e, tk_e p T N k e
  | 0, k, h1, h2 => ⟨k, Nat.le_refl _, h1, fun j a b => by omega, fun h => by omega⟩
  | f + 1, k, h1, h2 => by
    by_cases hk : k < N ∧ p (T k) = true
    · obtain ⟨e, a1, a2, a3, a4⟩ := tk_e_ex p T N f (k + 1) (by omega) (by omega)
      refine ⟨e, by omega, a2, fun j b1 b2 => ?_, a4⟩
      rcases Nat.lt_or_ge k j with hj | hj
      · exact a3 j hj b2
      · have : j = k := by omega
        rw [this]
        exact hk.2
    · refine ⟨k, Nat.le_refl _, h1, fun j a b => by omega, fun h => ?_⟩
      cases hp : p (T k) with
      | false => rfl
      | true => exact absurd ⟨h, hp⟩ hk
noncomputable abbrev tk_Q (T : Nat → Int32) (N k : Nat) (t : Nat × Nat × Int32 × Int32 × Int64) : Prop := tk_e ch_s T N k t.1 ∧ tk_k T N t.1 t.2.1 t.2.2.1 t.2.2.2.1 t.2.2.2.2
theorem tk_k_ex (T : Nat → Int32) (N s : Nat) (h : s ≤ N) : ∃ e kd va wd, tk_k T N s e kd va wd := by
  rcases Nat.lt_or_ge s N with hs | hs
  · cases hl : ch_l (T s) with
    | true =>
      obtain ⟨e, he⟩ := tk_e_ex ch_l T N N s h (by omega)
      exact ⟨e, _, _, _, Or.inr (Or.inl ⟨hs, hl, he, rfl, rfl, rfl⟩)⟩
    | false =>
      cases hd : ch_d (T s) with
      | true =>
        obtain ⟨e, he⟩ := tk_e_ex ch_d T N N s h (by omega)
        exact ⟨e, _, _, _, Or.inr (Or.inr (Or.inl ⟨hs, hl, hd, he, rfl, rfl, rfl⟩))⟩
      | false => exact ⟨s + 1, _, _, _, Or.inr (Or.inr (Or.inr ⟨hs, hl, hd, rfl, rfl, rfl, rfl⟩))⟩
  · exact ⟨s, _, _, _, Or.inl ⟨by omega, rfl, rfl, rfl, rfl⟩⟩
theorem tk_Q_ex (T : Nat → Int32) (N k : Nat) (h : k ≤ N) : ∃ t, tk_Q T N k t := by
  obtain ⟨s, hs⟩ := tk_e_ex ch_s T N N k h (by omega)
  obtain ⟨e, kd, va, wd, hk⟩ := tk_k_ex T N s hs.2.1
  exact ⟨(s, e, kd, va, wd), hs, hk⟩
theorem tk_k_uni {T : Nat → Int32} {N s e e' : Nat} {kd va kd' va' : Int32} {wd wd' : Int64} (h : tk_k T N s e kd va wd) (h' : tk_k T N s e' kd' va' wd') : e = e' ∧ kd = kd' ∧ va = va' ∧ wd = wd' := by
  rcases h with ⟨a1, rfl, rfl, rfl, rfl⟩ | ⟨a1, a2, a3, rfl, rfl, rfl⟩ | ⟨a1, a2, a3, a4, rfl, rfl, rfl⟩ | ⟨a1, a2, a3, rfl, rfl, rfl, rfl⟩
  · rcases h' with ⟨b1, rfl, rfl, rfl, rfl⟩ | ⟨b1, b2, b3, rfl, rfl, rfl⟩ | ⟨b1, b2, b3, b4, rfl, rfl, rfl⟩ | ⟨b1, b2, b3, rfl, rfl, rfl, rfl⟩
    · exact ⟨rfl, rfl, rfl, rfl⟩
    · omega
    · omega
    · omega
  · rcases h' with ⟨b1, rfl, rfl, rfl, rfl⟩ | ⟨b1, b2, b3, rfl, rfl, rfl⟩ | ⟨b1, b2, b3, b4, rfl, rfl, rfl⟩ | ⟨b1, b2, b3, rfl, rfl, rfl, rfl⟩
    · omega
    · have := tk_e_uni a3 b3
      subst this
      exact ⟨rfl, rfl, rfl, rfl⟩
    · rw [a2] at b2; cases b2
    · rw [a2] at b2; cases b2
  · rcases h' with ⟨b1, rfl, rfl, rfl, rfl⟩ | ⟨b1, b2, b3, rfl, rfl, rfl⟩ | ⟨b1, b2, b3, b4, rfl, rfl, rfl⟩ | ⟨b1, b2, b3, rfl, rfl, rfl, rfl⟩
    · omega
    · rw [a2] at b2; cases b2
    · have := tk_e_uni a4 b4
      subst this
      exact ⟨rfl, rfl, rfl, rfl⟩
    · rw [a3] at b3; cases b3
  · rcases h' with ⟨b1, rfl, rfl, rfl, rfl⟩ | ⟨b1, b2, b3, rfl, rfl, rfl⟩ | ⟨b1, b2, b3, b4, rfl, rfl, rfl⟩ | ⟨b1, b2, b3, rfl, rfl, rfl, rfl⟩
    · omega
    · rw [a2] at b2; cases b2
    · rw [a3] at b3; cases b3
    · exact ⟨rfl, rfl, rfl, rfl⟩
theorem tk_Q_uni {T : Nat → Int32} {N k : Nat} {t t' : Nat × Nat × Int32 × Int32 × Int64} (h : tk_Q T N k t) (h' : tk_Q T N k t') : t = t' := by
  obtain ⟨s, e, kd, va, wd⟩ := t
  obtain ⟨s', e', kd', va', wd'⟩ := t'
  have e1 : s = s' := tk_e_uni h.1 h'.1
  subst e1
  obtain ⟨rfl, rfl, rfl, rfl⟩ := tk_k_uni h.2 h'.2
  rfl
/-- the next token -/
noncomputable def tk_of (T : Nat → Int32) (N k : Nat) : Nat × Nat × Int32 × Int32 × Int64 := Classical.epsilon (tk_Q T N k)
theorem tk_of_ok {T : Nat → Int32} {N k : Nat} (h : k ≤ N) : tk_Q T N k (tk_of T N k) := Classical.epsilon_spec (tk_Q_ex T N k h)
theorem tk_of_eq {T : Nat → Int32} {N k : Nat} {t : Nat × Nat × Int32 × Int32 × Int64} (h : tk_Q T N k t) : tk_of T N k = t := tk_Q_uni (Classical.epsilon_spec ⟨t, h⟩) h
/-- the reader stands on a text of N signs -/
noncomputable def rs_ok (N : Nat) (M : cm_M) : Prop := M.2.2 2 0 = some 1 ∧ M.1 2 1 = Int32.ofNat N ∧ N ≤ 900 ∧ ∃ k, k ≤ N ∧ M.1 2 2 = Int32.ofNat k
noncomputable def cF_tok (N : Nat) (M : cm_M) : Nat × Nat × Int32 × Int32 × Int64 := tk_of (M.1 1) N (M.1 2 2).toNatClampNeg
noncomputable def cF_step (N : Nat) (M : cm_M) : cm_M := if M.1 2 9 = 0 then tk_m M (cF_tok N M).1 (cF_tok N M).2.1 (cF_tok N M).2.2.1 (cF_tok N M).2.2.2.1 (cF_tok N M).2.2.2.2 else M
theorem cs_step {N : Nat} {M : cm_M} (h : rs_ok N M) : cm_Lc cm_ms 88 [.ref 2] M (fun v M' => v = none ∧ M' = cF_step N M) := by
  obtain ⟨h1, h2, h3, k, h4, h5⟩ := h
  refine cm_Lc_im (fn_stepOn h1 h2 h3 h5 h4) (fun v M' q => ⟨q.1, ?_⟩)
  unfold cF_step
  by_cases hf : M.1 2 9 = 0
  · rw [if_pos hf]
    obtain ⟨s, e, kd, va, wd, g1, g2, rfl⟩ := q.2.2 hf
    have : cF_tok N M = (s, e, kd, va, wd) := by
      unfold cF_tok
      rw [h5, fn_nat (by omega)]
      exact tk_of_eq ⟨g1, g2⟩
    rw [this]
  · rw [if_neg hf]
    exact q.2.1 hf
theorem tk_k_e {T : Nat → Int32} {N s e : Nat} {kd va : Int32} {wd : Int64} (hs : s ≤ N) (h : tk_k T N s e kd va wd) : e ≤ N := by
  rcases h with ⟨a1, rfl, -⟩ | ⟨a1, a2, a3, -⟩ | ⟨a1, a2, a3, a4, -⟩ | ⟨a1, a2, a3, rfl, -⟩
  · exact hs
  · exact a3.2.1
  · exact a4.2.1
  · omega
theorem rs_step {N : Nat} {M : cm_M} (h : rs_ok N M) : rs_ok N (cF_step N M) := by
  unfold cF_step
  by_cases hf : M.1 2 9 = 0
  · rw [if_pos hf]
    obtain ⟨h1, h2, h3, k, h4, h5⟩ := h
    have ht : tk_Q (M.1 1) N k (cF_tok N M) := by
      unfold cF_tok
      rw [h5, fn_nat (by omega)]
      exact tk_of_ok h4
    exact ⟨h1, h2, h3, (cF_tok N M).2.1, tk_k_e ht.1.2.1 ht.2, rfl⟩
  · rw [if_neg hf]
    exact h
/-- a fault is told -/
noncomputable def cF_fail (x : Int32) (M : cm_M) : cm_M := if M.1 2 9 = 0 then cm_wi M 2 9 x else M
theorem rs_fail {N : Nat} {M : cm_M} (x : Int32) (h : rs_ok N M) : rs_ok N (cF_fail x M) := by
  unfold cF_fail
  split
  · exact h
  · exact h
