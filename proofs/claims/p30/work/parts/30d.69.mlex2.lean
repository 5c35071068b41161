/-! FUNCTIONS of the reference's reader: tokens, on -/
theorem nx_b0 (M : cm_M) (s : Nat) : cm_wi (cm_wi (cm_wi M 124 4 (Int32.ofNat s)) 124 8 0) 124 7 0 = nx_b M s 0 0 := by
  unfold nx_b
  show _ = cm_wi (cm_wi (cm_wi (lt_m M s 0) 124 4 (Int32.ofNat s)) 124 7 0) 124 8 0
  rw [lt_m_0, wi_comm (cm_wi M 124 4 (Int32.ofNat s)) (c := 124) (i := 8) (c' := 124) (i' := 7) _ _ (by decide)]
theorem nx_b8 (M : cm_M) (s ns : Nat) (wh : Int32) (h : 8 ≤ ns) : cm_wi (nx_b M s wh ns) 124 8 (Int32.ofNat ns + 1) = nx_b M s wh (ns + 1) := by
  unfold nx_b
  rw [wi_wi, fn_succ, Nat.min_eq_right h, Nat.min_eq_right (by omega)]
theorem nx_b7 (M : cm_M) (s ns : Nat) (wh : Int32) (h : ns < 8) : cm_wi (cm_wi (nx_b M s wh ns) 126 ns (M.1 125 (s + ns))) 124 8 (Int32.ofNat ns + 1) = nx_b M s wh (ns + 1) := by
  unfold nx_b
  rw [Nat.min_eq_left (by omega), Nat.min_eq_left (by omega), wi_comm _ (c := 124) (i := 8) (c' := 126) (i' := ns) _ _ (fun h => absurd h.1 (by decide)), wi_wi, wi_comm _ (c := 124) (i := 7) (c' := 126) (i' := ns) _ _ (fun h => absurd h.1 (by decide)), wi_comm _ (c := 124) (i := 4) (c' := 126) (i' := ns) _ _ (fun h => absurd h.1 (by decide)), lt_m_s, fn_succ]
theorem nx_bw (M : cm_M) (s ns : Nat) (w w' : Int32) : cm_wi (nx_b M s w ns) 124 7 w' = nx_b M s w' ns := by
  unfold nx_b
  rw [wi_comm _ (c := 124) (i := 8) (c' := 124) (i' := 7) _ _ (by decide), wi_wi]
theorem ch_l_m : ch_l (-1) = false := by decide
theorem ch_d_m : ch_d (-1) = false := by decide
theorem fn_le {x y : Int32} (h : ev_cmp 5 x y = true) : x.toInt ≤ y.toInt := Int32.le_iff_toInt_le.mp (of_decide_eq_true h)
theorem fn_nle {x y : Int32} (h : ev_cmp 5 x y = false) : y.toInt < x.toInt := by
  have h1 : ¬ x ≤ y := of_decide_eq_false h
  rw [Int32.le_iff_toInt_le] at h1
  omega
section NX
variable {M : cm_M} {N k : Nat}
set_option maxRecDepth 100000 in
set_option maxHeartbeats 4000000 in
theorem nx_67 (h1 : M.2.2 124 1 = some 125) (h12 : M.2.2 124 12 = some 126) (hN : M.1 124 3 = Int32.ofNat N) (hN9 : N ≤ 900) {s j : Nat} (hs : tk_e ch_s (M.1 125) N k s) (hsN : s < N) (hl : ch_l (M.1 125 s) = true) (n1 : s ≤ j) (n2 : j ≤ N) (n3 : ∀ i, s ≤ i → i < j → ch_l (M.1 125 i) = true) : lb_ cm_ms none (cm_P mr_176) mr_176.2.2.2.2.2.2 nx_st (nx_J M N k) (cm_rl (nx_R M N k)) 80 (67, [(0, .ref 124), (1, .int (Int32.ofNat j))], [], mn_f (nx_b M s 0 (j - s))) := by
  have h8 : (8 : Int32).toInt = 8 := by decide
  show ∃ R, cm_Lc cm_ms 173 [.ref 124, .int (Int32.ofNat j)] (mn_f (nx_b M s 0 (j - s))) R ∧ ∀ v M', R v M' → _
  refine ⟨_, fn_see (M := nx_b M s 0 (j - s)) hN hN9 (by omega), ?_⟩
  rintro v M' ⟨rfl, rfl⟩
  show ∃ R, cm_Lc cm_ms 174 [.int (se (M.1 125) N j)] (mn_f (nx_b M s 0 (j - s))) R ∧ ∀ v M', R v M' → _
  refine ⟨_, fn_isSmall _ _, ?_⟩
  rintro v M' ⟨rfl, rfl⟩
  show (ev_cmp 0 (bi (ch_l (se (M.1 125) N j))) 0 = true → (ev_cmp 5 (Int32.ofNat (j - s)) 8 = true → _) ∧ (ev_cmp 5 (Int32.ofNat (j - s)) 8 = false → _)) ∧ (ev_cmp 0 (bi (ch_l (se (M.1 125) N j))) 0 = false → (ev_cmp 3 (Int32.ofNat (j - s)) 8 = true → nx_J M N k (67, [(0, .ref 124), (1, .int (Int32.ofNat j + 1))], [], cm_wi (mn_f (nx_b M s 0 (j - s))) 124 8 (Int32.ofNat (j - s) + 1))) ∧ (ev_cmp 3 (Int32.ofNat (j - s)) 8 = false → ∃ R, cm_Lc cm_ms 173 [.ref 124, .int (Int32.ofNat j)] (mn_f (nx_b M s 0 (j - s))) R ∧ ∀ v M', R v M' → _))
  have fin : ch_l (se (M.1 125) N j) = false → ∀ tok : Int32, tok = (if j - s ≤ 8 then 2 else 1) → nx_R M N k none (cm_wi (cm_wi (mn_f (nx_b M s 0 (j - s))) 124 5 (Int32.ofNat j)) 124 6 tok) := by
    intro he tok ht
    rw [mn_f_eq (show (nx_b M s 0 (j - s)).2.2 124 1 = some 125 from h1) (show (nx_b M s 0 (j - s)).2.2 124 12 = some 126 from h12)]
    exact ⟨rfl, s, j, tok, 0, j - s, hs, Or.inr (Or.inl ⟨hsN, hl, ⟨n1, n2, n3, fun h9 => by rw [se_in h9] at he; exact he⟩, ht, rfl, rfl⟩), rfl⟩
  have nxt : ch_l (se (M.1 125) N j) = true → ∀ X : cm_M, X = nx_b M s 0 (j - s + 1) → nx_J M N k (67, [(0, .ref 124), (1, .int (Int32.ofNat j + 1))], [], mn_f X) := by
    intro he X hX
    have hlt : j < N := by
      rcases Nat.lt_or_ge j N with hj | hj
      · exact hj
      · rw [se_out (by omega), ch_l_m] at he
        cases he
    rw [se_in hlt] at he
    rw [fn_succ, hX, show j - s + 1 = j + 1 - s by omega]
    refine Or.inr (Or.inr (Or.inl ⟨s, j + 1, hs, hsN, hl, by omega, by omega, fun i i1 i2 => ?_, rfl⟩))
    rcases Nat.lt_or_ge i j with hj | hj
    · exact n3 i i1 hj
    · have : i = j := by omega
      rw [this]
      exact he
  refine ⟨fun h => ⟨fun h2 => ?_, fun h2 => ?_⟩, fun h => ⟨fun h2 => ?_, fun h2 => ⟨_, fn_see (M := nx_b M s 0 (j - s)) hN hN9 (by omega), ?_⟩⟩⟩
  · have g := fn_le h2
    rw [fn_toInt (by omega)] at g
    show nx_R M N k none (cm_wi (cm_wi (mn_f (nx_b M s 0 (j - s))) 124 5 (Int32.ofNat j)) 124 6 2)
    exact fin (bi_0 h) 2 (by rw [if_pos (by omega)])
  · have g := fn_nle h2
    rw [fn_toInt (by omega)] at g
    show nx_R M N k none (cm_wi (cm_wi (mn_f (nx_b M s 0 (j - s))) 124 5 (Int32.ofNat j)) 124 6 1)
    exact fin (bi_0 h) 1 (by rw [if_neg (by omega)])
  · have g := fn_ge h2
    rw [fn_toInt (by omega)] at g
    exact nxt (bi_1 h) (cm_wi (nx_b M s 0 (j - s)) 124 8 (Int32.ofNat (j - s) + 1)) (nx_b8 M s (j - s) 0 (by omega))
  · have g := fn_nge h2
    rw [fn_toInt (by omega)] at g
    rintro v M' ⟨rfl, rfl⟩
    show nx_J M N k (67, [(0, .ref 124), (1, .int (Int32.ofNat j + 1))], [], cm_wi (cm_wi (mn_f (nx_b M s 0 (j - s))) 126 (Int32.ofNat (j - s)).toNatClampNeg (se (M.1 125) N j)) 124 8 (Int32.ofNat (j - s) + 1))
    have he := bi_1 h
    have hlt : j < N := by
      rcases Nat.lt_or_ge j N with hj | hj
      · exact hj
      · rw [se_out (by omega), ch_l_m] at he
        cases he
    refine nxt he (cm_wi (cm_wi (nx_b M s 0 (j - s)) 126 (Int32.ofNat (j - s)).toNatClampNeg (se (M.1 125) N j)) 124 8 (Int32.ofNat (j - s) + 1)) ?_
    rw [fn_nat (by omega), se_in hlt]
    have := nx_b7 M s (j - s) 0 (by omega)
    rw [show s + (j - s) = j by omega] at this
    exact this
end NX
