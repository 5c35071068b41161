/-! FUNCTIONS of the reference's reader: tokens, on -/
section NX
variable {M : cm_M} {N k : Nat}
set_option maxRecDepth 100000 in
set_option maxHeartbeats 4000000 in
theorem nx_152 (h1 : M.2.2 124 1 = some 125) (h12 : M.2.2 124 12 = some 126) (hN : M.1 124 3 = Int32.ofNat N) (hN9 : N ≤ 900) {s j : Nat} (hs : tk_e ch_s (M.1 125) N k s) (hsN : s < N) (hl : ch_l (M.1 125 s) = false) (hd : ch_d (M.1 125 s) = true) (n1 : s ≤ j) (n2 : j ≤ N) (n3 : ∀ i, s ≤ i → i < j → ch_d (M.1 125 i) = true) : lb_ cm_ms none (cm_P mr_176) mr_176.2.2.2.2.2.2 nx_st (nx_J M N k) (cm_rl (nx_R M N k)) 80 (152, [(0, .ref 124), (1, .int (Int32.ofNat j)), (3, .int (Int32.ofNat (j - s)))], [], mn_f (nx_b M s (tk_v (M.1 125) s (min (j - s) 3)) 0)) := by
  have h3 : (3 : Int32).toInt = 3 := by decide
  show ∃ R, cm_Lc cm_ms 173 [.ref 124, .int (Int32.ofNat j)] (mn_f (nx_b M s (tk_v (M.1 125) s (min (j - s) 3)) 0)) R ∧ ∀ v M', R v M' → _
  refine ⟨_, fn_see (M := nx_b M s (tk_v (M.1 125) s (min (j - s) 3)) 0) hN hN9 (by omega), ?_⟩
  rintro v M' ⟨rfl, rfl⟩
  show ∃ R, cm_Lc cm_ms 175 [.int (se (M.1 125) N j)] (mn_f (nx_b M s (tk_v (M.1 125) s (min (j - s) 3)) 0)) R ∧ ∀ v M', R v M' → _
  refine ⟨_, fn_isDig _ _, ?_⟩
  rintro v M' ⟨rfl, rfl⟩
  show (ev_cmp 0 (bi (ch_d (se (M.1 125) N j))) 0 = true → (ev_cmp 5 (Int32.ofNat (j - s)) 3 = true → _) ∧ (ev_cmp 5 (Int32.ofNat (j - s)) 3 = false → _)) ∧ (ev_cmp 0 (bi (ch_d (se (M.1 125) N j))) 0 = false → (ev_cmp 3 (Int32.ofNat (j - s)) 3 = true → nx_J M N k (152, [(0, .ref 124), (1, .int (Int32.ofNat j + 1)), (3, .int (Int32.ofNat (j - s) + 1))], [], mn_f (nx_b M s (tk_v (M.1 125) s (min (j - s) 3)) 0))) ∧ (ev_cmp 3 (Int32.ofNat (j - s)) 3 = false → ∃ R, cm_Lc cm_ms 173 [.ref 124, .int (Int32.ofNat j)] (mn_f (nx_b M s (tk_v (M.1 125) s (min (j - s) 3)) 0)) R ∧ ∀ v M', R v M' → _))
  have fin : ch_d (se (M.1 125) N j) = false → ∀ tok : Int32, tok = (if j - s ≤ 3 then 3 else 1) → nx_R M N k none (cm_wi (cm_wi (mn_f (nx_b M s (tk_v (M.1 125) s (min (j - s) 3)) 0)) 124 5 (Int32.ofNat j)) 124 6 tok) := by
    intro he tok ht
    rw [mn_f_eq (show (nx_b M s (tk_v (M.1 125) s (min (j - s) 3)) 0).2.2 124 1 = some 125 from h1) (show (nx_b M s (tk_v (M.1 125) s (min (j - s) 3)) 0).2.2 124 12 = some 126 from h12)]
    exact ⟨rfl, s, j, tok, _, 0, hs, Or.inr (Or.inr (Or.inl ⟨hsN, hl, hd, ⟨n1, n2, n3, fun h9 => by rw [se_in h9] at he; exact he⟩, ht, rfl, rfl⟩)), rfl⟩
  have nxt : ch_d (se (M.1 125) N j) = true → ∀ X : cm_M, X = nx_b M s (tk_v (M.1 125) s (min (j - s + 1) 3)) 0 → nx_J M N k (152, [(0, .ref 124), (1, .int (Int32.ofNat j + 1)), (3, .int (Int32.ofNat (j - s) + 1))], [], mn_f X) := by
    intro he X hX
    have hlt : j < N := by
      rcases Nat.lt_or_ge j N with hj | hj
      · exact hj
      · rw [se_out (by omega), ch_d_m] at he
        cases he
    rw [se_in hlt] at he
    rw [fn_succ, fn_succ, hX, show j - s + 1 = j + 1 - s by omega]
    refine Or.inr (Or.inr (Or.inr ⟨s, j + 1, hs, hsN, hl, hd, by omega, by omega, fun i i1 i2 => ?_, rfl⟩))
    rcases Nat.lt_or_ge i j with hj | hj
    · exact n3 i i1 hj
    · have : i = j := by omega
      rw [this]
      exact he
  refine ⟨fun h => ⟨fun h2 => ?_, fun h2 => ?_⟩, fun h => ⟨fun h2 => ?_, fun h2 => ⟨_, fn_see (M := nx_b M s (tk_v (M.1 125) s (min (j - s) 3)) 0) hN hN9 (by omega), ?_⟩⟩⟩
  · have g := fn_le h2
    rw [fn_toInt (by omega)] at g
    show nx_R M N k none (cm_wi (cm_wi (mn_f (nx_b M s (tk_v (M.1 125) s (min (j - s) 3)) 0)) 124 5 (Int32.ofNat j)) 124 6 3)
    exact fin (bi_0 h) 3 (by rw [if_pos (by omega)])
  · have g := fn_nle h2
    rw [fn_toInt (by omega)] at g
    show nx_R M N k none (cm_wi (cm_wi (mn_f (nx_b M s (tk_v (M.1 125) s (min (j - s) 3)) 0)) 124 5 (Int32.ofNat j)) 124 6 1)
    exact fin (bi_0 h) 1 (by rw [if_neg (by omega)])
  · have g := fn_ge h2
    rw [fn_toInt (by omega)] at g
    exact nxt (bi_1 h) _ (by rw [Nat.min_eq_right (show 3 ≤ j - s by omega), Nat.min_eq_right (show 3 ≤ j - s + 1 by omega)])
  · have g := fn_nge h2
    rw [fn_toInt (by omega)] at g
    rintro v M' ⟨rfl, rfl⟩
    show nx_J M N k (152, [(0, .ref 124), (1, .int (Int32.ofNat j + 1)), (3, .int (Int32.ofNat (j - s) + 1))], [], cm_wi (mn_f (nx_b M s (tk_v (M.1 125) s (min (j - s) 3)) 0)) 124 7 (10 * tk_v (M.1 125) s (min (j - s) 3) + se (M.1 125) N j - 48))
    have he := bi_1 h
    have hlt : j < N := by
      rcases Nat.lt_or_ge j N with hj | hj
      · exact hj
      · rw [se_out (by omega), ch_d_m] at he
        cases he
    refine nxt he (cm_wi (nx_b M s (tk_v (M.1 125) s (min (j - s) 3)) 0) 124 7 (10 * tk_v (M.1 125) s (min (j - s) 3) + se (M.1 125) N j - 48)) ?_
    rw [nx_bw, se_in hlt, Nat.min_eq_left (show j - s ≤ 3 by omega), Nat.min_eq_left (show j - s + 1 ≤ 3 by omega), tk_v_succ, show s + (j - s) = j by omega, Int32.mul_comm 10]
end NX
