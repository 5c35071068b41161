section NX
variable {M : cm_M} {N k : Nat}
set_option maxRecDepth 100000 in
set_option maxHeartbeats 4000000 in
theorem nx_21 (h1 : M.2.2 124 1 = some 125) (h12 : M.2.2 124 12 = some 126) (hN : M.1 124 3 = Int32.ofNat N) (hN9 : N ≤ 900) (hpos : ∀ j, j < N → 0 ≤ (M.1 125 j).toInt) {s : Nat} (hs : tk_e ch_s (M.1 125) N k s) : lb_ cm_ms none (cm_P mr_176) mr_176.2.2.2.2.2.2 nx_st (nx_J M N k) (cm_rl (nx_R M N k)) 80 (21, [(0, .ref 124), (1, .int (Int32.ofNat s))], [], mn_f M) := by
  have hsN := hs.2.1
  have hb := nx_b0 M s
  show ∃ R, cm_Lc cm_ms 173 [.ref 124, .int (Int32.ofNat s)] (mn_f (cm_wi M 124 4 (Int32.ofNat s))) R ∧ ∀ v M', R v M' → _
  refine ⟨_, fn_see (M := cm_wi M 124 4 (Int32.ofNat s)) hN hN9 (by omega), ?_⟩
  rintro v M' ⟨rfl, rfl⟩
  show (ev_cmp 1 (se (M.1 125) N s) (-1) = true → ∃ R, cm_Lc cm_ms 174 [.int (se (M.1 125) N s)] (mn_f (cm_wi (cm_wi (cm_wi M 124 4 (Int32.ofNat s)) 124 8 0) 124 7 0)) R ∧ ∀ v M', R v M' → _) ∧ (ev_cmp 1 (se (M.1 125) N s) (-1) = false → _)
  have hse : s < N → ch_l (se (M.1 125) N s) = ch_l (M.1 125 s) ∧ ch_d (se (M.1 125) N s) = ch_d (M.1 125 s) := fun h => by rw [se_in h]; exact ⟨rfl, rfl⟩
  refine ⟨fun h => ⟨_, fn_isSmall _ _, ?_⟩, fun h => ?_⟩
  · have hlt : s < N := by
      rcases Nat.lt_or_ge s N with hj | hj
      · exact hj
      · rw [se_out (by omega)] at h
        exact absurd rfl (fn_ne h)
    obtain ⟨hl, hd⟩ := hse hlt
    rintro v M' ⟨rfl, rfl⟩
    show (ev_cmp 0 (bi (ch_l (se (M.1 125) N s))) 0 = true → ∃ R, cm_Lc cm_ms 175 [.int (se (M.1 125) N s)] (mn_f (cm_wi (cm_wi (cm_wi M 124 4 (Int32.ofNat s)) 124 8 0) 124 7 0)) R ∧ ∀ v M', R v M' → _) ∧ (ev_cmp 0 (bi (ch_l (se (M.1 125) N s))) 0 = false → nx_J M N k (67, [(0, .ref 124), (1, .int (Int32.ofNat s))], [], mn_f (cm_wi (cm_wi (cm_wi M 124 4 (Int32.ofNat s)) 124 8 0) 124 7 0)))
    refine ⟨fun h2 => ⟨_, fn_isDig _ _, ?_⟩, fun h2 => ?_⟩
    · rw [hl] at h2
      rintro v M' ⟨rfl, rfl⟩
      have l0 := bi_0 h2
      show (ev_cmp 0 (bi (ch_d (se (M.1 125) N s))) 0 = true → (ev_cmp 1 (se (M.1 125) N s) 59 = true → _) ∧ (ev_cmp 1 (se (M.1 125) N s) 59 = false → _)) ∧ (ev_cmp 0 (bi (ch_d (se (M.1 125) N s))) 0 = false → nx_J M N k (152, [(0, .ref 124), (1, .int (Int32.ofNat s)), (3, .int 0)], [], mn_f (cm_wi (cm_wi (cm_wi M 124 4 (Int32.ofNat s)) 124 8 0) 124 7 0)))
      have fin : ∀ tok : Int32, ch_d (M.1 125 s) = false → tok = (if M.1 125 s = 59 then 59 else 1) → nx_R M N k none (cm_wi (cm_wi (mn_f (cm_wi (cm_wi (cm_wi M 124 4 (Int32.ofNat s)) 124 8 0) 124 7 0)) 124 5 (Int32.ofNat s + 1)) 124 6 tok) := by
        intro tok d0 ht
        rw [hb, mn_f_eq (show (nx_b M s 0 0).2.2 124 1 = some 125 from h1) (show (nx_b M s 0 0).2.2 124 12 = some 126 from h12), fn_succ]
        exact ⟨rfl, s, s + 1, tok, 0, 0, hs, Or.inr (Or.inr (Or.inr ⟨hlt, l0, d0, rfl, ht, rfl, rfl⟩)), rfl⟩
      refine ⟨fun h3 => ⟨fun h4 => ?_, fun h4 => ?_⟩, fun h3 => ?_⟩
      · rw [hd] at h3
        rw [se_in hlt] at h4
        show nx_R M N k none (cm_wi (cm_wi (mn_f (cm_wi (cm_wi (cm_wi M 124 4 (Int32.ofNat s)) 124 8 0) 124 7 0)) 124 5 (Int32.ofNat s + 1)) 124 6 1)
        exact fin 1 (bi_0 h3) (if_neg (fn_ne h4)).symm
      · rw [hd] at h3
        have h5 := fn_eq h4
        show nx_R M N k none (cm_wi (cm_wi (mn_f (cm_wi (cm_wi (cm_wi M 124 4 (Int32.ofNat s)) 124 8 0) 124 7 0)) 124 5 (Int32.ofNat s + 1)) 124 6 (se (M.1 125) N s))
        rw [h5]
        rw [se_in hlt] at h5
        exact fin 59 (bi_0 h3) (if_pos h5).symm
      · rw [hd] at h3
        rw [hb]
        refine Or.inr (Or.inr (Or.inr ⟨s, s, hs, hlt, l0, bi_1 h3, Nat.le_refl _, by omega, fun i i1 i2 => by omega, ?_⟩))
        rw [Nat.sub_self]
        try rfl
    · rw [hl] at h2
      rw [hb]
      refine Or.inr (Or.inr (Or.inl ⟨s, s, hs, hlt, bi_1 h2, Nat.le_refl _, by omega, fun i i1 i2 => by omega, ?_⟩))
      rw [Nat.sub_self]
  · have h5 := fn_eq h
    have hN' : s = N := by
      rcases Nat.lt_or_ge s N with hj | hj
      · have := hpos s hj
        rw [se_in hj] at h5
        rw [h5] at this
        exact absurd this (by decide)
      · omega
    show nx_R M N k none (cm_wi (cm_wi (mn_f (cm_wi (cm_wi (cm_wi M 124 4 (Int32.ofNat s)) 124 8 0) 124 7 0)) 124 6 0) 124 5 (Int32.ofNat s))
    rw [hb, mn_f_eq (show (nx_b M s 0 0).2.2 124 1 = some 125 from h1) (show (nx_b M s 0 0).2.2 124 12 = some 126 from h12), wi_comm _ (c := 124) (i := 6) (c' := 124) (i' := 5) _ _ (by decide)]
    exact ⟨rfl, s, s, 0, 0, 0, hs, Or.inl ⟨hN', rfl, rfl, rfl, rfl⟩, rfl⟩
set_option maxRecDepth 100000 in
theorem fn_next (h1 : M.2.2 124 1 = some 125) (h12 : M.2.2 124 12 = some 126) (hN : M.1 124 3 = Int32.ofNat N) (hN9 : N ≤ 900) (hpos : ∀ j, j < N → 0 ≤ (M.1 125 j).toInt) (hk : M.1 124 5 = Int32.ofNat k) (hkN : k ≤ N) : cm_Lc cm_ms 176 [.ref 124] M (nx_R M N k) := by
  refine lb_of (mi := mr_176) rfl nx_st (nx_J M N k) 80 (fun S hS => ?_) 80 ?_
  · rcases hS with ⟨j, n1, n2, n3, rfl⟩ | ⟨s, hs, rfl⟩ | ⟨s, j, a1, a2, a3, a4, a5, a6, rfl⟩ | ⟨s, j, a1, a2, a3, a4, a5, a6, a7, rfl⟩
    · exact nx_5 hN hN9 n1 n2 n3
    · exact nx_21 h1 h12 hN hN9 hpos hs
    · exact nx_67 h1 h12 hN hN9 a1 a2 a3 a4 a5 a6
    · exact nx_152 h1 h12 hN hN9 a1 a2 a3 a4 a5 a6 a7
  · show nx_J M N k (5, [(0, .ref 124), (1, .int (M.1 124 5))], [], M)
    refine Or.inl ⟨k, Nat.le_refl _, hkN, fun i i1 i2 => by omega, ?_⟩
    rw [hk, mn_f_eq h1 h12]
end NX
