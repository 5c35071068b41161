/-! WHERE: the trouble and the place, kept on both sides -/
def LW (M : cm_M) : Prop := (M.1 0 14 = 4 ↔ M.1 124 11 = 4) ∧ (M.1 0 14 = 4 → M.1 0 13 = M.1 124 10)
def LIW (M : cm_M) : Prop := LI M ∧ LW M
theorem LW_cg {M M' : cm_M} (h : LW M) (e1 : M'.1 0 14 = M.1 0 14 ∧ M'.1 0 13 = M.1 0 13) (e2 : M'.1 124 11 = M.1 124 11 ∧ M'.1 124 10 = M.1 124 10) : LW M' := by
  unfold LW
  rw [e1.1, e1.2, e2.1, e2.2]
  exact h
theorem LIW_s {M M' : cm_M} (h : LIW M) (q : lu_Pw 2 M M') : LIW M' := ⟨LI_P h.1 q.1, LW_cg h.2 (lz_2 q.2).1 (lz_2 q.2).2⟩
theorem LIW_cr {M M1 M2 : cm_M} (h : LIW M) (q1 : lu_Pw 0 M M1) (q2 : lu_Pw 1 M1 M2) : LIW M2 := by
  have a := (lz_0 q1.2).1
  have b := lz_1 q2.2
  have c : M2.1 0 14 ≠ 4 := by
    rw [b.1.1]
    exact a
  exact ⟨LI_P (LI_P h.1 q1.1) q2.1, ⟨fun z => absurd z c, fun z => absurd z b.2⟩, fun z => absurd z c⟩
def cmpW_P (k : Nat) (as : List Value) : cm_K := fun v M1 => ∃ r, v = some (.int r) ∧ ab_ok hp hN M1 ∧ cm_Call cm_ms 30 k as M1 (fun v2 M2 => v2 = some (.int r) ∧ ab_ok hp hN M2 ∧ LIW M2)
def tdW (kr : Nat) (asr : List Value) (M1 : cm_M) : Prop := ab_ok hp hN M1 ∧ cm_Call cm_ms 30 kr asr M1 (fun v M' => lp_kd 0 v ∧ (ab_ok hp hN M' ∧ LIW M'))
theorem dropW {M : cm_M} {k kr : Nat} {as asr : List Value} (h : cm_Call cm_ms 30 k as M (cmpW_P kr asr)) : cm_Call cm_ms 30 k as M (fun v M1 => lp_kd 0 v ∧ tdW kr asr M1) :=
  cm_Call_up h (Nat.le_refl _) (fun v M1 q => by
    obtain ⟨r, e, k1, hc⟩ := q
    exact ⟨⟨r, e⟩, k1, cm_Call_up hc (Nat.le_refl _) (fun v2 M2 q2 => ⟨⟨r, q2.1⟩, q2.2.1, q2.2.2⟩)⟩)
theorem LW_tf {M M2 : cm_M} (h : TF M M2) : LW M2 := by
  rcases h with ⟨-, -, -, -, -, a, b⟩ | ⟨T, me, -, -, -, -, -, -, -, -, -, a, b⟩
  · refine ⟨?_, b⟩
    rw [a]
  · unfold LW
    rw [a, b]
    exact ⟨Iff.rfl, fun z => absurd z (by decide)⟩
theorem townW {M : cm_M} (hM : ab_ok hp hN M) (hL : LIW M) (n : Int32) : cm_Call cm_ms 30 95 [.ref 0, .int n] M (cmpW_P 191 [.ref 124, .int n]) :=
  cm_Call_up (town_same hM hL.1 n) (Nat.le_refl _) (fun v M1 q => by
    obtain ⟨r, e, k1, hc⟩ := q
    exact ⟨r, e, k1, cm_Call_up hc (Nat.le_refl _) (fun v2 M2 q2 => ⟨q2.1, q2.2.1, q2.2.2.1, LW_tf q2.2.2.2⟩)⟩)
theorem feed_LIW {M M1 M2 : cm_M} {a b c d e : Int32} (hI : LIW M) (h1 : fd_C M a b c d e M1) (h2 : fd_D M1 a b c d e M2) : LIW M2 := by
  have f1 : (∀ q j, q ≠ 1 → ¬ (q = 0 ∧ j = 1) → M1.1 q j = M.1 q j) ∧ M1.2 = M.2 := by
    obtain ⟨-, t, -, -, ⟨-, rfl⟩ | ⟨-, rfl⟩⟩ := h1
    · exact ⟨fun _ _ _ _ => rfl, rfl⟩
    · exact ⟨fun q j a1 a2 => fd_n2 M t q j a b c d e a1 a2, fd_r M t a b c d e⟩
  have f2 : (∀ q j, q ≠ 125 → ¬ (q = 124 ∧ (j = 0 ∨ j = 2)) → M2.1 q j = M1.1 q j) ∧ M2.2 = M1.2 := by
    obtain ⟨-, t, -, -, ⟨-, rfl⟩ | ⟨-, rfl⟩⟩ := h2
    · exact ⟨fun q j a1 a2 => wi_n2 (by omega), rfl⟩
    · refine ⟨fun q j a1 a2 => ?_, (sm_r _ _ _ _).trans rfl⟩
      rw [sm_n2 _ _ _ _ _ a1 (by omega), wi_n2 (by omega)]
  have e : ∀ q j, q ≠ 125 → q ≠ 1 → ¬ (q = 0 ∧ j = 1) → ¬ (q = 124 ∧ (j = 0 ∨ j = 2)) → M2.1 q j = M.1 q j := fun q j a1 a2 a3 a4 => (f2.1 q j a1 a4).trans (f1.1 q j a2 a3)
  exact ⟨feed_LI hI.1 h1 h2, LW_cg hI.2 ⟨e 0 14 (by omega) (by omega) (by omega) (by omega), e 0 13 (by omega) (by omega) (by omega) (by omega)⟩ ⟨e 124 11 (by omega) (by omega) (by omega) (by omega), e 124 10 (by omega) (by omega) (by omega) (by omega)⟩⟩
theorem c_where {M : cm_M} : cm_Lc cm_ms 97 [.ref 0] M (fun v _ => v = some (.int (if M.1 0 14 = 4 then M.1 0 13 else -1))) := by
  refine lb_st0 (mi := mr_97) rfl 400 ?_
  show (ev_cmp 1 (M.1 0 14) 4 = true → _) ∧ (ev_cmp 1 (M.1 0 14) 4 = false → _)
  refine ⟨fun h => ?_, fun h => ?_⟩
  · show some (Value.int (-1)) = some (Value.int (if M.1 0 14 = 4 then M.1 0 13 else -1))
    rw [if_neg (fn_ne h)]
  · show some (Value.int (M.1 0 13)) = some (Value.int (if M.1 0 14 = 4 then M.1 0 13 else -1))
    rw [if_pos (fn_eq h)]
theorem m_where {M : cm_M} : cm_Lc cm_ms 204 [.ref 124] M (fun v _ => v = some (.int (if M.1 124 11 = 4 then M.1 124 10 else -1))) := by
  refine lb_st0 (mi := mr_204) rfl 400 ?_
  show (ev_cmp 1 (M.1 124 11) 4 = true → _) ∧ (ev_cmp 1 (M.1 124 11) 4 = false → _)
  refine ⟨fun h => ?_, fun h => ?_⟩
  · show some (Value.int (-1)) = some (Value.int (if M.1 124 11 = 4 then M.1 124 10 else -1))
    rw [if_neg (fn_ne h)]
  · show some (Value.int (M.1 124 10)) = some (Value.int (if M.1 124 11 = 4 then M.1 124 10 else -1))
    rw [if_pos (fn_eq h)]
theorem LW_v {M : cm_M} (h : LW M) : (if M.1 124 11 = 4 then M.1 124 10 else -1) = (if M.1 0 14 = 4 then M.1 0 13 else (-1 : Int32)) := by
  by_cases q : M.1 0 14 = 4
  · rw [if_pos q, if_pos (h.1.mp q), h.2 q]
  · rw [if_neg q, if_neg (fun z => q (h.1.mpr z))]
theorem cmp_3 {M : cm_M} (hM : ab_ok hp hN M) (hL : LIW M) : cm_Call cm_ms 30 97 [.ref 0] M (cmpW_P 204 [.ref 124]) :=
  cm_Call_up (cm_Lc_use (lk_97 hM) c_where) (Nat.le_refl _) (fun v M1 q => by
    obtain ⟨⟨-, q1⟩, q2⟩ := q
    have hL1 := LIW_s hL q1
    refine ⟨_, q2, q1.1.1, cm_Call_up (cm_Lc_use (lk_204 q1.1.1) m_where) (Nat.le_refl _) (fun v2 M2 z => ⟨?_, z.1.2.1.1, LIW_s hL1 z.1.2⟩)⟩
    rw [z.2, LW_v hL1.2, (lz_2 q1.2).1.1, (lz_2 q1.2).1.2])
