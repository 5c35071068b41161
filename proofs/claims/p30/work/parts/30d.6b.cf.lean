/-! THE CLASS'S READER as functions of the memory -/
theorem tk_e_ex (p : Int32 → Bool) (T : Nat → Int32) (N : Nat) : ∀ (f k : Nat), k ≤ N → N ≤ k + f → ∃ e, tk_e p T N k e
  | 0, k, h1, h2 => ⟨k, Nat.le_refl _, h1, fun j a b => by omega, fun h => by omega⟩
  | f + 1, k, h1, h2 => by
    by_cases hk : k < N ∧ p (T k) = true
    · obtain ⟨e, a1, a2, a3, a4⟩ := tk_e_ex p T N f (k + 1) (by omega) (by omega)
      refine ⟨e, by omega, a2, fun j b1 b2 => ?_, a4⟩
      rcases Nat.lt_or_ge k j with hj | hj
      · exact a3 j hj b2
      · have : j = k := by omega
        rw [this]
        exact hk.2
    · refine ⟨k, Nat.le_refl _, h1, fun j a b => by omega, fun h => ?_⟩
      cases hp : p (T k) with
      | false => rfl
      | true => exact absurd ⟨h, hp⟩ hk
abbrev tk_Q (T : Nat → Int32) (N k : Nat) (t : Nat × Nat × Int32 × Int32 × Int64) : Prop := tk_e ch_s T N k t.1 ∧ tk_k T N t.1 t.2.1 t.2.2.1 t.2.2.2.1 t.2.2.2.2
theorem tk_k_ex (T : Nat → Int32) (N s : Nat) (h : s ≤ N) : ∃ e kd va wd, tk_k T N s e kd va wd := by
  rcases Nat.lt_or_ge s N with hs | hs
  · cases hl : ch_l (T s) with
    | true =>
      obtain ⟨e, he⟩ := tk_e_ex ch_l T N N s h (by omega)
      exact ⟨e, _, _, _, Or.inr (Or.inl ⟨hs, hl, he, rfl, rfl, rfl⟩)⟩
    | false =>
      cases hd : ch_d (T s) with
      | true =>
        obtain ⟨e, he⟩ := tk_e_ex ch_d T N N s h (by omega)
        exact ⟨e, _, _, _, Or.inr (Or.inr (Or.inl ⟨hs, hl, hd, he, rfl, rfl, rfl⟩))⟩
      | false => exact ⟨s + 1, _, _, _, Or.inr (Or.inr (Or.inr ⟨hs, hl, hd, rfl, rfl, rfl, rfl⟩))⟩
  · exact ⟨s, _, _, _, Or.inl ⟨by omega, rfl, rfl, rfl, rfl⟩⟩
theorem tk_Q_ex (T : Nat → Int32) (N k : Nat) (h : k ≤ N) : ∃ t, tk_Q T N k t := by
  obtain ⟨s, hs⟩ := tk_e_ex ch_s T N N k h (by omega)
  obtain ⟨e, kd, va, wd, hk⟩ := tk_k_ex T N s hs.2.1
  exact ⟨(s, e, kd, va, wd), hs, hk⟩
theorem tk_k_uni {T : Nat → Int32} {N s e e' : Nat} {kd va kd' va' : Int32} {wd wd' : Int64} (h : tk_k T N s e kd va wd) (h' : tk_k T N s e' kd' va' wd') : e = e' ∧ kd = kd' ∧ va = va' ∧ wd = wd' := by
  rcases h with ⟨a1, rfl, rfl, rfl, rfl⟩ | ⟨a1, a2, a3, rfl, rfl, rfl⟩ | ⟨a1, a2, a3, a4, rfl, rfl, rfl⟩ | ⟨a1, a2, a3, rfl, rfl, rfl, rfl⟩
  · rcases h' with ⟨b1, rfl, rfl, rfl, rfl⟩ | ⟨b1, b2, b3, rfl, rfl, rfl⟩ | ⟨b1, b2, b3, b4, rfl, rfl, rfl⟩ | ⟨b1, b2, b3, rfl, rfl, rfl, rfl⟩
    · exact ⟨rfl, rfl, rfl, rfl⟩
    · omega
    · omega
    · omega
  · rcases h' with ⟨b1, rfl, rfl, rfl, rfl⟩ | ⟨b1, b2, b3, rfl, rfl, rfl⟩ | ⟨b1, b2, b3, b4, rfl, rfl, rfl⟩ | ⟨b1, b2, b3, rfl, rfl, rfl, rfl⟩
    · omega
    · have := tk_e_uni a3 b3
      subst this
      exact ⟨rfl, rfl, rfl, rfl⟩
    · rw [a2] at b2; cases b2
    · rw [a2] at b2; cases b2
  · rcases h' with ⟨b1, rfl, rfl, rfl, rfl⟩ | ⟨b1, b2, b3, rfl, rfl, rfl⟩ | ⟨b1, b2, b3, b4, rfl, rfl, rfl⟩ | ⟨b1, b2, b3, rfl, rfl, rfl, rfl⟩
    · omega
    · rw [a2] at b2; cases b2
    · have := tk_e_uni a4 b4
      subst this
      exact ⟨rfl, rfl, rfl, rfl⟩
    · rw [a3] at b3; cases b3
  · rcases h' with ⟨b1, rfl, rfl, rfl, rfl⟩ | ⟨b1, b2, b3, rfl, rfl, rfl⟩ | ⟨b1, b2, b3, b4, rfl, rfl, rfl⟩ | ⟨b1, b2, b3, rfl, rfl, rfl, rfl⟩
    · omega
    · rw [a2] at b2; cases b2
    · rw [a3] at b3; cases b3
    · exact ⟨rfl, rfl, rfl, rfl⟩
theorem tk_Q_uni {T : Nat → Int32} {N k : Nat} {t t' : Nat × Nat × Int32 × Int32 × Int64} (h : tk_Q T N k t) (h' : tk_Q T N k t') : t = t' := by
  obtain ⟨s, e, kd, va, wd⟩ := t
  obtain ⟨s', e', kd', va', wd'⟩ := t'
  have e1 : s = s' := tk_e_uni h.1 h'.1
  subst e1
  obtain ⟨rfl, rfl, rfl, rfl⟩ := tk_k_uni h.2 h'.2
  rfl
/-- the next token -/
noncomputable def tk_of (T : Nat → Int32) (N k : Nat) : Nat × Nat × Int32 × Int32 × Int64 := Classical.epsilon (tk_Q T N k)
theorem tk_of_ok {T : Nat → Int32} {N k : Nat} (h : k ≤ N) : tk_Q T N k (tk_of T N k) := Classical.epsilon_spec (tk_Q_ex T N k h)
theorem tk_of_eq {T : Nat → Int32} {N k : Nat} {t : Nat × Nat × Int32 × Int32 × Int64} (h : tk_Q T N k t) : tk_of T N k = t := tk_Q_uni (Classical.epsilon_spec ⟨t, h⟩) h
/-- the reader stands on a text of N signs -/
def rs_ok (N : Nat) (M : cm_M) : Prop := M.2.2 2 0 = some 1 ∧ M.1 2 1 = Int32.ofNat N ∧ N ≤ 900 ∧ ∃ k, k ≤ N ∧ M.1 2 2 = Int32.ofNat k
noncomputable def cF_tok (N : Nat) (M : cm_M) : Nat × Nat × Int32 × Int32 × Int64 := tk_of (M.1 1) N (M.1 2 2).toNatClampNeg
noncomputable def cF_step (N : Nat) (M : cm_M) : cm_M := if M.1 2 9 = 0 then tk_m M (cF_tok N M).1 (cF_tok N M).2.1 (cF_tok N M).2.2.1 (cF_tok N M).2.2.2.1 (cF_tok N M).2.2.2.2 else M
theorem cs_step {N : Nat} {M : cm_M} (h : rs_ok N M) : cm_Lc cm_ms 88 [.ref 2] M (fun v M' => v = none ∧ M' = cF_step N M) := by
  obtain ⟨h1, h2, h3, k, h4, h5⟩ := h
  refine cm_Lc_im (fn_stepOn h1 h2 h3 h5 h4) (fun v M' q => ⟨q.1, ?_⟩)
  unfold cF_step
  by_cases hf : M.1 2 9 = 0
  · rw [if_pos hf]
    obtain ⟨s, e, kd, va, wd, g1, g2, rfl⟩ := q.2.2 hf
    have : cF_tok N M = (s, e, kd, va, wd) := by
      unfold cF_tok
      rw [h5, fn_nat (by omega)]
      exact tk_of_eq ⟨g1, g2⟩
    rw [this]
  · rw [if_neg hf]
    exact q.2.1 hf
theorem tk_k_e {T : Nat → Int32} {N s e : Nat} {kd va : Int32} {wd : Int64} (hs : s ≤ N) (h : tk_k T N s e kd va wd) : e ≤ N := by
  rcases h with ⟨a1, rfl, -⟩ | ⟨a1, a2, a3, -⟩ | ⟨a1, a2, a3, a4, -⟩ | ⟨a1, a2, a3, rfl, -⟩
  · exact hs
  · exact a3.2.1
  · exact a4.2.1
  · omega
theorem rs_step {N : Nat} {M : cm_M} (h : rs_ok N M) : rs_ok N (cF_step N M) := by
  unfold cF_step
  by_cases hf : M.1 2 9 = 0
  · rw [if_pos hf]
    obtain ⟨h1, h2, h3, k, h4, h5⟩ := h
    have ht : tk_Q (M.1 1) N k (cF_tok N M) := by
      unfold cF_tok
      rw [h5, fn_nat (by omega)]
      exact tk_of_ok h4
    exact ⟨h1, h2, h3, (cF_tok N M).2.1, tk_k_e ht.1.2.1 ht.2, rfl⟩
  · rw [if_neg hf]
    exact h
/-- a fault is told -/
def cF_fail (x : Int32) (M : cm_M) : cm_M := if M.1 2 9 = 0 then cm_wi M 2 9 x else M
theorem rs_fail {N : Nat} {M : cm_M} (x : Int32) (h : rs_ok N M) : rs_ok N (cF_fail x M) := by
  unfold cF_fail
  split
  · exact h
  · exact h
