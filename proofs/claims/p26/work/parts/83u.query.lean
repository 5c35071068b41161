theorem MTX_P {a : Bool} {me mo : Nat} {M M1 : cm_M} (hm : MTX a me mo M) (h : lu_P M M1) : MTX a me mo M1 := ⟨((h.2 124 14 rfl).1).trans hm.1, MX_of h.1, fun q => ⟨((h.2 127 3 rfl).1).trans (hm.2.2.1 q).1, ((h.2 127 4 rfl).1).trans (hm.2.2.1 q).2⟩, hm.2.2.2⟩
/-- what the reference reads is what the class reads -/
theorem EQ_all {T' me mo ch nx u gi : Nat} {M M1 : cm_M} (hd : DR me mo ch 1 (DA T' M) (M.1 127)) (hs : SQ me nx u gi M) (h : lu_P M M1) : (M1.1 127 0 = M.1 T' 0 ∧ M1.1 127 1 = M.1 T' 1 ∧ M1.1 127 2 = M.1 T' 2) ∧ (∀ m, m < me → M1.1 127 (11 + 3 * m) = M.1 (T' + 1) m ∧ M1.1 127 (12 + 3 * m) = M.1 (T' + 2) m ∧ M1.1 127 (13 + 3 * m) = M.1 (T' + 3) m ∧ M1.1 127 (44 + m) = M.1 (T' + 4) m ∧ M1.1 127 (55 + m) = M.1 (T' + 5) m) ∧ (∀ k, k < mo → M1.1 127 (29 + 3 * k) = M.1 (T' + 6) k ∧ M1.1 127 (30 + 3 * k) = M.1 (T' + 7) k ∧ M1.1 127 (31 + 3 * k) = M.1 (T' + 8) k ∧ M1.1 127 (50 + k) = M.1 (T' + 9) k) ∧ (∀ m, m < me → M1.1 129 m = M.1 33 m) ∧ (∀ q, q < 3 → M1.1 129 (6 + q) = M.1 34 q) ∧ M1.1 129 9 = M.1 32 2 ∧ M1.1 129 10 = M.1 32 3 := by
  have e : ∀ j, M1.1 127 j = M.1 127 j := fun j => (h.2 127 j rfl).1
  have e9 : ∀ j, M1.1 129 j = M.1 129 j := fun j => (h.2 129 j rfl).1
  obtain ⟨sa, -, -, -, -⟩ := hs
  obtain ⟨-, -, a3⟩ := hd.1
  obtain ⟨b1, b2, b3⟩ := a3 rfl
  refine ⟨⟨(e 0).trans b1.symm, (e 1).trans b2.symm, (e 2).trans b3.symm⟩, fun m hm => ?_, fun k hk => ?_, fun m hm => (e9 m).trans (sa.1 m hm).symm, fun q hq => (e9 _).trans (sa.2.1 q hq).symm, (e9 9).trans (sa.2.2.1).symm, (e9 10).trans (sa.2.2.2.1).symm⟩
  · obtain ⟨c1, c2, c3, c4, c5⟩ := hd.2.2.1 m hm
    exact ⟨(e _).trans c1.symm, (e _).trans c2.symm, (e _).trans c3.symm, (e _).trans c4.symm, (e _).trans c5.symm⟩
  · obtain ⟨c1, c2, c3, c4⟩ := hd.2.2.2.1 k hk
    exact ⟨(e _).trans c1.symm, (e _).trans c2.symm, (e _).trans c3.symm, (e _).trans c4.symm⟩
