/-! BOTH SIDES ANSWER ALIKE -/
def cmp_P (k : Nat) (as : List Value) : cm_K := fun v M1 => ∃ r, v = some (.int r) ∧ ab_ok hp hN M1 ∧ cm_Call cm_ms 30 k as M1 (fun v2 M2 => v2 = some (.int r) ∧ ab_ok hp hN M2 ∧ LI M2)
theorem cmp_gen {M : cm_M} {k kr : Nat} {as asr : List Value} {r : Int32} (hL : LI M) (hC : cm_Call cm_ms 30 k as M (lp_P 0 M)) (hR : ∀ M1, ab_ok hp hN M1 → cm_Call cm_ms 30 kr asr M1 (lp_P 0 M1)) (lC : cm_Lc cm_ms k as M (fun v _ => v = some (.int r))) (lR : ∀ M1, LI M1 → lu_P M M1 → cm_Lc cm_ms kr asr M1 (fun v _ => v = some (.int r))) : cm_Call cm_ms 30 k as M (cmp_P kr asr) :=
  cm_Call_up (cm_Lc_use hC lC) (Nat.le_refl _) (fun v M1 q => by
    obtain ⟨⟨-, q1⟩, q2⟩ := q
    have hL1 := LI_P hL q1
    exact ⟨r, q2, q1.1, cm_Call_up (cm_Lc_use (hR M1 q1.1) (lR M1 hL1 q1)) (Nat.le_refl _) (fun v2 M2 z => ⟨z.2, z.1.2.1, LI_P hL1 z.1.2⟩)⟩)
