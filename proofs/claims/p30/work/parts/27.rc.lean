/-- what is checked of a call's row once -/
def ab_RC (ms : List ev_MI) (q : Nat × ev_Row) : Prop := 200 ≤ q.2.1 → q.2.1 < 210 → ∃ mi, ms[q.2.2.1.toNat]? = some mi ∧ ev_nar1 mi.1 q.2.2.2.2.1.toNat = true ∧ (q.2.1 = 200 → ∀ ci, q.2.2.2.2.2 = [ci] → (ci = 99 ∧ mi.1.cls = "java/lang/String") ∨ (ci ≠ 99 ∧ (vwCl[ci.toNat]?).map (fun r => r.1) = some mi.1.cls))
