/-! a sum of two -/
theorem hd_sum {ρ : List Int32} {K : ab_K} {j u : Nat} {c : Int} {x : Int32} (hk : ab_k ρ K) (hK : (K[j]?).map (fun r => r.2.2) = some (1, (3, (u : Int), []), (0, c, []))) (hx : ρ[j]? = some x) : ∃ y, ρ[u]? = some y ∧ x = y + Int32.ofInt c := by
  cases hr : K[j]? with
  | none => rw [hr] at hK; cases hK
  | some r =>
    rw [hr] at hK
    have h5 : r.2.2 = (1, (3, (u : Int), []), (0, c, [])) := Option.some.inj hK
    have h6 := (hk.2 j r x hr hx).2
    rw [h5] at h6
    rcases h6 with h6 | ⟨y, z, a1, a2, a3⟩
    · cases h6
    · have a1 : ρ[(u : Int).toNat]? = some y := a1
      have a2 : some (Int32.ofInt c) = some z := a2
      rw [Int.toNat_natCast] at a1
      cases a2
      exact ⟨y, a1, a3⟩
