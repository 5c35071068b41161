/-! BY HAND: the weights of shaves -/
/-- the memory with two references told -/
def ts_f (M : cm_M) : cm_M := cm_wr (cm_wr M 124 15 (some 127)) 124 22 (some 132)
theorem ts_one {M : cm_M} {i c : Nat} (h : ab_ok hp hN M) (e : ab_hr hp 124 i = some (false, [c])) : M.2.2 124 i = some c := by
  have h1 := h.2.1 124 i
  rw [e] at h1
  cases hc : M.2.2 124 i with
  | none => rw [hc] at h1; cases h1
  | some q => rw [hc] at h1; rw [List.mem_singleton.mp h1]
theorem ts_f_eq {M : cm_M} (h : ab_ok hp hN M) : ts_f M = M := by
  have h15 : M.2.2 124 15 = some 127 := ts_one h (by decide +kernel)
  have h22 : M.2.2 124 22 = some 132 := ts_one h (by decide +kernel)
  refine Prod.ext rfl (Prod.ext rfl (funext fun c => funext fun i => ?_))
  show (if c = 124 ∧ i = 22 then some 132 else if c = 124 ∧ i = 15 then some 127 else M.2.2 c i) = M.2.2 c i
  split
  · rename_i e
    rw [e.1, e.2, h22]
  · split
    · rename_i e
      rw [e.1, e.2, h15]
    · rfl
theorem ts_bit (M : cm_M) (x m : Int32) : cm_Call cm_ms 1 168 [.int x, .int m] M (fun v M' => M' = M ∧ ∃ b : Int32, v = some (.int b) ∧ ((b = 1 ∧ (x >>> (m &&& 31)) &&& 1 = 1) ∨ (b = 0 ∧ (x >>> (m &&& 31)) &&& 1 ≠ 1))) := by
  refine cm_Call_of cm_ms_ok (k := 168) (mi := mr_168) rfl (by show 2 ≤ 2; decide) ?_
  refine cm_At_run cm_ms_ok (k := 168) rfl (stops := []) (J := fun _ => False) (fun S hS => hS.elim) (n := 20) ?_
  show 0 ≤ _ ∧ (ev_cmp 1 ((x >>> (m &&& 31)) &&& 1) 1 = true → _) ∧ (_ → _)
  refine ⟨(by decide : (0 : Int) ≤ 13), fun hc => ?_, fun hc => ?_⟩
  · show ((0 : Int32) = 0 ∨ (0 : Int32) = 1) ∧ _
    refine ⟨Or.inl rfl, rfl, 0, rfl, Or.inr ⟨rfl, ?_⟩⟩
    simpa [ev_cmp] using hc
  · show 0 ≤ _ ∧ ((1 : Int32) = 0 ∨ (1 : Int32) = 1) ∧ _
    refine ⟨(by decide : (0 : Int) ≤ 14), Or.inr rfl, rfl, 1, rfl, Or.inl ⟨rfl, ?_⟩⟩
    have hc : (!decide ((x >>> (m &&& 31)) &&& 1 = 1)) = false := hc
    simpa using hc
def ts_a (M : cm_M) : Int32 := (1 <<< (M.1 127 3 &&& 31)) - 1
theorem ts_all0 (M : cm_M) : cm_Call cm_ms 1 208 [.ref 124] (ts_f M) (fun v M' => M' = ts_f M ∧ v = some (.int (ts_a M))) := by
  refine cm_Call_of cm_ms_ok (k := 208) (mi := mr_208) rfl (by show 1 ≤ 1; decide) ?_
  refine cm_At_run cm_ms_ok (k := 208) rfl (stops := []) (J := fun _ => False) (fun S hS => hS.elim) (n := 20) ?_
  show (cm_kind 124).1 = _ ∧ _ < _ ∧ (cm_kind 127).1 = _ ∧ 0 ≤ _ ∧ _ < _ ∧ _
  exact ⟨by decide, by decide, by decide, by decide, by decide, rfl, rfl⟩
theorem ts_all {M : cm_M} (h : ab_ok hp hN M) : cm_Call cm_ms 1 208 [.ref 124] M (fun v M' => M' = M ∧ v = some (.int (ts_a M))) := by
  have := ts_all0 M
  rw [ts_f_eq h] at this
  exact this
theorem ts_num : ∀ n, n < 7 → 0 ≤ ((1 <<< (Int32.ofNat n &&& 31)) - 1 : Int32).toInt ∧ ((1 <<< (Int32.ofNat n &&& 31)) - 1 : Int32).toInt ≤ 63 ∧ ∀ m, m < n → ((((1 <<< (Int32.ofNat n &&& 31)) - 1 : Int32) >>> (Int32.ofNat m &&& 31)) &&& 1) = 1 := by decide +kernel
theorem ts_small {x : Int32} {b : Nat} (h0 : 0 ≤ x.toInt) (h1 : x.toInt < b) : ∃ n : Nat, n < b ∧ x = Int32.ofNat n ∧ x.toInt = n := by
  refine ⟨x.toInt.toNat, by omega, ?_, by omega⟩
  apply Int32.toInt_inj.mp
  have h2 := x.toInt_lt
  rw [Int32.toInt_ofNat_of_lt (by omega)]
  omega
theorem ts_zero (m : Int32) : ((0 : Int32) >>> (m &&& 31)) &&& 1 ≠ 1 := by
  rw [Int32.zero_shiftRight, Int32.zero_and]
  decide
theorem ts_mul {w : Int64} {x : Int32} {m : Nat} (hm : m ≤ 5) (h0 : 0 ≤ w.toInt) (h1 : w.toInt ≤ 100 ^ m) (hx : 0 ≤ x.toInt) (hx2 : x.toInt ≤ 100) : (w * x.toInt64).toInt = w.toInt * x.toInt ∧ 0 ≤ w.toInt * x.toInt ∧ w.toInt * x.toInt ≤ 100 ^ (m + 1) ∧ (1 ≤ w.toInt → 1 ≤ x.toInt → 1 ≤ w.toInt * x.toInt) := by
  have e1 : 0 ≤ w.toInt * x.toInt := Int.mul_nonneg h0 hx
  have e2 : w.toInt * x.toInt ≤ 100 ^ m * 100 := Int.mul_le_mul h1 hx2 hx (by have := h1; omega)
  have e3 : (100 : Int) ^ (m + 1) = 100 ^ m * 100 := by rw [Int.pow_succ]
  have e4 : (100 : Int) ^ m ≤ 10000000000 := by
    have : ∀ m : Nat, m ≤ 5 → (100 : Int) ^ m ≤ 10000000000 := by decide
    exact this m hm
  refine ⟨?_, e1, by rw [e3]; exact e2, fun a b => ?_⟩
  · rw [Int64.toInt_mul, Int32.toInt_toInt64]
    exact Int.bmod_eq_of_le (by omega) (by omega)
  · have := Int.mul_le_mul a b (by omega) (by omega)
    omega
