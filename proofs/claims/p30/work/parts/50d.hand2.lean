/-! BY HAND: a fraction in lowest terms -/
theorem lo_rem {x y : Int64} (hy : y ≠ 0) : (x - x / y * y).toInt.natAbs < y.toInt.natAbs := by
  have h0 : y.toInt ≠ 0 := fun e => hy (Int64.toInt_inj.mp (e.trans (by decide)))
  have h1 : (x.toInt.tmod y.toInt).natAbs < y.toInt.natAbs := by
    rw [Int.natAbs_tmod]
    exact Nat.mod_lt _ (by omega)
  have h2 : -9223372036854775808 ≤ y.toInt := Int64.le_toInt y
  have h3 : y.toInt < 9223372036854775808 := Int64.toInt_lt y
  have e : (x - x / y * y).toInt = x.toInt.tmod y.toInt := by
    rw [Int64.toInt_sub, Int64.toInt_mul, Int64.toInt_div, Int.bmod_mul_bmod, Int.sub_bmod_bmod, Int.mul_comm, ← Int.tmod_def]
    exact Int.bmod_eq_of_le (by omega) (by omega)
  rw [e]
  exact h1
def lo_S (up down x y : Int64) (lo : Int32) (M : cm_M) : cm_S := (6, [(0, .long up), (2, .long down), (4, .int lo), (5, .long x), (7, .long y)], [], M)
def lo_P (M : cm_M) : cm_K := fun v M' => (∃ x, v = some (.long x)) ∧ M' = M
theorem lo_exit (J : cm_S → Prop) (m : Nat) (up down x y : Int64) (lo : Int32) (M : cm_M) (hx : x ≠ 0) : cm_wp cm_ms (cm_Call cm_ms 0) none (cm_P mr_171) mr_171.2.2.2.2.2.2 [(6, [0, 2, 4, 5, 7])] J (cm_ret mr_171.2.2.2.1 (lo_P M)) (m + 15) (31, [(0, .long up), (2, .long down), (4, .int lo), (5, .long x), (7, .long y)], [], M) := by
  show 0 ≤ _ ∧ (ev_cmp 0 lo 0 = true → _) ∧ (_ → _)
  refine ⟨(by decide : (0 : Int) ≤ 40), fun hc => ?_, fun hc => ?_⟩
  · show ¬ x = 0 ∧ _
    exact ⟨hx, ⟨_, rfl⟩, rfl⟩
  · show 0 ≤ _ ∧ ¬ x = 0 ∧ _
    exact ⟨(by decide : (0 : Int) ≤ 41), hx, ⟨_, rfl⟩, rfl⟩
theorem lo_loop (M : cm_M) (up down : Int64) (lo : Int32) : ∀ (j : Nat) (x y : Int64), y.toInt.natAbs < j → x ≠ 0 → cm_At cm_ms 0 mr_171 (lo_P M) (lo_S up down x y lo M) := by
  intro j
  induction j with
  | zero => intro x y h; exact absurd h (Nat.not_lt_zero _)
  | succ j ih =>
    intro x y hj hx
    refine cm_At_run cm_ms_ok (k := 171) rfl (stops := [(6, [0, 2, 4, 5, 7])]) (J := fun S => ∃ x y, y.toInt.natAbs < j ∧ x ≠ 0 ∧ S = lo_S up down x y lo M) (fun S hS => by obtain ⟨x, y, e1, e2, rfl⟩ := hS; exact ih x y e1 e2) (n := 60) ?_
    show 0 ≤ _ ∧ (ev_cmp 0 (lg_cmp y _) 0 = true → _) ∧ (_ → _)
    refine ⟨(by decide : (0 : Int) ≤ 31), fun _ => lo_exit _ 41 up down x y lo M hx, fun hc => ?_⟩
    have hy : y ≠ 0 := hd_cmp0 (y := 0) (by simpa [ev_cmp] using hc)
    show ¬ y = 0 ∧ 9 + 1 < 11 ∧ 5 + 1 < 11 ∧ 7 + 1 < 11 ∧ 0 ≤ _ ∧ _
    refine ⟨hy, by decide, by decide, by decide, (by decide : (0 : Int) ≤ 6), ?_⟩
    refine ⟨y, x - x / y * y, ?_, hy, rfl⟩
    have := lo_rem (x := x) hy
    omega
theorem hd_lowest (M : cm_M) (up down : Int64) (lo : Int32) (hd : down ≠ 0) : cm_Call cm_ms 1 171 [.long up, .long down, .int lo] M (lo_P M) := by
  refine cm_Call_of cm_ms_ok (k := 171) (mi := mr_171) rfl (by show 5 ≤ 11; decide) ?_
  refine cm_At_run cm_ms_ok (k := 171) rfl (stops := [(6, [0, 2, 4, 5, 7])]) (J := fun S => S = lo_S up down down up lo M) (fun S hS => by rw [hS]; exact lo_loop M up down lo _ down up (Nat.lt_succ_self _) hd) (n := 10) ?_
  show 5 + 1 < 11 ∧ 7 + 1 < 11 ∧ _
  refine ⟨by decide, by decide, ?_⟩
  exact rfl
