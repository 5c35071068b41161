/-! BY HAND: the greatest common divisor -/
theorem hd_cmp0 {x y : Int64} (h : lg_cmp x y ≠ 0) : x ≠ y := by
  rintro rfl
  apply h
  unfold lg_cmp
  rw [if_neg (by simp), if_pos rfl]
theorem hd_inc {i : Int32} (h : i.toInt < 2147483647) : (i + 1).toInt = i.toInt + 1 := by
  have h1 : (1 : Int32).toInt = 1 := by decide
  have h2 := i.minValue_le_toInt
  have h3 : Int32.minValue.toInt = -2147483648 := by decide
  rw [Int32.toInt_add, h1, ev_bm (by omega) (by omega)]
theorem hd_wl_ok {M : cm_M} {c i : Nat} {x : Int64} (h : ab_ok hp hN M) : ab_ok hp hN (cm_wl M c i x) := ⟨fun a b => h.1 a b, fun a b => h.2.1 a b, h.2.2⟩
theorem hd_wl_fr {md : ab_Md} {M0 M : cm_M} {c i : Nat} {x : Int64} (hi : ab_inM md c i = true) (h : ab_fr md M0 M) : ab_fr md M0 (cm_wl M c i x) := by
  intro a b hm
  obtain ⟨h1, h2, h3⟩ := h a b hm
  refine ⟨h1, ?_, h3⟩
  show (if a = c ∧ b = i then x else M.2.1 a b) = _
  rw [if_neg ?_]
  · exact h2
  · rintro ⟨rfl, rfl⟩
    rw [hi] at hm
    cases hm
def rd_S (a b x y : Int64) (i : Int32) (M : cm_M) : cm_S := (9, [(0, .ref 123), (1, .long a), (3, .long b), (5, .long x), (7, .long y), (9, .int i)], [], M)
def rd_P (M : cm_M) : cm_K := ab_Post hp hN M [(123, [0, 1])] [] [([], [], [])]
theorem rd_end {M : cm_M} (hM : ab_ok hp hN M) (J : cm_S → Prop) (m : Nat) (a b x y : Int64) (i : Int32) (v : Int64) : cm_wp cm_ms (cm_Call cm_ms 0) none (cm_P mr_62) mr_62.2.2.2.2.2.2 [(9, [0, 1, 3, 5, 7, 9])] J (cm_ret mr_62.2.2.2.1 (rd_P M)) (m + 15) (64, [(0, .ref 123), (1, .long a), (3, .long b), (5, .long x), (7, .long y), (9, .int i)], [], cm_wl M 123 0 v) := by
  have fin : ∀ w : Int64, rd_P M none (cm_wl (cm_wl M 123 0 v) 123 1 w) := fun w => ⟨_, List.mem_singleton.mpr rfl, [], trivial, ⟨rfl, fun j r x h => nomatch h⟩, hd_wl_ok (hd_wl_ok hM), hd_wl_fr (by decide) (hd_wl_fr (by decide) (ab_fr_rf _ _)), fun q hq => nomatch hq⟩
  show 0 ≤ _ ∧ (ev_cmp 1 (lg_cmp x _) 0 = true → _) ∧ (_ → _)
  refine ⟨(by decide : (0 : Int) ≤ 76), fun hc => ?_, fun hc => ?_⟩
  · show ¬ x = 0 ∧ _ ∧ _ ∧ _ ∧ _ ∧ _
    refine ⟨hd_cmp0 (y := 0) (by simpa [ev_cmp] using hc), by decide, by decide, by decide, rfl, ?_⟩
    exact fin _
  · show 0 ≤ _ ∧ _ ∧ _ ∧ _ ∧ _ ∧ _
    refine ⟨(by decide : (0 : Int) ≤ 80), by decide, by decide, by decide, rfl, ?_⟩
    exact fin _
theorem rd_exit {M : cm_M} (hM : ab_ok hp hN M) (J : cm_S → Prop) (m : Nat) (a b x y : Int64) (i : Int32) : cm_wp cm_ms (cm_Call cm_ms 0) none (cm_P mr_62) mr_62.2.2.2.2.2.2 [(9, [0, 1, 3, 5, 7, 9])] J (cm_ret mr_62.2.2.2.1 (rd_P M)) (m + 30) (45, [(0, .ref 123), (1, .long a), (3, .long b), (5, .long x), (7, .long y), (9, .int i)], [], M) := by
  show 0 ≤ _ ∧ (ev_cmp 1 (lg_cmp x _) 0 = true → _) ∧ (_ → _)
  refine ⟨(by decide : (0 : Int) ≤ 57), fun hc => ?_, fun hc => ?_⟩
  · show ¬ x = 0 ∧ _ ∧ _ ∧ _ ∧ _ ∧ _
    refine ⟨hd_cmp0 (y := 0) (by simpa [ev_cmp] using hc), by decide, by decide, by decide, rfl, ?_⟩
    exact rd_end hM J (m + 6) a b x y i _
  · show 0 ≤ _ ∧ _ ∧ _ ∧ _ ∧ _ ∧ _
    refine ⟨(by decide : (0 : Int) ≤ 61), by decide, by decide, by decide, rfl, ?_⟩
    exact rd_end hM J (m + 7) a b x y i _
theorem rd_loop {M : cm_M} (hM : ab_ok hp hN M) (a b : Int64) : ∀ (j : Nat) (i : Int32) (x y : Int64), i.toInt = 128 - (j : Int) → 0 ≤ i.toInt → cm_At cm_ms 0 mr_62 (rd_P M) (rd_S a b x y i M) := by
  intro j
  induction j with
  | zero =>
    intro i x y hi h0
    refine cm_At_run cm_ms_ok (k := 62) rfl (stops := [(9, [0, 1, 3, 5, 7, 9])]) (J := fun _ => False) (fun S hS => hS.elim) (n := 60) ?_
    show 0 ≤ _ ∧ (ev_cmp 3 i _ = true → _) ∧ (ev_cmp 3 i _ = false → _)
    refine ⟨(by decide : (0 : Int) ≤ 45), fun _ => rd_exit hM _ 27 a b x y i, fun hc => ?_⟩
    exfalso
    have h1 : ¬ (128 : Int32) ≤ i := of_decide_eq_false hc
    apply h1
    rw [Int32.le_iff_toInt_le]
    have : (128 : Int32).toInt = 128 := by decide
    omega
  | succ j ih =>
    intro i x y hi h0
    refine cm_At_run cm_ms_ok (k := 62) rfl (stops := [(9, [0, 1, 3, 5, 7, 9])]) (J := fun S => ∃ i x y, i.toInt = 128 - (j : Int) ∧ 0 ≤ i.toInt ∧ S = rd_S a b x y i M) (fun S hS => by obtain ⟨i, x, y, e1, e2, rfl⟩ := hS; exact ih i x y e1 e2) (n := 60) ?_
    show 0 ≤ _ ∧ (ev_cmp 3 i _ = true → _) ∧ (ev_cmp 3 i _ = false → _)
    refine ⟨(by decide : (0 : Int) ≤ 45), fun _ => rd_exit hM _ 27 a b x y i, fun hc => ?_⟩
    show 0 ≤ _ ∧ (ev_cmp 0 (lg_cmp y _) 0 = true → _) ∧ (_ → _)
    refine ⟨(by decide : (0 : Int) ≤ 45), fun _ => rd_exit hM _ 23 a b x y i, fun hc2 => ?_⟩
    show ¬ y = 0 ∧ 10 + 1 < 12 ∧ 5 + 1 < 12 ∧ 7 + 1 < 12 ∧ 9 < 12 ∧ 0 ≤ _ ∧ _
    refine ⟨hd_cmp0 (y := 0) (by simpa [ev_cmp] using hc2), by decide, by decide, by decide, by decide, (by decide : (0 : Int) ≤ 9), ?_⟩
    refine ⟨i + 1, y, x - x / y * y, ?_, ?_, rfl⟩
    · have := hd_inc (i := i) (by omega)
      omega
    · have := hd_inc (i := i) (by omega)
      omega
theorem hd_reduce : ab_CT cm_ms hp hN 1 (62, [(1, 0, [123]), (6, 0, []), (6, 0, [])], [], [], [(123, [0, 1])], [([], [], [])]) := by
  intro ρ vs M h1 h2 h3 h4
  obtain ⟨a, b, rfl⟩ : ∃ a b, vs = [.ref 123, .long a, .long b] := by
    match vs, h1 with
    | [v0, v1, v2], ⟨⟨c, hc, hv⟩, ⟨a, ha⟩, ⟨b, hb⟩, _⟩ =>
      have : c = 123 := List.mem_singleton.mp hc
      subst this
      exact ⟨a, b, by rw [hv, ha, hb]⟩
  have hr : ρ = [] := List.length_eq_zero_iff.mp h2.1.symm
  subst hr
  refine cm_Call_of cm_ms_ok (k := 62) (mi := mr_62) rfl (by show 5 ≤ 12; decide) ?_
  refine cm_At_run cm_ms_ok (k := 62) rfl (stops := [(9, [0, 1, 3, 5, 7, 9])]) (J := fun S => S = rd_S a b b a 0 M) (fun S hS => by rw [hS]; exact rd_loop h3 a b 128 0 b a (by decide) (by decide)) (n := 10) ?_
  show 5 + 1 < 12 ∧ 7 + 1 < 12 ∧ 9 < 12 ∧ _
  refine ⟨by decide, by decide, by decide, ?_⟩
  exact rfl
/-! BY HAND: a fraction in lowest terms -/
theorem lo_rem {x y : Int64} (hy : y ≠ 0) : (x - x / y * y).toInt.natAbs < y.toInt.natAbs := by
  have h0 : y.toInt ≠ 0 := fun e => hy (Int64.toInt_inj.mp (e.trans (by decide)))
  have h1 : (x.toInt.tmod y.toInt).natAbs < y.toInt.natAbs := by
    rw [Int.natAbs_tmod]
    exact Nat.mod_lt _ (by omega)
  have h2 : -9223372036854775808 ≤ y.toInt := Int64.le_toInt y
  have h3 : y.toInt < 9223372036854775808 := Int64.toInt_lt y
  have e : (x - x / y * y).toInt = x.toInt.tmod y.toInt := by
    rw [Int64.toInt_sub, Int64.toInt_mul, Int64.toInt_div, Int.bmod_mul_bmod, Int.sub_bmod_bmod, Int.mul_comm, ← Int.tmod_def]
    exact Int.bmod_eq_of_le (by omega) (by omega)
  rw [e]
  exact h1
def lo_S (up down x y : Int64) (lo : Int32) (M : cm_M) : cm_S := (6, [(0, .long up), (2, .long down), (4, .int lo), (5, .long x), (7, .long y)], [], M)
def lo_P (M : cm_M) : cm_K := fun v M' => (∃ x, v = some (.long x)) ∧ M' = M
theorem lo_exit (J : cm_S → Prop) (m : Nat) (up down x y : Int64) (lo : Int32) (M : cm_M) (hx : x ≠ 0) : cm_wp cm_ms (cm_Call cm_ms 0) none (cm_P mr_171) mr_171.2.2.2.2.2.2 [(6, [0, 2, 4, 5, 7])] J (cm_ret mr_171.2.2.2.1 (lo_P M)) (m + 15) (31, [(0, .long up), (2, .long down), (4, .int lo), (5, .long x), (7, .long y)], [], M) := by
  show 0 ≤ _ ∧ (ev_cmp 0 lo 0 = true → _) ∧ (_ → _)
  refine ⟨(by decide : (0 : Int) ≤ 40), fun hc => ?_, fun hc => ?_⟩
  · show ¬ x = 0 ∧ _
    exact ⟨hx, ⟨_, rfl⟩, rfl⟩
  · show 0 ≤ _ ∧ ¬ x = 0 ∧ _
    exact ⟨(by decide : (0 : Int) ≤ 41), hx, ⟨_, rfl⟩, rfl⟩
theorem lo_loop (M : cm_M) (up down : Int64) (lo : Int32) : ∀ (j : Nat) (x y : Int64), y.toInt.natAbs < j → x ≠ 0 → cm_At cm_ms 0 mr_171 (lo_P M) (lo_S up down x y lo M) := by
  intro j
  induction j with
  | zero => intro x y h; exact absurd h (Nat.not_lt_zero _)
  | succ j ih =>
    intro x y hj hx
    refine cm_At_run cm_ms_ok (k := 171) rfl (stops := [(6, [0, 2, 4, 5, 7])]) (J := fun S => ∃ x y, y.toInt.natAbs < j ∧ x ≠ 0 ∧ S = lo_S up down x y lo M) (fun S hS => by obtain ⟨x, y, e1, e2, rfl⟩ := hS; exact ih x y e1 e2) (n := 60) ?_
    show 0 ≤ _ ∧ (ev_cmp 0 (lg_cmp y _) 0 = true → _) ∧ (_ → _)
    refine ⟨(by decide : (0 : Int) ≤ 31), fun _ => lo_exit _ 41 up down x y lo M hx, fun hc => ?_⟩
    have hy : y ≠ 0 := hd_cmp0 (y := 0) (by simpa [ev_cmp] using hc)
    show ¬ y = 0 ∧ 9 + 1 < 11 ∧ 5 + 1 < 11 ∧ 7 + 1 < 11 ∧ 0 ≤ _ ∧ _
    refine ⟨hy, by decide, by decide, by decide, (by decide : (0 : Int) ≤ 6), ?_⟩
    refine ⟨y, x - x / y * y, ?_, hy, rfl⟩
    have := lo_rem (x := x) hy
    omega
theorem hd_lowest (M : cm_M) (up down : Int64) (lo : Int32) (hd : down ≠ 0) : cm_Call cm_ms 1 171 [.long up, .long down, .int lo] M (lo_P M) := by
  refine cm_Call_of cm_ms_ok (k := 171) (mi := mr_171) rfl (by show 5 ≤ 11; decide) ?_
  refine cm_At_run cm_ms_ok (k := 171) rfl (stops := [(6, [0, 2, 4, 5, 7])]) (J := fun S => S = lo_S up down down up lo M) (fun S hS => by rw [hS]; exact lo_loop M up down lo _ down up (Nat.lt_succ_self _) hd) (n := 10) ?_
  show 5 + 1 < 11 ∧ 7 + 1 < 11 ∧ _
  refine ⟨by decide, by decide, ?_⟩
  exact rfl
/-! BY HAND: the weights of shaves -/
/-- the memory with two references told -/
def ts_f (M : cm_M) : cm_M := cm_wr (cm_wr M 124 15 (some 127)) 124 22 (some 132)
theorem ts_one {M : cm_M} {i c : Nat} (h : ab_ok hp hN M) (e : ab_hr hp 124 i = some (false, [c])) : M.2.2 124 i = some c := by
  have h1 := h.2.1 124 i
  rw [e] at h1
  cases hc : M.2.2 124 i with
  | none => rw [hc] at h1; cases h1
  | some q => rw [hc] at h1; rw [List.mem_singleton.mp h1]
theorem ts_f_eq {M : cm_M} (h : ab_ok hp hN M) : ts_f M = M := by
  have h15 : M.2.2 124 15 = some 127 := ts_one h (by decide +kernel)
  have h22 : M.2.2 124 22 = some 132 := ts_one h (by decide +kernel)
  refine Prod.ext rfl (Prod.ext rfl (funext fun c => funext fun i => ?_))
  show (if c = 124 ∧ i = 22 then some 132 else if c = 124 ∧ i = 15 then some 127 else M.2.2 c i) = M.2.2 c i
  split
  · rename_i e
    rw [e.1, e.2, h22]
  · split
    · rename_i e
      rw [e.1, e.2, h15]
    · rfl
theorem ts_bit (M : cm_M) (x m : Int32) : cm_Call cm_ms 1 168 [.int x, .int m] M (fun v M' => M' = M ∧ ∃ b : Int32, v = some (.int b) ∧ ((b = 1 ∧ (x >>> (m &&& 31)) &&& 1 = 1) ∨ (b = 0 ∧ (x >>> (m &&& 31)) &&& 1 ≠ 1))) := by
  refine cm_Call_of cm_ms_ok (k := 168) (mi := mr_168) rfl (by show 2 ≤ 2; decide) ?_
  refine cm_At_run cm_ms_ok (k := 168) rfl (stops := []) (J := fun _ => False) (fun S hS => hS.elim) (n := 20) ?_
  show 0 ≤ _ ∧ (ev_cmp 1 ((x >>> (m &&& 31)) &&& 1) 1 = true → _) ∧ (_ → _)
  refine ⟨(by decide : (0 : Int) ≤ 13), fun hc => ?_, fun hc => ?_⟩
  · show ((0 : Int32) = 0 ∨ (0 : Int32) = 1) ∧ _
    refine ⟨Or.inl rfl, rfl, 0, rfl, Or.inr ⟨rfl, ?_⟩⟩
    simpa [ev_cmp] using hc
  · show 0 ≤ _ ∧ ((1 : Int32) = 0 ∨ (1 : Int32) = 1) ∧ _
    refine ⟨(by decide : (0 : Int) ≤ 14), Or.inr rfl, rfl, 1, rfl, Or.inl ⟨rfl, ?_⟩⟩
    have hc : (!decide ((x >>> (m &&& 31)) &&& 1 = 1)) = false := hc
    simpa using hc
def ts_a (M : cm_M) : Int32 := (1 <<< (M.1 127 3 &&& 31)) - 1
theorem ts_all0 (M : cm_M) : cm_Call cm_ms 1 208 [.ref 124] (ts_f M) (fun v M' => M' = ts_f M ∧ v = some (.int (ts_a M))) := by
  refine cm_Call_of cm_ms_ok (k := 208) (mi := mr_208) rfl (by show 1 ≤ 1; decide) ?_
  refine cm_At_run cm_ms_ok (k := 208) rfl (stops := []) (J := fun _ => False) (fun S hS => hS.elim) (n := 20) ?_
  show (cm_kind 124).1 = _ ∧ _ < _ ∧ (cm_kind 127).1 = _ ∧ 0 ≤ _ ∧ _ < _ ∧ _
  exact ⟨by decide, by decide, by decide, by decide, by decide, rfl, rfl⟩
theorem ts_all {M : cm_M} (h : ab_ok hp hN M) : cm_Call cm_ms 1 208 [.ref 124] M (fun v M' => M' = M ∧ v = some (.int (ts_a M))) := by
  have := ts_all0 M
  rw [ts_f_eq h] at this
  exact this
theorem ts_num : ∀ n, n < 7 → 0 ≤ ((1 <<< (Int32.ofNat n &&& 31)) - 1 : Int32).toInt ∧ ((1 <<< (Int32.ofNat n &&& 31)) - 1 : Int32).toInt ≤ 63 ∧ ∀ m, m < n → ((((1 <<< (Int32.ofNat n &&& 31)) - 1 : Int32) >>> (Int32.ofNat m &&& 31)) &&& 1) = 1 := by decide +kernel
theorem ts_small {x : Int32} {b : Nat} (h0 : 0 ≤ x.toInt) (h1 : x.toInt < b) : ∃ n : Nat, n < b ∧ x = Int32.ofNat n ∧ x.toInt = n := by
  refine ⟨x.toInt.toNat, by omega, ?_, by omega⟩
  apply Int32.toInt_inj.mp
  have h2 := x.toInt_lt
  rw [Int32.toInt_ofNat_of_lt (by omega)]
  omega
theorem ts_zero (m : Int32) : ((0 : Int32) >>> (m &&& 31)) &&& 1 ≠ 1 := by
  rw [Int32.zero_shiftRight, Int32.zero_and]
  decide
theorem ts_mul {w : Int64} {x : Int32} {m : Nat} (hm : m ≤ 5) (h0 : 0 ≤ w.toInt) (h1 : w.toInt ≤ 100 ^ m) (hx : 0 ≤ x.toInt) (hx2 : x.toInt ≤ 100) : (w * x.toInt64).toInt = w.toInt * x.toInt ∧ 0 ≤ w.toInt * x.toInt ∧ w.toInt * x.toInt ≤ 100 ^ (m + 1) ∧ (1 ≤ w.toInt → 1 ≤ x.toInt → 1 ≤ w.toInt * x.toInt) := by
  have e1 : 0 ≤ w.toInt * x.toInt := Int.mul_nonneg h0 hx
  have e2 : w.toInt * x.toInt ≤ 100 ^ m * 100 := Int.mul_le_mul h1 hx2 hx (by have := h1; omega)
  have e3 : (100 : Int) ^ (m + 1) = 100 ^ m * 100 := by rw [Int.pow_succ]
  have e4 : (100 : Int) ^ m ≤ 10000000000 := by
    have : ∀ m : Nat, m ≤ 5 → (100 : Int) ^ m ≤ 10000000000 := by decide
    exact this m hm
  refine ⟨?_, e1, by rw [e3]; exact e2, fun a b => ?_⟩
  · rw [Int64.toInt_mul, Int32.toInt_toInt64]
    exact Int.bmod_eq_of_le (by omega) (by omega)
  · have := Int.mul_le_mul a b (by omega) (by omega)
    omega
/-! BY HAND: the weights of shaves, the rounds -/
theorem ts_sub {d : Nat} {mi : ev_MI} {Post : cm_K} {pc : Nat} {L L' : List (Nat × Value)} {st : List Value} {M : cm_M} (h : cm_At cm_ms d mi Post (pc, L', st, M)) (hL : ∀ q ∈ L', cm_look L q.1 = some q.2) : cm_At cm_ms d mi Post (pc, L, st, M) := cm_At_sub h hL
theorem ts_any {α : Type} {o : Option α} {p : α → Bool} (h : o.any p = true) : ∃ a, o = some a ∧ p a = true := by
  cases o with
  | none => cases h
  | some a => exact ⟨a, rfl, h⟩
def tc_yes : ab_Ct := (214, [(1, 0, [124]), (1, 0, [129, 132]), (3, 0, [])], [(0, 8, 0, (0, 0, []), (0, 0, []))], [], [], [([(3, 1, [])], [(0, 8, 0, (0, 0, []), (0, 0, [])), ((-2147483648), 2147483647, 0, (0, 0, []), (0, 0, []))], [])])
def tc_en : ab_Ct := (215, [(1, 0, [124]), (1, 0, [129, 132]), (3, 0, [])], [(0, 8, 0, (0, 0, []), (0, 0, []))], [], [], [([(3, 1, [])], [(0, 8, 0, (0, 0, []), (0, 0, [])), (0, 1, 0, (0, 0, []), (0, 0, []))], [])])
def tc_go : ab_Ct := (220, [(1, 0, [124]), (3, 0, [])], [((-2147483648), 2147483647, 0, (0, 0, []), (0, 0, []))], [], [(129, [0, 1, 2, 3, 4, 5, 10]), (132, [])], [([], [((-2147483648), 2147483647, 0, (0, 0, []), (0, 0, []))], [])])
def ts_S0 : ab_S := (111, [(0, (1, 0, [124])), (1, (3, 0, [])), (2, (3, 1, [])), (3, (6, 0, []))], [], [(0, 4, 0, (0, 0, []), (0, 0, [])), (0, 63, 0, (0, 0, []), (0, 0, []))], [])
def ts_p (f : Bool × ab_S) : Bool := f.1 && (decide (f.2.1 = 17) && (decide (f.2.2.1 = [(0, (1, 0, [124])), (1, (3, 0, [])), (2, (3, 4, []))]) && (decide (f.2.2.2.1 = []) && decide ((f.2.2.2.2.1[4]?).map (fun r => r.2.2) = some (1, (3, 1, []), (0, 1, []))))))
set_option maxRecDepth 1000000 in
theorem ts_chk : (ab_run (ab_cl cm_ms hp [(124, [32, 33])] [tc_yes, tc_en] [] 0) hp [(124, [32, 33])] (cm_P mr_281) mr_281.2.2.2.2.2.2 [(17, [0, 1, 2])] 60 ts_S0).any (fun fs => fs.all ts_p) = true := by decide +kernel
theorem ts_k2 {k s : Int32} {a b c e : Int} (h1 : a ≤ k.toInt) (h2 : k.toInt ≤ b) (h3 : c ≤ s.toInt) (h4 : s.toInt ≤ e) : ab_k [k, s] [(a, b, 0, (0, 0, []), (0, 0, [])), (c, e, 0, (0, 0, []), (0, 0, []))] := by
  refine ⟨rfl, fun j r x g1 g2 => ?_⟩
  match j with
  | 0 => cases g1; cases g2; exact ⟨⟨h1, h2⟩, Or.inl rfl⟩
  | 1 => cases g1; cases g2; exact ⟨⟨h3, h4⟩, Or.inl rfl⟩
  | j + 2 => cases g1
theorem ts_D2 {d : Nat} (hY : ab_CT cm_ms hp hN d tc_yes) (hE : ab_CT cm_ms hp hN d tc_en) {Post : cm_K} {k s : Int32} {w : Int64} {M : cm_M} (hM : ab_ok hp hN M) (hk0 : 0 ≤ k.toInt) (hk1 : k.toInt ≤ 4) (hs0 : 0 ≤ s.toInt) (hs1 : s.toInt ≤ 63) (IH : ∀ M', ab_ok hp hN M' → ab_fr [(124, [32, 33])] M M' → cm_At cm_ms d mr_281 Post (17, [(0, .ref 124), (1, .int k), (2, .int (s + 1))], [], M')) : cm_At cm_ms d mr_281 Post (111, [(0, .ref 124), (1, .int k), (2, .int s), (3, .long w)], [], M) := by
  refine cm_At_run cm_ms_ok (k := 281) rfl (stops := [(17, [0, 1, 2])]) (J := cm_At cm_ms d mr_281 Post) (fun S hS => hS) (n := 60) ?_
  obtain ⟨fs, hfs, hall⟩ := ts_any ts_chk
  have hus : ∀ c ∈ [tc_yes, tc_en], ab_CT cm_ms hp hN d c := List.forall_mem_cons.mpr ⟨hY, List.forall_mem_cons.mpr ⟨hE, fun _ h => absurd h List.not_mem_nil⟩⟩
  refine ab_run_ok (M0 := M) hNP (ab_cl_ok cm_ms_ok cm_ms_rc (inl := []) (hin := fun _ h => nomatch h) hNP hus 0) (cm_ms_rc 281 mr_281 rfl) 60 _ fs _ [k, s] hfs ⟨rfl, ?_, trivial, ts_k2 hk0 hk1 hs0 hs1, hM, ab_fr_rf _ _, fun q hq => nomatch hq⟩ (fun f hf ext C' hG => ?_)
  · intro q hq
    simp only [ts_S0, List.mem_cons, List.not_mem_nil, or_false] at hq
    rcases hq with rfl | rfl | rfl | rfl
    · exact ⟨_, rfl, 124, List.mem_singleton.mpr rfl, rfl⟩
    · exact ⟨_, rfl, k, rfl, rfl⟩
    · exact ⟨_, rfl, s, rfl, rfl⟩
    · exact ⟨_, rfl, w, rfl⟩
  · have h1 := List.all_eq_true.mp hall f hf
    simp only [ts_p, Bool.and_eq_true, decide_eq_true_eq] at h1
    obtain ⟨h1, h2, h3, h4, h5⟩ := h1
    refine ⟨fun _ => ?_, fun h0 => by rw [h1] at h0; cases h0⟩
    obtain ⟨g1, g2, g3, g4, g5⟩ := hG
    obtain ⟨pc, CL, sc, M'⟩ := C'
    dsimp only at g1 g2 g3 g4 g5
    rw [h2] at g1
    subst g1
    rw [h4] at g3
    have hsc := ab_s_nil g3
    subst hsc
    rw [h3] at g2
    obtain ⟨v0, l0, c0, hc0, rfl⟩ := g2 (0, (1, 0, [124])) List.mem_cons_self
    obtain ⟨v1, l1, x1, hx1, rfl⟩ := g2 (1, (3, 0, [])) (List.mem_cons_of_mem _ List.mem_cons_self)
    obtain ⟨v2, l2, x2, hx2, rfl⟩ := g2 (2, (3, 4, [])) (List.mem_cons_of_mem _ (List.mem_cons_of_mem _ List.mem_cons_self))
    have hc0 := List.mem_singleton.mp hc0
    subst hc0
    have e1 : some k = some x1 := hx1
    cases e1
    have e2 : x2 = s + 1 := by
      cases hr : f.2.2.2.2.1[4]? with
      | none => rw [hr] at h5; cases h5
      | some r =>
        rw [hr] at h5
        have h5 : r.2.2 = (1, (3, 1, []), (0, 1, [])) := Option.some.inj h5
        have h6 := (g4.2 4 r x2 hr hx2).2
        rw [h5] at h6
        rcases h6 with h6 | ⟨y, z, a1, a2, a3⟩
        · cases h6
        · have a1 : some s = some y := a1
          have a2 : some (Int32.ofInt 1) = some z := a2
          cases a1
          cases a2
          exact a3
    subst e2
    refine ts_sub (IH M' g5.1 g5.2.1) (fun q hq => ?_)
    simp only [List.mem_cons, List.not_mem_nil, or_false] at hq
    rcases hq with rfl | rfl | rfl
    · exact l0
    · exact l1
    · exact l2
/-! BY HAND: the weights of shaves, all of it -/
abbrev ts_md : ab_Md := [(124, [31, 32, 33]), (129, [0, 1, 2, 3, 4, 5, 10]), (132, [])]
abbrev ts_st : List (Nat × List Nat) := [(17, [0, 1, 2]), (35, [0, 1, 2, 3, 5]), (101, [0, 1, 2, 3]), (111, [0, 1, 2, 3])]
def ts_J1 (M0 M : cm_M) (s : Int32) : Prop := ab_ok hp hN M ∧ ab_fr ts_md M0 M ∧ 0 ≤ s.toInt ∧ s.toInt ≤ (ts_a M0).toInt + 1 ∧ 0 ≤ (M.2.1 124 31).toInt ∧ (M.2.1 124 31).toInt ≤ s.toInt * 1000000000000 ∧ (1 ≤ s.toInt → (M0.1 127 2).toInt < 100 → 1 ≤ (M.2.1 124 31).toInt) ∧ ((ts_a M0).toInt < s.toInt → (M0.1 127 2).toInt = 100 → 1 ≤ (M.2.1 124 31).toInt)
def ts_J2 (M0 M : cm_M) (s m : Int32) (w : Int64) : Prop := ts_J1 M0 M s ∧ s.toInt ≤ (ts_a M0).toInt ∧ 0 ≤ m.toInt ∧ m.toInt ≤ (M0.1 127 3).toInt ∧ 0 ≤ w.toInt ∧ w.toInt ≤ 100 ^ m.toInt.toNat ∧ (s = 0 → (M0.1 127 2).toInt < 100 → 1 ≤ w.toInt) ∧ (s = ts_a M0 → (M0.1 127 2).toInt = 100 → 1 ≤ w.toInt)
theorem ts_fr2 {M0 M M' : cm_M} {md : ab_Md} (h1 : ab_fr ts_md M0 M) (hm : ab_mds md ts_md = true) (h2 : ab_fr md M M') : ab_fr ts_md M0 M' := fun c i hc => by
  obtain ⟨a1, a2, a3⟩ := h1 c i hc
  obtain ⟨b1, b2, b3⟩ := h2 c i (ab_mds_ok hm hc)
  exact ⟨b1.trans a1, b2.trans a2, b3.trans a3⟩
theorem ts_hi {M : cm_M} (h : ab_ok hp hN M) : (0 ≤ (M.1 127 2).toInt ∧ (M.1 127 2).toInt ≤ 100) ∧ 0 ≤ (M.1 127 3).toInt ∧ (M.1 127 3).toInt ≤ 6 := by
  have h2 := h.1 127 2
  have h3 := h.1 127 3
  rw [show ab_hi hp 127 2 = (0, 100) from by decide +kernel] at h2
  rw [show ab_hi hp 127 3 = (0, 6) from by decide +kernel] at h3
  exact ⟨h2, h3⟩
theorem ts_an {M : cm_M} (h : ab_ok hp hN M) : 0 ≤ (ts_a M).toInt ∧ (ts_a M).toInt ≤ 63 ∧ ∀ m : Int32, 0 ≤ m.toInt → m.toInt < (M.1 127 3).toInt → (ts_a M >>> (m &&& 31)) &&& 1 = 1 := by
  obtain ⟨-, h0, h1⟩ := ts_hi h
  obtain ⟨n, hn, en, en2⟩ := ts_small (b := 7) h0 (by omega)
  have hx := ts_num n hn
  unfold ts_a
  rw [en] at *
  refine ⟨hx.1, hx.2.1, fun m g0 g1 => ?_⟩
  obtain ⟨q, hq, eq, eq2⟩ := ts_small (b := 7) g0 (by omega)
  rw [eq]
  exact hx.2.2 q (by omega)
theorem ts_D {d : Nat} (hY : ab_CT cm_ms hp hN d tc_yes) (hE : ab_CT cm_ms hp hN d tc_en) {Post : cm_K} {M0 M : cm_M} (hM0 : ab_ok hp hN M0) {k s m : Int32} {w : Int64} (hk0 : 0 ≤ k.toInt) (hk1 : k.toInt ≤ 4) (hJ : ts_J2 M0 M s m w) (IH : ∀ M', ts_J1 M0 M' (s + 1) → cm_At cm_ms d mr_281 Post (17, [(0, .ref 124), (1, .int k), (2, .int (s + 1))], [], M')) : cm_At cm_ms d mr_281 Post (101, [(0, .ref 124), (1, .int k), (2, .int s), (3, .long w)], [], M) := by
  obtain ⟨⟨j1, j2, j3, j4, j5, j6, j7, j8⟩, i1, i2, i3, i4, i5, i6, i7⟩ := hJ
  obtain ⟨a1, a2, -⟩ := ts_an hM0
  obtain ⟨-, n1, n2⟩ := ts_hi hM0
  have hw : w.toInt ≤ 1000000000000 := by
    have : ∀ q : Nat, q < 7 → (100 : Int) ^ q ≤ 1000000000000 := by decide
    have := this m.toInt.toNat (by omega)
    omega
  have hsum : (M.2.1 124 31 + w).toInt = (M.2.1 124 31).toInt + w.toInt := by
    rw [Int64.toInt_add]
    exact Int.bmod_eq_of_le (by omega) (by omega)
  have hinc := hd_inc (i := s) (by omega)
  refine cm_At_run cm_ms_ok (k := 281) rfl (stops := ts_st) (J := cm_At cm_ms d mr_281 Post) (fun S hS => hS) (n := 20) ?_
  show _ = 1 ∧ (cm_kind 124).1 = _ ∧ _ < _ ∧ (cm_kind 124).1 = _ ∧ _ < _ ∧ _ = false ∧ _ ∧ _
  refine ⟨rfl, by decide, by decide, by decide, by decide, by decide, rfl, ?_⟩
  refine ts_D2 hY hE (M := cm_wl M 124 31 (M.2.1 124 31 + w)) (hd_wl_ok j1) hk0 hk1 j3 (by omega) (fun M' g1 g2 => IH M' ?_)
  have e31 : M'.2.1 124 31 = M.2.1 124 31 + w := (g2 124 31 (by decide)).2.1
  refine ⟨g1, ts_fr2 (hd_wl_fr (by decide) j2) (by decide) g2, by omega, by omega, ?_, ?_, fun _ hs => ?_, fun ha hs => ?_⟩
  · rw [e31]; omega
  · rw [e31]; omega
  · rw [e31]
    by_cases h0 : s = 0
    · have := i6 h0 hs
      omega
    · have : s.toInt ≠ 0 := fun e => h0 (Int32.toInt_inj.mp (e.trans (by decide)))
      have := j7 (by omega) hs
      omega
  · rw [e31]
    have : s = ts_a M0 := Int32.toInt_inj.mp (by omega)
    have := i7 this hs
    omega
theorem ts_tail {d : Nat} (hd : 1 ≤ d) {Post : cm_K} (J : cm_S → Prop) (f : Nat) {k s m : Int32} {w : Int64} {M : cm_M} (h0 : 0 ≤ m.toInt) (h1 : m.toInt < 11) (H1 : J (35, [(0, .ref 124), (1, .int k), (2, .int s), (3, .long w), (5, .int (m + 1))], [], ts_f M)) (H2 : J (35, [(0, .ref 124), (1, .int k), (2, .int s), (3, .long w), (5, .int (m + 1))], [], cm_wi (ts_f M) 132 m.toNatClampNeg 0)) : cm_wp cm_ms (cm_Call cm_ms d) none (cm_P mr_281) mr_281.2.2.2.2.2.2 ts_st J (cm_ret mr_281.2.2.2.1 Post) (f + 30) (78, [(3, .long w), (0, .ref 124), (1, .int k), (2, .int s), (5, .int m)], [], ts_f M) := by
  show cm_cs [] ≤ 8 ∧ ev_nar1 _ _ = true ∧ (_ → _) ∧ cm_Call cm_ms d 168 [.int s, .int m] (ts_f M) _
  refine ⟨by decide, by decide, fun h => absurd h (by decide), cm_Call_up (ts_bit _ s m) hd (fun v M' hv => ?_)⟩
  obtain ⟨rfl, b, rfl, hb⟩ := hv
  show 0 ≤ _ ∧ (ev_cmp 0 b 0 = true → _) ∧ (ev_cmp 0 b 0 = false → _)
  refine ⟨(by decide : (0 : Int) ≤ 95), fun _ => ?_, fun _ => ?_⟩
  · show 5 < 6 ∧ 0 ≤ _ ∧ _
    exact ⟨by decide, (by decide : (0 : Int) ≤ 35), H1⟩
  · show (cm_kind 124).1 = _ ∧ _ < _ ∧ (cm_kind 132).1 = _ ∧ 0 ≤ m.toInt ∧ m.toInt < _ ∧ 5 < 6 ∧ 0 ≤ _ ∧ _
    exact ⟨by decide, by decide, by decide, h0, h1, by decide, (by decide : (0 : Int) ≤ 35), H2⟩
/-! BY HAND: the weights of shaves, the loops -/
theorem ts_wi {M : cm_M} {i : Nat} (h : ab_ok hp hN M) (hi : i < 11) : ab_ok hp hN (cm_wi M 132 i 0) := by
  have hb : ∀ i, i < 11 → (ab_hi hp 132 i).1 ≤ 0 ∧ 0 ≤ (ab_hi hp 132 i).2 := by decide +kernel
  refine ⟨fun a b => ?_, fun a b => h.2.1 a b, h.2.2⟩
  show ev_inb (ab_hi hp a b) (if a = 132 ∧ b = i then 0 else M.1 a b)
  split
  · rename_i e
    rw [e.1, e.2]
    exact hb i hi
  · exact h.1 a b
theorem ts_wf {M0 M : cm_M} {i : Nat} {x : Int32} (h : ab_fr ts_md M0 M) : ab_fr ts_md M0 (cm_wi M 132 i x) := by
  intro a b hm
  obtain ⟨h1, h2, h3⟩ := h a b hm
  refine ⟨?_, h2, h3⟩
  show (if a = 132 ∧ b = i then x else M.1 a b) = _
  rw [if_neg ?_]
  · exact h1
  · rintro ⟨rfl, rfl⟩
    cases hm
theorem ts_step {M0 M M' : cm_M} (hM0 : ab_ok hp hN M0) {s m x : Int32} {w : Int64} (hJ : ts_J2 M0 M s m w) (hJ' : ts_J1 M0 M' s) (hlt : m.toInt < (M0.1 127 3).toInt) (hx0 : 0 ≤ x.toInt) (hx1 : x.toInt ≤ 100) (f1 : s = 0 → (M0.1 127 2).toInt < 100 → 1 ≤ x.toInt) (f2 : s = ts_a M0 → (M0.1 127 2).toInt = 100 → 1 ≤ x.toInt) : ts_J2 M0 M' s (m + 1) (w * x.toInt64) := by
  obtain ⟨-, i1, i2, i3, i4, i5, i6, i7⟩ := hJ
  obtain ⟨-, n1, n2⟩ := ts_hi hM0
  have hinc := hd_inc (i := m) (by omega)
  obtain ⟨e1, e2, e3, e4⟩ := ts_mul (w := w) (x := x) (m := m.toInt.toNat) (by omega) i4 i5 hx0 hx1
  have em : (m + 1).toInt.toNat = m.toInt.toNat + 1 := by omega
  refine ⟨hJ', i1, by omega, by omega, by rw [e1]; exact e2, by rw [e1, em]; exact e3, fun a b => ?_, fun a b => ?_⟩
  · rw [e1]
    exact e4 (i6 a b) (f1 a b)
  · rw [e1]
    exact e4 (i7 a b) (f2 a b)
theorem ts_C {d : Nat} (hd : 1 ≤ d) {Post : cm_K} {M0 : cm_M} (hM0 : ab_ok hp hN M0) {k s : Int32} (HD : ∀ (M : cm_M) (m : Int32) (w : Int64), ts_J2 M0 M s m w → cm_At cm_ms d mr_281 Post (101, [(0, .ref 124), (1, .int k), (2, .int s), (3, .long w)], [], M)) : ∀ (j : Nat) (M : cm_M) (m : Int32) (w : Int64), ts_J2 M0 M s m w → (M0.1 127 3).toInt - m.toInt < (j : Int) → cm_At cm_ms d mr_281 Post (35, [(0, .ref 124), (1, .int k), (2, .int s), (3, .long w), (5, .int m)], [], M) := by
  intro j
  induction j with
  | zero =>
    intro M m w hJ hj
    exact absurd hJ.2.2.2.1 (by omega)
  | succ j ih =>
    intro M m w hJ hj
    have hok := hJ.1.1
    have e127 : ∀ i, M.1 127 i = M0.1 127 i := fun i => (hJ.1.2.1 127 i rfl).1
    obtain ⟨⟨s1, s2⟩, n1, n2⟩ := ts_hi hM0
    have i2 := hJ.2.2.1
    have IH' : ∀ (M' : cm_M) (x : Int32), m.toInt < (M0.1 127 3).toInt → ts_J1 M0 M' s → 0 ≤ x.toInt → x.toInt ≤ 100 → (s = 0 → (M0.1 127 2).toInt < 100 → 1 ≤ x.toInt) → (s = ts_a M0 → (M0.1 127 2).toInt = 100 → 1 ≤ x.toInt) → cm_At cm_ms d mr_281 Post (35, [(0, .ref 124), (1, .int k), (2, .int s), (3, .long (w * x.toInt64)), (5, .int (m + 1))], [], M') := fun M' x hlt hJ' g0 g1 f1 f2 => ih M' (m + 1) _ (ts_step hM0 hJ hJ' hlt g0 g1 f1 f2) (by have := hd_inc (i := m) (by omega); omega)
    have hJf : ts_J1 M0 (ts_f M) s := by rw [ts_f_eq hok]; exact hJ.1
    have h101 := HD M m w hJ
    rw [← ts_f_eq hok] at h101
    rw [← ts_f_eq hok]
    refine cm_At_run cm_ms_ok (k := 281) rfl (stops := ts_st) (J := cm_At cm_ms d mr_281 Post) (fun S hS => hS) (n := 80) ?_
    show (cm_kind 124).1 = _ ∧ _ < _ ∧ (cm_kind 127).1 = _ ∧ 0 ≤ _ ∧ _ < _ ∧ 0 ≤ _ ∧ (ev_cmp 3 m (M.1 127 3) = true → _) ∧ (ev_cmp 3 m (M.1 127 3) = false → _)
    refine ⟨by decide, by decide, by decide, by decide, by decide, (by decide : (0 : Int) ≤ 101), fun hc => h101, fun hc => ?_⟩
    have hlt : m.toInt < (M0.1 127 3).toInt := by
      have h1 : ¬ M.1 127 3 ≤ m := of_decide_eq_false hc
      rw [Int32.le_iff_toInt_le, e127 3] at h1
      omega
    have hJw : ts_J1 M0 (cm_wi (ts_f M) 132 m.toNatClampNeg 0) s := by
      obtain ⟨j1, j2, j3⟩ := hJf
      refine ⟨ts_wi j1 ?_, ts_wf j2, j3⟩
      have : (m.toNatClampNeg : Int) = m.toInt := by
        rw [Int32.toNatClampNeg]
        omega
      omega
    show cm_cs [.long w] ≤ 8 ∧ ev_nar1 _ _ = true ∧ (_ → _) ∧ cm_Call cm_ms d 168 [.int s, .int m] (ts_f M) _
    refine ⟨by show 2 ≤ 8; decide, by decide, fun h => absurd h (by decide), cm_Call_up (ts_bit _ s m) hd (fun v M' hv => ?_)⟩
    obtain ⟨rfl, b, rfl, hb⟩ := hv
    show 0 ≤ _ ∧ (ev_cmp 0 b 0 = true → _) ∧ (ev_cmp 0 b 0 = false → _)
    refine ⟨(by decide : (0 : Int) ≤ 66), fun hc2 => ?_, fun hc2 => ?_⟩
    · have hb0 : b = 0 := of_decide_eq_true hc2
      have hnb : (s >>> (m &&& 31)) &&& 1 ≠ 1 := by
        rcases hb with ⟨e, _⟩ | ⟨_, e⟩
        · rw [hb0] at e
          exact absurd e (by decide)
        · exact e
      have hx : (100 - M0.1 127 2).toInt = 100 - (M0.1 127 2).toInt := by
        have h1 : (100 : Int32).toInt = 100 := by decide
        rw [Int32.toInt_sub, h1, ev_bm (by omega) (by omega)]
      have f1 : s = 0 → (M0.1 127 2).toInt < 100 → 1 ≤ (100 - M0.1 127 2).toInt := fun _ h => by rw [hx]; omega
      have f2 : s = ts_a M0 → (M0.1 127 2).toInt = 100 → 1 ≤ (100 - M0.1 127 2).toInt := fun h _ => by
        rw [h] at hnb
        exact absurd ((ts_an hM0).2.2 m i2 hlt) hnb
      show (cm_kind 124).1 = _ ∧ _ < _ ∧ (cm_kind 127).1 = _ ∧ 0 ≤ _ ∧ _ < _ ∧ 3 + 1 < 6 ∧ _
      refine ⟨by decide, by decide, by decide, by decide, by decide, by decide, ?_⟩
      refine ts_tail hd (cm_At cm_ms d mr_281 Post) 30 (w := w * (100 - M.1 127 2).toInt64) i2 (by omega) ?_ ?_
      · rw [e127 2]
        exact IH' _ _ hlt hJf (by rw [hx]; omega) (by rw [hx]; omega) f1 f2
      · rw [e127 2]
        exact IH' _ _ hlt hJw (by rw [hx]; omega) (by rw [hx]; omega) f1 f2
    · have hb1 : (s >>> (m &&& 31)) &&& 1 = 1 := by
        rcases hb with ⟨_, e⟩ | ⟨e, _⟩
        · exact e
        · exact absurd e (of_decide_eq_false hc2)
      have f1 : s = 0 → (M0.1 127 2).toInt < 100 → 1 ≤ (M0.1 127 2).toInt := fun h _ => by
        rw [h] at hb1
        exact absurd hb1 (ts_zero m)
      have f2 : s = ts_a M0 → (M0.1 127 2).toInt = 100 → 1 ≤ (M0.1 127 2).toInt := fun _ h => by omega
      show (cm_kind 124).1 = _ ∧ _ < _ ∧ (cm_kind 127).1 = _ ∧ 0 ≤ _ ∧ _ < _ ∧ 0 ≤ _ ∧ 3 + 1 < 6 ∧ _
      refine ⟨by decide, by decide, by decide, by decide, by decide, (by decide : (0 : Int) ≤ 76), by decide, ?_⟩
      refine ts_tail hd (cm_At cm_ms d mr_281 Post) 31 (w := w * (M.1 127 2).toInt64) i2 (by omega) ?_ ?_
      · rw [e127 2]
        exact IH' _ _ hlt hJf s1 s2 f1 f2
      · rw [e127 2]
        exact IH' _ _ hlt hJw s1 s2 f1 f2
def ts_P (M0 : cm_M) : cm_K := fun v M' => v = none ∧ ab_ok hp hN M' ∧ ab_fr ts_md M0 M' ∧ M'.2.1 124 31 ≠ 0
theorem ts_B {d : Nat} (hd : 1 ≤ d) (hG : ab_CT cm_ms hp hN d tc_go) (hY : ab_CT cm_ms hp hN d tc_yes) (hE : ab_CT cm_ms hp hN d tc_en) {M0 : cm_M} (hM0 : ab_ok hp hN M0) {k : Int32} (hk0 : 0 ≤ k.toInt) (hk1 : k.toInt ≤ 4) : ∀ (j : Nat) (M : cm_M) (s : Int32), ts_J1 M0 M s → (ts_a M0).toInt + 1 - s.toInt < (j : Int) → cm_At cm_ms d mr_281 (ts_P M0) (17, [(0, .ref 124), (1, .int k), (2, .int s)], [], M) := by
  intro j
  induction j with
  | zero =>
    intro M s hJ hj
    exact absurd hJ.2.2.2.1 (by omega)
  | succ j ih =>
    intro M s hJ hj
    have hJ0 := hJ
    obtain ⟨j1, j2, j3, j4, j5, j6, j7, j8⟩ := hJ
    obtain ⟨a1, a2, -⟩ := ts_an hM0
    obtain ⟨⟨s1, s2⟩, n1, n2⟩ := ts_hi hM0
    have ea : ts_a M = ts_a M0 := by
      unfold ts_a
      rw [(j2 127 3 rfl).1]
    refine cm_At_run cm_ms_ok (k := 281) rfl (stops := ts_st) (J := cm_At cm_ms d mr_281 (ts_P M0)) (fun S hS => hS) (n := 40) ?_
    show cm_cs [.int s] ≤ 8 ∧ ev_nar1 _ _ = true ∧ (_ → _) ∧ cm_Call cm_ms d 208 [.ref 124] M _
    refine ⟨by show 1 ≤ 8; decide, by decide, fun _ => Or.inr rfl, cm_Call_up (ts_all j1) hd (fun v M' hv => ?_)⟩
    obtain ⟨rfl, rfl⟩ := hv
    show 0 ≤ _ ∧ (ev_cmp 4 s (ts_a M') = true → _) ∧ (ev_cmp 4 s (ts_a M') = false → _)
    refine ⟨(by decide : (0 : Int) ≤ 164), fun hc => ?_, fun hc => ?_⟩
    · show ts_P M0 none M'
      have h1 : ts_a M' < s := of_decide_eq_true hc
      rw [ea, Int32.lt_iff_toInt_lt] at h1
      refine ⟨rfl, j1, j2, fun e => ?_⟩
      rw [e] at j7 j8
      have h0 : (0 : Int64).toInt = 0 := by decide
      rw [h0] at j7 j8
      by_cases h : (M0.1 127 2).toInt < 100
      · have := j7 (by omega) h
        omega
      · have := j8 (by omega) (by omega)
        omega
    · have h1 : ¬ ts_a M' < s := of_decide_eq_false hc
      rw [ea, Int32.lt_iff_toInt_lt] at h1
      have hk : ab_k [1] [((-2147483648), 2147483647, 0, (0, 0, []), (0, 0, []))] := by
        refine ⟨rfl, fun j r x g1 g2 => ?_⟩
        match j with
        | 0 => cases g1; cases g2; exact ⟨ev_ful_in _, Or.inl rfl⟩
        | j + 1 => cases g1
      show cm_cs [] ≤ 8 ∧ ev_nar1 _ _ = true ∧ (_ → _) ∧ cm_Call cm_ms d 220 [.ref 124, .int 1] M' _
      refine ⟨by decide, by decide, fun _ => Or.inr rfl, cm_Call_up (hG [1] [.ref 124, .int 1] M' ⟨⟨124, List.mem_singleton.mpr rfl, rfl⟩, ⟨1, rfl, rfl⟩, trivial⟩ hk j1 (fun q hq => nomatch hq)) (Nat.le_refl _) (fun v M'' hv => ?_)⟩
      obtain ⟨o, ho, ext, p1, p2, p3⟩ := hv
      have ho := List.mem_singleton.mp ho
      subst ho
      have hvn := ab_s_nil p1
      cases v with
      | some v => cases hvn
      | none =>
        have e31 : M''.2.1 124 31 = M'.2.1 124 31 := (p3.2.1 124 31 (by decide)).2.1
        show 3 + 1 < 6 ∧ 5 < 6 ∧ _
        refine ⟨by decide, by decide, ?_⟩
        refine ts_C hd hM0 (fun M2 m w hJ2 => ts_D hY hE hM0 hk0 hk1 hJ2 (fun M3 hJ3 => ih M3 (s + 1) hJ3 (by have := hd_inc (i := s) (by omega); omega))) 7 M'' 0 1 ⟨⟨p3.1, ts_fr2 j2 (by decide) p3.2.1, j3, j4, by rw [e31]; exact j5, by rw [e31]; exact j6, by rw [e31]; exact j7, by rw [e31]; exact j8⟩, by omega, by decide, n1, by decide, by decide, fun _ _ => by decide, fun _ _ => by decide⟩ ?_
        have h0 : (0 : Int32).toInt = 0 := by decide
        rw [h0]
        omega
theorem hd_shaves {d : Nat} (hd : 1 ≤ d) (hG : ab_CT cm_ms hp hN d tc_go) (hY : ab_CT cm_ms hp hN d tc_yes) (hE : ab_CT cm_ms hp hN d tc_en) {M0 : cm_M} (hM0 : ab_ok hp hN M0) {k : Int32} (hk0 : 0 ≤ k.toInt) (hk1 : k.toInt ≤ 4) : cm_Call cm_ms (d + 1) 281 [.ref 124, .int k] M0 (ts_P M0) := by
  obtain ⟨a1, a2, -⟩ := ts_an hM0
  refine cm_Call_of cm_ms_ok (k := 281) (mi := mr_281) rfl (by show 2 ≤ 6; decide) ?_
  refine cm_At_run cm_ms_ok (k := 281) rfl (stops := ts_st) (J := cm_At cm_ms d mr_281 (ts_P M0)) (fun S hS => hS) (n := 30) ?_
  show (cm_kind 124).1 = _ ∧ _ < _ ∧ _ = false ∧ _ ∧ (cm_kind 124).1 = _ ∧ _ < _ ∧ _ = false ∧ _ ∧ (cm_kind 124).1 = _ ∧ _ < _ ∧ _ = false ∧ _ ∧ 2 < 6 ∧ _
  refine ⟨by decide, by decide, by decide, rfl, by decide, by decide, by decide, rfl, by decide, by decide, by decide, rfl, by decide, ?_⟩
  have h0 : (0 : Int32).toInt = 0 := by decide
  have h1 : (0 : Int64).toInt = 0 := by decide
  have e : (cm_wl (cm_wl (cm_wl M0 124 31 0) 124 32 0) 124 33 0).2.1 124 31 = 0 := rfl
  refine ts_B hd hG hY hE hM0 hk0 hk1 66 (cm_wl (cm_wl (cm_wl M0 124 31 0) 124 32 0) 124 33 0) 0 ⟨hd_wl_ok (hd_wl_ok (hd_wl_ok hM0)), hd_wl_fr (by decide) (hd_wl_fr (by decide) (hd_wl_fr (by decide) (ab_fr_rf _ _))), by decide, by rw [h0]; omega, by rw [e]; decide, by rw [e]; decide, fun h => by rw [h0] at h; omega, fun h => by rw [h0] at h; omega⟩ ?_
  rw [h0]
  omega
/-! AB: contracts -/
def inl0 : List (Nat × ev_MI) := [(1, mr_1), (2, mr_2), (3, mr_3), (4, mr_4), (5, mr_5), (6, mr_6), (7, mr_7), (25, mr_25), (33, mr_33), (38, mr_38), (65, mr_65), (66, mr_66), (68, mr_68), (69, mr_69), (85, mr_85), (91, mr_91), (92, mr_92), (119, mr_119), (127, mr_127), (137, mr_137), (141, mr_141), (142, mr_142), (148, mr_148), (157, mr_157), (158, mr_158), (159, mr_159), (160, mr_160), (161, mr_161), (162, mr_162), (163, mr_163), (164, mr_164), (165, mr_165), (166, mr_166), (167, mr_167), (168, mr_168), (173, mr_173), (174, mr_174), (175, mr_175), (177, mr_177), (179, mr_179), (180, mr_180), (184, mr_184), (185, mr_185), (186, mr_186), (187, mr_187), (188, mr_188), (193, mr_193), (205, mr_205), (206, mr_206), (207, mr_207), (208, mr_208), (209, mr_209), (233, mr_233), (241, mr_241), (275, mr_275)]
theorem inl0_ok : ∀ q ∈ inl0, cm_ms[q.1]? = some q.2 := List.forall_mem_cons.mpr ⟨rfl, List.forall_mem_cons.mpr ⟨rfl, List.forall_mem_cons.mpr ⟨rfl, List.forall_mem_cons.mpr ⟨rfl, List.forall_mem_cons.mpr ⟨rfl, List.forall_mem_cons.mpr ⟨rfl, List.forall_mem_cons.mpr ⟨rfl, List.forall_mem_cons.mpr ⟨rfl, List.forall_mem_cons.mpr ⟨rfl, List.forall_mem_cons.mpr ⟨rfl, List.forall_mem_cons.mpr ⟨rfl, List.forall_mem_cons.mpr ⟨rfl, List.forall_mem_cons.mpr ⟨rfl, List.forall_mem_cons.mpr ⟨rfl, List.forall_mem_cons.mpr ⟨rfl, List.forall_mem_cons.mpr ⟨rfl, List.forall_mem_cons.mpr ⟨rfl, List.forall_mem_cons.mpr ⟨rfl, List.forall_mem_cons.mpr ⟨rfl, List.forall_mem_cons.mpr ⟨rfl, List.forall_mem_cons.mpr ⟨rfl, List.forall_mem_cons.mpr ⟨rfl, List.forall_mem_cons.mpr ⟨rfl, List.forall_mem_cons.mpr ⟨rfl, List.forall_mem_cons.mpr ⟨rfl, List.forall_mem_cons.mpr ⟨rfl, List.forall_mem_cons.mpr ⟨rfl, List.forall_mem_cons.mpr ⟨rfl, List.forall_mem_cons.mpr ⟨rfl, List.forall_mem_cons.mpr ⟨rfl, List.forall_mem_cons.mpr ⟨rfl, List.forall_mem_cons.mpr ⟨rfl, List.forall_mem_cons.mpr ⟨rfl, List.forall_mem_cons.mpr ⟨rfl, List.forall_mem_cons.mpr ⟨rfl, List.forall_mem_cons.mpr ⟨rfl, List.forall_mem_cons.mpr ⟨rfl, List.forall_mem_cons.mpr ⟨rfl, List.forall_mem_cons.mpr ⟨rfl, List.forall_mem_cons.mpr ⟨rfl, List.forall_mem_cons.mpr ⟨rfl, List.forall_mem_cons.mpr ⟨rfl, List.forall_mem_cons.mpr ⟨rfl, List.forall_mem_cons.mpr ⟨rfl, List.forall_mem_cons.mpr ⟨rfl, List.forall_mem_cons.mpr ⟨rfl, List.forall_mem_cons.mpr ⟨rfl, List.forall_mem_cons.mpr ⟨rfl, List.forall_mem_cons.mpr ⟨rfl, List.forall_mem_cons.mpr ⟨rfl, List.forall_mem_cons.mpr ⟨rfl, List.forall_mem_cons.mpr ⟨rfl, List.forall_mem_cons.mpr ⟨rfl, List.forall_mem_cons.mpr ⟨rfl, List.forall_mem_cons.mpr ⟨rfl, fun _ h => nomatch h⟩⟩⟩⟩⟩⟩⟩⟩⟩⟩⟩⟩⟩⟩⟩⟩⟩⟩⟩⟩⟩⟩⟩⟩⟩⟩⟩⟩⟩⟩⟩⟩⟩⟩⟩⟩⟩⟩⟩⟩⟩⟩⟩⟩⟩⟩⟩⟩⟩⟩⟩⟩⟩⟩⟩
/-- Integer.bitCount (42 steps) -/
def ct_0 : ab_Ct := (0, [(3, 0, [])], [((-2147483648), 2147483647, 0, (0, 0, []), (0, 0, []))], [], [], [([(3, 1, [])], [((-2147483648), 2147483647, 0, (0, 0, []), (0, 0, [])), (0, 63, 0, (0, 0, []), (0, 0, []))], [])])
set_option maxRecDepth 1000000 in
theorem ck_0 : ab_CT cm_ms hp hN 1 ct_0 := ab_chk_ok (us := []) (inl := inl0) (hin := inl0_ok) (d := 0) (dd := 0) (n := 20000) (tms := []) cm_ms_ok cm_ms_rc hNP (fun _ h => absurd h List.not_mem_nil) (by decide +kernel) (by decide +kernel)
/-- Town.clear@6 (34 steps) -/
def ct_1 : ab_Ct := (8, [(1, 0, [6])], [], [], [(6, [0, 1, 2, 3, 9, 15, 18]), (18, [])], [([], [], [])])
set_option maxRecDepth 1000000 in
theorem ck_1 : ab_CT cm_ms hp hN 1 ct_1 := ab_chk_ok (us := []) (inl := inl0) (hin := inl0_ok) (d := 0) (dd := 0) (n := 20000) (tms := [((37, [(0, (1, 0, [6])), (1, (3, 0, []))], [], [(0, 3, 0, (0, 0, []), (0, 0, []))], [(6, 0, (0, 0, [])), (6, 1, (0, 0, [])), (6, 2, (0, 0, [])), (6, 3, (0, 0, [])), (6, 9, (0, 0, [])), (6, 15, (0, 0, [])), (6, 18, (0, 0, []))]), [(0, 1, (0, 0, [])), ((-1), 2147483648, (3, 0, []))])]) cm_ms_ok cm_ms_rc hNP (fun _ h => absurd h List.not_mem_nil) (by decide +kernel) (by decide +kernel)
/-- Town.clear@19 (34 steps) -/
def ct_2 : ab_Ct := (8, [(1, 0, [19])], [], [], [(19, [0, 1, 2, 3, 9, 15, 18]), (31, [])], [([], [], [])])
set_option maxRecDepth 1000000 in
theorem ck_2 : ab_CT cm_ms hp hN 1 ct_2 := ab_chk_ok (us := []) (inl := inl0) (hin := inl0_ok) (d := 0) (dd := 0) (n := 20000) (tms := [((37, [(0, (1, 0, [19])), (1, (3, 0, []))], [], [(0, 3, 0, (0, 0, []), (0, 0, []))], [(19, 0, (0, 0, [])), (19, 1, (0, 0, [])), (19, 2, (0, 0, [])), (19, 3, (0, 0, [])), (19, 9, (0, 0, [])), (19, 15, (0, 0, [])), (19, 18, (0, 0, []))]), [(0, 1, (0, 0, [])), ((-1), 2147483648, (3, 0, []))])]) cm_ms_ok cm_ms_rc hNP (fun _ h => absurd h List.not_mem_nil) (by decide +kernel) (by decide +kernel)
/-- Town.addMan@6 (42 steps) -/
def ct_3 : ab_Ct := (9, [(1, 0, [6]), (3, 0, []), (3, 1, []), (3, 2, [])], [((-2147483648), 2147483647, 0, (0, 0, []), (0, 0, [])), ((-2147483648), 2147483647, 0, (0, 0, []), (0, 0, [])), ((-2147483648), 2147483647, 0, (0, 0, []), (0, 0, []))], [], [(6, [3]), (7, []), (8, []), (9, []), (10, []), (11, [])], [([], [((-2147483648), 2147483647, 0, (0, 0, []), (0, 0, [])), ((-2147483648), 2147483647, 0, (0, 0, []), (0, 0, [])), ((-2147483648), 2147483647, 0, (0, 0, []), (0, 0, []))], [])])
set_option maxRecDepth 1000000 in
theorem ck_3 : ab_CT cm_ms hp hN 1 ct_3 := ab_chk_ok (us := []) (inl := inl0) (hin := inl0_ok) (d := 0) (dd := 0) (n := 20000) (tms := []) cm_ms_ok cm_ms_rc hNP (fun _ h => absurd h List.not_mem_nil) (by decide +kernel) (by decide +kernel)
/-- Town.addMan@19 (42 steps) -/
def ct_4 : ab_Ct := (9, [(1, 0, [19]), (3, 0, []), (3, 1, []), (3, 2, [])], [((-2147483648), 2147483647, 0, (0, 0, []), (0, 0, [])), ((-2147483648), 2147483647, 0, (0, 0, []), (0, 0, [])), ((-2147483648), 2147483647, 0, (0, 0, []), (0, 0, []))], [], [(19, [3]), (20, []), (21, []), (22, []), (23, []), (24, [])], [([], [((-2147483648), 2147483647, 0, (0, 0, []), (0, 0, [])), ((-2147483648), 2147483647, 0, (0, 0, []), (0, 0, [])), ((-2147483648), 2147483647, 0, (0, 0, []), (0, 0, []))], [])])
set_option maxRecDepth 1000000 in
theorem ck_4 : ab_CT cm_ms hp hN 1 ct_4 := ab_chk_ok (us := []) (inl := inl0) (hin := inl0_ok) (d := 0) (dd := 0) (n := 20000) (tms := []) cm_ms_ok cm_ms_rc hNP (fun _ h => absurd h List.not_mem_nil) (by decide +kernel) (by decide +kernel)
/-- Town.addMotion@6 (36 steps) -/
def ct_5 : ab_Ct := (10, [(1, 0, [6]), (3, 0, []), (3, 1, []), (3, 2, [])], [((-2147483648), 2147483647, 0, (0, 0, []), (0, 0, [])), ((-2147483648), 2147483647, 0, (0, 0, []), (0, 0, [])), ((-2147483648), 2147483647, 0, (0, 0, []), (0, 0, []))], [], [(6, [9]), (12, []), (13, []), (14, []), (15, [])], [([], [((-2147483648), 2147483647, 0, (0, 0, []), (0, 0, [])), ((-2147483648), 2147483647, 0, (0, 0, []), (0, 0, [])), ((-2147483648), 2147483647, 0, (0, 0, []), (0, 0, []))], [])])
set_option maxRecDepth 1000000 in
theorem ck_5 : ab_CT cm_ms hp hN 1 ct_5 := ab_chk_ok (us := []) (inl := inl0) (hin := inl0_ok) (d := 0) (dd := 0) (n := 20000) (tms := []) cm_ms_ok cm_ms_rc hNP (fun _ h => absurd h List.not_mem_nil) (by decide +kernel) (by decide +kernel)
/-- Town.addMotion@19 (36 steps) -/
def ct_6 : ab_Ct := (10, [(1, 0, [19]), (3, 0, []), (3, 1, []), (3, 2, [])], [((-2147483648), 2147483647, 0, (0, 0, []), (0, 0, [])), ((-2147483648), 2147483647, 0, (0, 0, []), (0, 0, [])), ((-2147483648), 2147483647, 0, (0, 0, []), (0, 0, []))], [], [(19, [9]), (25, []), (26, []), (27, []), (28, [])], [([], [((-2147483648), 2147483647, 0, (0, 0, []), (0, 0, [])), ((-2147483648), 2147483647, 0, (0, 0, []), (0, 0, [])), ((-2147483648), 2147483647, 0, (0, 0, []), (0, 0, []))], [])])
set_option maxRecDepth 1000000 in
theorem ck_6 : ab_CT cm_ms hp hN 1 ct_6 := ab_chk_ok (us := []) (inl := inl0) (hin := inl0_ok) (d := 0) (dd := 0) (n := 20000) (tms := []) cm_ms_ok cm_ms_rc hNP (fun _ h => absurd h List.not_mem_nil) (by decide +kernel) (by decide +kernel)
/-- Town.addChair@6 (18 steps) -/
def ct_7 : ab_Ct := (11, [(1, 0, [6]), (3, 0, [])], [((-2147483648), 2147483647, 0, (0, 0, []), (0, 0, []))], [], [(6, [15]), (17, [])], [([], [((-2147483648), 2147483647, 0, (0, 0, []), (0, 0, []))], [])])
set_option maxRecDepth 1000000 in
theorem ck_7 : ab_CT cm_ms hp hN 1 ct_7 := ab_chk_ok (us := []) (inl := inl0) (hin := inl0_ok) (d := 0) (dd := 0) (n := 20000) (tms := []) cm_ms_ok cm_ms_rc hNP (fun _ h => absurd h List.not_mem_nil) (by decide +kernel) (by decide +kernel)
/-- Town.addChair@19 (18 steps) -/
def ct_8 : ab_Ct := (11, [(1, 0, [19]), (3, 0, [])], [((-2147483648), 2147483647, 0, (0, 0, []), (0, 0, []))], [], [(19, [15]), (30, [])], [([], [((-2147483648), 2147483647, 0, (0, 0, []), (0, 0, []))], [])])
set_option maxRecDepth 1000000 in
theorem ck_8 : ab_CT cm_ms hp hN 1 ct_8 := ab_chk_ok (us := []) (inl := inl0) (hin := inl0_ok) (d := 0) (dd := 0) (n := 20000) (tms := []) cm_ms_ok cm_ms_rc hNP (fun _ h => absurd h List.not_mem_nil) (by decide +kernel) (by decide +kernel)
/-- Town.bitsOf@10 (24 steps) -/
def ct_9 : ab_Ct := (12, [(1, 0, [10, 23]), (3, 0, [])], [((-2147483648), 2147483647, 0, (0, 0, []), (0, 0, []))], [], [], [([(3, 1, [])], [((-2147483648), 2147483647, 0, (0, 0, []), (0, 0, [])), ((-2147483648), 2147483647, 0, (0, 0, []), (0, 0, []))], [])])
set_option maxRecDepth 1000000 in
theorem ck_9 : ab_CT cm_ms hp hN 2 ct_9 := ab_chk_ok (us := [ct_0]) (inl := inl0) (hin := inl0_ok) (d := 1) (dd := 0) (n := 20000) (tms := [((4, [(0, (1, 0, [10, 23])), (1, (3, 0, [])), (2, (3, 1, [])), (3, (3, 2, []))], [], [((-2147483648), 2147483647, 0, (0, 0, []), (0, 0, [])), ((-2147483648), 2147483647, 0, (0, 0, []), (0, 0, [])), (0, 6, 0, (0, 0, []), (0, 0, []))], []), [(0, 1, (0, 0, [])), ((-1), 2147483648, (3, 2, []))])]) cm_ms_ok cm_ms_rc hNP (List.forall_mem_cons.mpr ⟨ab_CT_up ck_0 (by decide), fun _ h => absurd h List.not_mem_nil⟩) (by decide +kernel) (by decide +kernel)
/-- Town.bitsOf@11 (24 steps) -/
def ct_10 : ab_Ct := (12, [(1, 0, [11, 24]), (3, 0, [])], [((-2147483648), 2147483647, 0, (0, 0, []), (0, 0, []))], [], [], [([(3, 1, [])], [((-2147483648), 2147483647, 0, (0, 0, []), (0, 0, [])), ((-2147483648), 2147483647, 0, (0, 0, []), (0, 0, []))], [])])
set_option maxRecDepth 1000000 in
theorem ck_10 : ab_CT cm_ms hp hN 2 ct_10 := ab_chk_ok (us := [ct_0]) (inl := inl0) (hin := inl0_ok) (d := 1) (dd := 0) (n := 20000) (tms := [((4, [(0, (1, 0, [11, 24])), (1, (3, 0, [])), (2, (3, 1, [])), (3, (3, 2, []))], [], [((-2147483648), 2147483647, 0, (0, 0, []), (0, 0, [])), ((-2147483648), 2147483647, 0, (0, 0, []), (0, 0, [])), (0, 6, 0, (0, 0, []), (0, 0, []))], []), [(0, 1, (0, 0, [])), ((-1), 2147483648, (3, 2, []))])]) cm_ms_ok cm_ms_rc hNP (List.forall_mem_cons.mpr ⟨ab_CT_up ck_0 (by decide), fun _ h => absurd h List.not_mem_nil⟩) (by decide +kernel) (by decide +kernel)
/-- Town.bitsOf@15 (24 steps) -/
def ct_11 : ab_Ct := (12, [(1, 0, [15, 28]), (3, 0, [])], [((-2147483648), 2147483647, 0, (0, 0, []), (0, 0, []))], [], [], [([(3, 1, [])], [((-2147483648), 2147483647, 0, (0, 0, []), (0, 0, [])), ((-2147483648), 2147483647, 0, (0, 0, []), (0, 0, []))], [])])
set_option maxRecDepth 1000000 in
theorem ck_11 : ab_CT cm_ms hp hN 2 ct_11 := ab_chk_ok (us := [ct_0]) (inl := inl0) (hin := inl0_ok) (d := 1) (dd := 0) (n := 20000) (tms := [((4, [(0, (1, 0, [15, 28])), (1, (3, 0, [])), (2, (3, 1, [])), (3, (3, 2, []))], [], [((-2147483648), 2147483647, 0, (0, 0, []), (0, 0, [])), ((-2147483648), 2147483647, 0, (0, 0, []), (0, 0, [])), (0, 5, 0, (0, 0, []), (0, 0, []))], []), [(0, 1, (0, 0, [])), ((-1), 2147483648, (3, 2, []))])]) cm_ms_ok cm_ms_rc hNP (List.forall_mem_cons.mpr ⟨ab_CT_up ck_0 (by decide), fun _ h => absurd h List.not_mem_nil⟩) (by decide +kernel) (by decide +kernel)
/-- Town.votesOf (27 steps) -/
def ct_12 : ab_Ct := (13, [(1, 0, [6, 19]), (3, 0, [])], [((-2147483648), 2147483647, 0, (0, 0, []), (0, 0, []))], [], [], [([(3, 1, [])], [((-2147483648), 2147483647, 0, (0, 0, []), (0, 0, [])), ((-2147483648), 2147483647, 0, (0, 0, []), (0, 0, []))], [])])
set_option maxRecDepth 1000000 in
theorem ck_12 : ab_CT cm_ms hp hN 1 ct_12 := ab_chk_ok (us := []) (inl := inl0) (hin := inl0_ok) (d := 0) (dd := 0) (n := 20000) (tms := [((4, [(0, (1, 0, [6, 19])), (1, (3, 0, [])), (2, (3, 1, [])), (3, (3, 2, []))], [], [((-2147483648), 2147483647, 0, (0, 0, []), (0, 0, [])), ((-2147483648), 2147483647, 0, (0, 0, []), (0, 0, [])), (0, 6, 0, (0, 0, []), (0, 0, []))], []), [(0, 1, (0, 0, [])), ((-1), 2147483648, (3, 2, []))])]) cm_ms_ok cm_ms_rc hNP (fun _ h => absurd h List.not_mem_nil) (by decide +kernel) (by decide +kernel)
/-- Town.amenders (37 steps) -/
def ct_13 : ab_Ct := (14, [(1, 0, [6, 19]), (3, 0, [])], [(0, 4, 0, (0, 0, []), (0, 0, []))], [], [], [([(3, 1, [])], [(0, 4, 0, (0, 0, []), (0, 0, [])), ((-2147483648), 2147483647, 0, (0, 0, []), (0, 0, []))], [])])
set_option maxRecDepth 1000000 in
theorem ck_13 : ab_CT cm_ms hp hN 1 ct_13 := ab_chk_ok (us := []) (inl := inl0) (hin := inl0_ok) (d := 0) (dd := 0) (n := 20000) (tms := [((8, [(0, (1, 0, [6, 19])), (1, (3, 0, [])), (2, (3, 1, [])), (3, (3, 2, []))], [], [(0, 4, 0, (0, 0, []), (0, 0, [])), ((-2147483648), 2147483647, 0, (0, 0, []), (0, 0, [])), (1, 5, 0, (0, 0, []), (0, 0, []))], []), [(0, 1, (0, 0, [])), ((-1), 2147483648, (3, 2, []))])]) cm_ms_ok cm_ms_rc hNP (fun _ h => absurd h List.not_mem_nil) (by decide +kernel) (by decide +kernel)
/-- Town.rowUpTo (80 steps) -/
def ct_14 : ab_Ct := (15, [(1, 0, [6, 19]), (3, 0, [])], [((-2147483648), 2147483647, 0, (0, 0, []), (0, 0, []))], [], [(16, []), (29, [])], [([(3, 1, [])], [((-2147483648), 2147483647, 0, (0, 0, []), (0, 0, [])), ((-2147483648), 2147483647, 0, (0, 0, []), (0, 0, []))], [])])
set_option maxRecDepth 1000000 in
theorem ck_14 : ab_CT cm_ms hp hN 1 ct_14 := ab_chk_ok (us := []) (inl := inl0) (hin := inl0_ok) (d := 0) (dd := 0) (n := 20000) (tms := [((2, [(0, (1, 0, [6, 19])), (1, (3, 0, [])), (2, (3, 1, []))], [], [((-2147483648), 2147483647, 0, (0, 0, []), (0, 0, [])), (0, 5, 0, (0, 0, []), (0, 0, []))], []), [(0, 1, (0, 0, [])), ((-1), 2147483648, (3, 1, [])), (0, 1000, (0, 0, [])), (0, 0, (0, 0, []))]), ((21, [(0, (1, 0, [6, 19])), (1, (3, 0, [])), (2, (3, 1, [])), (3, (3, 2, []))], [], [(0, 2147483647, 0, (0, 0, []), (0, 0, [])), (0, 4, 0, (0, 0, []), (0, 0, [])), (0, 4, 0, (0, 0, []), (0, 0, []))], []), [(0, 1, (0, 0, [])), ((-1), 2147483648, (3, 1, [])), (0, 1, (0, 0, [])), ((-1), 2147483648, (3, 2, []))])]) cm_ms_ok cm_ms_rc hNP (fun _ h => absurd h List.not_mem_nil) (by decide +kernel) (by decide +kernel)
/-- Town.quarrelsTold (8 steps) -/
def ct_15 : ab_Ct := (16, [(1, 0, [6, 19])], [], [], [], [([(3, 0, [])], [((-2147483648), 2147483647, 0, (0, 0, []), (0, 0, []))], [])])
set_option maxRecDepth 1000000 in
theorem ck_15 : ab_CT cm_ms hp hN 3 ct_15 := ab_chk_ok (us := [ct_10]) (inl := inl0) (hin := inl0_ok) (d := 2) (dd := 0) (n := 20000) (tms := []) cm_ms_ok cm_ms_rc hNP (List.forall_mem_cons.mpr ⟨ab_CT_up ck_10 (by decide), fun _ h => absurd h List.not_mem_nil⟩) (by decide +kernel) (by decide +kernel)
/-- Town.quarrelsAcross (32 steps) -/
def ct_16 : ab_Ct := (17, [(1, 0, [6, 19]), (3, 0, [])], [((-2147483648), 2147483647, 0, (0, 0, []), (0, 0, []))], [], [], [([(3, 1, [])], [((-2147483648), 2147483647, 0, (0, 0, []), (0, 0, [])), ((-2147483648), 2147483647, 0, (0, 0, []), (0, 0, []))], [])])
set_option maxRecDepth 1000000 in
theorem ck_16 : ab_CT cm_ms hp hN 2 ct_16 := ab_chk_ok (us := [ct_0]) (inl := inl0) (hin := inl0_ok) (d := 1) (dd := 0) (n := 20000) (tms := [((4, [(0, (1, 0, [6, 19])), (1, (3, 0, [])), (2, (3, 1, [])), (3, (3, 2, []))], [], [((-2147483648), 2147483647, 0, (0, 0, []), (0, 0, [])), ((-2147483648), 2147483647, 0, (0, 0, []), (0, 0, [])), (0, 6, 0, (0, 0, []), (0, 0, []))], []), [(0, 1, (0, 0, [])), ((-1), 2147483648, (3, 2, []))])]) cm_ms_ok cm_ms_rc hNP (List.forall_mem_cons.mpr ⟨ab_CT_up ck_0 (by decide), fun _ h => absurd h List.not_mem_nil⟩) (by decide +kernel) (by decide +kernel)
/-- Town.bestSide (29 steps) -/
def ct_17 : ab_Ct := (18, [(1, 0, [6, 19])], [], [], [], [([(3, 0, [])], [(0, 63, 0, (0, 0, []), (0, 0, []))], [])])
set_option maxRecDepth 1000000 in
theorem ck_17 : ab_CT cm_ms hp hN 3 ct_17 := ab_chk_ok (us := [ct_16]) (inl := inl0) (hin := inl0_ok) (d := 2) (dd := 0) (n := 20000) (tms := [((6, [(0, (1, 0, [6, 19])), (1, (3, 0, [])), (2, (3, 1, [])), (3, (3, 2, []))], [], [(0, 63, 0, (0, 0, []), (0, 0, [])), (0, 2147483647, 0, (0, 0, []), (0, 0, [])), (0, 65, 0, (0, 0, []), (0, 0, []))], []), [(0, 1, (0, 0, [])), ((-1), 2147483648, (3, 2, []))])]) cm_ms_ok cm_ms_rc hNP (List.forall_mem_cons.mpr ⟨ab_CT_up ck_16 (by decide), fun _ h => absurd h List.not_mem_nil⟩) (by decide +kernel) (by decide +kernel)
/-- Town.isQuietWithout (29 steps) -/
def ct_18 : ab_Ct := (20, [(1, 0, [6, 19]), (3, 0, [])], [((-2147483648), 2147483647, 0, (0, 0, []), (0, 0, []))], [], [], [([(3, 1, [])], [((-2147483648), 2147483647, 0, (0, 0, []), (0, 0, [])), (0, 1, 0, (0, 0, []), (0, 0, []))], [])])
set_option maxRecDepth 1000000 in
theorem ck_18 : ab_CT cm_ms hp hN 1 ct_18 := ab_chk_ok (us := []) (inl := inl0) (hin := inl0_ok) (d := 0) (dd := 0) (n := 20000) (tms := [((2, [(0, (1, 0, [6, 19])), (1, (3, 0, [])), (2, (3, 1, []))], [], [((-2147483648), 2147483647, 0, (0, 0, []), (0, 0, [])), (0, 6, 0, (0, 0, []), (0, 0, []))], []), [(0, 1, (0, 0, [])), ((-1), 2147483648, (3, 1, []))])]) cm_ms_ok cm_ms_rc hNP (fun _ h => absurd h List.not_mem_nil) (by decide +kernel) (by decide +kernel)
/-- Town.fewestQuarrellers (33 steps) -/
def ct_19 : ab_Ct := (19, [(1, 0, [6, 19])], [], [], [], [([(3, 0, [])], [(0, 63, 0, (0, 0, []), (0, 0, []))], [])])
set_option maxRecDepth 1000000 in
theorem ck_19 : ab_CT cm_ms hp hN 2 ct_19 := ab_chk_ok (us := [ct_0, ct_18]) (inl := inl0) (hin := inl0_ok) (d := 1) (dd := 0) (n := 20000) (tms := [((7, [(0, (1, 0, [6, 19])), (1, (3, 0, [])), (2, (3, 1, [])), (3, (3, 2, []))], [], [(0, 63, 0, (0, 0, []), (0, 0, [])), (0, 63, 0, (0, 0, []), (0, 0, [])), (0, 64, 0, (0, 0, []), (0, 0, []))], []), [(0, 1, (0, 0, [])), ((-1), 2147483648, (3, 2, []))])]) cm_ms_ok cm_ms_rc hNP (List.forall_mem_cons.mpr ⟨ab_CT_up ck_0 (by decide), List.forall_mem_cons.mpr ⟨ab_CT_up ck_18 (by decide), fun _ h => absurd h List.not_mem_nil⟩⟩) (by decide +kernel) (by decide +kernel)
/-- Town.wayBetween (37 steps) -/
def ct_20 : ab_Ct := (21, [(1, 0, [6, 19]), (3, 0, []), (3, 1, [])], [((-2147483648), 2147483647, 0, (0, 0, []), (0, 0, [])), ((-2147483648), 2147483647, 0, (0, 0, []), (0, 0, []))], [], [], [([(3, 2, [])], [((-2147483648), 2147483647, 0, (0, 0, []), (0, 0, [])), ((-2147483648), 2147483647, 0, (0, 0, []), (0, 0, [])), ((-2147483648), 2147483647, 0, (0, 0, []), (0, 0, []))], [])])
set_option maxRecDepth 1000000 in
theorem ck_20 : ab_CT cm_ms hp hN 1 ct_20 := ab_chk_ok (us := []) (inl := inl0) (hin := inl0_ok) (d := 0) (dd := 0) (n := 20000) (tms := []) cm_ms_ok cm_ms_rc hNP (fun _ h => absurd h List.not_mem_nil) (by decide +kernel) (by decide +kernel)
/-- Minutes.begin (27 steps) -/
def ct_21 : ab_Ct := (22, [(1, 0, mins), (1, 0, [6, 19])], [], [], [(32, [2, 3]), (33, []), (34, []), (35, [2, 3]), (36, []), (37, []), (41, [2, 3]), (42, []), (43, []), (44, [2, 3]), (45, []), (46, []), (47, [2, 3]), (48, []), (49, []), (50, [2, 3]), (51, []), (52, []), (53, [2, 3]), (54, []), (55, []), (56, [2, 3]), (57, []), (58, []), (59, [2, 3]), (60, []), (61, []), (62, [2, 3]), (63, []), (64, []), (65, [2, 3]), (66, []), (67, []), (68, [2, 3]), (69, []), (70, []), (71, [2, 3]), (72, []), (73, []), (74, [2, 3]), (75, []), (76, []), (77, [2, 3]), (78, []), (79, []), (80, [2, 3]), (81, []), (82, []), (83, [2, 3]), (84, []), (85, []), (86, [2, 3]), (87, []), (88, []), (89, [2, 3]), (90, []), (91, []), (92, [2, 3]), (93, []), (94, []), (95, [2, 3]), (96, []), (97, []), (100, [2, 3]), (101, []), (102, []), (103, [2, 3]), (104, []), (105, []), (106, [2, 3]), (107, []), (108, []), (109, [2, 3]), (110, []), (111, []), (112, [2, 3]), (113, []), (114, []), (120, [2, 3]), (121, []), (122, [])], [([], [], [])])
set_option maxRecDepth 1000000 in
theorem ck_21 : ab_CT cm_ms hp hN 1 ct_21 := ab_chk_ok (us := []) (inl := inl0) (hin := inl0_ok) (d := 0) (dd := 0) (n := 20000) (tms := [((17, [(0, (1, 0, mins)), (2, (3, 0, []))], [], [(0, 3, 0, (0, 0, []), (0, 0, []))], []), [(0, 1, (0, 0, [])), ((-1), 2147483648, (3, 0, []))])]) cm_ms_ok cm_ms_rc hNP (fun _ h => absurd h List.not_mem_nil) (by decide +kernel) (by decide +kernel)
/-- Minutes.copy (25 steps) -/
def ct_22 : ab_Ct := (23, [(1, 0, mins), (1, 0, mins)], [], [], [(32, [2, 3]), (33, []), (34, []), (35, [2, 3]), (36, []), (37, []), (41, [2, 3]), (42, []), (43, []), (44, [2, 3]), (45, []), (46, []), (47, [2, 3]), (48, []), (49, []), (50, [2, 3]), (51, []), (52, []), (53, [2, 3]), (54, []), (55, []), (56, [2, 3]), (57, []), (58, []), (59, [2, 3]), (60, []), (61, []), (62, [2, 3]), (63, []), (64, []), (65, [2, 3]), (66, []), (67, []), (68, [2, 3]), (69, []), (70, []), (71, [2, 3]), (72, []), (73, []), (74, [2, 3]), (75, []), (76, []), (77, [2, 3]), (78, []), (79, []), (80, [2, 3]), (81, []), (82, []), (83, [2, 3]), (84, []), (85, []), (86, [2, 3]), (87, []), (88, []), (89, [2, 3]), (90, []), (91, []), (92, [2, 3]), (93, []), (94, []), (95, [2, 3]), (96, []), (97, []), (100, [2, 3]), (101, []), (102, []), (103, [2, 3]), (104, []), (105, []), (106, [2, 3]), (107, []), (108, []), (109, [2, 3]), (110, []), (111, []), (112, [2, 3]), (113, []), (114, []), (120, [2, 3]), (121, []), (122, [])], [([], [], [])])
set_option maxRecDepth 1000000 in
theorem ck_22 : ab_CT cm_ms hp hN 1 ct_22 := ab_chk_ok (us := []) (inl := inl0) (hin := inl0_ok) (d := 0) (dd := 0) (n := 20000) (tms := []) cm_ms_ok cm_ms_rc hNP (fun _ h => absurd h List.not_mem_nil) (by decide +kernel) (by decide +kernel)
/-- Minutes.passWeek (28 steps) -/
def ct_23 : ab_Ct := (24, [(1, 0, mins), (1, 0, [6, 19])], [], [], [(32, [3]), (33, []), (35, [3]), (36, []), (41, [3]), (42, []), (44, [3]), (45, []), (47, [3]), (48, []), (50, [3]), (51, []), (53, [3]), (54, []), (56, [3]), (57, []), (59, [3]), (60, []), (62, [3]), (63, []), (65, [3]), (66, []), (68, [3]), (69, []), (71, [3]), (72, []), (74, [3]), (75, []), (77, [3]), (78, []), (80, [3]), (81, []), (83, [3]), (84, []), (86, [3]), (87, []), (89, [3]), (90, []), (92, [3]), (93, []), (95, [3]), (96, []), (100, [3]), (101, []), (103, [3]), (104, []), (106, [3]), (107, []), (109, [3]), (110, []), (112, [3]), (113, []), (120, [3]), (121, [])], [([], [], [])])
set_option maxRecDepth 1000000 in
theorem ck_23 : ab_CT cm_ms hp hN 1 ct_23 := ab_chk_ok (us := []) (inl := inl0) (hin := inl0_ok) (d := 0) (dd := 0) (n := 20000) (tms := [((2, [(0, (1, 0, mins)), (1, (1, 0, [6, 19])), (2, (3, 0, []))], [], [(0, 6, 0, (0, 0, []), (0, 0, []))], []), [(0, 1, (0, 0, [])), ((-1), 2147483648, (3, 0, []))])]) cm_ms_ok cm_ms_rc hNP (fun _ h => absurd h List.not_mem_nil) (by decide +kernel) (by decide +kernel)
/-- Minutes.baldMen (38 steps) -/
def ct_24 : ab_Ct := (26, [(1, 0, mins), (1, 0, [6, 19])], [], [], [], [([(3, 0, [])], [((-2147483648), 2147483647, 0, (0, 0, []), (0, 0, []))], [])])
set_option maxRecDepth 1000000 in
theorem ck_24 : ab_CT cm_ms hp hN 2 ct_24 := ab_chk_ok (us := []) (inl := inl0) (hin := inl0_ok) (d := 0) (dd := 1) (n := 20000) (tms := [((4, [(0, (1, 0, mins)), (1, (1, 0, [6, 19])), (2, (3, 0, [])), (3, (3, 1, []))], [], [((-2147483648), 2147483647, 0, (0, 0, []), (0, 0, [])), (0, 6, 0, (0, 0, []), (0, 0, []))], []), [(0, 1, (0, 0, [])), ((-1), 2147483648, (3, 1, []))])]) cm_ms_ok cm_ms_rc hNP (fun _ h => absurd h List.not_mem_nil) (by decide +kernel) (by decide +kernel)
/-- Minutes.hairyMen (13 steps) -/
def ct_25 : ab_Ct := (27, [(1, 0, mins), (1, 0, [6, 19])], [], [], [], [([(3, 0, [])], [(0, 63, 0, (0, 0, []), (0, 0, []))], [])])
set_option maxRecDepth 1000000 in
theorem ck_25 : ab_CT cm_ms hp hN 3 ct_25 := ab_chk_ok (us := [ct_24]) (inl := inl0) (hin := inl0_ok) (d := 2) (dd := 0) (n := 20000) (tms := []) cm_ms_ok cm_ms_rc hNP (List.forall_mem_cons.mpr ⟨ab_CT_up ck_24 (by decide), fun _ h => absurd h List.not_mem_nil⟩) (by decide +kernel) (by decide +kernel)
/-- Minutes.saysYes (34 steps) -/
def ct_26 : ab_Ct := (28, [(1, 0, mins), (1, 0, [6, 19]), (3, 0, []), (3, 1, [])], [(0, 5, 0, (0, 0, []), (0, 0, [])), (0, 4, 0, (0, 0, []), (0, 0, []))], [], [], [([(3, 2, [])], [(0, 5, 0, (0, 0, []), (0, 0, [])), (0, 4, 0, (0, 0, []), (0, 0, [])), (0, 1, 0, (0, 0, []), (0, 0, []))], [])])
set_option maxRecDepth 1000000 in
theorem ck_26 : ab_CT cm_ms hp hN 1 ct_26 := ab_chk_ok (us := []) (inl := inl0) (hin := inl0_ok) (d := 0) (dd := 0) (n := 20000) (tms := []) cm_ms_ok cm_ms_rc hNP (fun _ h => absurd h List.not_mem_nil) (by decide +kernel) (by decide +kernel)
/-- Minutes.motionsLiked (26 steps) -/
def ct_27 : ab_Ct := (29, [(1, 0, mins), (1, 0, [6, 19]), (3, 0, [])], [(0, 5, 0, (0, 0, []), (0, 0, []))], [], [], [([(3, 1, [])], [(0, 5, 0, (0, 0, []), (0, 0, [])), ((-2147483648), 2147483647, 0, (0, 0, []), (0, 0, []))], [])])
set_option maxRecDepth 1000000 in
theorem ck_27 : ab_CT cm_ms hp hN 2 ct_27 := ab_chk_ok (us := [ct_26]) (inl := inl0) (hin := inl0_ok) (d := 1) (dd := 0) (n := 20000) (tms := [((5, [(0, (1, 0, mins)), (1, (1, 0, [6, 19])), (2, (3, 0, [])), (3, (3, 1, [])), (4, (3, 2, []))], [], [(0, 5, 0, (0, 0, []), (0, 0, [])), ((-2147483648), 2147483647, 0, (0, 0, []), (0, 0, [])), (0, 5, 0, (0, 0, []), (0, 0, []))], []), [(0, 1, (0, 0, [])), ((-1), 2147483648, (3, 2, []))])]) cm_ms_ok cm_ms_rc hNP (List.forall_mem_cons.mpr ⟨ab_CT_up ck_26 (by decide), fun _ h => absurd h List.not_mem_nil⟩) (by decide +kernel) (by decide +kernel)
/-- Minutes.yesMen (26 steps) -/
def ct_28 : ab_Ct := (30, [(1, 0, mins), (1, 0, [6, 19]), (3, 0, [])], [(0, 4, 0, (0, 0, []), (0, 0, []))], [], [], [([(3, 1, [])], [(0, 4, 0, (0, 0, []), (0, 0, [])), ((-2147483648), 2147483647, 0, (0, 0, []), (0, 0, []))], [])])
set_option maxRecDepth 1000000 in
theorem ck_28 : ab_CT cm_ms hp hN 2 ct_28 := ab_chk_ok (us := [ct_26]) (inl := inl0) (hin := inl0_ok) (d := 1) (dd := 0) (n := 20000) (tms := [((5, [(0, (1, 0, mins)), (1, (1, 0, [6, 19])), (2, (3, 0, [])), (3, (3, 1, [])), (4, (3, 2, []))], [], [(0, 4, 0, (0, 0, []), (0, 0, [])), ((-2147483648), 2147483647, 0, (0, 0, []), (0, 0, [])), (0, 6, 0, (0, 0, []), (0, 0, []))], []), [(0, 1, (0, 0, [])), ((-1), 2147483648, (3, 2, []))])]) cm_ms_ok cm_ms_rc hNP (List.forall_mem_cons.mpr ⟨ab_CT_up ck_26 (by decide), fun _ h => absurd h List.not_mem_nil⟩) (by decide +kernel) (by decide +kernel)
/-- Minutes.yesVotes (7 steps) -/
def ct_29 : ab_Ct := (31, [(1, 0, mins), (1, 0, [6, 19]), (3, 0, [])], [(0, 4, 0, (0, 0, []), (0, 0, []))], [], [], [([(3, 1, [])], [(0, 4, 0, (0, 0, []), (0, 0, [])), ((-2147483648), 2147483647, 0, (0, 0, []), (0, 0, []))], [])])
set_option maxRecDepth 1000000 in
theorem ck_29 : ab_CT cm_ms hp hN 3 ct_29 := ab_chk_ok (us := [ct_12, ct_28]) (inl := inl0) (hin := inl0_ok) (d := 2) (dd := 0) (n := 20000) (tms := []) cm_ms_ok cm_ms_rc hNP (List.forall_mem_cons.mpr ⟨ab_CT_up ck_12 (by decide), List.forall_mem_cons.mpr ⟨ab_CT_up ck_28 (by decide), fun _ h => absurd h List.not_mem_nil⟩⟩) (by decide +kernel) (by decide +kernel)
/-- Minutes.hasEnough (14 steps) -/
def ct_30 : ab_Ct := (32, [(1, 0, mins), (1, 0, [6, 19]), (3, 0, [])], [(0, 4, 0, (0, 0, []), (0, 0, []))], [], [], [([(3, 1, [])], [(0, 4, 0, (0, 0, []), (0, 0, [])), (0, 1, 0, (0, 0, []), (0, 0, []))], [])])
set_option maxRecDepth 1000000 in
theorem ck_30 : ab_CT cm_ms hp hN 4 ct_30 := ab_chk_ok (us := [ct_29]) (inl := inl0) (hin := inl0_ok) (d := 3) (dd := 0) (n := 20000) (tms := []) cm_ms_ok cm_ms_rc hNP (List.forall_mem_cons.mpr ⟨ab_CT_up ck_29 (by decide), fun _ h => absurd h List.not_mem_nil⟩) (by decide +kernel) (by decide +kernel)
/-- Minutes.mayBePut (34 steps) -/
def ct_31 : ab_Ct := (34, [(1, 0, mins), (1, 0, [6, 19]), (3, 0, [])], [(0, 4, 0, (0, 0, []), (0, 0, []))], [], [], [([(3, 1, [])], [(0, 4, 0, (0, 0, []), (0, 0, [])), (0, 1, 0, (0, 0, []), (0, 0, []))], [])])
set_option maxRecDepth 1000000 in
theorem ck_31 : ab_CT cm_ms hp hN 2 ct_31 := ab_chk_ok (us := []) (inl := inl0) (hin := inl0_ok) (d := 0) (dd := 1) (n := 20000) (tms := []) cm_ms_ok cm_ms_rc hNP (fun _ h => absurd h List.not_mem_nil) (by decide +kernel) (by decide +kernel)
/-- Minutes.cutOff (29 steps) -/
def ct_32 : ab_Ct := (36, [(1, 0, mins), (1, 0, [6, 19]), (3, 0, []), (3, 1, [])], [(0, 5, 0, (0, 0, []), (0, 0, [])), ((-2147483648), 2147483647, 0, (0, 0, []), (0, 0, []))], [], [(33, []), (34, []), (36, []), (37, []), (42, []), (43, []), (45, []), (46, []), (48, []), (49, []), (51, []), (52, []), (54, []), (55, []), (57, []), (58, []), (60, []), (61, []), (63, []), (64, []), (66, []), (67, []), (69, []), (70, []), (72, []), (73, []), (75, []), (76, []), (78, []), (79, []), (81, []), (82, []), (84, []), (85, []), (87, []), (88, []), (90, []), (91, []), (93, []), (94, []), (96, []), (97, []), (101, []), (102, []), (104, []), (105, []), (107, []), (108, []), (110, []), (111, []), (113, []), (114, []), (121, []), (122, [])], [([], [(0, 5, 0, (0, 0, []), (0, 0, [])), ((-2147483648), 2147483647, 0, (0, 0, []), (0, 0, []))], [])])
set_option maxRecDepth 1000000 in
theorem ck_32 : ab_CT cm_ms hp hN 1 ct_32 := ab_chk_ok (us := []) (inl := inl0) (hin := inl0_ok) (d := 0) (dd := 0) (n := 20000) (tms := []) cm_ms_ok cm_ms_rc hNP (fun _ h => absurd h List.not_mem_nil) (by decide +kernel) (by decide +kernel)
/-- Minutes.cutFor (58 steps) -/
def ct_33 : ab_Ct := (35, [(1, 0, mins), (1, 0, [6, 19]), (3, 0, [])], [(0, 4, 0, (0, 0, []), (0, 0, []))], [], [(32, [2]), (33, []), (34, []), (35, [2]), (36, []), (37, []), (41, [2]), (42, []), (43, []), (44, [2]), (45, []), (46, []), (47, [2]), (48, []), (49, []), (50, [2]), (51, []), (52, []), (53, [2]), (54, []), (55, []), (56, [2]), (57, []), (58, []), (59, [2]), (60, []), (61, []), (62, [2]), (63, []), (64, []), (65, [2]), (66, []), (67, []), (68, [2]), (69, []), (70, []), (71, [2]), (72, []), (73, []), (74, [2]), (75, []), (76, []), (77, [2]), (78, []), (79, []), (80, [2]), (81, []), (82, []), (83, [2]), (84, []), (85, []), (86, [2]), (87, []), (88, []), (89, [2]), (90, []), (91, []), (92, [2]), (93, []), (94, []), (95, [2]), (96, []), (97, []), (100, [2]), (101, []), (102, []), (103, [2]), (104, []), (105, []), (106, [2]), (107, []), (108, []), (109, [2]), (110, []), (111, []), (112, [2]), (113, []), (114, []), (120, [2]), (121, []), (122, [])], [([(3, 1, [])], [(0, 4, 0, (0, 0, []), (0, 0, [])), (0, 1, 0, (0, 0, []), (0, 0, []))], [])])
set_option maxRecDepth 1000000 in
theorem ck_33 : ab_CT cm_ms hp hN 3 ct_33 := ab_chk_ok (us := [ct_12, ct_28, ct_32]) (inl := inl0) (hin := inl0_ok) (d := 2) (dd := 0) (n := 20000) (tms := [((31, [(0, (1, 0, mins)), (1, (1, 0, [6, 19])), (2, (3, 0, [])), (3, (3, 1, [])), (4, (3, 2, [])), (5, (3, 3, []))], [], [(0, 4, 0, (0, 0, []), (0, 0, [])), ((-2147483648), 2147483647, 0, (0, 0, []), (0, 0, [])), (0, 1, 0, (0, 0, []), (0, 0, [])), (0, 6, 0, (0, 0, []), (0, 0, []))], []), [(0, 1, (0, 0, [])), ((-1), 2147483648, (3, 3, []))])]) cm_ms_ok cm_ms_rc hNP (List.forall_mem_cons.mpr ⟨ab_CT_up ck_12 (by decide), List.forall_mem_cons.mpr ⟨ab_CT_up ck_28 (by decide), List.forall_mem_cons.mpr ⟨ab_CT_up ck_32 (by decide), fun _ h => absurd h List.not_mem_nil⟩⟩⟩) (by decide +kernel) (by decide +kernel)
/-- Minutes.turns (72 steps) -/
def ct_34 : ab_Ct := (37, [(1, 0, mins), (1, 0, [6, 19]), (3, 0, []), (3, 1, [])], [(0, 5, 0, (0, 0, []), (0, 0, [])), ((-2147483648), 2147483647, 0, (0, 0, []), (0, 0, []))], [], [], [([(3, 2, [])], [(0, 5, 0, (0, 0, []), (0, 0, [])), ((-2147483648), 2147483647, 0, (0, 0, []), (0, 0, [])), ((-2147483648), 2147483647, 0, (0, 0, []), (0, 0, []))], [])])
set_option maxRecDepth 1000000 in
theorem ck_34 : ab_CT cm_ms hp hN 5 ct_34 := ab_chk_ok (us := [ct_12, ct_25]) (inl := inl0) (hin := inl0_ok) (d := 3) (dd := 1) (n := 20000) (tms := [((30, [(1, (1, 0, [6, 19])), (2, (3, 0, [])), (3, (3, 1, [])), (4, (3, 2, [])), (5, (3, 3, [])), (6, (3, 4, []))], [], [(0, 5, 0, (0, 0, []), (0, 0, [])), ((-2147483648), 2147483647, 0, (0, 0, []), (0, 0, [])), (0, 63, 0, (0, 0, []), (0, 0, [])), ((-2147483648), 2147483647, 0, (0, 0, []), (0, 0, [])), (0, 64, 0, (0, 0, []), (0, 0, []))], []), [(0, 1, (0, 0, [])), ((-1), 2147483648, (3, 4, []))])]) cm_ms_ok cm_ms_rc hNP (List.forall_mem_cons.mpr ⟨ab_CT_up ck_12 (by decide), List.forall_mem_cons.mpr ⟨ab_CT_up ck_25 (by decide), fun _ h => absurd h List.not_mem_nil⟩⟩) (by decide +kernel) (by decide +kernel)
/-- Past.keep (24 steps) -/
def ct_35 : ab_Ct := (39, [(1, 0, [38]), (1, 0, mins)], [], [], [(32, [2, 3]), (33, []), (34, []), (35, [2, 3]), (36, []), (37, []), (38, [2, 3]), (41, [2, 3]), (42, []), (43, []), (44, [2, 3]), (45, []), (46, []), (47, [2, 3]), (48, []), (49, []), (50, [2, 3]), (51, []), (52, []), (53, [2, 3]), (54, []), (55, []), (56, [2, 3]), (57, []), (58, []), (59, [2, 3]), (60, []), (61, []), (62, [2, 3]), (63, []), (64, []), (65, [2, 3]), (66, []), (67, []), (68, [2, 3]), (69, []), (70, []), (71, [2, 3]), (72, []), (73, []), (74, [2, 3]), (75, []), (76, []), (77, [2, 3]), (78, []), (79, []), (80, [2, 3]), (81, []), (82, []), (83, [2, 3]), (84, []), (85, []), (86, [2, 3]), (87, []), (88, []), (89, [2, 3]), (90, []), (91, []), (92, [2, 3]), (93, []), (94, []), (95, [2, 3]), (96, []), (97, []), (100, [2, 3]), (101, []), (102, []), (103, [2, 3]), (104, []), (105, []), (106, [2, 3]), (107, []), (108, []), (109, [2, 3]), (110, []), (111, []), (112, [2, 3]), (113, []), (114, []), (120, [2, 3]), (121, []), (122, [])], [([], [], [])])
set_option maxRecDepth 1000000 in
theorem ck_35 : ab_CT cm_ms hp hN 2 ct_35 := ab_chk_ok (us := [ct_22]) (inl := inl0) (hin := inl0_ok) (d := 1) (dd := 0) (n := 20000) (tms := []) cm_ms_ok cm_ms_rc hNP (List.forall_mem_cons.mpr ⟨ab_CT_up ck_22 (by decide), fun _ h => absurd h List.not_mem_nil⟩) (by decide +kernel) (by decide +kernel)
/-- Past.takeBack (30 steps) -/
def ct_36 : ab_Ct := (40, [(1, 0, [38]), (1, 0, mins)], [], [], [(32, [2, 3]), (33, []), (34, []), (35, [2, 3]), (36, []), (37, []), (38, [2, 3]), (41, [2, 3]), (42, []), (43, []), (44, [2, 3]), (45, []), (46, []), (47, [2, 3]), (48, []), (49, []), (50, [2, 3]), (51, []), (52, []), (53, [2, 3]), (54, []), (55, []), (56, [2, 3]), (57, []), (58, []), (59, [2, 3]), (60, []), (61, []), (62, [2, 3]), (63, []), (64, []), (65, [2, 3]), (66, []), (67, []), (68, [2, 3]), (69, []), (70, []), (71, [2, 3]), (72, []), (73, []), (74, [2, 3]), (75, []), (76, []), (77, [2, 3]), (78, []), (79, []), (80, [2, 3]), (81, []), (82, []), (83, [2, 3]), (84, []), (85, []), (86, [2, 3]), (87, []), (88, []), (89, [2, 3]), (90, []), (91, []), (92, [2, 3]), (93, []), (94, []), (95, [2, 3]), (96, []), (97, []), (100, [2, 3]), (101, []), (102, []), (103, [2, 3]), (104, []), (105, []), (106, [2, 3]), (107, []), (108, []), (109, [2, 3]), (110, []), (111, []), (112, [2, 3]), (113, []), (114, []), (120, [2, 3]), (121, []), (122, [])], [([(3, 0, [])], [(0, 1, 0, (0, 0, []), (0, 0, []))], [])])
set_option maxRecDepth 1000000 in
theorem ck_36 : ab_CT cm_ms hp hN 2 ct_36 := ab_chk_ok (us := [ct_22]) (inl := inl0) (hin := inl0_ok) (d := 1) (dd := 0) (n := 20000) (tms := []) cm_ms_ok cm_ms_rc hNP (List.forall_mem_cons.mpr ⟨ab_CT_up ck_22 (by decide), fun _ h => absurd h List.not_mem_nil⟩) (by decide +kernel) (by decide +kernel)
/-- Past.draw (24 steps) -/
def ct_37 : ab_Ct := (41, [(1, 0, [38]), (1, 0, mins)], [], [], [(32, [2, 3]), (33, []), (34, []), (35, [2, 3]), (36, []), (37, []), (38, [4]), (41, [2, 3]), (42, []), (43, []), (44, [2, 3]), (45, []), (46, []), (47, [2, 3]), (48, []), (49, []), (50, [2, 3]), (51, []), (52, []), (53, [2, 3]), (54, []), (55, []), (56, [2, 3]), (57, []), (58, []), (59, [2, 3]), (60, []), (61, []), (62, [2, 3]), (63, []), (64, []), (65, [2, 3]), (66, []), (67, []), (68, [2, 3]), (69, []), (70, []), (71, [2, 3]), (72, []), (73, []), (74, [2, 3]), (75, []), (76, []), (77, [2, 3]), (78, []), (79, []), (80, [2, 3]), (81, []), (82, []), (83, [2, 3]), (84, []), (85, []), (86, [2, 3]), (87, []), (88, []), (89, [2, 3]), (90, []), (91, []), (92, [2, 3]), (93, []), (94, []), (95, [2, 3]), (96, []), (97, []), (100, [2, 3]), (101, []), (102, []), (103, [2, 3]), (104, []), (105, []), (106, [2, 3]), (107, []), (108, []), (109, [2, 3]), (110, []), (111, []), (112, [2, 3]), (113, []), (114, []), (120, [2, 3]), (121, []), (122, [])], [([(3, 0, [])], [((-1), 2, 0, (0, 0, []), (0, 0, []))], [])])
set_option maxRecDepth 1000000 in
theorem ck_37 : ab_CT cm_ms hp hN 2 ct_37 := ab_chk_ok (us := [ct_22]) (inl := inl0) (hin := inl0_ok) (d := 1) (dd := 0) (n := 20000) (tms := []) cm_ms_ok cm_ms_rc hNP (List.forall_mem_cons.mpr ⟨ab_CT_up ck_22 (by decide), fun _ h => absurd h List.not_mem_nil⟩) (by decide +kernel) (by decide +kernel)
/-- Past.restore (21 steps) -/
def ct_38 : ab_Ct := (42, [(1, 0, [38]), (3, 0, []), (1, 0, mins)], [((-2147483648), 2147483647, 0, (0, 0, []), (0, 0, []))], [], [(32, [2, 3]), (33, []), (34, []), (35, [2, 3]), (36, []), (37, []), (38, [3]), (41, [2, 3]), (42, []), (43, []), (44, [2, 3]), (45, []), (46, []), (47, [2, 3]), (48, []), (49, []), (50, [2, 3]), (51, []), (52, []), (53, [2, 3]), (54, []), (55, []), (56, [2, 3]), (57, []), (58, []), (59, [2, 3]), (60, []), (61, []), (62, [2, 3]), (63, []), (64, []), (65, [2, 3]), (66, []), (67, []), (68, [2, 3]), (69, []), (70, []), (71, [2, 3]), (72, []), (73, []), (74, [2, 3]), (75, []), (76, []), (77, [2, 3]), (78, []), (79, []), (80, [2, 3]), (81, []), (82, []), (83, [2, 3]), (84, []), (85, []), (86, [2, 3]), (87, []), (88, []), (89, [2, 3]), (90, []), (91, []), (92, [2, 3]), (93, []), (94, []), (95, [2, 3]), (96, []), (97, []), (100, [2, 3]), (101, []), (102, []), (103, [2, 3]), (104, []), (105, []), (106, [2, 3]), (107, []), (108, []), (109, [2, 3]), (110, []), (111, []), (112, [2, 3]), (113, []), (114, []), (120, [2, 3]), (121, []), (122, [])], [([(3, 1, [])], [((-2147483648), 2147483647, 0, (0, 0, []), (0, 0, [])), (0, 1, 0, (0, 0, []), (0, 0, []))], [])])
set_option maxRecDepth 1000000 in
theorem ck_38 : ab_CT cm_ms hp hN 2 ct_38 := ab_chk_ok (us := [ct_22]) (inl := inl0) (hin := inl0_ok) (d := 1) (dd := 0) (n := 20000) (tms := []) cm_ms_ok cm_ms_rc hNP (List.forall_mem_cons.mpr ⟨ab_CT_up ck_22 (by decide), fun _ h => absurd h List.not_mem_nil⟩) (by decide +kernel) (by decide +kernel)
/-- Agenda.isRow (42 steps) -/
def ct_39 : ab_Ct := (43, [(1, 0, [6, 19]), (3, 0, []), (3, 1, [])], [((-2147483648), 2147483647, 0, (0, 0, []), (0, 0, [])), ((-2147483648), 2147483647, 0, (0, 0, []), (0, 0, []))], [], [], [([(3, 2, [])], [((-2147483648), 2147483647, 0, (0, 0, []), (0, 0, [])), ((-2147483648), 2147483647, 0, (0, 0, []), (0, 0, [])), (0, 1, 0, (0, 0, []), (0, 0, []))], [])])
set_option maxRecDepth 1000000 in
theorem ck_39 : ab_CT cm_ms hp hN 1 ct_39 := ab_chk_ok (us := []) (inl := inl0) (hin := inl0_ok) (d := 0) (dd := 0) (n := 20000) (tms := [((29, [(0, (1, 0, [6, 19])), (1, (3, 0, [])), (2, (3, 1, [])), (3, (3, 2, []))], [], [(0, 9999, 0, (0, 0, []), (0, 0, [])), (0, 4, 0, (0, 0, []), (0, 0, [])), (0, 4, 0, (0, 0, []), (0, 0, []))], []), [(0, 1, (0, 0, [])), ((-1), 2147483648, (3, 2, []))])]) cm_ms_ok cm_ms_rc hNP (fun _ h => absurd h List.not_mem_nil) (by decide +kernel) (by decide +kernel)
/-- Agenda.takeStep (82 steps) -/
def ct_40 : ab_Ct := (47, [(1, 0, [98]), (1, 0, [6, 19]), (3, 0, []), (3, 1, [])], [((-2147483648), 2147483647, 0, (0, 0, []), (0, 0, [])), ((-2147483648), 2147483647, 0, (0, 0, []), (0, 0, []))], [], [(32, [2, 3]), (33, []), (34, []), (35, [2, 3]), (36, []), (37, []), (41, [2, 3]), (42, []), (43, []), (44, [2, 3]), (45, []), (46, []), (47, [2, 3]), (48, []), (49, []), (50, [2, 3]), (51, []), (52, []), (53, [2, 3]), (54, []), (55, []), (56, [2, 3]), (57, []), (58, []), (59, [2, 3]), (60, []), (61, []), (62, [2, 3]), (63, []), (64, []), (65, [2, 3]), (66, []), (67, []), (68, [2, 3]), (69, []), (70, []), (71, [2, 3]), (72, []), (73, []), (74, [2, 3]), (75, []), (76, []), (77, [2, 3]), (78, []), (79, []), (80, [2, 3]), (81, []), (82, []), (83, [2, 3]), (84, []), (85, []), (86, [2, 3]), (87, []), (88, []), (89, [2, 3]), (90, []), (91, []), (92, [2, 3]), (93, []), (94, []), (95, [2, 3]), (96, []), (97, []), (100, [2, 3]), (101, []), (102, []), (103, [2, 3]), (104, []), (105, []), (106, [2, 3]), (107, []), (108, []), (109, [2, 3]), (110, []), (111, []), (112, [2, 3]), (113, []), (114, []), (120, [2, 3]), (121, []), (122, [])], [([(3, 2, [])], [((-2147483648), 2147483647, 0, (0, 0, []), (0, 0, [])), ((-2147483648), 2147483647, 0, (0, 0, []), (0, 0, [])), ((-2147483648), 2147483647, 0, (0, 0, []), (0, 0, []))], [])])
set_option maxRecDepth 1000000 in
theorem ck_40 : ab_CT cm_ms hp hN 4 ct_40 := ab_chk_ok (us := [ct_22, ct_23, ct_31, ct_33]) (inl := inl0) (hin := inl0_ok) (d := 3) (dd := 0) (n := 20000) (tms := []) cm_ms_ok cm_ms_rc hNP (List.forall_mem_cons.mpr ⟨ab_CT_up ck_22 (by decide), List.forall_mem_cons.mpr ⟨ab_CT_up ck_23 (by decide), List.forall_mem_cons.mpr ⟨ab_CT_up ck_31 (by decide), List.forall_mem_cons.mpr ⟨ab_CT_up ck_33 (by decide), fun _ h => absurd h List.not_mem_nil⟩⟩⟩⟩) (by decide +kernel) (by decide +kernel)
/-- Agenda.worthOfRow (153 steps) -/
def ct_41 : ab_Ct := (44, [(1, 0, [98]), (1, 0, [6, 19]), (1, 0, mins), (3, 0, []), (3, 1, [])], [((-2147483648), 2147483647, 0, (0, 0, []), (0, 0, [])), (1, 4, 0, (0, 0, []), (0, 0, []))], [], [(32, [2, 3]), (33, []), (34, []), (35, [2, 3]), (36, []), (37, []), (41, [2, 3]), (42, []), (43, []), (44, [2, 3]), (45, []), (46, []), (47, [2, 3]), (48, []), (49, []), (50, [2, 3]), (51, []), (52, []), (53, [2, 3]), (54, []), (55, []), (56, [2, 3]), (57, []), (58, []), (59, [2, 3]), (60, []), (61, []), (62, [2, 3]), (63, []), (64, []), (65, [2, 3]), (66, []), (67, []), (68, [2, 3]), (69, []), (70, []), (71, [2, 3]), (72, []), (73, []), (74, [2, 3]), (75, []), (76, []), (77, [2, 3]), (78, []), (79, []), (80, [2, 3]), (81, []), (82, []), (83, [2, 3]), (84, []), (85, []), (86, [2, 3]), (87, []), (88, []), (89, [2, 3]), (90, []), (91, []), (92, [2, 3]), (93, []), (94, []), (95, [2, 3]), (96, []), (97, []), (100, [2, 3]), (101, []), (102, []), (103, [2, 3]), (104, []), (105, []), (106, [2, 3]), (107, []), (108, []), (109, [2, 3]), (110, []), (111, []), (112, [2, 3]), (113, []), (114, []), (120, [2, 3]), (121, []), (122, [])], [([(3, 2, [])], [((-2147483648), 2147483647, 0, (0, 0, []), (0, 0, [])), (1, 4, 0, (0, 0, []), (0, 0, [])), ((-2147483648), 2147483647, 0, (0, 0, []), (0, 0, []))], [])])
set_option maxRecDepth 1000000 in
theorem ck_41 : ab_CT cm_ms hp hN 5 ct_41 := ab_chk_ok (us := [ct_22, ct_40]) (inl := inl0) (hin := inl0_ok) (d := 4) (dd := 0) (n := 20000) (tms := []) cm_ms_ok cm_ms_rc hNP (List.forall_mem_cons.mpr ⟨ab_CT_up ck_22 (by decide), List.forall_mem_cons.mpr ⟨ab_CT_up ck_40 (by decide), fun _ h => absurd h List.not_mem_nil⟩⟩) (by decide +kernel) (by decide +kernel)
/-- Agenda.explore@4 (23 steps) -/
def ct_42 : ab_Ct := (46, [(1, 0, [98]), (1, 0, [6, 19]), (3, 0, []), (3, 1, []), (3, 2, [])], [(4, 4, 0, (0, 0, []), (0, 0, [])), ((-2147483648), 2147483647, 0, (0, 0, []), (0, 0, [])), ((-2147483648), 2147483647, 0, (0, 0, []), (0, 0, []))], [], [(98, [2, 3, 4])], [([], [(4, 4, 0, (0, 0, []), (0, 0, [])), ((-2147483648), 2147483647, 0, (0, 0, []), (0, 0, [])), ((-2147483648), 2147483647, 0, (0, 0, []), (0, 0, []))], [])])
set_option maxRecDepth 1000000 in
theorem ck_42 : ab_CT cm_ms hp hN 1 ct_42 := ab_chk_ok (us := []) (inl := inl0) (hin := inl0_ok) (d := 0) (dd := 0) (n := 20000) (tms := []) cm_ms_ok cm_ms_rc hNP (fun _ h => absurd h List.not_mem_nil) (by decide +kernel) (by decide +kernel)
/-- Agenda.explore@3 (57 steps) -/
def ct_43 : ab_Ct := (46, [(1, 0, [98]), (1, 0, [6, 19]), (3, 0, []), (3, 1, []), (3, 2, [])], [(3, 3, 0, (0, 0, []), (0, 0, [])), ((-2147483648), 2147483647, 0, (0, 0, []), (0, 0, [])), ((-2147483648), 2147483647, 0, (0, 0, []), (0, 0, []))], [], [(32, [2, 3]), (33, []), (34, []), (35, [2, 3]), (36, []), (37, []), (41, [2, 3]), (42, []), (43, []), (44, [2, 3]), (45, []), (46, []), (47, [2, 3]), (48, []), (49, []), (50, [2, 3]), (51, []), (52, []), (53, [2, 3]), (54, []), (55, []), (56, [2, 3]), (57, []), (58, []), (59, [2, 3]), (60, []), (61, []), (62, [2, 3]), (63, []), (64, []), (65, [2, 3]), (66, []), (67, []), (68, [2, 3]), (69, []), (70, []), (71, [2, 3]), (72, []), (73, []), (74, [2, 3]), (75, []), (76, []), (77, [2, 3]), (78, []), (79, []), (80, [2, 3]), (81, []), (82, []), (83, [2, 3]), (84, []), (85, []), (86, [2, 3]), (87, []), (88, []), (89, [2, 3]), (90, []), (91, []), (92, [2, 3]), (93, []), (94, []), (95, [2, 3]), (96, []), (97, []), (98, [2, 3, 4]), (100, [2, 3]), (101, []), (102, []), (103, [2, 3]), (104, []), (105, []), (106, [2, 3]), (107, []), (108, []), (109, [2, 3]), (110, []), (111, []), (112, [2, 3]), (113, []), (114, []), (120, [2, 3]), (121, []), (122, [])], [([], [(3, 3, 0, (0, 0, []), (0, 0, [])), ((-2147483648), 2147483647, 0, (0, 0, []), (0, 0, [])), ((-2147483648), 2147483647, 0, (0, 0, []), (0, 0, []))], [])])
set_option maxRecDepth 1000000 in
theorem ck_43 : ab_CT cm_ms hp hN 5 ct_43 := ab_chk_ok (us := [ct_40, ct_42]) (inl := inl0) (hin := inl0_ok) (d := 4) (dd := 0) (n := 20000) (tms := [((45, [(0, (1, 0, [98])), (1, (1, 0, [6, 19])), (2, (3, 0, [])), (3, (3, 1, [])), (4, (3, 2, [])), (5, (3, 3, []))], [], [(3, 3, 0, (0, 0, []), (0, 0, [])), ((-2147483648), 2147483647, 0, (0, 0, []), (0, 0, [])), ((-2147483648), 2147483647, 0, (0, 0, []), (0, 0, [])), (0, 6, 0, (0, 0, []), (0, 0, []))], [(98, 1, (0, 4, []))]), [(0, 1, (0, 0, [])), ((-1), 2147483648, (3, 3, []))])]) cm_ms_ok cm_ms_rc hNP (List.forall_mem_cons.mpr ⟨ab_CT_up ck_40 (by decide), List.forall_mem_cons.mpr ⟨ab_CT_up ck_42 (by decide), fun _ h => absurd h List.not_mem_nil⟩⟩) (by decide +kernel) (by decide +kernel)
/-- Agenda.explore@2 (57 steps) -/
def ct_44 : ab_Ct := (46, [(1, 0, [98]), (1, 0, [6, 19]), (3, 0, []), (3, 1, []), (3, 2, [])], [(2, 2, 0, (0, 0, []), (0, 0, [])), ((-2147483648), 2147483647, 0, (0, 0, []), (0, 0, [])), ((-2147483648), 2147483647, 0, (0, 0, []), (0, 0, []))], [], [(32, [2, 3]), (33, []), (34, []), (35, [2, 3]), (36, []), (37, []), (41, [2, 3]), (42, []), (43, []), (44, [2, 3]), (45, []), (46, []), (47, [2, 3]), (48, []), (49, []), (50, [2, 3]), (51, []), (52, []), (53, [2, 3]), (54, []), (55, []), (56, [2, 3]), (57, []), (58, []), (59, [2, 3]), (60, []), (61, []), (62, [2, 3]), (63, []), (64, []), (65, [2, 3]), (66, []), (67, []), (68, [2, 3]), (69, []), (70, []), (71, [2, 3]), (72, []), (73, []), (74, [2, 3]), (75, []), (76, []), (77, [2, 3]), (78, []), (79, []), (80, [2, 3]), (81, []), (82, []), (83, [2, 3]), (84, []), (85, []), (86, [2, 3]), (87, []), (88, []), (89, [2, 3]), (90, []), (91, []), (92, [2, 3]), (93, []), (94, []), (95, [2, 3]), (96, []), (97, []), (98, [2, 3, 4]), (100, [2, 3]), (101, []), (102, []), (103, [2, 3]), (104, []), (105, []), (106, [2, 3]), (107, []), (108, []), (109, [2, 3]), (110, []), (111, []), (112, [2, 3]), (113, []), (114, []), (120, [2, 3]), (121, []), (122, [])], [([], [(2, 2, 0, (0, 0, []), (0, 0, [])), ((-2147483648), 2147483647, 0, (0, 0, []), (0, 0, [])), ((-2147483648), 2147483647, 0, (0, 0, []), (0, 0, []))], [])])
set_option maxRecDepth 1000000 in
theorem ck_44 : ab_CT cm_ms hp hN 6 ct_44 := ab_chk_ok (us := [ct_40, ct_43]) (inl := inl0) (hin := inl0_ok) (d := 5) (dd := 0) (n := 20000) (tms := [((45, [(0, (1, 0, [98])), (1, (1, 0, [6, 19])), (2, (3, 0, [])), (3, (3, 1, [])), (4, (3, 2, [])), (5, (3, 3, []))], [], [(2, 2, 0, (0, 0, []), (0, 0, [])), ((-2147483648), 2147483647, 0, (0, 0, []), (0, 0, [])), ((-2147483648), 2147483647, 0, (0, 0, []), (0, 0, [])), (0, 6, 0, (0, 0, []), (0, 0, [])), (3, 4, 0, (0, 0, []), (0, 0, []))], [(98, 1, (3, 4, []))]), [(0, 1, (0, 0, [])), ((-1), 2147483648, (3, 3, []))])]) cm_ms_ok cm_ms_rc hNP (List.forall_mem_cons.mpr ⟨ab_CT_up ck_40 (by decide), List.forall_mem_cons.mpr ⟨ab_CT_up ck_43 (by decide), fun _ h => absurd h List.not_mem_nil⟩⟩) (by decide +kernel) (by decide +kernel)
/-- Agenda.explore@1 (57 steps) -/
def ct_45 : ab_Ct := (46, [(1, 0, [98]), (1, 0, [6, 19]), (3, 0, []), (3, 1, []), (3, 2, [])], [(1, 1, 0, (0, 0, []), (0, 0, [])), ((-2147483648), 2147483647, 0, (0, 0, []), (0, 0, [])), ((-2147483648), 2147483647, 0, (0, 0, []), (0, 0, []))], [], [(32, [2, 3]), (33, []), (34, []), (35, [2, 3]), (36, []), (37, []), (41, [2, 3]), (42, []), (43, []), (44, [2, 3]), (45, []), (46, []), (47, [2, 3]), (48, []), (49, []), (50, [2, 3]), (51, []), (52, []), (53, [2, 3]), (54, []), (55, []), (56, [2, 3]), (57, []), (58, []), (59, [2, 3]), (60, []), (61, []), (62, [2, 3]), (63, []), (64, []), (65, [2, 3]), (66, []), (67, []), (68, [2, 3]), (69, []), (70, []), (71, [2, 3]), (72, []), (73, []), (74, [2, 3]), (75, []), (76, []), (77, [2, 3]), (78, []), (79, []), (80, [2, 3]), (81, []), (82, []), (83, [2, 3]), (84, []), (85, []), (86, [2, 3]), (87, []), (88, []), (89, [2, 3]), (90, []), (91, []), (92, [2, 3]), (93, []), (94, []), (95, [2, 3]), (96, []), (97, []), (98, [2, 3, 4]), (100, [2, 3]), (101, []), (102, []), (103, [2, 3]), (104, []), (105, []), (106, [2, 3]), (107, []), (108, []), (109, [2, 3]), (110, []), (111, []), (112, [2, 3]), (113, []), (114, []), (120, [2, 3]), (121, []), (122, [])], [([], [(1, 1, 0, (0, 0, []), (0, 0, [])), ((-2147483648), 2147483647, 0, (0, 0, []), (0, 0, [])), ((-2147483648), 2147483647, 0, (0, 0, []), (0, 0, []))], [])])
set_option maxRecDepth 1000000 in
theorem ck_45 : ab_CT cm_ms hp hN 7 ct_45 := ab_chk_ok (us := [ct_40, ct_44]) (inl := inl0) (hin := inl0_ok) (d := 6) (dd := 0) (n := 20000) (tms := [((45, [(0, (1, 0, [98])), (1, (1, 0, [6, 19])), (2, (3, 0, [])), (3, (3, 1, [])), (4, (3, 2, [])), (5, (3, 3, []))], [], [(1, 1, 0, (0, 0, []), (0, 0, [])), ((-2147483648), 2147483647, 0, (0, 0, []), (0, 0, [])), ((-2147483648), 2147483647, 0, (0, 0, []), (0, 0, [])), (0, 6, 0, (0, 0, []), (0, 0, [])), (2, 4, 0, (0, 0, []), (0, 0, []))], [(98, 1, (3, 4, []))]), [(0, 1, (0, 0, [])), ((-1), 2147483648, (3, 3, []))])]) cm_ms_ok cm_ms_rc hNP (List.forall_mem_cons.mpr ⟨ab_CT_up ck_40 (by decide), List.forall_mem_cons.mpr ⟨ab_CT_up ck_44 (by decide), fun _ h => absurd h List.not_mem_nil⟩⟩) (by decide +kernel) (by decide +kernel)
