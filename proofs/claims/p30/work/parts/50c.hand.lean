/-! BY HAND: the greatest common divisor -/
theorem hd_cmp0 {x y : Int64} (h : lg_cmp x y ≠ 0) : x ≠ y := by
  rintro rfl
  apply h
  unfold lg_cmp
  rw [if_neg (by simp), if_pos rfl]
theorem hd_inc {i : Int32} (h : i.toInt < 2147483647) : (i + 1).toInt = i.toInt + 1 := by
  have h1 : (1 : Int32).toInt = 1 := by decide
  have h2 := i.minValue_le_toInt
  have h3 : Int32.minValue.toInt = -2147483648 := by decide
  rw [Int32.toInt_add, h1, ev_bm (by omega) (by omega)]
theorem hd_wl_ok {M : cm_M} {c i : Nat} {x : Int64} (h : ab_ok hp hN M) : ab_ok hp hN (cm_wl M c i x) := ⟨fun a b => h.1 a b, fun a b => h.2.1 a b, h.2.2⟩
theorem hd_wl_fr {md : ab_Md} {M0 M : cm_M} {c i : Nat} {x : Int64} (hi : ab_inM md c i = true) (h : ab_fr md M0 M) : ab_fr md M0 (cm_wl M c i x) := by
  intro a b hm
  obtain ⟨h1, h2, h3⟩ := h a b hm
  refine ⟨h1, ?_, h3⟩
  show (if a = c ∧ b = i then x else M.2.1 a b) = _
  rw [if_neg ?_]
  · exact h2
  · rintro ⟨rfl, rfl⟩
    rw [hi] at hm
    cases hm
def rd_S (a b x y : Int64) (i : Int32) (M : cm_M) : cm_S := (9, [(0, .ref 123), (1, .long a), (3, .long b), (5, .long x), (7, .long y), (9, .int i)], [], M)
def rd_P (M : cm_M) : cm_K := ab_Post hp hN M [(123, [0, 1])] [] [([], [], [])]
theorem rd_end {M : cm_M} (hM : ab_ok hp hN M) (J : cm_S → Prop) (m : Nat) (a b x y : Int64) (i : Int32) (v : Int64) : cm_wp cm_ms (cm_Call cm_ms 0) none (cm_P mr_62) mr_62.2.2.2.2.2.2 [(9, [0, 1, 3, 5, 7, 9])] J (cm_ret mr_62.2.2.2.1 (rd_P M)) (m + 15) (64, [(0, .ref 123), (1, .long a), (3, .long b), (5, .long x), (7, .long y), (9, .int i)], [], cm_wl M 123 0 v) := by
  have fin : ∀ w : Int64, rd_P M none (cm_wl (cm_wl M 123 0 v) 123 1 w) := fun w => ⟨_, List.mem_singleton.mpr rfl, [], trivial, ⟨rfl, fun j r x h => nomatch h⟩, hd_wl_ok (hd_wl_ok hM), hd_wl_fr (by decide) (hd_wl_fr (by decide) (ab_fr_rf _ _)), fun q hq => nomatch hq⟩
  show 0 ≤ _ ∧ (ev_cmp 1 (lg_cmp x _) 0 = true → _) ∧ (_ → _)
  refine ⟨(by decide : (0 : Int) ≤ 76), fun hc => ?_, fun hc => ?_⟩
  · show ¬ x = 0 ∧ _ ∧ _ ∧ _ ∧ _ ∧ _
    refine ⟨hd_cmp0 (y := 0) (by simpa [ev_cmp] using hc), by decide, by decide, by decide, rfl, ?_⟩
    exact fin _
  · show 0 ≤ _ ∧ _ ∧ _ ∧ _ ∧ _ ∧ _
    refine ⟨(by decide : (0 : Int) ≤ 80), by decide, by decide, by decide, rfl, ?_⟩
    exact fin _
theorem rd_exit {M : cm_M} (hM : ab_ok hp hN M) (J : cm_S → Prop) (m : Nat) (a b x y : Int64) (i : Int32) : cm_wp cm_ms (cm_Call cm_ms 0) none (cm_P mr_62) mr_62.2.2.2.2.2.2 [(9, [0, 1, 3, 5, 7, 9])] J (cm_ret mr_62.2.2.2.1 (rd_P M)) (m + 30) (45, [(0, .ref 123), (1, .long a), (3, .long b), (5, .long x), (7, .long y), (9, .int i)], [], M) := by
  show 0 ≤ _ ∧ (ev_cmp 1 (lg_cmp x _) 0 = true → _) ∧ (_ → _)
  refine ⟨(by decide : (0 : Int) ≤ 57), fun hc => ?_, fun hc => ?_⟩
  · show ¬ x = 0 ∧ _ ∧ _ ∧ _ ∧ _ ∧ _
    refine ⟨hd_cmp0 (y := 0) (by simpa [ev_cmp] using hc), by decide, by decide, by decide, rfl, ?_⟩
    exact rd_end hM J (m + 6) a b x y i _
  · show 0 ≤ _ ∧ _ ∧ _ ∧ _ ∧ _ ∧ _
    refine ⟨(by decide : (0 : Int) ≤ 61), by decide, by decide, by decide, rfl, ?_⟩
    exact rd_end hM J (m + 7) a b x y i _
theorem rd_loop {M : cm_M} (hM : ab_ok hp hN M) (a b : Int64) : ∀ (j : Nat) (i : Int32) (x y : Int64), i.toInt = 128 - (j : Int) → 0 ≤ i.toInt → cm_At cm_ms 0 mr_62 (rd_P M) (rd_S a b x y i M) := by
  intro j
  induction j with
  | zero =>
    intro i x y hi h0
    refine cm_At_run cm_ms_ok (k := 62) rfl (stops := [(9, [0, 1, 3, 5, 7, 9])]) (J := fun _ => False) (fun S hS => hS.elim) (n := 60) ?_
    show 0 ≤ _ ∧ (ev_cmp 3 i _ = true → _) ∧ (ev_cmp 3 i _ = false → _)
    refine ⟨(by decide : (0 : Int) ≤ 45), fun _ => rd_exit hM _ 27 a b x y i, fun hc => ?_⟩
    exfalso
    have h1 : ¬ (128 : Int32) ≤ i := of_decide_eq_false hc
    apply h1
    rw [Int32.le_iff_toInt_le]
    have : (128 : Int32).toInt = 128 := by decide
    omega
  | succ j ih =>
    intro i x y hi h0
    refine cm_At_run cm_ms_ok (k := 62) rfl (stops := [(9, [0, 1, 3, 5, 7, 9])]) (J := fun S => ∃ i x y, i.toInt = 128 - (j : Int) ∧ 0 ≤ i.toInt ∧ S = rd_S a b x y i M) (fun S hS => by obtain ⟨i, x, y, e1, e2, rfl⟩ := hS; exact ih i x y e1 e2) (n := 60) ?_
    show 0 ≤ _ ∧ (ev_cmp 3 i _ = true → _) ∧ (ev_cmp 3 i _ = false → _)
    refine ⟨(by decide : (0 : Int) ≤ 45), fun _ => rd_exit hM _ 27 a b x y i, fun hc => ?_⟩
    show 0 ≤ _ ∧ (ev_cmp 0 (lg_cmp y _) 0 = true → _) ∧ (_ → _)
    refine ⟨(by decide : (0 : Int) ≤ 45), fun _ => rd_exit hM _ 23 a b x y i, fun hc2 => ?_⟩
    show ¬ y = 0 ∧ 10 + 1 < 12 ∧ 5 + 1 < 12 ∧ 7 + 1 < 12 ∧ 9 < 12 ∧ 0 ≤ _ ∧ _
    refine ⟨hd_cmp0 (y := 0) (by simpa [ev_cmp] using hc2), by decide, by decide, by decide, by decide, (by decide : (0 : Int) ≤ 9), ?_⟩
    refine ⟨i + 1, y, x - x / y * y, ?_, ?_, rfl⟩
    · have := hd_inc (i := i) (by omega)
      omega
    · have := hd_inc (i := i) (by omega)
      omega
theorem hd_reduce : ab_CT cm_ms hp hN 1 (62, [(1, 0, [123]), (6, 0, []), (6, 0, [])], [], [], [(123, [0, 1])], [([], [], [])]) := by
  intro ρ vs M h1 h2 h3 h4
  obtain ⟨a, b, rfl⟩ : ∃ a b, vs = [.ref 123, .long a, .long b] := by
    match vs, h1 with
    | [v0, v1, v2], ⟨⟨c, hc, hv⟩, ⟨a, ha⟩, ⟨b, hb⟩, _⟩ =>
      have : c = 123 := List.mem_singleton.mp hc
      subst this
      exact ⟨a, b, by rw [hv, ha, hb]⟩
  have hr : ρ = [] := List.length_eq_zero_iff.mp h2.1.symm
  subst hr
  refine cm_Call_of cm_ms_ok (k := 62) (mi := mr_62) rfl (by show 5 ≤ 12; decide) ?_
  refine cm_At_run cm_ms_ok (k := 62) rfl (stops := [(9, [0, 1, 3, 5, 7, 9])]) (J := fun S => S = rd_S a b b a 0 M) (fun S hS => by rw [hS]; exact rd_loop h3 a b 128 0 b a (by decide) (by decide)) (n := 10) ?_
  show 5 + 1 < 12 ∧ 7 + 1 < 12 ∧ 9 < 12 ∧ _
  refine ⟨by decide, by decide, by decide, ?_⟩
  exact rfl
