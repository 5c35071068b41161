/-! ANSWERS OF BOTH SIDES: behind -/
theorem c_lacksMotion {M : cm_M} {T' : Nat} (h3 : M.2.2 0 3 = some T') (c : Int32) : cm_Lc cm_ms 162 [.ref 0, .int c] M (fun v M' => M' = M ∧ v = some (.int (bi (outB c (M.1 T' 9))))) := by
  have z : (0 : Int32).toInt = 0 := by decide
  refine lb_st0 (mi := mr_162) rfl 400 ?_
  show (ev_cmp 2 c 0 = true → _) ∧ (ev_cmp 2 c 0 = false → _)
  refine ⟨fun h => ⟨rfl, ?_⟩, fun h => lb_to (T := (6, [(0, .ref 0), (1, .int c)], [.ref 0, .int c], M)) 6 [0, 1] rfl rfl rfl (fun J' h => h) (lb_g0 rfl rfl h3 ?_)⟩
  · have := fn_lt h
    unfold outB
    rw [decide_eq_true (by omega), Bool.true_or]
    try rfl
  · show (ev_cmp 2 c (M.1 T' 9) = true → _) ∧ (ev_cmp 2 c (M.1 T' 9) = false → _)
    have g := fn_nlt h
    refine ⟨fun h2 => ⟨rfl, ?_⟩, fun h2 => ⟨rfl, ?_⟩⟩
    · have := fn_lt h2
      unfold outB
      rw [decide_eq_false (by omega), decide_eq_false (by omega)]
      try rfl
    · have := fn_nlt h2
      unfold outB
      rw [decide_eq_true (p := (M.1 T' 9).toInt ≤ c.toInt) (by omega), Bool.or_true]
      try rfl
theorem m_isMotion {M : cm_M} {a : Bool} (ha : M.1 124 14 = bi a) (h15 : M.2.2 124 15 = some 127) (c : Int32) : cm_Lc cm_ms 206 [.ref 124, .int c] M (fun v M' => M' = M ∧ v = some (.int (bi (a && inB c 0 (M.1 127 4 - 1))))) := by
  refine lb_st0 (mi := mr_206) rfl 400 ?_
  show (ev_cmp 0 (M.1 124 14) 0 = true → _) ∧ (ev_cmp 0 (M.1 124 14) 0 = false → _)
  refine ⟨fun h => ⟨rfl, ?_⟩, fun h => lb_to (T := (10, [(0, .ref 124), (1, .int c)], [.ref 124, .int 0, .int c], M)) 10 [0, 1] rfl rfl rfl (fun J' h => h) (lb_g0 rfl rfl h15 ?_)⟩
  · rw [ha] at h
    rw [bi_0 h]
    try rfl
  · rw [ha] at h
    show ∃ R, cm_Lc cm_ms 167 [.int c, .int 0, .int (M.1 127 4 - 1)] M R ∧ ∀ v M', R v M' → _
    refine ⟨_, m_in2 c 0 _ M, ?_⟩
    rintro v M1 ⟨rfl, rfl⟩
    have e := bi_1 h
    show (ev_cmp 0 (bi (inB c 0 (M1.1 127 4 - 1))) 0 = true → _) ∧ (ev_cmp 0 (bi (inB c 0 (M1.1 127 4 - 1))) 0 = false → _)
    refine ⟨fun h2 => ⟨rfl, ?_⟩, fun h2 => ⟨rfl, ?_⟩⟩
    · rw [e, bi_0 h2]
      try rfl
    · rw [e, bi_1 h2]
      try rfl
/-- a number that is in is a small one -/
theorem out_nat {x : Int32} {n : Nat} (hn : n < 1000) (h : outB x (Int32.ofNat n) = false) : ∃ k, k < n ∧ x = Int32.ofNat k := by
  unfold outB at h
  rw [Bool.or_eq_false_iff, decide_eq_false_iff_not, decide_eq_false_iff_not, fn_toInt (by omega)] at h
  refine ⟨x.toInt.toNat, by omega, Int32.toInt_inj.mp ?_⟩
  rw [fn_toInt (by omega)]
  omega
def sB (k : Nat) : Int32 := (1 : Int32) <<< (Int32.ofNat k &&& 31)
/-- behind: what is found after so many steps -/
def bhF (am : Nat → Int32) (k : Nat) : Nat → Nat
  | 0 => 0
  | d + 1 => if am (k + 1 + d) &&& (Int32.ofNat (bhF am k d) ||| sB k) = 0 then bhF am k d else bhF am k d ||| 2 ^ (k + 1 + d)
set_option maxRecDepth 100000 in
theorem bh_1 : ∀ s, s < 32 → ∀ k, k < 5 → s / 2 ^ k % 2 = 0 → (Int32.ofNat s ||| sB k) &&& (sB k ^^^ -1) = Int32.ofNat s := by decide +kernel
set_option maxRecDepth 100000 in
theorem bh_2 : ∀ s, s < 32 → ∀ k, k < 5 → ∀ o, o < 5 → k < o → (Int32.ofNat s ||| sB k) ||| sB o = Int32.ofNat (s ||| 2 ^ o) ||| sB k := by decide +kernel
set_option maxRecDepth 100000 in
theorem bh_3 : ∀ s, s < 32 → ∀ o, o < 5 → Int32.ofNat s ||| sB o = Int32.ofNat (s ||| 2 ^ o) := by decide +kernel
set_option maxRecDepth 100000 in
theorem bh_4 : ∀ s, s < 32 → ∀ o, o < 5 → (s ||| 2 ^ o) < 32 := by decide +kernel
set_option maxRecDepth 100000 in
theorem bh_5 : ∀ s, s < 32 → ∀ k, k < 5 → ∀ o, o < 5 → s / 2 ^ k % 2 = 0 → k < o → (s ||| 2 ^ o) / 2 ^ k % 2 = 0 := by decide +kernel
theorem bh_t (s : Nat) (hs : s < 32) (k : Nat) (hk : k < 5) (h : s / 2 ^ k % 2 = 0) : (Int32.ofNat s ||| sB k) &&& (sB k ^^^ -1) = Int32.ofNat s ∧ ∀ o, o < 5 → k < o → (Int32.ofNat s ||| sB k) ||| sB o = Int32.ofNat (s ||| 2 ^ o) ||| sB k ∧ Int32.ofNat s ||| sB o = Int32.ofNat (s ||| 2 ^ o) ∧ (s ||| 2 ^ o) < 32 ∧ (s ||| 2 ^ o) / 2 ^ k % 2 = 0 :=
  ⟨bh_1 s hs k hk h, fun o ho hko => ⟨bh_2 s hs k hk o ho hko, bh_3 s hs o ho, bh_4 s hs o ho, bh_5 s hs k hk o ho h hko⟩⟩
theorem bhF_ok {am : Nat → Int32} {k : Nat} (hk : k < 5) : ∀ d, k + d < 5 → bhF am k d < 32 ∧ bhF am k d / 2 ^ k % 2 = 0
  | 0, _ => ⟨show (0 : Nat) < 32 by decide, show 0 / 2 ^ k % 2 = 0 by simp only [Nat.zero_div, Nat.zero_mod]⟩
  | d + 1, h => by
    obtain ⟨a, b⟩ := bhF_ok hk d (by omega)
    have q := ((bh_t _ a k hk b).2 (k + 1 + d) (by omega) (by omega)).2.2
    unfold bhF
    split
    · exact ⟨a, b⟩
    · exact q
theorem bhF_cg {am am' : Nat → Int32} {k : Nat} : ∀ d, (∀ o, o < k + 1 + d → am' o = am o) → bhF am' k d = bhF am k d
  | 0, _ => rfl
  | d + 1, h => by
    have e := bhF_cg (am := am) (am' := am') (k := k) d (fun o ho => h o (by omega))
    unfold bhF
    rw [e, h (k + 1 + d) (by omega)]
def am_J (M : cm_M) (T' mo k : Nat) (S : cm_S) : Prop := ∃ d, k + 1 + d ≤ mo ∧ S = (8, [(0, .ref T'), (1, .int (Int32.ofNat k)), (2, .int (Int32.ofNat (bhF (M.1 (T' + 9)) k d) ||| sB k)), (3, .int (Int32.ofNat (k + 1 + d)))], [], M)
set_option maxRecDepth 100000 in
theorem c_amend {M : cm_M} {T' mo k : Nat} (h13 : M.2.2 T' 13 = some (T' + 9)) (h9 : M.1 T' 9 = Int32.ofNat mo) (hmo : mo ≤ 5) (hk : k < mo) : cm_Lc cm_ms 14 [.ref T', .int (Int32.ofNat k)] M (fun v M' => M' = M ∧ v = some (.int (Int32.ofNat (bhF (M.1 (T' + 9)) k (mo - (k + 1)))))) := by
  refine lb_of (mi := mr_14) rfl [(8, [0, 1, 2, 3])] (am_J M T' mo k) 400 (fun S hS => ?_) 400 ?_
  · obtain ⟨d, hd, rfl⟩ := hS
    show (ev_cmp 3 (Int32.ofNat (k + 1 + d)) (M.1 T' 9) = true → _) ∧ (ev_cmp 3 (Int32.ofNat (k + 1 + d)) (M.1 T' 9) = false → _)
    refine ⟨fun h => ⟨rfl, ?_⟩, fun h => lb_to (T := (17, [(0, .ref T'), (1, .int (Int32.ofNat k)), (2, .int (Int32.ofNat (bhF (M.1 (T' + 9)) k d) ||| sB k)), (3, .int (Int32.ofNat (k + 1 + d)))], [.ref T'], M)) 17 [0, 1, 2, 3] rfl rfl rfl (fun J' h => h) (lb_g0 rfl rfl h13 ?_)⟩
    · have g := fn_ge h
      rw [h9, fn_toInt (by omega), fn_toInt (by omega)] at g
      have e : mo - (k + 1) = d := by omega
      obtain ⟨q1, q2⟩ := bhF_ok (am := M.1 (T' + 9)) (k := k) (by omega) d (by omega)
      show some (Value.int ((Int32.ofNat (bhF (M.1 (T' + 9)) k d) ||| sB k) &&& (sB k ^^^ -1))) = _
      rw [(bh_t _ q1 k (by omega) q2).1, e]
    · have g := fn_nge h
      rw [h9, fn_toInt (by omega), fn_toInt (by omega)] at g
      show (ev_cmp 0 (M.1 (T' + 9) (Int32.ofNat (k + 1 + d)).toNatClampNeg &&& (Int32.ofNat (bhF (M.1 (T' + 9)) k d) ||| sB k)) 0 = true → am_J M T' mo k (8, [(0, .ref T'), (1, .int (Int32.ofNat k)), (2, .int (Int32.ofNat (bhF (M.1 (T' + 9)) k d) ||| sB k)), (3, .int (Int32.ofNat (k + 1 + d) + 1))], [], M)) ∧ (ev_cmp 0 (M.1 (T' + 9) (Int32.ofNat (k + 1 + d)).toNatClampNeg &&& (Int32.ofNat (bhF (M.1 (T' + 9)) k d) ||| sB k)) 0 = false → am_J M T' mo k (8, [(0, .ref T'), (1, .int (Int32.ofNat k)), (2, .int ((Int32.ofNat (bhF (M.1 (T' + 9)) k d) ||| sB k) ||| sB (k + 1 + d))), (3, .int (Int32.ofNat (k + 1 + d) + 1))], [], M))
      rw [fn_nat (show k + 1 + d < 2147483648 by omega), ofn_s1]
      obtain ⟨q1, q2⟩ := bhF_ok (am := M.1 (T' + 9)) (k := k) (by omega) d (by omega)
      have es : bhF (M.1 (T' + 9)) k (d + 1) = if M.1 (T' + 9) (k + 1 + d) &&& (Int32.ofNat (bhF (M.1 (T' + 9)) k d) ||| sB k) = 0 then bhF (M.1 (T' + 9)) k d else bhF (M.1 (T' + 9)) k d ||| 2 ^ (k + 1 + d) := rfl
      refine ⟨fun h2 => ⟨d + 1, by omega, ?_⟩, fun h2 => ⟨d + 1, by omega, ?_⟩⟩
      · rw [es, if_pos (fn_eq0 h2)]
        try rfl
      · rw [es, if_neg (fn_ne0 h2), ((bh_t _ q1 k (by omega) q2).2 (k + 1 + d) (by omega) (by omega)).1]
        try rfl
  · show am_J M T' mo k (8, [(0, .ref T'), (1, .int (Int32.ofNat k)), (2, .int (sB k)), (3, .int (Int32.ofNat k + 1))], [], M)
    refine ⟨0, by omega, ?_⟩
    rw [ofn_s1, show Int32.ofNat (bhF (M.1 (T' + 9)) k 0) ||| sB k = sB k from Int32.zero_or]
def bhC (M : cm_M) (T' mo : Nat) (x : Int32) : Int32 := if outB x (Int32.ofNat mo) = true then -1 else Int32.ofNat (bhF (M.1 (T' + 9)) x.toNatClampNeg (mo - (x.toNatClampNeg + 1)))
theorem c_behind {M : cm_M} {T' mo : Nat} (h3 : M.2.2 0 3 = some T') (h13 : M.2.2 T' 13 = some (T' + 9)) (h9 : M.1 T' 9 = Int32.ofNat mo) (hmo : mo ≤ 5) (x : Int32) : cm_Lc cm_ms 105 [.ref 0, .int x] M (fun v _ => v = some (.int (bhC M T' mo x))) := by
  have q := c_lacksMotion h3 x
  rw [h9] at q
  refine lb_st0 (mi := mr_105) rfl 400 ?_
  show ∃ R, cm_Lc cm_ms 162 [.ref 0, .int x] M R ∧ ∀ v M', R v M' → _
  refine ⟨_, q, ?_⟩
  rintro v M1 ⟨rfl, rfl⟩
  show (ev_cmp 0 (bi (outB x (Int32.ofNat mo))) 0 = true → _) ∧ (ev_cmp 0 (bi (outB x (Int32.ofNat mo))) 0 = false → ∃ R, cm_Lc cm_ms 157 [.ref 0, .int 1] M1 R ∧ ∀ v M', R v M' → _)
  refine ⟨fun h => lb_to (T := (18, [(0, .ref 0), (1, .int x)], [.ref 0, .ref 0], M1)) 18 [0, 1] rfl rfl rfl (fun J' h => h) (lb_g0 rfl rfl h3 ?_), fun h => ⟨_, c_refused 1 M1, ?_⟩⟩
  · obtain ⟨k, hk, rfl⟩ := out_nat (by omega) (bi_0 h)
    show ∃ R, cm_Lc cm_ms 14 [.ref T', .int (Int32.ofNat k)] M1 R ∧ ∀ v M', R v M' → _
    refine ⟨_, c_amend h13 h9 hmo hk, ?_⟩
    rintro v M2 ⟨rfl, rfl⟩
    show ∃ R, cm_Lc cm_ms 159 [.ref 0, .int (Int32.ofNat (bhF (M2.1 (T' + 9)) k (mo - (k + 1))))] M2 R ∧ ∀ v M', R v M' → _
    refine ⟨_, c_granted _ M2, ?_⟩
    rintro v M3 ⟨-, rfl⟩
    show some (Value.int (Int32.ofNat (bhF (M2.1 (T' + 9)) k (mo - (k + 1))))) = _
    unfold bhC
    rw [bi_0 h, fn_nat (show k < 2147483648 by omega)]
    try rfl
  · rintro v M2 ⟨-, rfl⟩
    show some (Value.int (-1)) = _
    unfold bhC
    rw [bi_1 h]
    try rfl
/-! the reference's -/
def mb_J (M1 : cm_M) (mo k : Nat) (S : cm_S) : Prop := ∃ d, k + 1 + d ≤ mo ∧ S = (24, [(0, .ref 124), (1, .int (Int32.ofNat k)), (2, .int (Int32.ofNat (bhF (fun o => M1.1 127 (50 + o)) k d))), (3, .int (Int32.ofNat (k + 1 + d)))], [], M1)
def bhM (M : cm_M) (mo : Nat) (a : Bool) (x : Int32) : Int32 := if (a && inB x 0 (Int32.ofNat mo - 1)) = true then Int32.ofNat (bhF (fun o => M.1 127 (50 + o)) x.toNatClampNeg (mo - (x.toNatClampNeg + 1))) else -1
theorem ix50 {k : Nat} (h : k < 100) : ((50 : Int32) + Int32.ofNat k).toNatClampNeg = 50 + k := by
  rw [show (50 : Int32) = Int32.ofNat 50 from rfl, ← Int32.ofNat_add, fn_nat (by omega)]
set_option maxRecDepth 100000 in
theorem m_behind {M : cm_M} {a : Bool} {mo : Nat} (ha : M.1 124 14 = bi a) (h15 : M.2.2 124 15 = some 127) (h4 : a = true → M.1 127 4 = Int32.ofNat mo) (hmo : mo ≤ 5) (x : Int32) : cm_Lc cm_ms 230 [.ref 124, .int x] M (fun v _ => v = some (.int (bhM M mo a x))) := by
  have c1 := m_isMotion (M := cm_wi (cm_wi M 124 0 0) 124 11 0) (a := a) ha h15 x
  have e4 : (cm_wi (cm_wi M 124 0 0) 124 11 0).1 127 4 = M.1 127 4 := rfl
  rw [e4] at c1
  have c2 : cm_Lc cm_ms 206 [.ref 124, .int x] (cm_wi (cm_wi M 124 0 0) 124 11 0) (fun v M' => M' = cm_wi (cm_wi M 124 0 0) 124 11 0 ∧ v = some (.int (bi (a && inB x 0 (Int32.ofNat mo - 1))))) := by
    cases a with
    | false =>
      rw [Bool.false_and] at c1 ⊢
      exact c1
    | true =>
      rw [h4 rfl] at c1
      exact c1
  refine lb_of (mi := mr_230) rfl [(24, [0, 1, 2, 3])] (fun S => a = true ∧ ∃ k, k < mo ∧ x = Int32.ofNat k ∧ mb_J (cm_wi (cm_wi M 124 0 0) 124 11 0) mo k S) 400 (fun S hS => ?_) 400 ?_
  · obtain ⟨at1, k, hk, rfl, d, hd, rfl⟩ := hS
    have h4' := h4 at1
    first | refine lb_to (T := (26, [(0, .ref 124), (1, .int (Int32.ofNat k)), (2, .int (Int32.ofNat (bhF (fun o => (cm_wi (cm_wi M 124 0 0) 124 11 0).1 127 (50 + o)) k d))), (3, .int (Int32.ofNat (k + 1 + d)))], [.ref 124, .int (Int32.ofNat (k + 1 + d))], cm_wi (cm_wi M 124 0 0) 124 11 0)) 26 [0, 1, 2, 3] rfl rfl rfl (fun J' h => h) (lb_g0 rfl rfl h15 ?_) | refine lb_to0 (T := (26, [(0, .ref 124), (1, .int (Int32.ofNat k)), (2, .int (Int32.ofNat (bhF (fun o => (cm_wi (cm_wi M 124 0 0) 124 11 0).1 127 (50 + o)) k d))), (3, .int (Int32.ofNat (k + 1 + d)))], [.ref 124, .int (Int32.ofNat (k + 1 + d))], cm_wi (cm_wi M 124 0 0) 124 11 0)) 26 [0, 1, 2, 3] rfl rfl rfl (fun J' h => h) (lb_g0 rfl rfl h15 ?_)
    show (ev_cmp 3 (Int32.ofNat (k + 1 + d)) (M.1 127 4) = true → _) ∧ (ev_cmp 3 (Int32.ofNat (k + 1 + d)) (M.1 127 4) = false → _)
    refine ⟨fun h => ?_, fun h => lb_to (T := (36, [(0, .ref 124), (1, .int (Int32.ofNat k)), (2, .int (Int32.ofNat (bhF (fun o => (cm_wi (cm_wi M 124 0 0) 124 11 0).1 127 (50 + o)) k d))), (3, .int (Int32.ofNat (k + 1 + d)))], [.ref 124, .int (Int32.ofNat (bhF (fun o => (cm_wi (cm_wi M 124 0 0) 124 11 0).1 127 (50 + o)) k d))], cm_wi (cm_wi M 124 0 0) 124 11 0)) 36 [0, 1, 2, 3] rfl rfl rfl (fun J' h => h) (lb_g0 rfl rfl h15 ?_)⟩
    · have g := fn_ge h
      rw [h4', fn_toInt (by omega), fn_toInt (by omega)] at g
      have e : mo - (k + 1) = d := by omega
      show some (Value.int (Int32.ofNat (bhF (fun o => M.1 127 (50 + o)) k d))) = _
      have ei : (a && inB (Int32.ofNat k) 0 (Int32.ofNat mo - 1)) = true := by
        rw [at1, out_in (by omega)]
        unfold outB
        rw [fn_toInt (by omega), fn_toInt (by omega), decide_eq_false (by omega), decide_eq_false (by omega)]
        try rfl
      unfold bhM
      rw [if_pos ei, fn_nat (show k < 2147483648 by omega), e]
    · have g := fn_nge h
      rw [h4', fn_toInt (by omega), fn_toInt (by omega)] at g
      show (ev_cmp 0 (M.1 127 (50 + Int32.ofNat (k + 1 + d)).toNatClampNeg &&& (Int32.ofNat (bhF (fun o => M.1 127 (50 + o)) k d) ||| sB k)) 0 = true → (_ ∧ ∃ k', k' < mo ∧ _ ∧ mb_J (cm_wi (cm_wi M 124 0 0) 124 11 0) mo k' (24, [(0, .ref 124), (1, .int (Int32.ofNat k)), (2, .int (Int32.ofNat (bhF (fun o => M.1 127 (50 + o)) k d) ||| 0)), (3, .int (Int32.ofNat (k + 1 + d) + 1))], [], cm_wi (cm_wi M 124 0 0) 124 11 0))) ∧ (ev_cmp 0 (M.1 127 (50 + Int32.ofNat (k + 1 + d)).toNatClampNeg &&& (Int32.ofNat (bhF (fun o => M.1 127 (50 + o)) k d) ||| sB k)) 0 = false → (_ ∧ ∃ k', k' < mo ∧ _ ∧ mb_J (cm_wi (cm_wi M 124 0 0) 124 11 0) mo k' (24, [(0, .ref 124), (1, .int (Int32.ofNat k)), (2, .int (Int32.ofNat (bhF (fun o => M.1 127 (50 + o)) k d) ||| sB (k + 1 + d))), (3, .int (Int32.ofNat (k + 1 + d) + 1))], [], cm_wi (cm_wi M 124 0 0) 124 11 0)))
      obtain ⟨q1, q2⟩ := bhF_ok (am := fun o => M.1 127 (50 + o)) (k := k) (by omega) d (by omega)
      have es : bhF (fun o => M.1 127 (50 + o)) k (d + 1) = if M.1 127 (50 + (k + 1 + d)) &&& (Int32.ofNat (bhF (fun o => M.1 127 (50 + o)) k d) ||| sB k) = 0 then bhF (fun o => M.1 127 (50 + o)) k d else bhF (fun o => M.1 127 (50 + o)) k d ||| 2 ^ (k + 1 + d) := rfl
      refine ⟨fun h2 => ⟨at1, k, hk, rfl, d + 1, by omega, ?_⟩, fun h2 => ⟨at1, k, hk, rfl, d + 1, by omega, ?_⟩⟩
      · have g2 := fn_eq0 h2
        rw [ix50 (by omega)] at g2
        show _ = (24, [(0, Value.ref 124), (1, .int (Int32.ofNat k)), (2, .int (Int32.ofNat (bhF (fun o => M.1 127 (50 + o)) k (d + 1)))), (3, .int (Int32.ofNat (k + 1 + (d + 1))))], [], cm_wi (cm_wi M 124 0 0) 124 11 0)
        rw [es, if_pos g2, ofn_s1, Int32.or_zero]
        try rfl
      · have g2 := fn_ne0 h2
        rw [ix50 (by omega)] at g2
        show _ = (24, [(0, Value.ref 124), (1, .int (Int32.ofNat k)), (2, .int (Int32.ofNat (bhF (fun o => M.1 127 (50 + o)) k (d + 1)))), (3, .int (Int32.ofNat (k + 1 + (d + 1))))], [], cm_wi (cm_wi M 124 0 0) 124 11 0)
        rw [es, if_neg g2, ofn_s1, ((bh_t _ q1 k (by omega) q2).2 (k + 1 + d) (by omega) (by omega)).2.1]
        try rfl
  · show ∃ R, cm_Lc cm_ms 164 [.ref 124] M R ∧ ∀ v M', R v M' → _
    refine ⟨_, m_good2 M, ?_⟩
    rintro v M1 ⟨rfl, rfl⟩
    show ∃ R, cm_Lc cm_ms 206 [.ref 124, .int x] (cm_wi (cm_wi M 124 0 0) 124 11 0) R ∧ ∀ v M', R v M' → _
    refine ⟨_, c2, ?_⟩
    rintro v M1 ⟨rfl, rfl⟩
    show (ev_cmp 1 (bi (a && inB x 0 (Int32.ofNat mo - 1))) 0 = true → (_ ∧ ∃ k', k' < mo ∧ _ ∧ mb_J (cm_wi (cm_wi M 124 0 0) 124 11 0) mo k' (24, [(0, .ref 124), (1, .int x), (2, .int (Int32.ofNat 0)), (3, .int (x + 1))], [], cm_wi (cm_wi M 124 0 0) 124 11 0))) ∧ (ev_cmp 1 (bi (a && inB x 0 (Int32.ofNat mo - 1))) 0 = false → ∃ R, cm_Lc cm_ms 165 [.ref 124, .int 1] (cm_wi (cm_wi M 124 0 0) 124 11 0) R ∧ ∀ v M', R v M' → _)
    refine ⟨fun h => ?_, fun h => ⟨_, m_no2 _ _, ?_⟩⟩
    · have e := bi_t h
      rw [Bool.and_eq_true, out_in (by omega), Bool.not_eq_true'] at e
      obtain ⟨k, hk, rfl⟩ := out_nat (by omega) e.2
      refine ⟨e.1, k, hk, rfl, 0, by omega, ?_⟩
      rw [ofn_s1]
      try rfl
    · rintro v M1 ⟨rfl, -⟩
      show some (Value.int (-1)) = _
      unfold bhM
      rw [bi_f h, if_neg Bool.false_ne_true]
