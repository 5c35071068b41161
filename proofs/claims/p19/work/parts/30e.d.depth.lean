/-! ANSWERS OF BOTH SIDES: depth -/
/-- the longest row of those ahead, among the first -/
def mx (am : Nat → Nat) (dp : Nat → Nat) (k : Nat) : Nat → Nat
  | 0 => 0
  | j + 1 => if am k / 2 ^ j % 2 = 0 then mx am dp k j else max (mx am dp k j) (dp j)
def dpT (am : Nat → Nat) : Nat → Nat → Nat
  | 0 => fun _ => 0
  | n + 1 => up (dpT am n) n (1 + mx am (dpT am n) n n)
def dpF (am : Nat → Nat) (k : Nat) : Nat := dpT am (k + 1) k
theorem mx_cg {am dp dp' : Nat → Nat} {k : Nat} : ∀ j, (∀ i, i < j → dp' i = dp i) → mx am dp' k j = mx am dp k j
  | 0, _ => rfl
  | j + 1, h => by
    unfold mx
    rw [mx_cg (dp := dp) j (fun i hi => h i (by omega)), h j (by omega)]
theorem dpT_s (am : Nat → Nat) (k n : Nat) (h : k < n) : dpT am (n + 1) k = dpT am n k := by
  show up _ _ _ _ = _
  unfold up
  rw [if_neg (by omega)]
theorem dpT_F (am : Nat → Nat) (k : Nat) : ∀ d, dpT am (k + 1 + d) k = dpF am k
  | 0 => rfl
  | d + 1 => by
    show dpT am (k + 1 + d + 1) k = _
    rw [dpT_s am k (k + 1 + d) (by omega), dpT_F am k d]
theorem dpT_n (am : Nat → Nat) {k n : Nat} (h : k < n) : dpT am n k = dpF am k := by
  have := dpT_F am k (n - (k + 1))
  rwa [Nat.add_sub_of_le (by omega)] at this
theorem dpF_eq (am : Nat → Nat) (k : Nat) : dpF am k = 1 + mx am (dpF am) k k := by
  show up _ _ _ _ = _
  unfold up
  rw [if_pos rfl, mx_cg (dp := dpF am) k (fun i hi => dpT_n am hi)]
theorem mx_le {am dp : Nat → Nat} {k : Nat} : ∀ j, (∀ i, i < j → dp i ≤ i + 1) → mx am dp k j ≤ j
  | 0, _ => Nat.le_refl _
  | j + 1, h => by
    have := mx_le (am := am) (dp := dp) (k := k) j (fun i hi => h i (by omega))
    have := h j (by omega)
    unfold mx
    split <;> omega
theorem dpF_le (am : Nat → Nat) : ∀ n k, k < n → dpF am k ≤ k + 1
  | 0, k, h => by omega
  | n + 1, k, h => by
    rw [dpF_eq]
    have := mx_le (am := am) (dp := dpF am) (k := k) k (fun i hi => dpF_le am n i (by omega))
    omega
/-- the told amendments -/
def AMs (mo : Nat) (A : Nat → Int32) (am : Nat → Nat) : Prop := ∀ k, k < mo → A k = Int32.ofNat (am k) ∧ am k < 32
/-- but for one cell -/
def bfc (c : Nat) (M M' : cm_M) : Prop := M'.2 = M.2 ∧ ∀ d j, d ≠ c → M'.1 d j = M.1 d j
theorem bfc_w {c j : Nat} {x : Int32} {M M' : cm_M} (h : bfc c M M') : bfc c M (cm_wi M' c j x) := ⟨h.1, fun d i hd => by
  rw [wi_n2 (by omega)]
  exact h.2 d i hd⟩
theorem wi_at (M : cm_M) (c i : Nat) (x : Int32) : (cm_wi M c i x).1 c i = x := by
  show (if c = c ∧ i = i then x else _) = x
  rw [if_pos ⟨rfl, rfl⟩]
def ru_L (T' k at1 : Nat) : List (Nat × Value) := [(0, .ref T'), (1, .int (Int32.ofNat k)), (2, .int (Int32.ofNat at1))]
def ru_J (M : cm_M) (T' k : Nat) (am : Nat → Nat) (S : cm_S) : Prop := ∃ n M1, bfc (T' + 10) M M1 ∧ (∀ j, j < n → M1.1 (T' + 10) j = Int32.ofNat (dpF am j)) ∧ ((n ≤ k + 1 ∧ S = (2, [(0, .ref T'), (1, .int (Int32.ofNat k)), (2, .int (Int32.ofNat n))], [], M1)) ∨ (∃ j, n ≤ k ∧ j ≤ n ∧ M1.1 (T' + 10) n = Int32.ofNat (1 + mx am (dpF am) n j) ∧ S = (21, [(0, .ref T'), (1, .int (Int32.ofNat k)), (2, .int (Int32.ofNat n)), (3, .int (Int32.ofNat j))], [], M1)))
set_option maxRecDepth 100000 in
set_option maxHeartbeats 4000000 in
theorem c_rowUp {M : cm_M} {T' mo k : Nat} {am : Nat → Nat} (h13 : M.2.2 T' 13 = some (T' + 9)) (h14 : M.2.2 T' 14 = some (T' + 10)) (hmo : mo ≤ 5) (hk : k < mo) (ha : AMs mo (M.1 (T' + 9)) am) : cm_Lc cm_ms 15 [.ref T', .int (Int32.ofNat k)] M (fun v M' => v = some (.int (Int32.ofNat (dpF am k)))) := by
  have hdp : ∀ i, i < 10 → dpF am i ≤ i + 1 := fun i hi => dpF_le am 10 i hi
  refine lb_of (mi := mr_15) rfl [(2, [0, 1, 2]), (21, [0, 1, 2, 3])] (ru_J M T' k am) 400 (fun S hS => ?_) 400 ?_
  · obtain ⟨n, M1, hb, hr, ⟨hn, rfl⟩ | ⟨j, hn, hj, hc, rfl⟩⟩ := hS
    · have z0 : (0 : Int32).toInt = 0 := by decide
      have z5 : (5 : Int32).toInt = 5 := by decide
      have r14 : M1.2.2 T' 14 = some (T' + 10) := by rw [hb.1]; exact h14
      show (ev_cmp 4 (Int32.ofNat n) (Int32.ofNat k) = true → (ev_cmp 2 (Int32.ofNat k) 0 = true → _) ∧ (ev_cmp 2 (Int32.ofNat k) 0 = false → (ev_cmp 3 (Int32.ofNat k) 5 = true → _) ∧ (ev_cmp 3 (Int32.ofNat k) 5 = false → _))) ∧ (ev_cmp 4 (Int32.ofNat n) (Int32.ofNat k) = false → (ev_cmp 3 (Int32.ofNat n) 5 = true → _) ∧ (ev_cmp 3 (Int32.ofNat n) 5 = false → _))
      refine ⟨fun h => ⟨fun h2 => ?_, fun h2 => ⟨fun h3 => ?_, fun h3 => lb_to (T := (90, [(0, .ref T'), (1, .int (Int32.ofNat k)), (2, .int (Int32.ofNat n))], [.ref T'], M1)) 90 [0, 1, 2] rfl rfl rfl (fun J' h => h) (lb_g0 rfl rfl r14 ?_)⟩⟩, fun h => ⟨fun h2 => ?_, fun h2 => lb_to (T := (13, [(0, .ref T'), (1, .int (Int32.ofNat k)), (2, .int (Int32.ofNat n))], [.ref T'], M1)) 13 [0, 1, 2] rfl rfl rfl (fun J' h => h) (lb_g0 rfl rfl r14 ?_)⟩⟩
      · have g := fn_lt h2
        rw [fn_toInt (by omega)] at g
        omega
      · have g := fn_ge h3
        rw [fn_toInt (by omega)] at g
        omega
      · have g := fn_gt h
        rw [fn_toInt (by omega), fn_toInt (by omega)] at g
        show some (Value.int (M1.1 (T' + 10) (Int32.ofNat k).toNatClampNeg)) = _
        rw [fn_nat (by omega), hr k (by omega)]
      · have g := fn_ngt h
        have g2 := fn_ge h2
        rw [fn_toInt (by omega), fn_toInt (by omega)] at g
        rw [fn_toInt (by omega)] at g2
        omega
      · have g := fn_ngt h
        rw [fn_toInt (by omega), fn_toInt (by omega)] at g
        show ru_J M T' k am (21, [(0, .ref T'), (1, .int (Int32.ofNat k)), (2, .int (Int32.ofNat n)), (3, .int (Int32.ofNat 0))], [], cm_wi M1 (T' + 10) (Int32.ofNat n).toNatClampNeg 1)
        rw [fn_nat (show n < 2147483648 by omega)]
        refine ⟨n, _, bfc_w hb, fun j hj => ?_, Or.inr ⟨0, by omega, by omega, ?_, rfl⟩⟩
        · rw [wi_n2 (by omega)]
          exact hr j hj
        · rw [wi_at]
          try rfl
    · have r14 : M1.2.2 T' 14 = some (T' + 10) := by rw [hb.1]; exact h14
      have r13 : M1.2.2 T' 13 = some (T' + 9) := by rw [hb.1]; exact h13
      have hmx := mx_le (am := am) (dp := dpF am) (k := n) j (fun i hi => hdp i (by omega))
      show (ev_cmp 3 (Int32.ofNat j) (Int32.ofNat n) = true → ru_J M T' k am (2, [(0, .ref T'), (1, .int (Int32.ofNat k)), (2, .int (Int32.ofNat n + 1))], [], M1)) ∧ (ev_cmp 3 (Int32.ofNat j) (Int32.ofNat n) = false → _)
      refine ⟨fun h => ?_, fun h => lb_to (T := (27, [(0, .ref T'), (1, .int (Int32.ofNat k)), (2, .int (Int32.ofNat n)), (3, .int (Int32.ofNat j))], [.ref T'], M1)) 27 [0, 1, 2, 3] rfl rfl rfl (fun J' h => h) (lb_g0 rfl rfl r13 ?_)⟩
      · have g := fn_ge h
        rw [fn_toInt (by omega), fn_toInt (by omega)] at g
        have : j = n := by omega
        subst this
        refine ⟨j + 1, M1, hb, fun i hi => ?_, Or.inl ⟨by omega, by rw [ofn_s1]⟩⟩
        rcases Nat.lt_or_ge i j with q | q
        · exact hr i q
        · have : i = j := by omega
          subst this
          rw [hc, dpF_eq]
      · have g := fn_nge h
        rw [fn_toInt (by omega), fn_toInt (by omega)] at g
        have an := ha n (by omega)
        have e9 : M1.1 (T' + 9) (Int32.ofNat n).toNatClampNeg = Int32.ofNat (am n) := by
          rw [fn_nat (by omega), hb.2 _ _ (by omega)]
          exact an.1
        have hbt := bit_t (am n) (by omega) j (by omega)
        have ex : mx am (dpF am) n (j + 1) = if am n / 2 ^ j % 2 = 0 then mx am (dpF am) n j else max (mx am (dpF am) n j) (dpF am j) := rfl
        have hdj := hdp j (by omega)
        show (ev_cmp 0 ((M1.1 (T' + 9) (Int32.ofNat n).toNatClampNeg >>> (Int32.ofNat j &&& 31)) &&& 1) 0 = true → ru_J M T' k am (21, [(0, .ref T'), (1, .int (Int32.ofNat k)), (2, .int (Int32.ofNat n)), (3, .int (Int32.ofNat j + 1))], [], M1)) ∧ (ev_cmp 0 ((M1.1 (T' + 9) (Int32.ofNat n).toNatClampNeg >>> (Int32.ofNat j &&& 31)) &&& 1) 0 = false → _)
        refine ⟨fun h2 => ?_, fun h2 => lb_to (T := (40, [(0, .ref T'), (1, .int (Int32.ofNat k)), (2, .int (Int32.ofNat n)), (3, .int (Int32.ofNat j))], [.ref T'], M1)) 40 [0, 1, 2, 3] rfl rfl rfl (fun J' h => h) (lb_g0 rfl rfl r14 ?_)⟩
        · have g2 := fn_eq0 h2
          rw [e9] at g2
          refine ⟨n, M1, hb, hr, Or.inr ⟨j + 1, hn, by omega, ?_, by rw [ofn_s1]⟩⟩
          rw [hc, ex, if_pos (hbt.mp g2)]
        · have g2 := fn_ne0 h2
          rw [e9] at g2
          have g3 : ¬ am n / 2 ^ j % 2 = 0 := fun z => g2 (hbt.mpr z)
          rw [if_neg g3] at ex
          first | refine lb_to (T := (46, [(0, .ref T'), (1, .int (Int32.ofNat k)), (2, .int (Int32.ofNat n)), (3, .int (Int32.ofNat j))], [.ref T', .int (M1.1 (T' + 10) (Int32.ofNat j).toNatClampNeg)], M1)) 46 [0, 1, 2, 3] rfl rfl rfl (fun J' h => h) (lb_g0 rfl rfl r14 ?_) | refine lb_to0 (T := (46, [(0, .ref T'), (1, .int (Int32.ofNat k)), (2, .int (Int32.ofNat n)), (3, .int (Int32.ofNat j))], [.ref T', .int (M1.1 (T' + 10) (Int32.ofNat j).toNatClampNeg)], M1)) 46 [0, 1, 2, 3] rfl rfl rfl (fun J' h => h) (lb_g0 rfl rfl r14 ?_)
          have ej : M1.1 (T' + 10) (Int32.ofNat j).toNatClampNeg = Int32.ofNat (dpF am j) := by
            rw [fn_nat (by omega)]
            exact hr j (by omega)
          have en : M1.1 (T' + 10) (Int32.ofNat n).toNatClampNeg = Int32.ofNat (1 + mx am (dpF am) n j) := by
            rw [fn_nat (by omega)]
            exact hc
          show (ev_cmp 2 (M1.1 (T' + 10) (Int32.ofNat j).toNatClampNeg) (M1.1 (T' + 10) (Int32.ofNat n).toNatClampNeg) = true → ru_J M T' k am (21, [(0, .ref T'), (1, .int (Int32.ofNat k)), (2, .int (Int32.ofNat n)), (3, .int (Int32.ofNat j + 1))], [], M1)) ∧ (ev_cmp 2 (M1.1 (T' + 10) (Int32.ofNat j).toNatClampNeg) (M1.1 (T' + 10) (Int32.ofNat n).toNatClampNeg) = false → _)
          refine ⟨fun h3 => ?_, fun h3 => lb_to (T := (55, [(0, .ref T'), (1, .int (Int32.ofNat k)), (2, .int (Int32.ofNat n)), (3, .int (Int32.ofNat j))], [.ref T'], M1)) 55 [0, 1, 2, 3] rfl rfl rfl (fun J' h => h) (lb_g0 rfl rfl r14 ?_)⟩
          · have g4 := fn_lt h3
            rw [ej, en, fn_toInt (by omega), fn_toInt (by omega)] at g4
            refine ⟨n, M1, hb, hr, Or.inr ⟨j + 1, hn, by omega, ?_, by rw [ofn_s1]⟩⟩
            rw [hc, ex, Nat.max_eq_left (by omega)]
          · have g4 := fn_nlt h3
            rw [ej, en, fn_toInt (by omega), fn_toInt (by omega)] at g4
            first | refine lb_to (T := (60, [(0, .ref T'), (1, .int (Int32.ofNat k)), (2, .int (Int32.ofNat n)), (3, .int (Int32.ofNat j))], [.ref T', .int (Int32.ofNat n), .ref (T' + 10)], M1)) 60 [0, 1, 2, 3] rfl rfl rfl (fun J' h => h) (lb_g0 rfl rfl r14 ?_) | refine lb_to0 (T := (60, [(0, .ref T'), (1, .int (Int32.ofNat k)), (2, .int (Int32.ofNat n)), (3, .int (Int32.ofNat j))], [.ref T', .int (Int32.ofNat n), .ref (T' + 10)], M1)) 60 [0, 1, 2, 3] rfl rfl rfl (fun J' h => h) (lb_g0 rfl rfl r14 ?_)
            show ru_J M T' k am (21, [(0, .ref T'), (1, .int (Int32.ofNat k)), (2, .int (Int32.ofNat n)), (3, .int (Int32.ofNat j + 1))], [], cm_wi M1 (T' + 10) (Int32.ofNat n).toNatClampNeg (M1.1 (T' + 10) (Int32.ofNat j).toNatClampNeg + 1))
            rw [ej, fn_nat (show n < 2147483648 by omega), ofn_s1, ofn_s1]
            refine ⟨n, _, bfc_w hb, fun i hi => ?_, Or.inr ⟨j + 1, hn, by omega, ?_, rfl⟩⟩
            · rw [wi_n2 (by omega)]
              exact hr i hi
            · rw [wi_at, ex, Nat.max_eq_right (by omega), Nat.add_comm]
  · show ru_J M T' k am (2, [(0, .ref T'), (1, .int (Int32.ofNat k)), (2, .int (Int32.ofNat 0))], [], M)
    exact ⟨0, M, ⟨rfl, fun _ _ _ => rfl⟩, fun j hj => by omega, Or.inl ⟨by omega, rfl⟩⟩
def dhC (am : Nat → Nat) (mo : Nat) (x : Int32) : Int32 := if outB x (Int32.ofNat mo) = true then -1 else Int32.ofNat (dpF am x.toNatClampNeg)
theorem c_depth {M : cm_M} {T' mo : Nat} {am : Nat → Nat} (h3 : M.2.2 0 3 = some T') (h13 : M.2.2 T' 13 = some (T' + 9)) (h14 : M.2.2 T' 14 = some (T' + 10)) (h9 : M.1 T' 9 = Int32.ofNat mo) (hmo : mo ≤ 5) (ha : AMs mo (M.1 (T' + 9)) am) (x : Int32) : cm_Lc cm_ms 106 [.ref 0, .int x] M (fun v _ => v = some (.int (dhC am mo x))) := by
  have q := c_lacksMotion h3 x
  rw [h9] at q
  refine lb_st0 (mi := mr_106) rfl 400 ?_
  show ∃ R, cm_Lc cm_ms 162 [.ref 0, .int x] M R ∧ ∀ v M', R v M' → _
  refine ⟨_, q, ?_⟩
  rintro v M1 ⟨rfl, rfl⟩
  show (ev_cmp 0 (bi (outB x (Int32.ofNat mo))) 0 = true → _) ∧ (ev_cmp 0 (bi (outB x (Int32.ofNat mo))) 0 = false → ∃ R, cm_Lc cm_ms 157 [.ref 0, .int 1] M1 R ∧ ∀ v M', R v M' → _)
  refine ⟨fun h => lb_to (T := (18, [(0, .ref 0), (1, .int x)], [.ref 0, .ref 0], M1)) 18 [0, 1] rfl rfl rfl (fun J' h => h) (lb_g0 rfl rfl h3 ?_), fun h => ⟨_, c_refused 1 M1, ?_⟩⟩
  · obtain ⟨k, hk, rfl⟩ := out_nat (by omega) (bi_0 h)
    show ∃ R, cm_Lc cm_ms 15 [.ref T', .int (Int32.ofNat k)] M1 R ∧ ∀ v M', R v M' → _
    refine ⟨_, c_rowUp h13 h14 hmo hk ha, ?_⟩
    rintro v M2 rfl
    show ∃ R, cm_Lc cm_ms 159 [.ref 0, .int (Int32.ofNat (dpF am k))] M2 R ∧ ∀ v M', R v M' → _
    refine ⟨_, c_granted _ M2, ?_⟩
    rintro v M3 ⟨-, rfl⟩
    show some (Value.int (Int32.ofNat (dpF am k))) = _
    unfold dhC
    rw [bi_0 h, if_neg Bool.false_ne_true, fn_nat (show k < 2147483648 by omega)]
  · rintro v M2 ⟨-, rfl⟩
    show some (Value.int (-1)) = _
    unfold dhC
    rw [bi_1 h, if_pos rfl]
/-! the reference's: by the number -/
set_option maxRecDepth 100000 in
theorem m_depthOf {M : cm_M} {mo : Nat} {am : Nat → Nat} (h15 : M.2.2 124 15 = some 127) (hmo : mo ≤ 5) (ha : AMs mo (fun k => M.1 127 (50 + k)) am) : ∀ n k, k < n → k < mo → cm_Lc cm_ms 231 [.ref 124, .int (Int32.ofNat k)] M (fun v M' => M' = M ∧ v = some (.int (Int32.ofNat (dpF am k))))
  | 0, k, hn, _ => by omega
  | n + 1, k, hn, hk => by
    have ih := m_depthOf h15 hmo ha n
    have hdp : ∀ i, i < 10 → dpF am i ≤ i + 1 := fun i hi => dpF_le am 10 i hi
    refine lb_of (mi := mr_231) rfl [(4, [0, 1, 2, 3])] (fun S => ∃ j, j ≤ k ∧ S = (4, [(0, .ref 124), (1, .int (Int32.ofNat k)), (2, .int (Int32.ofNat (mx am (dpF am) k j))), (3, .int (Int32.ofNat j))], [], M)) 400 (fun S hS => ?_) 400 ?_
    · obtain ⟨j, hj, rfl⟩ := hS
      have hmx := mx_le (am := am) (dp := dpF am) (k := k) j (fun i hi => hdp i (by omega))
      show (ev_cmp 3 (Int32.ofNat j) (Int32.ofNat k) = true → _) ∧ (ev_cmp 3 (Int32.ofNat j) (Int32.ofNat k) = false → _)
      refine ⟨fun h => ⟨rfl, ?_⟩, fun h => lb_to (T := (10, [(0, .ref 124), (1, .int (Int32.ofNat k)), (2, .int (Int32.ofNat (mx am (dpF am) k j))), (3, .int (Int32.ofNat j))], [.ref 124], M)) 10 [0, 1, 2, 3] rfl rfl rfl (fun J' h => h) (lb_g0 rfl rfl h15 ?_)⟩
      · have g := fn_ge h
        rw [fn_toInt (by omega), fn_toInt (by omega)] at g
        have : j = k := by omega
        subst this
        show some (Value.int (1 + Int32.ofNat (mx am (dpF am) j j))) = _
        rw [dpF_eq, show (1 : Int32) = Int32.ofNat 1 from rfl, ← Int32.ofNat_add]
      · have g := fn_nge h
        rw [fn_toInt (by omega), fn_toInt (by omega)] at g
        have ak := ha k hk
        have e50 : M.1 127 (50 + Int32.ofNat k).toNatClampNeg = Int32.ofNat (am k) := by
          rw [ix50 (by omega)]
          exact ak.1
        have hbt := bit_t (am k) (by omega) j (by omega)
        have hbo := bit_o (am k) (by omega) j (by omega)
        have ex : mx am (dpF am) k (j + 1) = if am k / 2 ^ j % 2 = 0 then mx am (dpF am) k j else max (mx am (dpF am) k j) (dpF am j) := rfl
        have hdj := hdp j (by omega)
        show ∃ R, cm_Lc cm_ms 168 [.int (M.1 127 (50 + Int32.ofNat k).toNatClampNeg), .int (Int32.ofNat j)] M R ∧ ∀ v M', R v M' → _
        have hbq := m_hasBit (M.1 127 (50 + Int32.ofNat k).toNatClampNeg) (Int32.ofNat j) M
        refine ⟨_, hbq, ?_⟩
        rintro v M1 ⟨rfl, rfl⟩
        show (ev_cmp 0 (bi (decide ((M1.1 127 (50 + Int32.ofNat k).toNatClampNeg >>> (Int32.ofNat j &&& 31)) &&& 1 = 1))) 0 = true → ∃ j', j' ≤ k ∧ (4, [(0, Value.ref 124), (1, .int (Int32.ofNat k)), (2, .int (Int32.ofNat (mx am (dpF am) k j))), (3, .int (Int32.ofNat j + 1))], [], M1) = _) ∧ (ev_cmp 0 (bi (decide ((M1.1 127 (50 + Int32.ofNat k).toNatClampNeg >>> (Int32.ofNat j &&& 31)) &&& 1 = 1))) 0 = false → ∃ R, cm_Lc cm_ms 231 [.ref 124, .int (Int32.ofNat j)] M1 R ∧ ∀ v M', R v M' → _)
        refine ⟨fun h2 => ⟨j + 1, by omega, ?_⟩, fun h2 => ⟨_, ih j (by omega) (by omega), ?_⟩⟩
        · have g2 := of_decide_eq_false (bi_0 h2)
          rw [e50] at g2
          rw [ofn_s1, ex, if_pos (hbt.mp (hbo.resolve_right g2))]
        · have g2 := of_decide_eq_true (bi_1 h2)
          rw [e50] at g2
          have g3 : ¬ am k / 2 ^ j % 2 = 0 := fun z => by
            rw [hbt.mpr z] at g2
            exact absurd g2 (by decide)
          rw [if_neg g3] at ex
          rintro v M2 ⟨rfl, rfl⟩
          show (ev_cmp 5 (Int32.ofNat (dpF am j)) (Int32.ofNat (mx am (dpF am) k j)) = true → ∃ j', j' ≤ k ∧ (4, [(0, Value.ref 124), (1, .int (Int32.ofNat k)), (2, .int (Int32.ofNat (mx am (dpF am) k j))), (3, .int (Int32.ofNat j + 1))], [], M2) = _) ∧ (ev_cmp 5 (Int32.ofNat (dpF am j)) (Int32.ofNat (mx am (dpF am) k j)) = false → ∃ R, cm_Lc cm_ms 231 [.ref 124, .int (Int32.ofNat j)] M2 R ∧ ∀ v M', R v M' → _)
          refine ⟨fun h3 => ⟨j + 1, by omega, ?_⟩, fun h3 => ⟨_, ih j (by omega) (by omega), ?_⟩⟩
          · have g4 := fn_le h3
            rw [fn_toInt (by omega), fn_toInt (by omega)] at g4
            rw [ofn_s1, ex, Nat.max_eq_left (by omega)]
          · have g4 := fn_nle h3
            rw [fn_toInt (by omega), fn_toInt (by omega)] at g4
            rintro v M3 ⟨rfl, rfl⟩
            show ∃ j', j' ≤ k ∧ (4, [(0, Value.ref 124), (1, .int (Int32.ofNat k)), (2, .int (Int32.ofNat (dpF am j))), (3, .int (Int32.ofNat j + 1))], [], M3) = _
            exact ⟨j + 1, by omega, by rw [ofn_s1, ex, Nat.max_eq_right (by omega)]⟩
    · show ∃ j', j' ≤ k ∧ (4, [(0, Value.ref 124), (1, .int (Int32.ofNat k)), (2, .int (Int32.ofNat 0)), (3, .int (Int32.ofNat 0))], [], M) = _
      exact ⟨0, Nat.zero_le _, rfl⟩
def dhM (am : Nat → Nat) (mo : Nat) (a : Bool) (x : Int32) : Int32 := if (a && inB x 0 (Int32.ofNat mo - 1)) = true then Int32.ofNat (dpF am x.toNatClampNeg) else -1
theorem m_depth {M : cm_M} {a : Bool} {mo : Nat} {am : Nat → Nat} (ha : M.1 124 14 = bi a) (h15 : M.2.2 124 15 = some 127) (h4 : a = true → M.1 127 4 = Int32.ofNat mo ∧ AMs mo (fun k => M.1 127 (50 + k)) am) (hmo : mo ≤ 5) (x : Int32) : cm_Lc cm_ms 232 [.ref 124, .int x] M (fun v _ => v = some (.int (dhM am mo a x))) := by
  have c1 := m_isMotion (M := cm_wi (cm_wi M 124 0 0) 124 11 0) (a := a) ha h15 x
  have e4 : (cm_wi (cm_wi M 124 0 0) 124 11 0).1 127 4 = M.1 127 4 := rfl
  rw [e4] at c1
  have c2 : cm_Lc cm_ms 206 [.ref 124, .int x] (cm_wi (cm_wi M 124 0 0) 124 11 0) (fun v M' => M' = cm_wi (cm_wi M 124 0 0) 124 11 0 ∧ v = some (.int (bi (a && inB x 0 (Int32.ofNat mo - 1))))) := by
    cases a with
    | false =>
      rw [Bool.false_and] at c1 ⊢
      exact c1
    | true =>
      rw [(h4 rfl).1] at c1
      exact c1
  refine lb_st0 (mi := mr_232) rfl 400 ?_
  show ∃ R, cm_Lc cm_ms 164 [.ref 124] M R ∧ ∀ v M', R v M' → _
  refine ⟨_, m_good2 M, ?_⟩
  rintro v M1 ⟨rfl, rfl⟩
  show ∃ R, cm_Lc cm_ms 206 [.ref 124, .int x] (cm_wi (cm_wi M 124 0 0) 124 11 0) R ∧ ∀ v M', R v M' → _
  refine ⟨_, c2, ?_⟩
  rintro v M1 ⟨rfl, rfl⟩
  show (ev_cmp 0 (bi (a && inB x 0 (Int32.ofNat mo - 1))) 0 = true → ∃ R, cm_Lc cm_ms 165 [.ref 124, .int 1] (cm_wi (cm_wi M 124 0 0) 124 11 0) R ∧ ∀ v M', R v M' → _) ∧ (ev_cmp 0 (bi (a && inB x 0 (Int32.ofNat mo - 1))) 0 = false → ∃ R, cm_Lc cm_ms 231 [.ref 124, .int x] (cm_wi (cm_wi M 124 0 0) 124 11 0) R ∧ ∀ v M', R v M' → _)
  refine ⟨fun h => ⟨_, m_no2 _ _, ?_⟩, fun h => ?_⟩
  · rintro v M1 ⟨rfl, -⟩
    show some (Value.int (-1)) = _
    unfold dhM
    rw [bi_0 h, if_neg Bool.false_ne_true]
  · have e := bi_1 h
    have e' := e
    rw [Bool.and_eq_true, out_in (by omega), Bool.not_eq_true'] at e
    obtain ⟨k, hk, rfl⟩ := out_nat (by omega) e.2
    refine ⟨_, m_depthOf (M := cm_wi (cm_wi M 124 0 0) 124 11 0) h15 hmo (h4 e.1).2 (k + 1) k (by omega) hk, ?_⟩
    rintro v M1 ⟨-, rfl⟩
    show some (Value.int (Int32.ofNat (dpF am k))) = _
    unfold dhM
    rw [if_pos e', fn_nat (show k < 2147483648 by omega)]
