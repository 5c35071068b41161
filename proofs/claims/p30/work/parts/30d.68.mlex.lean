/-! FUNCTIONS of the reference's reader: tokens -/
def mn_f (M : cm_M) : cm_M := cm_wr (cm_wr M 124 1 (some 125)) 124 12 (some 126)
theorem mn_f_eq {M : cm_M} (h1 : M.2.2 124 1 = some 125) (h2 : M.2.2 124 12 = some 126) : mn_f M = M := by
  unfold mn_f
  rw [wr_id h1, wr_id h2]
def se (T : Nat → Int32) (N j : Nat) : Int32 := if j < N then T j else -1
theorem fn_see {M : cm_M} {N j : Nat} (hN : M.1 124 3 = Int32.ofNat N) (hN9 : N ≤ 900) (hj : j ≤ 900) : cm_Lc cm_ms 173 [.ref 124, .int (Int32.ofNat j)] (mn_f M) (fun v M' => M' = mn_f M ∧ v = some (.int (se (M.1 125) N j))) := by
  refine lb_st0 (mi := mr_173) rfl 20 ?_
  show (ev_cmp 3 (Int32.ofNat j) (M.1 124 3) = true → _) ∧ (ev_cmp 3 (Int32.ofNat j) (M.1 124 3) = false → _)
  refine ⟨fun h => ?_, fun h => ?_⟩
  · have h1 := fn_ge h
    rw [hN, fn_toInt (by omega), fn_toInt (by omega)] at h1
    refine ⟨rfl, ?_⟩
    unfold se
    rw [if_neg (by omega)]
    rfl
  · have h1 := fn_nge h
    rw [hN, fn_toInt (by omega), fn_toInt (by omega)] at h1
    refine ⟨rfl, ?_⟩
    unfold se
    rw [if_pos (by omega)]
    show some (Value.int (M.1 125 (Int32.ofNat j).toNatClampNeg)) = _
    rw [fn_nat (by omega)]
theorem fn_isSmall (x : Int32) (M : cm_M) : cm_Lc cm_ms 174 [.int x] M (fun v M' => M' = M ∧ v = some (.int (bi (ch_l x)))) := by
  refine lb_st0 (mi := mr_174) rfl 20 ?_
  show (ev_cmp 2 x 97 = true → _) ∧ (ev_cmp 2 x 97 = false → (ev_cmp 4 x 122 = true → _) ∧ (ev_cmp 4 x 122 = false → _))
  have e97 : (97 : Int32).toInt = 97 := by decide
  have e122 : (122 : Int32).toInt = 122 := by decide
  refine ⟨fun h => ?_, fun h => ⟨fun h2 => ?_, fun h2 => ?_⟩⟩
  · have h1 := fn_lt h
    refine ⟨rfl, ?_⟩
    have : ch_l x = false := by unfold ch_l; rw [Bool.and_eq_false_iff]; left; exact decide_eq_false (by omega)
    rw [this]
    rfl
  · have h1 := fn_gt h2
    refine ⟨rfl, ?_⟩
    have : ch_l x = false := by unfold ch_l; rw [Bool.and_eq_false_iff]; right; exact decide_eq_false (by omega)
    rw [this]
    rfl
  · have h1 := fn_nlt h
    have h3 := fn_ngt h2
    refine ⟨rfl, ?_⟩
    have : ch_l x = true := by unfold ch_l; rw [Bool.and_eq_true]; exact ⟨decide_eq_true (by omega), decide_eq_true (by omega)⟩
    rw [this]
    rfl
theorem fn_isDig (x : Int32) (M : cm_M) : cm_Lc cm_ms 175 [.int x] M (fun v M' => M' = M ∧ v = some (.int (bi (ch_d x)))) := by
  refine lb_st0 (mi := mr_175) rfl 20 ?_
  show (ev_cmp 2 x 48 = true → _) ∧ (ev_cmp 2 x 48 = false → (ev_cmp 4 x 57 = true → _) ∧ (ev_cmp 4 x 57 = false → _))
  have e97 : (48 : Int32).toInt = 48 := by decide
  have e122 : (57 : Int32).toInt = 57 := by decide
  refine ⟨fun h => ?_, fun h => ⟨fun h2 => ?_, fun h2 => ?_⟩⟩
  · have h1 := fn_lt h
    refine ⟨rfl, ?_⟩
    have : ch_d x = false := by unfold ch_d; rw [Bool.and_eq_false_iff]; left; exact decide_eq_false (by omega)
    rw [this]
    rfl
  · have h1 := fn_gt h2
    refine ⟨rfl, ?_⟩
    have : ch_d x = false := by unfold ch_d; rw [Bool.and_eq_false_iff]; right; exact decide_eq_false (by omega)
    rw [this]
    rfl
  · have h1 := fn_nlt h
    have h3 := fn_ngt h2
    refine ⟨rfl, ?_⟩
    have : ch_d x = true := by unfold ch_d; rw [Bool.and_eq_true]; exact ⟨decide_eq_true (by omega), decide_eq_true (by omega)⟩
    rw [this]
    rfl
/-- the letters read -/
def lt_m (M : cm_M) (s c : Nat) : cm_M := (fun a b => if a = 126 ∧ b < c then M.1 125 (s + b) else M.1 a b, M.2)
theorem lt_m_0 (M : cm_M) (s : Nat) : lt_m M s 0 = M := by
  unfold lt_m
  refine Prod.ext (funext fun a => funext fun b => ?_) rfl
  dsimp only
  rw [if_neg (by omega)]
theorem lt_m_s (M : cm_M) (s c : Nat) : cm_wi (lt_m M s c) 126 c (M.1 125 (s + c)) = lt_m M s (c + 1) := by
  unfold lt_m cm_wi
  refine Prod.ext (funext fun a => funext fun b => ?_) rfl
  dsimp only
  by_cases h : a = 126 ∧ b = c
  · rw [if_pos h, if_pos (by omega), h.2]
  · rw [if_neg h]
    by_cases h2 : a = 126 ∧ b < c
    · rw [if_pos h2, if_pos (by omega)]
    · rw [if_neg h2, if_neg (by omega)]
/-- a token -/
def mk_k (T : Nat → Int32) (N s e : Nat) (tok wh : Int32) (ns : Nat) : Prop :=
  (s = N ∧ e = s ∧ tok = 0 ∧ wh = 0 ∧ ns = 0) ∨
  (s < N ∧ ch_l (T s) = true ∧ tk_e ch_l T N s e ∧ tok = (if e - s ≤ 8 then 2 else 1) ∧ wh = 0 ∧ ns = e - s) ∨
  (s < N ∧ ch_l (T s) = false ∧ ch_d (T s) = true ∧ tk_e ch_d T N s e ∧ tok = (if e - s ≤ 3 then 3 else 1) ∧ wh = tk_v T s (min (e - s) 3) ∧ ns = 0) ∨
  (s < N ∧ ch_l (T s) = false ∧ ch_d (T s) = false ∧ e = s + 1 ∧ tok = (if T s = 59 then 59 else 1) ∧ wh = 0 ∧ ns = 0)
def nx_m (M : cm_M) (s e : Nat) (tok wh : Int32) (ns : Nat) : cm_M := cm_wi (cm_wi (cm_wi (cm_wi (cm_wi (lt_m M s (min ns 8)) 124 4 (Int32.ofNat s)) 124 7 wh) 124 8 (Int32.ofNat ns)) 124 5 (Int32.ofNat e)) 124 6 tok
abbrev nx_R (M : cm_M) (N k : Nat) : cm_K := fun v M' => v = none ∧ ∃ s e tok wh ns, tk_e ch_s (M.1 125) N k s ∧ mk_k (M.1 125) N s e tok wh ns ∧ M' = nx_m M s e tok wh ns
/-- behind the first steps -/
def nx_b (M : cm_M) (s : Nat) (wh : Int32) (ns : Nat) : cm_M := cm_wi (cm_wi (cm_wi (lt_m M s (min ns 8)) 124 4 (Int32.ofNat s)) 124 7 wh) 124 8 (Int32.ofNat ns)
def nx_J (M : cm_M) (N k : Nat) (S : cm_S) : Prop :=
  (∃ j, k ≤ j ∧ j ≤ N ∧ (∀ i, k ≤ i → i < j → ch_s (M.1 125 i) = true) ∧ S = (5, [(0, .ref 124), (1, .int (Int32.ofNat j))], [], mn_f M)) ∨
  (∃ s, tk_e ch_s (M.1 125) N k s ∧ S = (21, [(0, .ref 124), (1, .int (Int32.ofNat s))], [], mn_f M)) ∨
  (∃ s j, tk_e ch_s (M.1 125) N k s ∧ s < N ∧ ch_l (M.1 125 s) = true ∧ s ≤ j ∧ j ≤ N ∧ (∀ i, s ≤ i → i < j → ch_l (M.1 125 i) = true) ∧ S = (67, [(0, .ref 124), (1, .int (Int32.ofNat j))], [], mn_f (nx_b M s 0 (j - s)))) ∨
  (∃ s j, tk_e ch_s (M.1 125) N k s ∧ s < N ∧ ch_l (M.1 125 s) = false ∧ ch_d (M.1 125 s) = true ∧ s ≤ j ∧ j ≤ N ∧ (∀ i, s ≤ i → i < j → ch_d (M.1 125 i) = true) ∧ S = (152, [(0, .ref 124), (1, .int (Int32.ofNat j)), (3, .int (Int32.ofNat (j - s)))], [], mn_f (nx_b M s (tk_v (M.1 125) s (min (j - s) 3)) 0)))
abbrev nx_st : List (Nat × List Nat) := [(5, [0, 1]), (21, [0, 1]), (67, [0, 1]), (152, [0, 1, 3])]
theorem se_in {T : Nat → Int32} {N j : Nat} (h : j < N) : se T N j = T j := if_pos h
theorem se_out {T : Nat → Int32} {N j : Nat} (h : ¬ j < N) : se T N j = -1 := if_neg h
section NX
variable {M : cm_M} {N k : Nat}
set_option maxRecDepth 100000 in
set_option maxHeartbeats 4000000 in
theorem nx_5 (hN : M.1 124 3 = Int32.ofNat N) (hN9 : N ≤ 900) {j : Nat} (n1 : k ≤ j) (n2 : j ≤ N) (n3 : ∀ i, k ≤ i → i < j → ch_s (M.1 125 i) = true) : lb_ cm_ms none (cm_P mr_176) mr_176.2.2.2.2.2.2 nx_st (nx_J M N k) (cm_rl (nx_R M N k)) 80 (5, [(0, .ref 124), (1, .int (Int32.ofNat j))], [], mn_f M) := by
  show ∃ R, cm_Lc cm_ms 173 [.ref 124, .int (Int32.ofNat j)] (mn_f M) R ∧ ∀ v M', R v M' → _
  refine ⟨_, fn_see hN hN9 (by omega), ?_⟩
  rintro v M' ⟨rfl, rfl⟩
  show (ev_cmp 1 (se (M.1 125) N j) 32 = true → nx_J M N k (21, [(0, .ref 124), (1, .int (Int32.ofNat j))], [], mn_f M)) ∧ (ev_cmp 1 (se (M.1 125) N j) 32 = false → nx_J M N k (5, [(0, .ref 124), (1, .int (Int32.ofNat j + 1))], [], mn_f M))
  refine ⟨fun h => Or.inr (Or.inl ⟨j, ⟨n1, n2, n3, fun h9 => ?_⟩, rfl⟩), fun h => ?_⟩
  · rw [se_in h9] at h
    exact decide_eq_false (fn_ne h)
  · have h1 := fn_eq h
    have hlt : j < N := by
      rcases Nat.lt_or_ge j N with hj | hj
      · exact hj
      · rw [se_out (by omega)] at h1
        exact absurd h1 (by decide)
    rw [se_in hlt] at h1
    rw [fn_succ]
    refine Or.inl ⟨j + 1, by omega, by omega, fun i i1 i2 => ?_, rfl⟩
    rcases Nat.lt_or_ge i j with hj | hj
    · exact n3 i i1 hj
    · have : i = j := by omega
      rw [this]
      exact decide_eq_true h1
end NX
