/-! FUNCTIONS of the class's reader: tokens -/
/-- numbers -/
theorem fn_toInt {a : Nat} (h : a < 2147483648) : (Int32.ofNat a).toInt = (a : Int) := by rw [Int32.toInt_ofNat_of_lt (by omega)]
theorem fn_nat {a : Nat} (h : a < 2147483648) : (Int32.ofNat a).toNatClampNeg = a := by
  show (Int32.ofNat a).toInt.toNat = a
  rw [fn_toInt h]
  rfl
theorem fn_succ (a : Nat) : Int32.ofNat a + 1 = Int32.ofNat (a + 1) := by rw [Int32.ofNat_add]; rfl
def ch_l (x : Int32) : Bool := decide (97 ≤ x.toInt) && decide (x.toInt ≤ 122)
def ch_d (x : Int32) : Bool := decide (48 ≤ x.toInt) && decide (x.toInt ≤ 57)
def bi (b : Bool) : Int32 := if b = true then 1 else 0
/-- the reader's text is the tape -/
def rd_f (M : cm_M) : cm_M := cm_wr M 2 0 (some 1)
theorem fn_lt {x y : Int32} (h : ev_cmp 2 x y = true) : x.toInt < y.toInt := Int32.lt_iff_toInt_lt.mp (of_decide_eq_true h)
theorem fn_nlt {x y : Int32} (h : ev_cmp 2 x y = false) : y.toInt ≤ x.toInt := by
  have h1 : ¬ x < y := of_decide_eq_false h
  rw [Int32.lt_iff_toInt_lt] at h1
  omega
theorem fn_gt {x y : Int32} (h : ev_cmp 4 x y = true) : y.toInt < x.toInt := Int32.lt_iff_toInt_lt.mp (of_decide_eq_true h : x > y)
theorem fn_ngt {x y : Int32} (h : ev_cmp 4 x y = false) : x.toInt ≤ y.toInt := by
  have h1 : ¬ x > y := of_decide_eq_false h
  have h2 : ¬ y.toInt < x.toInt := fun hc => h1 (Int32.lt_iff_toInt_lt.mpr hc)
  omega
theorem fn_isLetter (x : Int32) (M : cm_M) : cm_Lc cm_ms 91 [.int x] M (fun v M' => M' = M ∧ v = some (.int (bi (ch_l x)))) := by
  refine lb_st0 (mi := mr_91) rfl 20 ?_
  show (ev_cmp 2 x 97 = true → _) ∧ (ev_cmp 2 x 97 = false → (ev_cmp 4 x 122 = true → _) ∧ (ev_cmp 4 x 122 = false → _))
  have e97 : (97 : Int32).toInt = 97 := by decide
  have e122 : (122 : Int32).toInt = 122 := by decide
  refine ⟨fun h => ?_, fun h => ⟨fun h2 => ?_, fun h2 => ?_⟩⟩
  · have h1 := fn_lt h
    refine ⟨rfl, ?_⟩
    have : ch_l x = false := by unfold ch_l; rw [Bool.and_eq_false_iff]; left; exact decide_eq_false (by omega)
    rw [this]
    rfl
  · have h1 := fn_gt h2
    refine ⟨rfl, ?_⟩
    have : ch_l x = false := by unfold ch_l; rw [Bool.and_eq_false_iff]; right; exact decide_eq_false (by omega)
    rw [this]
    rfl
  · have h1 := fn_nlt h
    have h3 := fn_ngt h2
    refine ⟨rfl, ?_⟩
    have : ch_l x = true := by unfold ch_l; rw [Bool.and_eq_true]; exact ⟨decide_eq_true (by omega), decide_eq_true (by omega)⟩
    rw [this]
    rfl
theorem fn_pack (w : Int64) (x : Int32) (M : cm_M) : cm_Lc cm_ms 87 [.long w, .int x] M (fun v M' => M' = M ∧ v = some (.long (w * 32 + x.toInt64 - 97 + 1))) := by
  refine lb_st0 (mi := mr_87) rfl 20 ?_
  exact ⟨rfl, rfl⟩
theorem fn_isDigit (x : Int32) (M : cm_M) : cm_Lc cm_ms 92 [.int x] M (fun v M' => M' = M ∧ v = some (.int (bi (ch_d x)))) := by
  refine lb_st0 (mi := mr_92) rfl 20 ?_
  show (ev_cmp 2 x 48 = true → _) ∧ (ev_cmp 2 x 48 = false → (ev_cmp 4 x 57 = true → _) ∧ (ev_cmp 4 x 57 = false → _))
  have e97 : (48 : Int32).toInt = 48 := by decide
  have e122 : (57 : Int32).toInt = 57 := by decide
  refine ⟨fun h => ?_, fun h => ⟨fun h2 => ?_, fun h2 => ?_⟩⟩
  · have h1 := fn_lt h
    refine ⟨rfl, ?_⟩
    have : ch_d x = false := by unfold ch_d; rw [Bool.and_eq_false_iff]; left; exact decide_eq_false (by omega)
    rw [this]
    rfl
  · have h1 := fn_gt h2
    refine ⟨rfl, ?_⟩
    have : ch_d x = false := by unfold ch_d; rw [Bool.and_eq_false_iff]; right; exact decide_eq_false (by omega)
    rw [this]
    rfl
  · have h1 := fn_nlt h
    have h3 := fn_ngt h2
    refine ⟨rfl, ?_⟩
    have : ch_d x = true := by unfold ch_d; rw [Bool.and_eq_true]; exact ⟨decide_eq_true (by omega), decide_eq_true (by omega)⟩
    rw [this]
    rfl
/-! memories: a write over a write, a write of what is there -/
theorem wi_wi (M : cm_M) (c i : Nat) (x y : Int32) : cm_wi (cm_wi M c i x) c i y = cm_wi M c i y := by
  unfold cm_wi
  refine Prod.ext (funext fun a => funext fun b => ?_) rfl
  dsimp only
  by_cases h : a = c ∧ b = i
  · rw [if_pos h, if_pos h]
  · rw [if_neg h, if_neg h, if_neg h]
theorem wl_wl (M : cm_M) (c i : Nat) (x y : Int64) : cm_wl (cm_wl M c i x) c i y = cm_wl M c i y := by
  unfold cm_wl
  refine Prod.ext rfl (Prod.ext (funext fun a => funext fun b => ?_) rfl)
  dsimp only
  by_cases h : a = c ∧ b = i
  · rw [if_pos h, if_pos h]
  · rw [if_neg h, if_neg h, if_neg h]
theorem wi_id {M : cm_M} {c i : Nat} {x : Int32} (h : M.1 c i = x) : cm_wi M c i x = M := by
  unfold cm_wi
  refine Prod.ext (funext fun a => funext fun b => ?_) rfl
  dsimp only
  by_cases hc : a = c ∧ b = i
  · rw [if_pos hc, hc.1, hc.2, h]
  · rw [if_neg hc]
theorem wl_id {M : cm_M} {c i : Nat} {x : Int64} (h : M.2.1 c i = x) : cm_wl M c i x = M := by
  unfold cm_wl
  refine Prod.ext rfl (Prod.ext (funext fun a => funext fun b => ?_) rfl)
  dsimp only
  by_cases hc : a = c ∧ b = i
  · rw [if_pos hc, hc.1, hc.2, h]
  · rw [if_neg hc]
theorem wr_id {M : cm_M} {c i : Nat} {x : Option Nat} (h : M.2.2 c i = x) : cm_wr M c i x = M := by
  unfold cm_wr
  refine Prod.ext rfl (Prod.ext rfl (funext fun a => funext fun b => ?_))
  dsimp only
  by_cases hc : a = c ∧ b = i
  · rw [if_pos hc, hc.1, hc.2, h]
  · rw [if_neg hc]
theorem rd_f_eq {M : cm_M} (h : M.2.2 2 0 = some 1) : rd_f M = M := wr_id h
/-- where a run of such signs ends -/
def tk_e (p : Int32 → Bool) (T : Nat → Int32) (N k e : Nat) : Prop := k ≤ e ∧ e ≤ N ∧ (∀ j, k ≤ j → j < e → p (T j) = true) ∧ (e < N → p (T e) = false)
theorem tk_e_uni {p : Int32 → Bool} {T : Nat → Int32} {N k e e' : Nat} (h : tk_e p T N k e) (h' : tk_e p T N k e') : e = e' := by
  obtain ⟨a1, a2, a3, a4⟩ := h
  obtain ⟨b1, b2, b3, b4⟩ := h'
  rcases Nat.lt_trichotomy e e' with hl | hl | hl
  · have h1 := b3 e a1 hl
    rw [a4 (by omega)] at h1
    cases h1
  · exact hl
  · have h1 := a3 e' b1 hl
    rw [b4 (by omega)] at h1
    cases h1
/-- a word's number, a whole number -/
def tk_w (T : Nat → Int32) (s : Nat) : Nat → Int64
  | 0 => 0
  | c + 1 => tk_w T s c * 32 + (T (s + c)).toInt64 - 97 + 1
def tk_v (T : Nat → Int32) (s : Nat) : Nat → Int32
  | 0 => 0
  | c + 1 => tk_v T s c * 10 + T (s + c) - 48
theorem tk_w_succ (T : Nat → Int32) (s c : Nat) : tk_w T s (c + 1) = tk_w T s c * 32 + (T (s + c)).toInt64 - 97 + 1 := rfl
theorem tk_v_succ (T : Nat → Int32) (s c : Nat) : tk_v T s (c + 1) = tk_v T s c * 10 + T (s + c) - 48 := rfl
theorem bi_0 {b : Bool} (h : ev_cmp 0 (bi b) 0 = true) : b = false := by
  cases b with
  | false => rfl
  | true => exact absurd h (by decide)
theorem bi_1 {b : Bool} (h : ev_cmp 0 (bi b) 0 = false) : b = true := by
  cases b with
  | true => rfl
  | false => exact absurd h (by decide)
theorem fn_ge {x y : Int32} (h : ev_cmp 3 x y = true) : y.toInt ≤ x.toInt := Int32.le_iff_toInt_le.mp (of_decide_eq_true h : x ≥ y)
theorem fn_nge {x y : Int32} (h : ev_cmp 3 x y = false) : x.toInt < y.toInt := by
  have h1 : ¬ x ≥ y := of_decide_eq_false h
  have h2 : ¬ y.toInt ≤ x.toInt := fun hc => h1 (Int32.le_iff_toInt_le.mpr hc)
  omega
/-- the memory of the letters' loop -/
def rl_m (M : cm_M) (s nx : Nat) : cm_M := rd_f (cm_wi (cm_wl M 2 6 (tk_w (M.1 1) s (nx - s))) 2 2 (Int32.ofNat nx))
def rl_J (M : cm_M) (N s : Nat) (S : cm_S) : Prop := ∃ nx, s ≤ nx ∧ nx ≤ N ∧ (∀ j, s ≤ j → j < nx → ch_l (M.1 1 j) = true) ∧ S = (0, [(0, .ref 2)], [], rl_m M s nx)
abbrev rl_R (M : cm_M) (N s : Nat) : cm_K := fun v M' => v = none ∧ ∃ e, tk_e ch_l (M.1 1) N s e ∧ M' = cm_wi (cm_wi (cm_wl M 2 6 (tk_w (M.1 1) s (e - s))) 2 2 (Int32.ofNat e)) 2 3 (if e - s ≤ 8 then 1 else 4)
theorem fn_readLetters {M : cm_M} {N s : Nat} (hT : M.2.2 2 0 = some 1) (hN : M.1 2 1 = Int32.ofNat N) (hN9 : N ≤ 900) (hs : M.1 2 4 = Int32.ofNat s) (hs2 : M.1 2 2 = Int32.ofNat s) (hsN : s ≤ N) (hw : M.2.1 2 6 = 0) : cm_Lc cm_ms 89 [.ref 2] M (rl_R M N s) := by
  have hinv : ∀ S, rl_J M N s S → lb_ cm_ms none (cm_P mr_89) mr_89.2.2.2.2.2.2 [(0, [0])] (rl_J M N s) (cm_rl (rl_R M N s)) 40 S := by
    intro S hS
    obtain ⟨nx, n1, n2, n3, rfl⟩ := hS
    have hend : tk_e ch_l (M.1 1) N s nx → (ev_cmp 4 (Int32.ofNat nx - M.1 2 4) 8 = true → rl_R M N s none (cm_wi (rl_m M s nx) 2 3 4)) ∧ (ev_cmp 4 (Int32.ofNat nx - M.1 2 4) 8 = false → rl_R M N s none (cm_wi (rl_m M s nx) 2 3 1)) := by
      intro he
      have hd : (Int32.ofNat nx - M.1 2 4).toInt = (nx : Int) - (s : Int) := by
        rw [hs, Int32.toInt_sub, fn_toInt (by omega), fn_toInt (by omega), ev_bm (by omega) (by omega)]
      have h8 : (8 : Int32).toInt = 8 := by decide
      have hf : rl_m M s nx = cm_wi (cm_wl M 2 6 (tk_w (M.1 1) s (nx - s))) 2 2 (Int32.ofNat nx) := rd_f_eq hT
      refine ⟨fun h => ⟨rfl, nx, he, ?_⟩, fun h => ⟨rfl, nx, he, ?_⟩⟩
      · have h1 := fn_gt h
        rw [if_neg (by omega), hf]
      · have h1 := fn_ngt h
        rw [if_pos (by omega), hf]
    show (ev_cmp 3 (Int32.ofNat nx) (M.1 2 1) = true → (ev_cmp 4 (Int32.ofNat nx - M.1 2 4) 8 = true → _) ∧ (ev_cmp 4 (Int32.ofNat nx - M.1 2 4) 8 = false → _)) ∧ (ev_cmp 3 (Int32.ofNat nx) (M.1 2 1) = false → ∃ R, cm_Lc cm_ms 91 [.int (M.1 1 (Int32.ofNat nx).toNatClampNeg)] (rl_m M s nx) R ∧ ∀ v M', R v M' → _)
    have hc : M.1 1 (Int32.ofNat nx).toNatClampNeg = M.1 1 nx := by rw [fn_nat (show nx < 2147483648 by omega)]
    refine ⟨fun h => ?_, fun h => ⟨_, fn_isLetter _ _, ?_⟩⟩
    · have h1 := fn_ge h
      rw [hN, fn_toInt (by omega), fn_toInt (by omega)] at h1
      exact hend ⟨n1, n2, n3, fun h9 => by omega⟩
    · have h1 := fn_nge h
      rw [hN, fn_toInt (by omega), fn_toInt (by omega)] at h1
      rintro v M' ⟨rfl, rfl⟩
      show (ev_cmp 0 (bi (ch_l (M.1 1 (Int32.ofNat nx).toNatClampNeg))) 0 = true → (ev_cmp 4 (Int32.ofNat nx - M.1 2 4) 8 = true → _) ∧ (ev_cmp 4 (Int32.ofNat nx - M.1 2 4) 8 = false → _)) ∧ (ev_cmp 0 (bi (ch_l (M.1 1 (Int32.ofNat nx).toNatClampNeg))) 0 = false → ∃ R, cm_Lc cm_ms 87 [.long (tk_w (M.1 1) s (nx - s)), .int (M.1 1 (Int32.ofNat nx).toNatClampNeg)] (rl_m M s nx) R ∧ ∀ v M', R v M' → _)
      refine ⟨fun h2 => hend ⟨n1, n2, n3, fun _ => by rw [hc] at h2; exact bi_0 h2⟩, fun h2 => ⟨_, fn_pack _ _ _, ?_⟩⟩
      rintro v M' ⟨rfl, rfl⟩
      show rl_J M N s (0, [(0, .ref 2)], [], cm_wi (cm_wl (rl_m M s nx) 2 6 (tk_w (M.1 1) s (nx - s) * 32 + (M.1 1 (Int32.ofNat nx).toNatClampNeg).toInt64 - 97 + 1)) 2 2 (Int32.ofNat nx + 1))
      rw [hc] at h2 ⊢
      refine ⟨nx + 1, by omega, by omega, fun j j1 j2 => ?_, ?_⟩
      · rcases Nat.lt_or_ge j nx with hj | hj
        · exact n3 j j1 hj
        · have : j = nx := by omega
          rw [this]
          exact bi_1 h2
      · congr 3
        have e1 : nx + 1 - s = (nx - s) + 1 := by omega
        have e2 : s + (nx - s) = nx := by omega
        unfold rl_m
        rw [e1, tk_w_succ, e2, fn_succ]
        show rd_f (cm_wi (cm_wl (cm_wi (cm_wl M 2 6 _) 2 2 _) 2 6 _) 2 2 _) = _
        show rd_f (cm_wi (cm_wi (cm_wl (cm_wl M 2 6 _) 2 6 _) 2 2 _) 2 2 _) = _
        rw [wi_wi, wl_wl]
  refine lb_of (mi := mr_89) rfl [(0, [0])] (rl_J M N s) 40 hinv 40 (hinv _ ⟨s, Nat.le_refl _, hsN, fun j h1 h2 => by omega, ?_⟩)
  show ((0, [(0, .ref 2)], [], M) : cm_S) = _
  congr 3
  unfold rl_m
  rw [Nat.sub_self]
  show M = rd_f (cm_wi (cm_wl M 2 6 0) 2 2 (Int32.ofNat s))
  rw [wl_id hw, wi_id hs2, rd_f_eq hT]
