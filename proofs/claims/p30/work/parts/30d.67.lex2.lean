/-! FUNCTIONS of the class's reader: tokens, on -/
theorem wi_comm (M : cm_M) {c i c' i' : Nat} (x y : Int32) (h : ¬ (c = c' ∧ i = i')) : cm_wi (cm_wi M c i x) c' i' y = cm_wi (cm_wi M c' i' y) c i x := by
  unfold cm_wi
  refine Prod.ext (funext fun a => funext fun b => ?_) rfl
  dsimp only
  by_cases h1 : a = c ∧ b = i
  · by_cases h2 : a = c' ∧ b = i'
    · exact absurd ⟨h1.1.symm.trans h2.1, h1.2.symm.trans h2.2⟩ h
    · rw [if_neg h2, if_pos h1, if_pos h1]
  · by_cases h2 : a = c' ∧ b = i'
    · rw [if_pos h2, if_neg h1, if_pos h2]
    · rw [if_neg h2, if_neg h1, if_neg h1, if_neg h2]
def rg_m (M : cm_M) (s nx : Nat) : cm_M := rd_f (cm_wi (cm_wi M 2 5 (tk_v (M.1 1) s (nx - s))) 2 2 (Int32.ofNat nx))
def rg_J (M : cm_M) (N s : Nat) (S : cm_S) : Prop := ∃ nx, s ≤ nx ∧ nx ≤ N ∧ (∀ j, s ≤ j → j < nx → ch_d (M.1 1 j) = true) ∧ S = (0, [(0, .ref 2)], [], rg_m M s nx)
abbrev rg_R (M : cm_M) (N s : Nat) : cm_K := fun v M' => v = none ∧ ∃ e, tk_e ch_d (M.1 1) N s e ∧ M' = cm_wi (cm_wi (cm_wi M 2 5 (tk_v (M.1 1) s (e - s))) 2 2 (Int32.ofNat e)) 2 3 (if e - s ≤ 3 then 2 else 4)
set_option maxRecDepth 100000 in
theorem fn_readDigits {M : cm_M} {N s : Nat} (hT : M.2.2 2 0 = some 1) (hN : M.1 2 1 = Int32.ofNat N) (hN9 : N ≤ 900) (hs : M.1 2 4 = Int32.ofNat s) (hs2 : M.1 2 2 = Int32.ofNat s) (hsN : s ≤ N) (hw : M.1 2 5 = 0) : cm_Lc cm_ms 90 [.ref 2] M (rg_R M N s) := by
  have hinv : ∀ S, rg_J M N s S → lb_ cm_ms none (cm_P mr_90) mr_90.2.2.2.2.2.2 [(0, [0])] (rg_J M N s) (cm_rl (rg_R M N s)) 40 S := by
    intro S hS
    obtain ⟨nx, n1, n2, n3, rfl⟩ := hS
    have hend : tk_e ch_d (M.1 1) N s nx → (ev_cmp 4 (Int32.ofNat nx - M.1 2 4) 3 = true → rg_R M N s none (cm_wi (rg_m M s nx) 2 3 4)) ∧ (ev_cmp 4 (Int32.ofNat nx - M.1 2 4) 3 = false → rg_R M N s none (cm_wi (rg_m M s nx) 2 3 2)) := by
      intro he
      have hd : (Int32.ofNat nx - M.1 2 4).toInt = (nx : Int) - (s : Int) := by
        rw [hs, Int32.toInt_sub, fn_toInt (by omega), fn_toInt (by omega), ev_bm (by omega) (by omega)]
      have h8 : (3 : Int32).toInt = 3 := by decide
      have hf : rg_m M s nx = cm_wi (cm_wi M 2 5 (tk_v (M.1 1) s (nx - s))) 2 2 (Int32.ofNat nx) := rd_f_eq hT
      refine ⟨fun h => ⟨rfl, nx, he, ?_⟩, fun h => ⟨rfl, nx, he, ?_⟩⟩
      · have h1 := fn_gt h
        rw [if_neg (by omega), hf]
      · have h1 := fn_ngt h
        rw [if_pos (by omega), hf]
    show (ev_cmp 3 (Int32.ofNat nx) (M.1 2 1) = true → (ev_cmp 4 (Int32.ofNat nx - M.1 2 4) 3 = true → _) ∧ (ev_cmp 4 (Int32.ofNat nx - M.1 2 4) 3 = false → _)) ∧ (ev_cmp 3 (Int32.ofNat nx) (M.1 2 1) = false → ∃ R, cm_Lc cm_ms 92 [.int (M.1 1 (Int32.ofNat nx).toNatClampNeg)] (rg_m M s nx) R ∧ ∀ v M', R v M' → _)
    have hc : M.1 1 (Int32.ofNat nx).toNatClampNeg = M.1 1 nx := by rw [fn_nat (show nx < 2147483648 by omega)]
    refine ⟨fun h => ?_, fun h => ⟨_, fn_isDigit _ _, ?_⟩⟩
    · have h1 := fn_ge h
      rw [hN, fn_toInt (by omega), fn_toInt (by omega)] at h1
      exact hend ⟨n1, n2, n3, fun h9 => by omega⟩
    · have h1 := fn_nge h
      rw [hN, fn_toInt (by omega), fn_toInt (by omega)] at h1
      rintro v M' ⟨rfl, rfl⟩
      show (ev_cmp 0 (bi (ch_d (M.1 1 (Int32.ofNat nx).toNatClampNeg))) 0 = true → (ev_cmp 4 (Int32.ofNat nx - M.1 2 4) 3 = true → _) ∧ (ev_cmp 4 (Int32.ofNat nx - M.1 2 4) 3 = false → _)) ∧ (ev_cmp 0 (bi (ch_d (M.1 1 (Int32.ofNat nx).toNatClampNeg))) 0 = false → rg_J M N s (0, [(0, .ref 2)], [], cm_wi (cm_wi (rg_m M s nx) 2 5 (tk_v (M.1 1) s (nx - s) * 10 + M.1 1 (Int32.ofNat nx).toNatClampNeg - 48)) 2 2 (Int32.ofNat nx + 1)))
      refine ⟨fun h2 => hend ⟨n1, n2, n3, fun _ => by rw [hc] at h2; exact bi_0 h2⟩, fun h2 => ?_⟩
      rw [hc] at h2 ⊢
      refine ⟨nx + 1, by omega, by omega, fun j j1 j2 => ?_, ?_⟩
      · rcases Nat.lt_or_ge j nx with hj | hj
        · exact n3 j j1 hj
        · have : j = nx := by omega
          rw [this]
          exact bi_1 h2
      · congr 3
        have e1 : nx + 1 - s = (nx - s) + 1 := by omega
        have e2 : s + (nx - s) = nx := by omega
        unfold rg_m
        rw [e1, tk_v_succ, e2, fn_succ]
        show rd_f (cm_wi (cm_wi (cm_wi (cm_wi M 2 5 _) 2 2 _) 2 5 _) 2 2 _) = _
        rw [wi_comm (cm_wi M 2 5 _) (c := 2) (i := 2) (c' := 2) (i' := 5) _ _ (by decide), wi_wi, wi_wi]
  refine lb_of (mi := mr_90) rfl [(0, [0])] (rg_J M N s) 40 hinv 40 (hinv _ ⟨s, Nat.le_refl _, hsN, fun j h1 h2 => by omega, ?_⟩)
  show ((0, [(0, .ref 2)], [], M) : cm_S) = _
  congr 3
  unfold rg_m
  rw [Nat.sub_self]
  show M = rd_f (cm_wi (cm_wi M 2 5 0) 2 2 (Int32.ofNat s))
  rw [wi_id hw, wi_id hs2, rd_f_eq hT]
def ch_s (x : Int32) : Bool := decide (x = 32)
/-- a token: where it begins and ends, its kind, its number, its word -/
def tk_k (T : Nat → Int32) (N s e : Nat) (kd va : Int32) (wd : Int64) : Prop :=
  (s = N ∧ e = s ∧ kd = 0 ∧ va = 0 ∧ wd = 0) ∨
  (s < N ∧ ch_l (T s) = true ∧ tk_e ch_l T N s e ∧ kd = (if e - s ≤ 8 then 1 else 4) ∧ va = 0 ∧ wd = tk_w T s (e - s)) ∨
  (s < N ∧ ch_l (T s) = false ∧ ch_d (T s) = true ∧ tk_e ch_d T N s e ∧ kd = (if e - s ≤ 3 then 2 else 4) ∧ va = tk_v T s (e - s) ∧ wd = 0) ∨
  (s < N ∧ ch_l (T s) = false ∧ ch_d (T s) = false ∧ e = s + 1 ∧ kd = (if T s = 59 then 3 else 4) ∧ va = 0 ∧ wd = 0)
/-- the reader's memory at a token -/
def tk_m (M : cm_M) (s e : Nat) (kd va : Int32) (wd : Int64) : cm_M := cm_wl (cm_wi (cm_wi (cm_wi (cm_wi M 2 4 (Int32.ofNat s)) 2 5 va) 2 2 (Int32.ofNat e)) 2 3 kd) 2 6 wd
abbrev so_R (M : cm_M) (N k : Nat) : cm_K := fun v M' => v = none ∧ (M.1 2 9 ≠ 0 → M' = M) ∧ (M.1 2 9 = 0 → ∃ s e kd va wd, tk_e ch_s (M.1 1) N k s ∧ tk_k (M.1 1) N s e kd va wd ∧ M' = tk_m M s e kd va wd)
def so_m (M : cm_M) (nx : Nat) : cm_M := rd_f (cm_wi M 2 2 (Int32.ofNat nx))
def so_J (M : cm_M) (N k : Nat) (S : cm_S) : Prop := M.1 2 9 = 0 ∧ ∃ nx, (k ≤ nx ∧ nx ≤ N ∧ (∀ j, k ≤ j → j < nx → ch_s (M.1 1 j) = true) ∧ S = (8, [(0, .ref 2)], [], so_m M nx)) ∨ (tk_e ch_s (M.1 1) N k nx ∧ S = (46, [(0, .ref 2)], [], so_m M nx))
theorem so_mv (M : cm_M) (a x y b : Int32) : cm_wi (cm_wi (cm_wi (cm_wi M 2 2 a) 2 4 x) 2 5 y) 2 2 b = cm_wi (cm_wi (cm_wi M 2 4 x) 2 5 y) 2 2 b := by
  rw [wi_comm M (c := 2) (i := 2) (c' := 2) (i' := 4) _ _ (by decide), wi_comm (cm_wi M 2 4 x) (c := 2) (i := 2) (c' := 2) (i' := 5) _ _ (by decide), wi_wi]
theorem so_mv2 (M : cm_M) (a x y : Int32) : cm_wi (cm_wi (cm_wi M 2 2 a) 2 4 x) 2 5 y = cm_wi (cm_wi (cm_wi M 2 4 x) 2 5 y) 2 2 a := by
  rw [wi_comm M (c := 2) (i := 2) (c' := 2) (i' := 4) _ _ (by decide), wi_comm (cm_wi M 2 4 x) (c := 2) (i := 2) (c' := 2) (i' := 5) _ _ (by decide)]
/-- the memory behind a token's first steps -/
def so_b (M : cm_M) (s : Nat) : cm_M := cm_wl (cm_wi (cm_wi (so_m M s) 2 4 (Int32.ofNat s)) 2 5 0) 2 6 0
theorem so_b_eq {M : cm_M} {s : Nat} (hT : M.2.2 2 0 = some 1) : so_b M s = cm_wl (cm_wi (cm_wi (cm_wi M 2 2 (Int32.ofNat s)) 2 4 (Int32.ofNat s)) 2 5 0) 2 6 0 := by
  unfold so_b so_m
  rw [rd_f_eq (show (cm_wi M 2 2 (Int32.ofNat s)).2.2 2 0 = some 1 from hT)]
theorem so_nE {M : cm_M} {s : Nat} (hT : M.2.2 2 0 = some 1) : cm_wi (so_b M s) 2 3 0 = tk_m M s s 0 0 0 := by
  rw [so_b_eq hT]
  unfold tk_m
  show cm_wl (cm_wi (cm_wi (cm_wi (cm_wi M 2 2 (Int32.ofNat s)) 2 4 (Int32.ofNat s)) 2 5 0) 2 3 0) 2 6 0 = _
  rw [so_mv2]
theorem so_nL {M : cm_M} {s e : Nat} {kd : Int32} {w : Int64} (hT : M.2.2 2 0 = some 1) : cm_wi (cm_wi (cm_wl (so_b M s) 2 6 w) 2 2 (Int32.ofNat e)) 2 3 kd = tk_m M s e kd 0 w := by
  rw [so_b_eq hT]
  unfold tk_m
  show cm_wl (cm_wl (cm_wi (cm_wi (cm_wi (cm_wi (cm_wi M 2 2 (Int32.ofNat s)) 2 4 (Int32.ofNat s)) 2 5 0) 2 2 (Int32.ofNat e)) 2 3 kd) 2 6 0) 2 6 w = _
  rw [wl_wl, so_mv]
theorem so_nD {M : cm_M} {s e : Nat} {kd v : Int32} (hT : M.2.2 2 0 = some 1) : cm_wi (cm_wi (cm_wi (so_b M s) 2 5 v) 2 2 (Int32.ofNat e)) 2 3 kd = tk_m M s e kd v 0 := by
  rw [so_b_eq hT]
  unfold tk_m
  show cm_wl (cm_wi (cm_wi (cm_wi (cm_wi (cm_wi (cm_wi M 2 2 (Int32.ofNat s)) 2 4 (Int32.ofNat s)) 2 5 0) 2 5 v) 2 2 (Int32.ofNat e)) 2 3 kd) 2 6 0 = _
  rw [wi_wi, so_mv]
theorem so_nO {M : cm_M} {s : Nat} {kd : Int32} (hT : M.2.2 2 0 = some 1) : cm_wi (cm_wi (so_b M s) 2 3 kd) 2 2 (Int32.ofNat s + 1) = tk_m M s (s + 1) kd 0 0 := by
  rw [so_b_eq hT, fn_succ]
  unfold tk_m
  show cm_wl (cm_wi (cm_wi (cm_wi (cm_wi (cm_wi M 2 2 (Int32.ofNat s)) 2 4 (Int32.ofNat s)) 2 5 0) 2 3 kd) 2 2 (Int32.ofNat (s + 1))) 2 6 0 = _
  rw [wi_comm (cm_wi (cm_wi (cm_wi M 2 2 (Int32.ofNat s)) 2 4 (Int32.ofNat s)) 2 5 0) (c := 2) (i := 3) (c' := 2) (i' := 2) _ _ (by decide), so_mv]
theorem fn_ne {x y : Int32} (h : ev_cmp 1 x y = true) : x ≠ y := fun e => by
  have h : (!decide (x = y)) = true := h
  rw [decide_eq_true e] at h
  cases h
theorem fn_eq {x y : Int32} (h : ev_cmp 1 x y = false) : x = y := by
  have h : (!decide (x = y)) = false := h
  by_cases e : x = y
  · exact e
  · rw [decide_eq_false e] at h
    cases h
abbrev so_st : List (Nat × List Nat) := [(8, [0]), (46, [0])]
set_option maxRecDepth 100000 in
set_option maxHeartbeats 4000000 in
theorem so_46 {M : cm_M} {N k s : Nat} (hT : M.2.2 2 0 = some 1) (hN : M.1 2 1 = Int32.ofNat N) (hN9 : N ≤ 900) (hf : M.1 2 9 = 0) (hs : tk_e ch_s (M.1 1) N k s) : lb_ cm_ms none (cm_P mr_88) mr_88.2.2.2.2.2.2 so_st (so_J M N k) (cm_rl (so_R M N k)) 60 (46, [(0, .ref 2)], [], so_m M s) := by
  have fin : ∀ (e : Nat) (kd va : Int32) (wd : Int64) (M' : cm_M), tk_k (M.1 1) N s e kd va wd → M' = tk_m M s e kd va wd → so_R M N k none M' := fun e kd va wd M' h1 h2 => ⟨rfl, fun h => absurd hf h, fun _ => ⟨s, e, kd, va, wd, hs, h1, h2⟩⟩
  have hsN := hs.2.1
  have hc : M.1 1 (Int32.ofNat s).toNatClampNeg = M.1 1 s := by rw [fn_nat (show s < 2147483648 by omega)]
  show (ev_cmp 2 (Int32.ofNat s) (M.1 2 1) = true → ∃ R, cm_Lc cm_ms 91 [.int (M.1 1 (Int32.ofNat s).toNatClampNeg)] (so_b M s) R ∧ ∀ v M', R v M' → _) ∧ (ev_cmp 2 (Int32.ofNat s) (M.1 2 1) = false → _)
  refine ⟨fun h => ⟨_, fn_isLetter _ _, ?_⟩, fun h => ?_⟩
  · have h1 := fn_lt h
    rw [hN, fn_toInt (by omega), fn_toInt (by omega)] at h1
    rintro v M' ⟨rfl, rfl⟩
    show (ev_cmp 0 (bi (ch_l (M.1 1 (Int32.ofNat s).toNatClampNeg))) 0 = true → ∃ R, cm_Lc cm_ms 92 [.int (M.1 1 (Int32.ofNat s).toNatClampNeg)] (so_b M s) R ∧ ∀ v M', R v M' → _) ∧ (ev_cmp 0 (bi (ch_l (M.1 1 (Int32.ofNat s).toNatClampNeg))) 0 = false → ∃ R, cm_Lc cm_ms 89 [.ref 2] (so_b M s) R ∧ ∀ v M', R v M' → _)
    refine ⟨fun h2 => ⟨_, fn_isDigit _ _, ?_⟩, fun h2 => ⟨_, fn_readLetters (M := so_b M s) (N := N) (s := s) rfl hN hN9 rfl rfl hsN rfl, ?_⟩⟩
    · rw [hc] at h2
      have l0 := bi_0 h2
      rintro v M' ⟨rfl, rfl⟩
      show (ev_cmp 0 (bi (ch_d (M.1 1 (Int32.ofNat s).toNatClampNeg))) 0 = true → (ev_cmp 1 (M.1 1 (Int32.ofNat s).toNatClampNeg) 59 = true → _) ∧ (ev_cmp 1 (M.1 1 (Int32.ofNat s).toNatClampNeg) 59 = false → _)) ∧ (ev_cmp 0 (bi (ch_d (M.1 1 (Int32.ofNat s).toNatClampNeg))) 0 = false → ∃ R, cm_Lc cm_ms 90 [.ref 2] (so_b M s) R ∧ ∀ v M', R v M' → _)
      refine ⟨fun h3 => ⟨fun h4 => ?_, fun h4 => ?_⟩, fun h3 => ⟨_, fn_readDigits (M := so_b M s) (N := N) (s := s) rfl hN hN9 rfl rfl hsN rfl, ?_⟩⟩
      · rw [hc] at h3 h4
        show so_R M N k none (cm_wi (cm_wi (so_b M s) 2 3 4) 2 2 (Int32.ofNat s + 1))
        exact fin _ _ _ _ _ (Or.inr (Or.inr (Or.inr ⟨by omega, l0, bi_0 h3, rfl, (if_neg (fn_ne h4)).symm, rfl, rfl⟩))) (so_nO hT)
      · rw [hc] at h3 h4
        show so_R M N k none (cm_wi (cm_wi (so_b M s) 2 3 3) 2 2 (Int32.ofNat s + 1))
        exact fin _ _ _ _ _ (Or.inr (Or.inr (Or.inr ⟨by omega, l0, bi_0 h3, rfl, (if_pos (fn_eq h4)).symm, rfl, rfl⟩))) (so_nO hT)
      · rw [hc] at h3
        rintro v M' ⟨rfl, e, he, rfl⟩
        show so_R M N k none _
        exact fin _ _ _ _ _ (Or.inr (Or.inr (Or.inl ⟨by omega, l0, bi_1 h3, he, rfl, rfl, rfl⟩))) (so_nD hT)
    · rw [hc] at h2
      rintro v M' ⟨rfl, e, he, rfl⟩
      show so_R M N k none _
      exact fin _ _ _ _ _ (Or.inr (Or.inl ⟨by omega, bi_1 h2, he, rfl, rfl, rfl⟩)) (so_nL hT)
  · have h1 := fn_nlt h
    rw [hN, fn_toInt (by omega), fn_toInt (by omega)] at h1
    show so_R M N k none (cm_wi (so_b M s) 2 3 0)
    exact fin s _ _ _ _ (Or.inl ⟨by omega, rfl, rfl, rfl, rfl⟩) (so_nE hT)
set_option maxRecDepth 100000 in
set_option maxHeartbeats 4000000 in
theorem so_8 {M : cm_M} {N k nx : Nat} (hT : M.2.2 2 0 = some 1) (hN : M.1 2 1 = Int32.ofNat N) (hN9 : N ≤ 900) (hf : M.1 2 9 = 0) (n1 : k ≤ nx) (n2 : nx ≤ N) (n3 : ∀ j, k ≤ j → j < nx → ch_s (M.1 1 j) = true) : lb_ cm_ms none (cm_P mr_88) mr_88.2.2.2.2.2.2 so_st (so_J M N k) (cm_rl (so_R M N k)) 60 (8, [(0, .ref 2)], [], so_m M nx) := by
  have hc : M.1 1 (Int32.ofNat nx).toNatClampNeg = M.1 1 nx := by rw [fn_nat (show nx < 2147483648 by omega)]
  show (ev_cmp 3 (Int32.ofNat nx) (M.1 2 1) = true → so_J M N k (46, [(0, .ref 2)], [], so_m M nx)) ∧ (ev_cmp 3 (Int32.ofNat nx) (M.1 2 1) = false → (ev_cmp 1 (M.1 1 (Int32.ofNat nx).toNatClampNeg) 32 = true → so_J M N k (46, [(0, .ref 2)], [], so_m M nx)) ∧ (ev_cmp 1 (M.1 1 (Int32.ofNat nx).toNatClampNeg) 32 = false → so_J M N k (8, [(0, .ref 2)], [], cm_wi (so_m M nx) 2 2 (Int32.ofNat nx + 1))))
  refine ⟨fun h => ?_, fun h => ⟨fun h2 => ?_, fun h2 => ?_⟩⟩
  · have h1 := fn_ge h
    rw [hN, fn_toInt (by omega), fn_toInt (by omega)] at h1
    exact ⟨hf, nx, Or.inr ⟨⟨n1, n2, n3, fun h9 => by omega⟩, rfl⟩⟩
  · rw [hc] at h2
    exact ⟨hf, nx, Or.inr ⟨⟨n1, n2, n3, fun h9 => decide_eq_false (fn_ne h2)⟩, rfl⟩⟩
  · have h1 := fn_nge h
    rw [hN, fn_toInt (by omega), fn_toInt (by omega)] at h1
    rw [hc] at h2
    refine ⟨hf, nx + 1, Or.inl ⟨by omega, by omega, fun j j1 j2 => ?_, ?_⟩⟩
    · rcases Nat.lt_or_ge j nx with hj | hj
      · exact n3 j j1 hj
      · have : j = nx := by omega
        rw [this]
        exact decide_eq_true (fn_eq h2)
    · congr 3
      unfold so_m
      rw [fn_succ]
      show rd_f (cm_wi (cm_wi M 2 2 _) 2 2 _) = _
      rw [wi_wi]
set_option maxRecDepth 100000 in
theorem fn_stepOn {M : cm_M} {N k : Nat} (hT : M.2.2 2 0 = some 1) (hN : M.1 2 1 = Int32.ofNat N) (hN9 : N ≤ 900) (hk : M.1 2 2 = Int32.ofNat k) (hkN : k ≤ N) : cm_Lc cm_ms 88 [.ref 2] M (so_R M N k) := by
  refine lb_of (mi := mr_88) rfl so_st (so_J M N k) 60 (fun S hS => ?_) 60 ?_
  · obtain ⟨hf, nx, ⟨n1, n2, n3, rfl⟩ | ⟨he, rfl⟩⟩ := hS
    · exact so_8 hT hN hN9 hf n1 n2 n3
    · exact so_46 hT hN hN9 hf he
  · show (ev_cmp 0 (M.1 2 9) 0 = true → so_J M N k (8, [(0, .ref 2)], [], M)) ∧ (ev_cmp 0 (M.1 2 9) 0 = false → _)
    refine ⟨fun h => ?_, fun h => ?_⟩
    · refine ⟨of_decide_eq_true h, k, Or.inl ⟨Nat.le_refl _, hkN, fun j h1 h2 => by omega, ?_⟩⟩
      congr 3
      unfold so_m
      rw [wi_id hk, rd_f_eq hT]
    · show so_R M N k none M
      exact ⟨rfl, fun _ => rfl, fun h0 => absurd h0 (of_decide_eq_false h)⟩
