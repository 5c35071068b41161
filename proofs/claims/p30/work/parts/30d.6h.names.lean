/-! THE CLASS'S READER as functions of the memory: names -/
def rn_ok (M : cm_M) : Prop := M.2.2 2 11 = some 3 ∧ M.2.2 2 12 = some 4 ∧ M.2.2 2 13 = some 5 ∧ ∃ nn, nn ≤ 16 ∧ M.1 2 10 = Int32.ofNat nn
def nm_f (M : cm_M) : Nat → Nat → Int32
  | 0, _ => -1
  | f + 1, i => if M.1 2 3 = 1 ∧ M.2.1 3 i = M.2.1 2 6 then Int32.ofNat i else nm_f M f (i + 1)
def cF_name (M : cm_M) : Int32 := nm_f M (M.1 2 10).toNatClampNeg 0
def nh_f (M : cm_M) : cm_M := cm_wr M 2 11 (some 3)
def nh_J (M : cm_M) (nn : Nat) (S : cm_S) : Prop := ∃ i, i ≤ nn ∧ cF_name M = nm_f M (nn - i) i ∧ S = (2, [(0, .ref 2), (1, .int (Int32.ofNat i))], [], nh_f M)
set_option maxRecDepth 100000 in
theorem cs_nameHere {M : cm_M} (h : rn_ok M) : cm_Lc cm_ms 82 [.ref 2] M (fun v M' => M' = M ∧ v = some (.int (cF_name M))) := by
  obtain ⟨r11, r12, r13, nn, hn, hnn⟩ := h
  have hf : nh_f M = M := wr_id r11
  refine lb_of (mi := mr_82) rfl [(2, [0, 1])] (nh_J M nn) 40 (fun S hS => ?_) 10 ?_
  · obtain ⟨i, hi, hl, rfl⟩ := hS
    have hz : M.2.1 3 (Int32.ofNat i).toNatClampNeg = M.2.1 3 i := by rw [fn_nat (by omega)]
    show (ev_cmp 3 (Int32.ofNat i) (M.1 2 10) = true → _) ∧ (ev_cmp 3 (Int32.ofNat i) (M.1 2 10) = false → (ev_cmp 1 (M.1 2 3) 1 = true → nh_J M nn (2, [(0, .ref 2), (1, .int (Int32.ofNat i + 1))], [], nh_f M)) ∧ (ev_cmp 1 (M.1 2 3) 1 = false → (ev_cmp 1 (lg_cmp (M.2.1 3 (Int32.ofNat i).toNatClampNeg) (M.2.1 2 6)) 0 = true → nh_J M nn (2, [(0, .ref 2), (1, .int (Int32.ofNat i + 1))], [], nh_f M)) ∧ (ev_cmp 1 (lg_cmp (M.2.1 3 (Int32.ofNat i).toNatClampNeg) (M.2.1 2 6)) 0 = false → _)))
    have nxt : i < nn → ¬ (M.1 2 3 = 1 ∧ M.2.1 3 i = M.2.1 2 6) → nh_J M nn (2, [(0, .ref 2), (1, .int (Int32.ofNat i + 1))], [], nh_f M) := by
      intro hlt hne
      rw [fn_succ]
      refine ⟨i + 1, by omega, ?_, rfl⟩
      rw [hl, show nn - i = (nn - (i + 1)) + 1 by omega]
      show (if _ then _ else _) = _
      rw [if_neg hne]
    refine ⟨fun h1 => ⟨hf, ?_⟩, fun h1 => ?_⟩
    · have g := fn_ge h1
      rw [hnn, fn_toInt (by omega), fn_toInt (by omega)] at g
      have : i = nn := by omega
      subst this
      rw [hl, Nat.sub_self]
      rfl
    · have g := fn_nge h1
      rw [hnn, fn_toInt (by omega), fn_toInt (by omega)] at g
      refine ⟨fun h2 => nxt (by omega) (fun hh => fn_ne h2 hh.1), fun h2 => ⟨fun h3 => ?_, fun h3 => ⟨hf, ?_⟩⟩⟩
      · rw [hz] at h3
        exact nxt (by omega) (fun hh => fn_lne h3 hh.2)
      · rw [hz] at h3
        rw [hl, show nn - i = (nn - (i + 1)) + 1 by omega]
        show _ = some (Value.int (if _ then _ else _))
        rw [if_pos ⟨fn_eq h2, fn_leq h3⟩]
  · show nh_J M nn (2, [(0, .ref 2), (1, .int 0)], [], M)
    refine ⟨0, Nat.zero_le _, ?_, ?_⟩
    · unfold cF_name
      rw [hnn, fn_nat (by omega)]
      rfl
    · rw [hf]
      rfl
theorem rn_fail {M : cm_M} (x : Int32) (h : rn_ok M) : rn_ok (cF_fail x M) := by
  unfold cF_fail
  split
  · exact h
  · exact h
/-- a name that is to be new -/
def cF_newChk (M : cm_M) : cm_M := if M.1 2 3 = 1 ∧ cF_line M = -1 then (if cF_name M = -1 then M else cF_fail 3 M) else cF_fail 1 M
theorem rs_newChk {N : Nat} {M : cm_M} (h : rs_ok N M) : rs_ok N (cF_newChk M) := by
  unfold cF_newChk
  split
  · split
    · exact h
    · exact rs_fail 3 h
  · exact rs_fail 1 h
theorem rn_newChk {M : cm_M} (h : rn_ok M) : rn_ok (cF_newChk M) := by
  unfold cF_newChk
  split
  · split
    · exact h
    · exact rn_fail 3 h
  · exact rn_fail 1 h
def cF_put (so nu : Int32) (X : cm_M) : cm_M := if X.1 2 9 = 0 ∧ (X.1 2 10).toInt < 16 then cm_wi (cm_wi (cm_wi (cm_wl X 3 (X.1 2 10).toNatClampNeg (X.2.1 2 6)) 4 (X.1 2 10).toNatClampNeg so) 5 (X.1 2 10).toNatClampNeg nu) 2 10 (X.1 2 10 + 1) else X
theorem rs_put {N : Nat} {X : cm_M} (so nu : Int32) (h : rs_ok N X) : rs_ok N (cF_put so nu X) := by
  unfold cF_put
  split
  · exact h
  · exact h
theorem rn_put {X : cm_M} (so nu : Int32) (h : rn_ok X) : rn_ok (cF_put so nu X) := by
  unfold cF_put
  split
  · rename_i hc
    obtain ⟨r11, r12, r13, nn, hn, hnn⟩ := h
    have h16 := hc.2
    rw [hnn, fn_toInt (by omega)] at h16
    refine ⟨r11, r12, r13, nn + 1, by omega, ?_⟩
    show X.1 2 10 + 1 = _
    rw [hnn, fn_succ]
  · exact h
noncomputable def cF_newName (N : Nat) (so nu : Int32) (M : cm_M) : cm_M := cF_step N (cF_put so nu (cF_newChk M))
def rn_f (M : cm_M) : cm_M := cm_wr (cm_wr (cm_wr M 2 11 (some 3)) 2 12 (some 4)) 2 13 (some 5)
theorem rn_f_eq {M : cm_M} (h : rn_ok M) : rn_f M = M := by
  unfold rn_f
  rw [wr_id h.1, wr_id h.2.1, wr_id h.2.2.1]
def nn_J (M : cm_M) (so nu : Int32) (S : cm_S) : Prop := S = (37, [(0, .ref 2), (1, .int so), (2, .int nu)], [], rn_f (cF_newChk M)) ∨ S = (96, [(0, .ref 2)], [], cF_put so nu (cF_newChk M))
abbrev nn_st : List (Nat × List Nat) := [(37, [0, 1, 2]), (96, [0])]
set_option maxRecDepth 100000 in
set_option maxHeartbeats 4000000 in
theorem cs_newName {N : Nat} (so nu : Int32) {M : cm_M} (h : rs_ok N M) (hn : rn_ok M) : cm_Lc cm_ms 80 [.ref 2, .int so, .int nu] M (fun v M' => v = none ∧ M' = cF_newName N so nu M) := by
  have hX := rn_f_eq (rn_newChk hn)
  refine lb_of (mi := mr_80) rfl nn_st (nn_J M so nu) 60 (fun S hS => ?_) 40 ?_
  · rcases hS with rfl | rfl
    · generalize hXX : cF_newChk M = X at hX
      have z16 : (16 : Int32).toInt = 16 := by decide
      show (ev_cmp 1 (X.1 2 9) 0 = true → nn_J M so nu (96, [(0, .ref 2)], [], rn_f X)) ∧ (ev_cmp 1 (X.1 2 9) 0 = false → (ev_cmp 3 (X.1 2 10) 16 = true → nn_J M so nu (96, [(0, .ref 2)], [], rn_f X)) ∧ (ev_cmp 3 (X.1 2 10) 16 = false → nn_J M so nu (96, [(0, .ref 2)], [], cm_wi (cm_wi (cm_wi (cm_wl (rn_f X) 3 (X.1 2 10).toNatClampNeg (X.2.1 2 6)) 4 (X.1 2 10).toNatClampNeg so) 5 (X.1 2 10).toNatClampNeg nu) 2 10 (X.1 2 10 + 1))))
      have fin : ∀ Y, Y = cF_put so nu X → nn_J M so nu (96, [(0, .ref 2)], [], Y) := fun Y hY => Or.inr (by rw [hY, hXX])
      refine ⟨fun h1 => fin _ ?_, fun h1 => ⟨fun h2 => fin _ ?_, fun h2 => fin _ ?_⟩⟩
      · rw [hX]
        unfold cF_put
        rw [if_neg (fun hh => fn_ne h1 hh.1)]
      · rw [hX]
        have g := fn_ge h2
        unfold cF_put
        rw [if_neg (fun hh => by have := hh.2; omega)]
      · rw [hX]
        have g := fn_nge h2
        unfold cF_put
        rw [if_pos ⟨fn_eq h1, by omega⟩]
    · show ∃ R, cm_Lc cm_ms 88 [.ref 2] (cF_put so nu (cF_newChk M)) R ∧ ∀ v M', R v M' → _
      refine ⟨_, cs_step (rs_put so nu (rs_newChk h)), ?_⟩
      rintro v M' ⟨rfl, rfl⟩
      exact ⟨rfl, rfl⟩
  · have to37 : ∀ Y, Y = cF_newChk M → nn_J M so nu (37, [(0, .ref 2), (1, .int so), (2, .int nu)], [], Y) := fun Y hY => Or.inl (by rw [hY, hX])
    show (ev_cmp 1 (M.1 2 3) 1 = true → ∃ R, cm_Lc cm_ms 66 [.ref 2, .int 1] M R ∧ ∀ v M', R v M' → _) ∧ (ev_cmp 1 (M.1 2 3) 1 = false → ∃ R, cm_Lc cm_ms 84 [.ref 2] M R ∧ ∀ v M', R v M' → _)
    refine ⟨fun h1 => ⟨_, cs_fail 1 M, ?_⟩, fun h1 => ⟨_, cs_line M, ?_⟩⟩
    · rintro v M' ⟨rfl, rfl⟩
      show nn_J M so nu (37, [(0, .ref 2), (1, .int so), (2, .int nu)], [], cF_fail 1 M)
      refine to37 _ ?_
      unfold cF_newChk
      rw [if_neg (fun hh => fn_ne h1 hh.1)]
    · rintro v M' ⟨rfl, rfl⟩
      show (ev_cmp 0 (cF_line M') (-1) = true → ∃ R, cm_Lc cm_ms 82 [.ref 2] M' R ∧ ∀ v M', R v M' → _) ∧ (ev_cmp 0 (cF_line M') (-1) = false → ∃ R, cm_Lc cm_ms 66 [.ref 2, .int 1] M' R ∧ ∀ v M', R v M' → _)
      refine ⟨fun h2 => ⟨_, cs_nameHere hn, ?_⟩, fun h2 => ⟨_, cs_fail 1 M', ?_⟩⟩
      · rintro v M' ⟨rfl, rfl⟩
        show (ev_cmp 0 (cF_name M') (-1) = true → nn_J M' so nu (37, [(0, .ref 2), (1, .int so), (2, .int nu)], [], M')) ∧ (ev_cmp 0 (cF_name M') (-1) = false → ∃ R, cm_Lc cm_ms 66 [.ref 2, .int 3] M' R ∧ ∀ v M', R v M' → _)
        refine ⟨fun h3 => to37 _ ?_, fun h3 => ⟨_, cs_fail 3 M', ?_⟩⟩
        · unfold cF_newChk
          rw [if_pos ⟨fn_eq h1, fn_eq0 h2⟩, if_pos (fn_eq0 h3)]
        · rintro v M2 ⟨rfl, rfl⟩
          show nn_J M' so nu (37, [(0, .ref 2), (1, .int so), (2, .int nu)], [], cF_fail 3 M')
          refine to37 _ ?_
          unfold cF_newChk
          rw [if_pos ⟨fn_eq h1, fn_eq0 h2⟩, if_neg (fn_ne0 h3)]
      · rintro v M2 ⟨rfl, rfl⟩
        show nn_J M' so nu (37, [(0, .ref 2), (1, .int so), (2, .int nu)], [], cF_fail 1 M')
        refine to37 _ ?_
        unfold cF_newChk
        rw [if_neg (fun hh => fn_ne0 h2 hh.2)]
