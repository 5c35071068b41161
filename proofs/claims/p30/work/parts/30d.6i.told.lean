/-! THE CLASS'S READER as functions of the memory: names that were told -/
def cF_told (so : Int32) (M : cm_M) : cm_M := if M.1 2 3 = 1 ∧ cF_line M = -1 then (if cF_name M = -1 ∨ M.1 4 (cF_name M).toNatClampNeg ≠ so then cF_fail 2 M else M) else cF_fail 1 M
def cF_toldV (so : Int32) (M : cm_M) : Int32 := if (cF_told so M).1 2 9 ≠ 0 ∨ cF_name M = -1 then -1 else (cF_told so M).1 5 (cF_name M).toNatClampNeg
theorem rs_told {N : Nat} {M : cm_M} (so : Int32) (h : rs_ok N M) : rs_ok N (cF_told so M) := by
  unfold cF_told
  split
  · split
    · exact rs_fail 2 h
    · exact h
  · exact rs_fail 1 h
theorem rn_told {M : cm_M} (so : Int32) (h : rn_ok M) : rn_ok (cF_told so M) := by
  unfold cF_told
  split
  · split
    · exact rn_fail 2 h
    · exact h
  · exact rn_fail 1 h
def th_J (M : cm_M) (so : Int32) (S : cm_S) : Prop := S = (49, [(0, .ref 2), (2, .int (cF_name M))], [], rn_f (cF_told so M))
abbrev th_R (so : Int32) (M : cm_M) : cm_K := fun v M' => v = some (.int (cF_toldV so M)) ∧ M' = cF_told so M
set_option maxRecDepth 100000 in
set_option maxHeartbeats 4000000 in
theorem cs_told0 (so : Int32) {M0 M : cm_M} (e0 : M = rn_f M0) (hn : rn_ok M) : cm_Lc cm_ms 81 [.ref 2, .int so] (rn_f M0) (th_R so M) := by
  have hX := rn_f_eq (rn_told so hn)
  refine lb_of (mi := mr_81) rfl [(49, [0, 2])] (th_J M so) 40 (fun S hS => ?_) 40 ?_
  · rcases hS with rfl
    have hv : cF_toldV so M = if (cF_told so M).1 2 9 ≠ 0 ∨ cF_name M = -1 then -1 else (cF_told so M).1 5 (cF_name M).toNatClampNeg := rfl
    generalize hXX : cF_told so M = X at hX hv
    show (ev_cmp 1 (X.1 2 9) 0 = true → _) ∧ (ev_cmp 1 (X.1 2 9) 0 = false → (ev_cmp 1 (cF_name M) (-1) = true → _) ∧ (ev_cmp 1 (cF_name M) (-1) = false → _))
    refine ⟨fun h1 => ?_, fun h1 => ⟨fun h2 => ?_, fun h2 => ?_⟩⟩
    · show th_R so M (some (.int (-1))) (rn_f X)
      exact ⟨by rw [hv, if_pos (Or.inl (fn_ne h1))], by rw [hX, hXX]⟩
    · show th_R so M (some (.int (X.1 5 (cF_name M).toNatClampNeg))) (rn_f X)
      exact ⟨by rw [hv, if_neg (fun hh => hh.elim (fun q => q (fn_eq h1)) (fun q => fn_ne h2 q))], by rw [hX, hXX]⟩
    · show th_R so M (some (.int (-1))) (rn_f X)
      exact ⟨by rw [hv, if_pos (Or.inr (fn_eq h2))], by rw [hX, hXX]⟩
  · have to49 : ∀ Y, Y = cF_told so M → th_J M so (49, [(0, .ref 2), (2, .int (cF_name M))], [], Y) := fun Y hY => by rw [hY]; show _ = _; rw [hX]
    show ∃ R, cm_Lc cm_ms 82 [.ref 2] (rn_f M0) R ∧ ∀ v M', R v M' → _
    refine ⟨_, (by rw [← e0]; exact cs_nameHere hn : cm_Lc cm_ms 82 [.ref 2] (rn_f M0) (fun v M' => M' = rn_f M0 ∧ v = some (.int (cF_name M)))), ?_⟩
    rintro v M' ⟨rfl, rfl⟩
    show (ev_cmp 1 (M0.1 2 3) 1 = true → ∃ R, cm_Lc cm_ms 66 [.ref 2, .int 1] (rn_f M0) R ∧ ∀ v M', R v M' → _) ∧ (ev_cmp 1 (M0.1 2 3) 1 = false → ∃ R, cm_Lc cm_ms 84 [.ref 2] (rn_f M0) R ∧ ∀ v M', R v M' → _)
    have e3 : M.1 2 3 = M0.1 2 3 := by rw [e0]; rfl
    have e4 : ∀ j, M.1 4 j = M0.1 4 j := fun j => by rw [e0]; rfl
    have f1 : ¬ (M.1 2 3 = 1 ∧ cF_line M = -1) → cF_fail 1 (rn_f M0) = cF_told so M := fun hh => by rw [← e0]; unfold cF_told; rw [if_neg hh]
    refine ⟨fun h1 => ⟨_, cs_fail 1 _, ?_⟩, fun h1 => ⟨_, (by rw [← e0]; exact cs_line M : cm_Lc cm_ms 84 [.ref 2] (rn_f M0) (fun v M' => M' = rn_f M0 ∧ v = some (.int (cF_line M)))), ?_⟩⟩
    · rintro v M' ⟨rfl, rfl⟩
      show th_J M so (49, [(0, .ref 2), (2, .int (cF_name M))], [], cF_fail 1 (rn_f M0))
      exact to49 _ (f1 (fun hh => fn_ne h1 (e3 ▸ hh.1)))
    · rintro v M' ⟨rfl, rfl⟩
      show (ev_cmp 0 (cF_line M) (-1) = true → (ev_cmp 0 (cF_name M) (-1) = true → ∃ R, cm_Lc cm_ms 66 [.ref 2, .int 2] (rn_f M0) R ∧ ∀ v M', R v M' → _) ∧ (ev_cmp 0 (cF_name M) (-1) = false → (ev_cmp 0 (M0.1 4 (cF_name M).toNatClampNeg) so = true → th_J M so (49, [(0, .ref 2), (2, .int (cF_name M))], [], rn_f M0)) ∧ (ev_cmp 0 (M0.1 4 (cF_name M).toNatClampNeg) so = false → ∃ R, cm_Lc cm_ms 66 [.ref 2, .int 2] (rn_f M0) R ∧ ∀ v M', R v M' → _))) ∧ (ev_cmp 0 (cF_line M) (-1) = false → ∃ R, cm_Lc cm_ms 66 [.ref 2, .int 1] (rn_f M0) R ∧ ∀ v M', R v M' → _)
      have a1 : M.1 2 3 = 1 := e3.trans (fn_eq h1)
      have f2 : cF_line M = -1 → (cF_name M = -1 ∨ M.1 4 (cF_name M).toNatClampNeg ≠ so) → cF_fail 2 (rn_f M0) = cF_told so M := fun h2 hh => by rw [← e0]; unfold cF_told; rw [if_pos ⟨a1, h2⟩, if_pos hh]
      refine ⟨fun h2 => ⟨fun h3 => ⟨_, cs_fail 2 _, ?_⟩, fun h3 => ⟨fun h4 => to49 _ ?_, fun h4 => ⟨_, cs_fail 2 _, ?_⟩⟩⟩, fun h2 => ⟨_, cs_fail 1 _, ?_⟩⟩
      · rintro v M' ⟨rfl, rfl⟩
        show th_J M so (49, [(0, .ref 2), (2, .int (cF_name M))], [], cF_fail 2 (rn_f M0))
        exact to49 _ (f2 (fn_eq0 h2) (Or.inl (fn_eq0 h3)))
      · rw [← e0]
        unfold cF_told
        rw [if_pos ⟨a1, fn_eq0 h2⟩, if_neg (fun hh => hh.elim (fun q => fn_ne0 h3 q) (fun q => q ((e4 _).trans (fn_eq0 h4))))]
      · rintro v M' ⟨rfl, rfl⟩
        show th_J M so (49, [(0, .ref 2), (2, .int (cF_name M))], [], cF_fail 2 (rn_f M0))
        exact to49 _ (f2 (fn_eq0 h2) (Or.inr (fun q => fn_ne0 h4 ((e4 _).symm.trans q))))
      · rintro v M' ⟨rfl, rfl⟩
        show th_J M so (49, [(0, .ref 2), (2, .int (cF_name M))], [], cF_fail 1 (rn_f M0))
        exact to49 _ (f1 (fun hh => fn_ne0 h2 hh.2))
theorem cs_told (so : Int32) {M : cm_M} (hn : rn_ok M) : cm_Lc cm_ms 81 [.ref 2, .int so] M (th_R so M) := by
  have h := cs_told0 so (M0 := M) (M := M) (rn_f_eq hn).symm hn
  rw [rn_f_eq hn] at h
  exact h
