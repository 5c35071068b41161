/-! THE LAW'S CASES, on -/
section HALVES
variable {J : cm_S → Prop} {L : Nat} {xs : Nat → Int32} {i : Int32} {M : cm_M}
set_option maxRecDepth 100000 in
theorem lh_32a (hi : lu_in L i) (hM : ab_ok hp hN M) (hJ : ∀ M', lu_P M M' → J (1075, law_L i, [], M')) : cm_wp cm_ms (cm_Call cm_ms 30) (some (L, xs)) lawP lu_c32a (lu_st 1075) J (fun _ _ => False) 80 (1064, law_L i, [], M) := by
  show 1000 = 1000 ∧ 0 ≤ (i + 1).toInt ∧ (i + 1).toInt < (L : Int) ∧ cm_cs [] ≤ 8 ∧ ev_nar1 _ _ = true ∧ (_ → _) ∧ cm_Call cm_ms 30 130 [.ref 0, .int (xs (i + 1).toNatClampNeg)] M _
  refine ⟨rfl, (lu_ix hi (a := 1) (by decide) (by decide)).1, (lu_ix hi (a := 1) (by decide) (by decide)).2, by decide, by decide, fun _ => Or.inr rfl, cm_Call_up (lk_130 hM _) (Nat.le_refl _) (fun v M1 hv => ?_)⟩
  obtain ⟨⟨r, rfl⟩, hP⟩ := hv
  show (Value.int r).category = 1 ∧ J (1075, law_L i, [], M1)
  exact ⟨rfl, hJ M1 hP⟩
set_option maxRecDepth 100000 in
theorem lh_32b (hi : lu_in L i) (hM : ab_ok hp hN M) (hJ : ∀ M', lu_P M M' → J (1722, law_L i, [], M')) : cm_wp cm_ms (cm_Call cm_ms 30) (some (L, xs)) lawP lu_c32b (lu_st 1722) J (fun _ _ => False) 80 (1075, law_L i, [], M) := by
  show 1000 = 1000 ∧ 0 ≤ (i + 1).toInt ∧ (i + 1).toInt < (L : Int) ∧ cm_cs [] ≤ 8 ∧ ev_nar1 _ _ = true ∧ (_ → _) ∧ cm_Call cm_ms 30 264 [.ref 124, .int (xs (i + 1).toNatClampNeg)] M _
  refine ⟨rfl, (lu_ix hi (a := 1) (by decide) (by decide)).1, (lu_ix hi (a := 1) (by decide) (by decide)).2, by decide, by decide, fun _ => Or.inr rfl, cm_Call_up (lk_264 hM _) (Nat.le_refl _) (fun v M1 hv => ?_)⟩
  obtain ⟨⟨r, rfl⟩, hP⟩ := hv
  show (Value.int r).category = 1 ∧ 0 ≤ _ ∧ J (1722, law_L i, [], M1)
  exact ⟨rfl, (by decide : (0 : Int) ≤ 1722), hJ M1 hP⟩
set_option maxRecDepth 100000 in
theorem lh_33a (hM : ab_ok hp hN M) (hJ : ∀ M', lu_P M M' → J (1094, law_L i, [], M')) : cm_wp cm_ms (cm_Call cm_ms 30) (some (L, xs)) lawP lu_c33a (lu_st 1094) J (fun _ _ => False) 80 (1089, law_L i, [], M) := by
  show cm_cs [] ≤ 8 ∧ ev_nar1 _ _ = true ∧ (_ → _) ∧ cm_Call cm_ms 30 131 [.ref 0] M _
  refine ⟨by decide, by decide, fun _ => Or.inr rfl, cm_Call_up (lk_131 hM) (Nat.le_refl _) (fun v M1 hv => ?_)⟩
  obtain ⟨⟨r, rfl⟩, hP⟩ := hv
  show (Value.int r).category = 1 ∧ J (1094, law_L i, [], M1)
  exact ⟨rfl, hJ M1 hP⟩
set_option maxRecDepth 100000 in
theorem lh_33b (hM : ab_ok hp hN M) (hJ : ∀ M', lu_P M M' → J (1722, law_L i, [], M')) : cm_wp cm_ms (cm_Call cm_ms 30) (some (L, xs)) lawP lu_c33b (lu_st 1722) J (fun _ _ => False) 80 (1094, law_L i, [], M) := by
  show cm_cs [] ≤ 8 ∧ ev_nar1 _ _ = true ∧ (_ → _) ∧ cm_Call cm_ms 30 267 [.ref 124] M _
  refine ⟨by decide, by decide, fun _ => Or.inr rfl, cm_Call_up (lk_267 hM) (Nat.le_refl _) (fun v M1 hv => ?_)⟩
  obtain ⟨⟨r, rfl⟩, hP⟩ := hv
  show (Value.int r).category = 1 ∧ 0 ≤ _ ∧ J (1722, law_L i, [], M1)
  exact ⟨rfl, (by decide : (0 : Int) ≤ 1722), hJ M1 hP⟩
set_option maxRecDepth 100000 in
theorem lh_34a (hi : lu_in L i) (hM : ab_ok hp hN M) (hJ : ∀ M', lu_P M M' → J (1113, law_L i, [], M')) : cm_wp cm_ms (cm_Call cm_ms 30) (some (L, xs)) lawP lu_c34a (lu_st 1113) J (fun _ _ => False) 80 (1102, law_L i, [], M) := by
  show 1000 = 1000 ∧ 0 ≤ (i + 1).toInt ∧ (i + 1).toInt < (L : Int) ∧ cm_cs [] ≤ 8 ∧ ev_nar1 _ _ = true ∧ (_ → _) ∧ cm_Call cm_ms 30 132 [.ref 0, .int (xs (i + 1).toNatClampNeg)] M _
  refine ⟨rfl, (lu_ix hi (a := 1) (by decide) (by decide)).1, (lu_ix hi (a := 1) (by decide) (by decide)).2, by decide, by decide, fun _ => Or.inr rfl, cm_Call_up (lk_132 hM _) (Nat.le_refl _) (fun v M1 hv => ?_)⟩
  obtain ⟨⟨r, rfl⟩, hP⟩ := hv
  show (Value.int r).category = 1 ∧ J (1113, law_L i, [], M1)
  exact ⟨rfl, hJ M1 hP⟩
set_option maxRecDepth 100000 in
theorem lh_34b (hi : lu_in L i) (hM : ab_ok hp hN M) (hJ : ∀ M', lu_P M M' → J (1722, law_L i, [], M')) : cm_wp cm_ms (cm_Call cm_ms 30) (some (L, xs)) lawP lu_c34b (lu_st 1722) J (fun _ _ => False) 80 (1113, law_L i, [], M) := by
  show 1000 = 1000 ∧ 0 ≤ (i + 1).toInt ∧ (i + 1).toInt < (L : Int) ∧ cm_cs [] ≤ 8 ∧ ev_nar1 _ _ = true ∧ (_ → _) ∧ cm_Call cm_ms 30 268 [.ref 124, .int (xs (i + 1).toNatClampNeg)] M _
  refine ⟨rfl, (lu_ix hi (a := 1) (by decide) (by decide)).1, (lu_ix hi (a := 1) (by decide) (by decide)).2, by decide, by decide, fun _ => Or.inr rfl, cm_Call_up (lk_268 hM _) (Nat.le_refl _) (fun v M1 hv => ?_)⟩
  obtain ⟨⟨r, rfl⟩, hP⟩ := hv
  show (Value.int r).category = 1 ∧ 0 ≤ _ ∧ J (1722, law_L i, [], M1)
  exact ⟨rfl, (by decide : (0 : Int) ≤ 1722), hJ M1 hP⟩
set_option maxRecDepth 100000 in
theorem lh_35a (hM : ab_ok hp hN M) (hJ : ∀ M', lu_P M M' → J (1132, law_L i, [], M')) : cm_wp cm_ms (cm_Call cm_ms 30) (some (L, xs)) lawP lu_c35a (lu_st 1132) J (fun _ _ => False) 80 (1127, law_L i, [], M) := by
  show cm_cs [] ≤ 8 ∧ ev_nar1 _ _ = true ∧ (_ → _) ∧ cm_Call cm_ms 30 133 [.ref 0] M _
  refine ⟨by decide, by decide, fun _ => Or.inr rfl, cm_Call_up (lk_133 hM) (Nat.le_refl _) (fun v M1 hv => ?_)⟩
  obtain ⟨⟨r, rfl⟩, hP⟩ := hv
  show (Value.int r).category = 1 ∧ J (1132, law_L i, [], M1)
  exact ⟨rfl, hJ M1 hP⟩
set_option maxRecDepth 100000 in
theorem lh_35b (hM : ab_ok hp hN M) (hJ : ∀ M', lu_P M M' → J (1722, law_L i, [], M')) : cm_wp cm_ms (cm_Call cm_ms 30) (some (L, xs)) lawP lu_c35b (lu_st 1722) J (fun _ _ => False) 80 (1132, law_L i, [], M) := by
  show cm_cs [] ≤ 8 ∧ ev_nar1 _ _ = true ∧ (_ → _) ∧ cm_Call cm_ms 30 269 [.ref 124] M _
  refine ⟨by decide, by decide, fun _ => Or.inr rfl, cm_Call_up (lk_269 hM) (Nat.le_refl _) (fun v M1 hv => ?_)⟩
  obtain ⟨⟨r, rfl⟩, hP⟩ := hv
  show (Value.int r).category = 1 ∧ 0 ≤ _ ∧ J (1722, law_L i, [], M1)
  exact ⟨rfl, (by decide : (0 : Int) ≤ 1722), hJ M1 hP⟩
set_option maxRecDepth 100000 in
theorem lh_36a (hM : ab_ok hp hN M) (hJ : ∀ M', lu_P M M' → J (1145, law_L i, [], M')) : cm_wp cm_ms (cm_Call cm_ms 30) (some (L, xs)) lawP lu_c36a (lu_st 1145) J (fun _ _ => False) 80 (1140, law_L i, [], M) := by
  show cm_cs [] ≤ 8 ∧ ev_nar1 _ _ = true ∧ (_ → _) ∧ cm_Call cm_ms 30 134 [.ref 0] M _
  refine ⟨by decide, by decide, fun _ => Or.inr rfl, cm_Call_up (lk_134 hM) (Nat.le_refl _) (fun v M1 hv => ?_)⟩
  obtain ⟨⟨r, rfl⟩, hP⟩ := hv
  show (Value.int r).category = 1 ∧ J (1145, law_L i, [], M1)
  exact ⟨rfl, hJ M1 hP⟩
set_option maxRecDepth 100000 in
theorem lh_36b (hM : ab_ok hp hN M) (hJ : ∀ M', lu_P M M' → J (1722, law_L i, [], M')) : cm_wp cm_ms (cm_Call cm_ms 30) (some (L, xs)) lawP lu_c36b (lu_st 1722) J (fun _ _ => False) 80 (1145, law_L i, [], M) := by
  show cm_cs [] ≤ 8 ∧ ev_nar1 _ _ = true ∧ (_ → _) ∧ cm_Call cm_ms 30 270 [.ref 124] M _
  refine ⟨by decide, by decide, fun _ => Or.inr rfl, cm_Call_up (lk_270 hM) (Nat.le_refl _) (fun v M1 hv => ?_)⟩
  obtain ⟨⟨r, rfl⟩, hP⟩ := hv
  show (Value.int r).category = 1 ∧ 0 ≤ _ ∧ J (1722, law_L i, [], M1)
  exact ⟨rfl, (by decide : (0 : Int) ≤ 1722), hJ M1 hP⟩
end HALVES
