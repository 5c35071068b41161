/-! THE LAW'S CASES, on -/
section HALVES
variable {J : cm_S → Prop} {L : Nat} {xs : Nat → Int32} {i : Int32} {M : cm_M}
set_option maxRecDepth 100000 in
theorem lh_17a (hM : ab_ok hp hN M) (hJ : ∀ M', lu_P M M' → J (718, law_L i, [], M')) : cm_wp cm_ms (cm_Call cm_ms 30) (some (L, xs)) lawP lu_c17a (lu_st 718) J (fun _ _ => False) 80 (713, law_L i, [], M) := by
  show cm_cs [] ≤ 8 ∧ ev_nar1 _ _ = true ∧ (_ → _) ∧ cm_Call cm_ms 30 111 [.ref 0] M _
  refine ⟨by decide, by decide, fun _ => Or.inr rfl, cm_Call_up (lk_111 hM) (Nat.le_refl _) (fun v M1 hv => ?_)⟩
  obtain ⟨⟨r, rfl⟩, hP⟩ := hv
  show (Value.int r).category = 1 ∧ J (718, law_L i, [], M1)
  exact ⟨rfl, hJ M1 hP⟩
set_option maxRecDepth 100000 in
theorem lh_17b (hM : ab_ok hp hN M) (hJ : ∀ M', lu_P M M' → J (1722, law_L i, [], M')) : cm_wp cm_ms (cm_Call cm_ms 30) (some (L, xs)) lawP lu_c17b (lu_st 1722) J (fun _ _ => False) 80 (718, law_L i, [], M) := by
  show cm_cs [] ≤ 8 ∧ ev_nar1 _ _ = true ∧ (_ → _) ∧ cm_Call cm_ms 30 239 [.ref 124] M _
  refine ⟨by decide, by decide, fun _ => Or.inr rfl, cm_Call_up (lk_239 hM) (Nat.le_refl _) (fun v M1 hv => ?_)⟩
  obtain ⟨⟨r, rfl⟩, hP⟩ := hv
  show (Value.int r).category = 1 ∧ 0 ≤ _ ∧ J (1722, law_L i, [], M1)
  exact ⟨rfl, (by decide : (0 : Int) ≤ 1722), hJ M1 hP⟩
set_option maxRecDepth 100000 in
theorem lh_18a (hi : lu_in L i) (hM : ab_ok hp hN M) (hJ : ∀ M', lu_P M M' → J (743, law_L i, [], M')) : cm_wp cm_ms (cm_Call cm_ms 30) (some (L, xs)) lawP lu_c18a (lu_st 743) J (fun _ _ => False) 80 (726, law_L i, [], M) := by
  show 1000 = 1000 ∧ 0 ≤ (i + 1).toInt ∧ (i + 1).toInt < (L : Int) ∧ 1000 = 1000 ∧ 0 ≤ (i + 2).toInt ∧ (i + 2).toInt < (L : Int) ∧ cm_cs [] ≤ 8 ∧ ev_nar1 _ _ = true ∧ (_ → _) ∧ cm_Call cm_ms 30 114 [.ref 0, .int (xs (i + 1).toNatClampNeg), .int (xs (i + 2).toNatClampNeg)] M _
  refine ⟨rfl, (lu_ix hi (a := 1) (by decide) (by decide)).1, (lu_ix hi (a := 1) (by decide) (by decide)).2, rfl, (lu_ix hi (a := 2) (by decide) (by decide)).1, (lu_ix hi (a := 2) (by decide) (by decide)).2, by decide, by decide, fun _ => Or.inr rfl, cm_Call_up (lk_114 hM _ _) (Nat.le_refl _) (fun v M1 hv => ?_)⟩
  obtain ⟨⟨r, rfl⟩, hP⟩ := hv
  show (Value.int r).category = 1 ∧ J (743, law_L i, [], M1)
  exact ⟨rfl, hJ M1 hP⟩
set_option maxRecDepth 100000 in
theorem lh_18b (hi : lu_in L i) (hM : ab_ok hp hN M) (hJ : ∀ M', lu_P M M' → J (1722, law_L i, [], M')) : cm_wp cm_ms (cm_Call cm_ms 30) (some (L, xs)) lawP lu_c18b (lu_st 1722) J (fun _ _ => False) 80 (743, law_L i, [], M) := by
  show 1000 = 1000 ∧ 0 ≤ (i + 1).toInt ∧ (i + 1).toInt < (L : Int) ∧ 1000 = 1000 ∧ 0 ≤ (i + 2).toInt ∧ (i + 2).toInt < (L : Int) ∧ cm_cs [] ≤ 8 ∧ ev_nar1 _ _ = true ∧ (_ → _) ∧ cm_Call cm_ms 30 242 [.ref 124, .int (xs (i + 1).toNatClampNeg), .int (xs (i + 2).toNatClampNeg)] M _
  refine ⟨rfl, (lu_ix hi (a := 1) (by decide) (by decide)).1, (lu_ix hi (a := 1) (by decide) (by decide)).2, rfl, (lu_ix hi (a := 2) (by decide) (by decide)).1, (lu_ix hi (a := 2) (by decide) (by decide)).2, by decide, by decide, fun _ => Or.inr rfl, cm_Call_up (lk_242 hM _ _) (Nat.le_refl _) (fun v M1 hv => ?_)⟩
  obtain ⟨⟨r, rfl⟩, hP⟩ := hv
  show (Value.int r).category = 1 ∧ 0 ≤ _ ∧ J (1722, law_L i, [], M1)
  exact ⟨rfl, (by decide : (0 : Int) ≤ 1722), hJ M1 hP⟩
set_option maxRecDepth 100000 in
theorem lh_19a (hi : lu_in L i) (hM : ab_ok hp hN M) (hJ : ∀ M', lu_P M M' → J (774, law_L i, [], M')) : cm_wp cm_ms (cm_Call cm_ms 30) (some (L, xs)) lawP lu_c19a (lu_st 774) J (fun _ _ => False) 80 (763, law_L i, [], M) := by
  show 1000 = 1000 ∧ 0 ≤ (i + 1).toInt ∧ (i + 1).toInt < (L : Int) ∧ cm_cs [] ≤ 8 ∧ ev_nar1 _ _ = true ∧ (_ → _) ∧ cm_Call cm_ms 30 115 [.ref 0, .int (xs (i + 1).toNatClampNeg)] M _
  refine ⟨rfl, (lu_ix hi (a := 1) (by decide) (by decide)).1, (lu_ix hi (a := 1) (by decide) (by decide)).2, by decide, by decide, fun _ => Or.inr rfl, cm_Call_up (lk_115 hM _) (Nat.le_refl _) (fun v M1 hv => ?_)⟩
  obtain ⟨⟨r, rfl⟩, hP⟩ := hv
  show (Value.int r).category = 1 ∧ J (774, law_L i, [], M1)
  exact ⟨rfl, hJ M1 hP⟩
set_option maxRecDepth 100000 in
theorem lh_19b (hi : lu_in L i) (hM : ab_ok hp hN M) (hJ : ∀ M', lu_P M M' → J (1722, law_L i, [], M')) : cm_wp cm_ms (cm_Call cm_ms 30) (some (L, xs)) lawP lu_c19b (lu_st 1722) J (fun _ _ => False) 80 (774, law_L i, [], M) := by
  show 1000 = 1000 ∧ 0 ≤ (i + 1).toInt ∧ (i + 1).toInt < (L : Int) ∧ cm_cs [] ≤ 8 ∧ ev_nar1 _ _ = true ∧ (_ → _) ∧ cm_Call cm_ms 30 245 [.ref 124, .int (xs (i + 1).toNatClampNeg)] M _
  refine ⟨rfl, (lu_ix hi (a := 1) (by decide) (by decide)).1, (lu_ix hi (a := 1) (by decide) (by decide)).2, by decide, by decide, fun _ => Or.inr rfl, cm_Call_up (lk_245 hM _) (Nat.le_refl _) (fun v M1 hv => ?_)⟩
  obtain ⟨⟨r, rfl⟩, hP⟩ := hv
  show (Value.int r).category = 1 ∧ 0 ≤ _ ∧ J (1722, law_L i, [], M1)
  exact ⟨rfl, (by decide : (0 : Int) ≤ 1722), hJ M1 hP⟩
set_option maxRecDepth 100000 in
theorem lh_20a (hi : lu_in L i) (hM : ab_ok hp hN M) (hJ : ∀ M', lu_P M M' → J (799, law_L i, [], M')) : cm_wp cm_ms (cm_Call cm_ms 30) (some (L, xs)) lawP lu_c20a (lu_st 799) J (fun _ _ => False) 80 (788, law_L i, [], M) := by
  show 1000 = 1000 ∧ 0 ≤ (i + 1).toInt ∧ (i + 1).toInt < (L : Int) ∧ cm_cs [] ≤ 8 ∧ ev_nar1 _ _ = true ∧ (_ → _) ∧ cm_Call cm_ms 30 116 [.ref 0, .int (xs (i + 1).toNatClampNeg)] M _
  refine ⟨rfl, (lu_ix hi (a := 1) (by decide) (by decide)).1, (lu_ix hi (a := 1) (by decide) (by decide)).2, by decide, by decide, fun _ => Or.inr rfl, cm_Call_up (lk_116 hM _) (Nat.le_refl _) (fun v M1 hv => ?_)⟩
  obtain ⟨⟨r, rfl⟩, hP⟩ := hv
  show (Value.int r).category = 1 ∧ J (799, law_L i, [], M1)
  exact ⟨rfl, hJ M1 hP⟩
set_option maxRecDepth 100000 in
theorem lh_20b (hi : lu_in L i) (hM : ab_ok hp hN M) (hJ : ∀ M', lu_P M M' → J (1722, law_L i, [], M')) : cm_wp cm_ms (cm_Call cm_ms 30) (some (L, xs)) lawP lu_c20b (lu_st 1722) J (fun _ _ => False) 80 (799, law_L i, [], M) := by
  show 1000 = 1000 ∧ 0 ≤ (i + 1).toInt ∧ (i + 1).toInt < (L : Int) ∧ cm_cs [] ≤ 8 ∧ ev_nar1 _ _ = true ∧ (_ → _) ∧ cm_Call cm_ms 30 246 [.ref 124, .int (xs (i + 1).toNatClampNeg)] M _
  refine ⟨rfl, (lu_ix hi (a := 1) (by decide) (by decide)).1, (lu_ix hi (a := 1) (by decide) (by decide)).2, by decide, by decide, fun _ => Or.inr rfl, cm_Call_up (lk_246 hM _) (Nat.le_refl _) (fun v M1 hv => ?_)⟩
  obtain ⟨⟨r, rfl⟩, hP⟩ := hv
  show (Value.int r).category = 1 ∧ 0 ≤ _ ∧ J (1722, law_L i, [], M1)
  exact ⟨rfl, (by decide : (0 : Int) ≤ 1722), hJ M1 hP⟩
set_option maxRecDepth 100000 in
theorem lh_21a (hi : lu_in L i) (hM : ab_ok hp hN M) (hJ : ∀ M', lu_P M M' → J (824, law_L i, [], M')) : cm_wp cm_ms (cm_Call cm_ms 30) (some (L, xs)) lawP lu_c21a (lu_st 824) J (fun _ _ => False) 80 (813, law_L i, [], M) := by
  show 1000 = 1000 ∧ 0 ≤ (i + 1).toInt ∧ (i + 1).toInt < (L : Int) ∧ cm_cs [] ≤ 8 ∧ ev_nar1 _ _ = true ∧ (_ → _) ∧ cm_Call cm_ms 30 117 [.ref 0, .int (xs (i + 1).toNatClampNeg)] M _
  refine ⟨rfl, (lu_ix hi (a := 1) (by decide) (by decide)).1, (lu_ix hi (a := 1) (by decide) (by decide)).2, by decide, by decide, fun _ => Or.inr rfl, cm_Call_up (lk_117 hM _) (Nat.le_refl _) (fun v M1 hv => ?_)⟩
  obtain ⟨⟨r, rfl⟩, hP⟩ := hv
  show (Value.int r).category = 1 ∧ J (824, law_L i, [], M1)
  exact ⟨rfl, hJ M1 hP⟩
set_option maxRecDepth 100000 in
theorem lh_21b (hi : lu_in L i) (hM : ab_ok hp hN M) (hJ : ∀ M', lu_P M M' → J (1722, law_L i, [], M')) : cm_wp cm_ms (cm_Call cm_ms 30) (some (L, xs)) lawP lu_c21b (lu_st 1722) J (fun _ _ => False) 80 (824, law_L i, [], M) := by
  show 1000 = 1000 ∧ 0 ≤ (i + 1).toInt ∧ (i + 1).toInt < (L : Int) ∧ cm_cs [] ≤ 8 ∧ ev_nar1 _ _ = true ∧ (_ → _) ∧ cm_Call cm_ms 30 247 [.ref 124, .int (xs (i + 1).toNatClampNeg)] M _
  refine ⟨rfl, (lu_ix hi (a := 1) (by decide) (by decide)).1, (lu_ix hi (a := 1) (by decide) (by decide)).2, by decide, by decide, fun _ => Or.inr rfl, cm_Call_up (lk_247 hM _) (Nat.le_refl _) (fun v M1 hv => ?_)⟩
  obtain ⟨⟨r, rfl⟩, hP⟩ := hv
  show (Value.int r).category = 1 ∧ 0 ≤ _ ∧ J (1722, law_L i, [], M1)
  exact ⟨rfl, (by decide : (0 : Int) ≤ 1722), hJ M1 hP⟩
end HALVES
