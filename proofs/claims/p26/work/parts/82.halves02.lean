section HALVES
variable {J : cm_S → Prop} {L : Nat} {xs : Nat → Int32} {i : Int32} {M : cm_M}
set_option maxRecDepth 100000 in
theorem lh_11a (hi : lu_in L i) (hM : ab_ok hp hN M) (hJ : ∀ M', lu_P M M' → J (562, law_L i, [], M')) : cm_wp cm_ms (cm_Call cm_ms 30) (some (L, xs)) lawP lu_c11a (lu_st 562) J (fun _ _ => False) 80 (551, law_L i, [], M) := by
  show 1000 = 1000 ∧ 0 ≤ (i + 1).toInt ∧ (i + 1).toInt < (L : Int) ∧ cm_cs [] ≤ 8 ∧ ev_nar1 _ _ = true ∧ (_ → _) ∧ cm_Call cm_ms 30 105 [.ref 0, .int (xs (i + 1).toNatClampNeg)] M _
  refine ⟨rfl, (lu_ix hi (a := 1) (by decide) (by decide)).1, (lu_ix hi (a := 1) (by decide) (by decide)).2, by decide, by decide, fun _ => Or.inr rfl, cm_Call_up (lk_105 hM _) (Nat.le_refl _) (fun v M1 hv => ?_)⟩
  obtain ⟨⟨r, rfl⟩, hP⟩ := hv
  show (Value.int r).category = 1 ∧ J (562, law_L i, [], M1)
  exact ⟨rfl, hJ M1 hP⟩
set_option maxRecDepth 100000 in
theorem lh_11b (hi : lu_in L i) (hM : ab_ok hp hN M) (hJ : ∀ M', lu_P M M' → J (1722, law_L i, [], M')) : cm_wp cm_ms (cm_Call cm_ms 30) (some (L, xs)) lawP lu_c11b (lu_st 1722) J (fun _ _ => False) 80 (562, law_L i, [], M) := by
  show 1000 = 1000 ∧ 0 ≤ (i + 1).toInt ∧ (i + 1).toInt < (L : Int) ∧ cm_cs [] ≤ 8 ∧ ev_nar1 _ _ = true ∧ (_ → _) ∧ cm_Call cm_ms 30 230 [.ref 124, .int (xs (i + 1).toNatClampNeg)] M _
  refine ⟨rfl, (lu_ix hi (a := 1) (by decide) (by decide)).1, (lu_ix hi (a := 1) (by decide) (by decide)).2, by decide, by decide, fun _ => Or.inr rfl, cm_Call_up (lk_230 hM _) (Nat.le_refl _) (fun v M1 hv => ?_)⟩
  obtain ⟨⟨r, rfl⟩, hP⟩ := hv
  show (Value.int r).category = 1 ∧ 0 ≤ _ ∧ J (1722, law_L i, [], M1)
  exact ⟨rfl, (by decide : (0 : Int) ≤ 1722), hJ M1 hP⟩
set_option maxRecDepth 100000 in
theorem lh_12a (hi : lu_in L i) (hM : ab_ok hp hN M) (hJ : ∀ M', lu_P M M' → J (587, law_L i, [], M')) : cm_wp cm_ms (cm_Call cm_ms 30) (some (L, xs)) lawP lu_c12a (lu_st 587) J (fun _ _ => False) 80 (576, law_L i, [], M) := by
  show 1000 = 1000 ∧ 0 ≤ (i + 1).toInt ∧ (i + 1).toInt < (L : Int) ∧ cm_cs [] ≤ 8 ∧ ev_nar1 _ _ = true ∧ (_ → _) ∧ cm_Call cm_ms 30 106 [.ref 0, .int (xs (i + 1).toNatClampNeg)] M _
  refine ⟨rfl, (lu_ix hi (a := 1) (by decide) (by decide)).1, (lu_ix hi (a := 1) (by decide) (by decide)).2, by decide, by decide, fun _ => Or.inr rfl, cm_Call_up (lk_106 hM _) (Nat.le_refl _) (fun v M1 hv => ?_)⟩
  obtain ⟨⟨r, rfl⟩, hP⟩ := hv
  show (Value.int r).category = 1 ∧ J (587, law_L i, [], M1)
  exact ⟨rfl, hJ M1 hP⟩
set_option maxRecDepth 100000 in
theorem lh_12b (hi : lu_in L i) (hM : ab_ok hp hN M) (hJ : ∀ M', lu_P M M' → J (1722, law_L i, [], M')) : cm_wp cm_ms (cm_Call cm_ms 30) (some (L, xs)) lawP lu_c12b (lu_st 1722) J (fun _ _ => False) 80 (587, law_L i, [], M) := by
  show 1000 = 1000 ∧ 0 ≤ (i + 1).toInt ∧ (i + 1).toInt < (L : Int) ∧ cm_cs [] ≤ 8 ∧ ev_nar1 _ _ = true ∧ (_ → _) ∧ cm_Call cm_ms 30 232 [.ref 124, .int (xs (i + 1).toNatClampNeg)] M _
  refine ⟨rfl, (lu_ix hi (a := 1) (by decide) (by decide)).1, (lu_ix hi (a := 1) (by decide) (by decide)).2, by decide, by decide, fun _ => Or.inr rfl, cm_Call_up (lk_232 hM _) (Nat.le_refl _) (fun v M1 hv => ?_)⟩
  obtain ⟨⟨r, rfl⟩, hP⟩ := hv
  show (Value.int r).category = 1 ∧ 0 ≤ _ ∧ J (1722, law_L i, [], M1)
  exact ⟨rfl, (by decide : (0 : Int) ≤ 1722), hJ M1 hP⟩
set_option maxRecDepth 100000 in
theorem lh_13a (hi : lu_in L i) (hM : ab_ok hp hN M) (hJ : ∀ M', lu_P M M' → J (618, law_L i, [], M')) : cm_wp cm_ms (cm_Call cm_ms 30) (some (L, xs)) lawP lu_c13a (lu_st 618) J (fun _ _ => False) 80 (601, law_L i, [], M) := by
  show 1000 = 1000 ∧ 0 ≤ (i + 1).toInt ∧ (i + 1).toInt < (L : Int) ∧ 1000 = 1000 ∧ 0 ≤ (i + 2).toInt ∧ (i + 2).toInt < (L : Int) ∧ cm_cs [] ≤ 8 ∧ ev_nar1 _ _ = true ∧ (_ → _) ∧ cm_Call cm_ms 30 107 [.ref 0, .int (xs (i + 1).toNatClampNeg), .int (xs (i + 2).toNatClampNeg)] M _
  refine ⟨rfl, (lu_ix hi (a := 1) (by decide) (by decide)).1, (lu_ix hi (a := 1) (by decide) (by decide)).2, rfl, (lu_ix hi (a := 2) (by decide) (by decide)).1, (lu_ix hi (a := 2) (by decide) (by decide)).2, by decide, by decide, fun _ => Or.inr rfl, cm_Call_up (lk_107 hM _ _) (Nat.le_refl _) (fun v M1 hv => ?_)⟩
  obtain ⟨⟨r, rfl⟩, hP⟩ := hv
  show (Value.int r).category = 1 ∧ J (618, law_L i, [], M1)
  exact ⟨rfl, hJ M1 hP⟩
set_option maxRecDepth 100000 in
theorem lh_13b (hi : lu_in L i) (hM : ab_ok hp hN M) (hJ : ∀ M', lu_P M M' → J (1722, law_L i, [], M')) : cm_wp cm_ms (cm_Call cm_ms 30) (some (L, xs)) lawP lu_c13b (lu_st 1722) J (fun _ _ => False) 80 (618, law_L i, [], M) := by
  show 1000 = 1000 ∧ 0 ≤ (i + 1).toInt ∧ (i + 1).toInt < (L : Int) ∧ 1000 = 1000 ∧ 0 ≤ (i + 2).toInt ∧ (i + 2).toInt < (L : Int) ∧ cm_cs [] ≤ 8 ∧ ev_nar1 _ _ = true ∧ (_ → _) ∧ cm_Call cm_ms 30 234 [.ref 124, .int (xs (i + 1).toNatClampNeg), .int (xs (i + 2).toNatClampNeg)] M _
  refine ⟨rfl, (lu_ix hi (a := 1) (by decide) (by decide)).1, (lu_ix hi (a := 1) (by decide) (by decide)).2, rfl, (lu_ix hi (a := 2) (by decide) (by decide)).1, (lu_ix hi (a := 2) (by decide) (by decide)).2, by decide, by decide, fun _ => Or.inr rfl, cm_Call_up (lk_234 hM _ _) (Nat.le_refl _) (fun v M1 hv => ?_)⟩
  obtain ⟨⟨r, rfl⟩, hP⟩ := hv
  show (Value.int r).category = 1 ∧ 0 ≤ _ ∧ J (1722, law_L i, [], M1)
  exact ⟨rfl, (by decide : (0 : Int) ≤ 1722), hJ M1 hP⟩
set_option maxRecDepth 100000 in
theorem lh_14a (hi : lu_in L i) (hM : ab_ok hp hN M) (hJ : ∀ M', lu_P M M' → J (655, law_L i, [], M')) : cm_wp cm_ms (cm_Call cm_ms 30) (some (L, xs)) lawP lu_c14a (lu_st 655) J (fun _ _ => False) 80 (638, law_L i, [], M) := by
  show 1000 = 1000 ∧ 0 ≤ (i + 1).toInt ∧ (i + 1).toInt < (L : Int) ∧ 1000 = 1000 ∧ 0 ≤ (i + 2).toInt ∧ (i + 2).toInt < (L : Int) ∧ cm_cs [] ≤ 8 ∧ ev_nar1 _ _ = true ∧ (_ → _) ∧ cm_Call cm_ms 30 108 [.ref 0, .int (xs (i + 1).toNatClampNeg), .int (xs (i + 2).toNatClampNeg)] M _
  refine ⟨rfl, (lu_ix hi (a := 1) (by decide) (by decide)).1, (lu_ix hi (a := 1) (by decide) (by decide)).2, rfl, (lu_ix hi (a := 2) (by decide) (by decide)).1, (lu_ix hi (a := 2) (by decide) (by decide)).2, by decide, by decide, fun _ => Or.inr rfl, cm_Call_up (lk_108 hM _ _) (Nat.le_refl _) (fun v M1 hv => ?_)⟩
  obtain ⟨⟨r, rfl⟩, hP⟩ := hv
  show (Value.int r).category = 1 ∧ J (655, law_L i, [], M1)
  exact ⟨rfl, hJ M1 hP⟩
set_option maxRecDepth 100000 in
theorem lh_14b (hi : lu_in L i) (hM : ab_ok hp hN M) (hJ : ∀ M', lu_P M M' → J (1722, law_L i, [], M')) : cm_wp cm_ms (cm_Call cm_ms 30) (some (L, xs)) lawP lu_c14b (lu_st 1722) J (fun _ _ => False) 80 (655, law_L i, [], M) := by
  show 1000 = 1000 ∧ 0 ≤ (i + 1).toInt ∧ (i + 1).toInt < (L : Int) ∧ 1000 = 1000 ∧ 0 ≤ (i + 2).toInt ∧ (i + 2).toInt < (L : Int) ∧ cm_cs [] ≤ 8 ∧ ev_nar1 _ _ = true ∧ (_ → _) ∧ cm_Call cm_ms 30 235 [.ref 124, .int (xs (i + 1).toNatClampNeg), .int (xs (i + 2).toNatClampNeg)] M _
  refine ⟨rfl, (lu_ix hi (a := 1) (by decide) (by decide)).1, (lu_ix hi (a := 1) (by decide) (by decide)).2, rfl, (lu_ix hi (a := 2) (by decide) (by decide)).1, (lu_ix hi (a := 2) (by decide) (by decide)).2, by decide, by decide, fun _ => Or.inr rfl, cm_Call_up (lk_235 hM _ _) (Nat.le_refl _) (fun v M1 hv => ?_)⟩
  obtain ⟨⟨r, rfl⟩, hP⟩ := hv
  show (Value.int r).category = 1 ∧ 0 ≤ _ ∧ J (1722, law_L i, [], M1)
  exact ⟨rfl, (by decide : (0 : Int) ≤ 1722), hJ M1 hP⟩
set_option maxRecDepth 100000 in
theorem lh_15a (hi : lu_in L i) (hM : ab_ok hp hN M) (hJ : ∀ M', lu_P M M' → J (686, law_L i, [], M')) : cm_wp cm_ms (cm_Call cm_ms 30) (some (L, xs)) lawP lu_c15a (lu_st 686) J (fun _ _ => False) 80 (675, law_L i, [], M) := by
  show 1000 = 1000 ∧ 0 ≤ (i + 1).toInt ∧ (i + 1).toInt < (L : Int) ∧ cm_cs [] ≤ 8 ∧ ev_nar1 _ _ = true ∧ (_ → _) ∧ cm_Call cm_ms 30 109 [.ref 0, .int (xs (i + 1).toNatClampNeg)] M _
  refine ⟨rfl, (lu_ix hi (a := 1) (by decide) (by decide)).1, (lu_ix hi (a := 1) (by decide) (by decide)).2, by decide, by decide, fun _ => Or.inr rfl, cm_Call_up (lk_109 hM _) (Nat.le_refl _) (fun v M1 hv => ?_)⟩
  obtain ⟨⟨r, rfl⟩, hP⟩ := hv
  show (Value.int r).category = 1 ∧ J (686, law_L i, [], M1)
  exact ⟨rfl, hJ M1 hP⟩
set_option maxRecDepth 100000 in
theorem lh_15b (hi : lu_in L i) (hM : ab_ok hp hN M) (hJ : ∀ M', lu_P M M' → J (1722, law_L i, [], M')) : cm_wp cm_ms (cm_Call cm_ms 30) (some (L, xs)) lawP lu_c15b (lu_st 1722) J (fun _ _ => False) 80 (686, law_L i, [], M) := by
  show 1000 = 1000 ∧ 0 ≤ (i + 1).toInt ∧ (i + 1).toInt < (L : Int) ∧ cm_cs [] ≤ 8 ∧ ev_nar1 _ _ = true ∧ (_ → _) ∧ cm_Call cm_ms 30 237 [.ref 124, .int (xs (i + 1).toNatClampNeg)] M _
  refine ⟨rfl, (lu_ix hi (a := 1) (by decide) (by decide)).1, (lu_ix hi (a := 1) (by decide) (by decide)).2, by decide, by decide, fun _ => Or.inr rfl, cm_Call_up (lk_237 hM _) (Nat.le_refl _) (fun v M1 hv => ?_)⟩
  obtain ⟨⟨r, rfl⟩, hP⟩ := hv
  show (Value.int r).category = 1 ∧ 0 ≤ _ ∧ J (1722, law_L i, [], M1)
  exact ⟨rfl, (by decide : (0 : Int) ≤ 1722), hJ M1 hP⟩
end HALVES
section HALVES
variable {J : cm_S → Prop} {L : Nat} {xs : Nat → Int32} {i : Int32} {M : cm_M}
set_option maxRecDepth 100000 in
theorem lh_16a (hM : ab_ok hp hN M) (hJ : ∀ M', lu_P M M' → J (705, law_L i, [], M')) : cm_wp cm_ms (cm_Call cm_ms 30) (some (L, xs)) lawP lu_c16a (lu_st 705) J (fun _ _ => False) 80 (700, law_L i, [], M) := by
  show cm_cs [] ≤ 8 ∧ ev_nar1 _ _ = true ∧ (_ → _) ∧ cm_Call cm_ms 30 110 [.ref 0] M _
  refine ⟨by decide, by decide, fun _ => Or.inr rfl, cm_Call_up (lk_110 hM) (Nat.le_refl _) (fun v M1 hv => ?_)⟩
  obtain ⟨⟨r, rfl⟩, hP⟩ := hv
  show (Value.int r).category = 1 ∧ J (705, law_L i, [], M1)
  exact ⟨rfl, hJ M1 hP⟩
set_option maxRecDepth 100000 in
theorem lh_16b (hM : ab_ok hp hN M) (hJ : ∀ M', lu_P M M' → J (1722, law_L i, [], M')) : cm_wp cm_ms (cm_Call cm_ms 30) (some (L, xs)) lawP lu_c16b (lu_st 1722) J (fun _ _ => False) 80 (705, law_L i, [], M) := by
  show cm_cs [] ≤ 8 ∧ ev_nar1 _ _ = true ∧ (_ → _) ∧ cm_Call cm_ms 30 238 [.ref 124] M _
  refine ⟨by decide, by decide, fun _ => Or.inr rfl, cm_Call_up (lk_238 hM) (Nat.le_refl _) (fun v M1 hv => ?_)⟩
  obtain ⟨⟨r, rfl⟩, hP⟩ := hv
  show (Value.int r).category = 1 ∧ 0 ≤ _ ∧ J (1722, law_L i, [], M1)
  exact ⟨rfl, (by decide : (0 : Int) ≤ 1722), hJ M1 hP⟩
set_option maxRecDepth 100000 in
theorem lh_17a (hM : ab_ok hp hN M) (hJ : ∀ M', lu_P M M' → J (718, law_L i, [], M')) : cm_wp cm_ms (cm_Call cm_ms 30) (some (L, xs)) lawP lu_c17a (lu_st 718) J (fun _ _ => False) 80 (713, law_L i, [], M) := by
  show cm_cs [] ≤ 8 ∧ ev_nar1 _ _ = true ∧ (_ → _) ∧ cm_Call cm_ms 30 111 [.ref 0] M _
  refine ⟨by decide, by decide, fun _ => Or.inr rfl, cm_Call_up (lk_111 hM) (Nat.le_refl _) (fun v M1 hv => ?_)⟩
  obtain ⟨⟨r, rfl⟩, hP⟩ := hv
  show (Value.int r).category = 1 ∧ J (718, law_L i, [], M1)
  exact ⟨rfl, hJ M1 hP⟩
set_option maxRecDepth 100000 in
theorem lh_17b (hM : ab_ok hp hN M) (hJ : ∀ M', lu_P M M' → J (1722, law_L i, [], M')) : cm_wp cm_ms (cm_Call cm_ms 30) (some (L, xs)) lawP lu_c17b (lu_st 1722) J (fun _ _ => False) 80 (718, law_L i, [], M) := by
  show cm_cs [] ≤ 8 ∧ ev_nar1 _ _ = true ∧ (_ → _) ∧ cm_Call cm_ms 30 239 [.ref 124] M _
  refine ⟨by decide, by decide, fun _ => Or.inr rfl, cm_Call_up (lk_239 hM) (Nat.le_refl _) (fun v M1 hv => ?_)⟩
  obtain ⟨⟨r, rfl⟩, hP⟩ := hv
  show (Value.int r).category = 1 ∧ 0 ≤ _ ∧ J (1722, law_L i, [], M1)
  exact ⟨rfl, (by decide : (0 : Int) ≤ 1722), hJ M1 hP⟩
set_option maxRecDepth 100000 in
theorem lh_18a (hi : lu_in L i) (hM : ab_ok hp hN M) (hJ : ∀ M', lu_P M M' → J (743, law_L i, [], M')) : cm_wp cm_ms (cm_Call cm_ms 30) (some (L, xs)) lawP lu_c18a (lu_st 743) J (fun _ _ => False) 80 (726, law_L i, [], M) := by
  show 1000 = 1000 ∧ 0 ≤ (i + 1).toInt ∧ (i + 1).toInt < (L : Int) ∧ 1000 = 1000 ∧ 0 ≤ (i + 2).toInt ∧ (i + 2).toInt < (L : Int) ∧ cm_cs [] ≤ 8 ∧ ev_nar1 _ _ = true ∧ (_ → _) ∧ cm_Call cm_ms 30 114 [.ref 0, .int (xs (i + 1).toNatClampNeg), .int (xs (i + 2).toNatClampNeg)] M _
  refine ⟨rfl, (lu_ix hi (a := 1) (by decide) (by decide)).1, (lu_ix hi (a := 1) (by decide) (by decide)).2, rfl, (lu_ix hi (a := 2) (by decide) (by decide)).1, (lu_ix hi (a := 2) (by decide) (by decide)).2, by decide, by decide, fun _ => Or.inr rfl, cm_Call_up (lk_114 hM _ _) (Nat.le_refl _) (fun v M1 hv => ?_)⟩
  obtain ⟨⟨r, rfl⟩, hP⟩ := hv
  show (Value.int r).category = 1 ∧ J (743, law_L i, [], M1)
  exact ⟨rfl, hJ M1 hP⟩
set_option maxRecDepth 100000 in
theorem lh_18b (hi : lu_in L i) (hM : ab_ok hp hN M) (hJ : ∀ M', lu_P M M' → J (1722, law_L i, [], M')) : cm_wp cm_ms (cm_Call cm_ms 30) (some (L, xs)) lawP lu_c18b (lu_st 1722) J (fun _ _ => False) 80 (743, law_L i, [], M) := by
  show 1000 = 1000 ∧ 0 ≤ (i + 1).toInt ∧ (i + 1).toInt < (L : Int) ∧ 1000 = 1000 ∧ 0 ≤ (i + 2).toInt ∧ (i + 2).toInt < (L : Int) ∧ cm_cs [] ≤ 8 ∧ ev_nar1 _ _ = true ∧ (_ → _) ∧ cm_Call cm_ms 30 242 [.ref 124, .int (xs (i + 1).toNatClampNeg), .int (xs (i + 2).toNatClampNeg)] M _
  refine ⟨rfl, (lu_ix hi (a := 1) (by decide) (by decide)).1, (lu_ix hi (a := 1) (by decide) (by decide)).2, rfl, (lu_ix hi (a := 2) (by decide) (by decide)).1, (lu_ix hi (a := 2) (by decide) (by decide)).2, by decide, by decide, fun _ => Or.inr rfl, cm_Call_up (lk_242 hM _ _) (Nat.le_refl _) (fun v M1 hv => ?_)⟩
  obtain ⟨⟨r, rfl⟩, hP⟩ := hv
  show (Value.int r).category = 1 ∧ 0 ≤ _ ∧ J (1722, law_L i, [], M1)
  exact ⟨rfl, (by decide : (0 : Int) ≤ 1722), hJ M1 hP⟩
set_option maxRecDepth 100000 in
theorem lh_19a (hi : lu_in L i) (hM : ab_ok hp hN M) (hJ : ∀ M', lu_P M M' → J (774, law_L i, [], M')) : cm_wp cm_ms (cm_Call cm_ms 30) (some (L, xs)) lawP lu_c19a (lu_st 774) J (fun _ _ => False) 80 (763, law_L i, [], M) := by
  show 1000 = 1000 ∧ 0 ≤ (i + 1).toInt ∧ (i + 1).toInt < (L : Int) ∧ cm_cs [] ≤ 8 ∧ ev_nar1 _ _ = true ∧ (_ → _) ∧ cm_Call cm_ms 30 115 [.ref 0, .int (xs (i + 1).toNatClampNeg)] M _
  refine ⟨rfl, (lu_ix hi (a := 1) (by decide) (by decide)).1, (lu_ix hi (a := 1) (by decide) (by decide)).2, by decide, by decide, fun _ => Or.inr rfl, cm_Call_up (lk_115 hM _) (Nat.le_refl _) (fun v M1 hv => ?_)⟩
  obtain ⟨⟨r, rfl⟩, hP⟩ := hv
  show (Value.int r).category = 1 ∧ J (774, law_L i, [], M1)
  exact ⟨rfl, hJ M1 hP⟩
set_option maxRecDepth 100000 in
theorem lh_19b (hi : lu_in L i) (hM : ab_ok hp hN M) (hJ : ∀ M', lu_P M M' → J (1722, law_L i, [], M')) : cm_wp cm_ms (cm_Call cm_ms 30) (some (L, xs)) lawP lu_c19b (lu_st 1722) J (fun _ _ => False) 80 (774, law_L i, [], M) := by
  show 1000 = 1000 ∧ 0 ≤ (i + 1).toInt ∧ (i + 1).toInt < (L : Int) ∧ cm_cs [] ≤ 8 ∧ ev_nar1 _ _ = true ∧ (_ → _) ∧ cm_Call cm_ms 30 245 [.ref 124, .int (xs (i + 1).toNatClampNeg)] M _
  refine ⟨rfl, (lu_ix hi (a := 1) (by decide) (by decide)).1, (lu_ix hi (a := 1) (by decide) (by decide)).2, by decide, by decide, fun _ => Or.inr rfl, cm_Call_up (lk_245 hM _) (Nat.le_refl _) (fun v M1 hv => ?_)⟩
  obtain ⟨⟨r, rfl⟩, hP⟩ := hv
  show (Value.int r).category = 1 ∧ 0 ≤ _ ∧ J (1722, law_L i, [], M1)
  exact ⟨rfl, (by decide : (0 : Int) ≤ 1722), hJ M1 hP⟩
set_option maxRecDepth 100000 in
theorem lh_20a (hi : lu_in L i) (hM : ab_ok hp hN M) (hJ : ∀ M', lu_P M M' → J (799, law_L i, [], M')) : cm_wp cm_ms (cm_Call cm_ms 30) (some (L, xs)) lawP lu_c20a (lu_st 799) J (fun _ _ => False) 80 (788, law_L i, [], M) := by
  show 1000 = 1000 ∧ 0 ≤ (i + 1).toInt ∧ (i + 1).toInt < (L : Int) ∧ cm_cs [] ≤ 8 ∧ ev_nar1 _ _ = true ∧ (_ → _) ∧ cm_Call cm_ms 30 116 [.ref 0, .int (xs (i + 1).toNatClampNeg)] M _
  refine ⟨rfl, (lu_ix hi (a := 1) (by decide) (by decide)).1, (lu_ix hi (a := 1) (by decide) (by decide)).2, by decide, by decide, fun _ => Or.inr rfl, cm_Call_up (lk_116 hM _) (Nat.le_refl _) (fun v M1 hv => ?_)⟩
  obtain ⟨⟨r, rfl⟩, hP⟩ := hv
  show (Value.int r).category = 1 ∧ J (799, law_L i, [], M1)
  exact ⟨rfl, hJ M1 hP⟩
set_option maxRecDepth 100000 in
theorem lh_20b (hi : lu_in L i) (hM : ab_ok hp hN M) (hJ : ∀ M', lu_P M M' → J (1722, law_L i, [], M')) : cm_wp cm_ms (cm_Call cm_ms 30) (some (L, xs)) lawP lu_c20b (lu_st 1722) J (fun _ _ => False) 80 (799, law_L i, [], M) := by
  show 1000 = 1000 ∧ 0 ≤ (i + 1).toInt ∧ (i + 1).toInt < (L : Int) ∧ cm_cs [] ≤ 8 ∧ ev_nar1 _ _ = true ∧ (_ → _) ∧ cm_Call cm_ms 30 246 [.ref 124, .int (xs (i + 1).toNatClampNeg)] M _
  refine ⟨rfl, (lu_ix hi (a := 1) (by decide) (by decide)).1, (lu_ix hi (a := 1) (by decide) (by decide)).2, by decide, by decide, fun _ => Or.inr rfl, cm_Call_up (lk_246 hM _) (Nat.le_refl _) (fun v M1 hv => ?_)⟩
  obtain ⟨⟨r, rfl⟩, hP⟩ := hv
  show (Value.int r).category = 1 ∧ 0 ≤ _ ∧ J (1722, law_L i, [], M1)
  exact ⟨rfl, (by decide : (0 : Int) ≤ 1722), hJ M1 hP⟩
end HALVES
section HALVES
variable {J : cm_S → Prop} {L : Nat} {xs : Nat → Int32} {i : Int32} {M : cm_M}
set_option maxRecDepth 100000 in
theorem lh_21a (hi : lu_in L i) (hM : ab_ok hp hN M) (hJ : ∀ M', lu_P M M' → J (824, law_L i, [], M')) : cm_wp cm_ms (cm_Call cm_ms 30) (some (L, xs)) lawP lu_c21a (lu_st 824) J (fun _ _ => False) 80 (813, law_L i, [], M) := by
  show 1000 = 1000 ∧ 0 ≤ (i + 1).toInt ∧ (i + 1).toInt < (L : Int) ∧ cm_cs [] ≤ 8 ∧ ev_nar1 _ _ = true ∧ (_ → _) ∧ cm_Call cm_ms 30 117 [.ref 0, .int (xs (i + 1).toNatClampNeg)] M _
  refine ⟨rfl, (lu_ix hi (a := 1) (by decide) (by decide)).1, (lu_ix hi (a := 1) (by decide) (by decide)).2, by decide, by decide, fun _ => Or.inr rfl, cm_Call_up (lk_117 hM _) (Nat.le_refl _) (fun v M1 hv => ?_)⟩
  obtain ⟨⟨r, rfl⟩, hP⟩ := hv
  show (Value.int r).category = 1 ∧ J (824, law_L i, [], M1)
  exact ⟨rfl, hJ M1 hP⟩
set_option maxRecDepth 100000 in
theorem lh_21b (hi : lu_in L i) (hM : ab_ok hp hN M) (hJ : ∀ M', lu_P M M' → J (1722, law_L i, [], M')) : cm_wp cm_ms (cm_Call cm_ms 30) (some (L, xs)) lawP lu_c21b (lu_st 1722) J (fun _ _ => False) 80 (824, law_L i, [], M) := by
  show 1000 = 1000 ∧ 0 ≤ (i + 1).toInt ∧ (i + 1).toInt < (L : Int) ∧ cm_cs [] ≤ 8 ∧ ev_nar1 _ _ = true ∧ (_ → _) ∧ cm_Call cm_ms 30 247 [.ref 124, .int (xs (i + 1).toNatClampNeg)] M _
  refine ⟨rfl, (lu_ix hi (a := 1) (by decide) (by decide)).1, (lu_ix hi (a := 1) (by decide) (by decide)).2, by decide, by decide, fun _ => Or.inr rfl, cm_Call_up (lk_247 hM _) (Nat.le_refl _) (fun v M1 hv => ?_)⟩
  obtain ⟨⟨r, rfl⟩, hP⟩ := hv
  show (Value.int r).category = 1 ∧ 0 ≤ _ ∧ J (1722, law_L i, [], M1)
  exact ⟨rfl, (by decide : (0 : Int) ≤ 1722), hJ M1 hP⟩
set_option maxRecDepth 100000 in
theorem lh_22a (hi : lu_in L i) (hM : ab_ok hp hN M) (hJ : ∀ M', lu_P M M' → J (849, law_L i, [], M')) : cm_wp cm_ms (cm_Call cm_ms 30) (some (L, xs)) lawP lu_c22a (lu_st 849) J (fun _ _ => False) 80 (838, law_L i, [], M) := by
  show 1000 = 1000 ∧ 0 ≤ (i + 1).toInt ∧ (i + 1).toInt < (L : Int) ∧ cm_cs [] ≤ 8 ∧ ev_nar1 _ _ = true ∧ (_ → _) ∧ cm_Call cm_ms 30 118 [.ref 0, .int (xs (i + 1).toNatClampNeg)] M _
  refine ⟨rfl, (lu_ix hi (a := 1) (by decide) (by decide)).1, (lu_ix hi (a := 1) (by decide) (by decide)).2, by decide, by decide, fun _ => Or.inr rfl, cm_Call_up (lk_118 hM _) (Nat.le_refl _) (fun v M1 hv => ?_)⟩
  obtain ⟨⟨r, rfl⟩, hP⟩ := hv
  show (Value.int r).category = 1 ∧ J (849, law_L i, [], M1)
  exact ⟨rfl, hJ M1 hP⟩
set_option maxRecDepth 100000 in
theorem lh_22b (hi : lu_in L i) (hM : ab_ok hp hN M) (hJ : ∀ M', lu_P M M' → J (1722, law_L i, [], M')) : cm_wp cm_ms (cm_Call cm_ms 30) (some (L, xs)) lawP lu_c22b (lu_st 1722) J (fun _ _ => False) 80 (849, law_L i, [], M) := by
  show 1000 = 1000 ∧ 0 ≤ (i + 1).toInt ∧ (i + 1).toInt < (L : Int) ∧ cm_cs [] ≤ 8 ∧ ev_nar1 _ _ = true ∧ (_ → _) ∧ cm_Call cm_ms 30 248 [.ref 124, .int (xs (i + 1).toNatClampNeg)] M _
  refine ⟨rfl, (lu_ix hi (a := 1) (by decide) (by decide)).1, (lu_ix hi (a := 1) (by decide) (by decide)).2, by decide, by decide, fun _ => Or.inr rfl, cm_Call_up (lk_248 hM _) (Nat.le_refl _) (fun v M1 hv => ?_)⟩
  obtain ⟨⟨r, rfl⟩, hP⟩ := hv
  show (Value.int r).category = 1 ∧ 0 ≤ _ ∧ J (1722, law_L i, [], M1)
  exact ⟨rfl, (by decide : (0 : Int) ≤ 1722), hJ M1 hP⟩
set_option maxRecDepth 100000 in
theorem lh_23a (hi : lu_in L i) (hM : ab_ok hp hN M) (hJ : ∀ M', lu_P M M' → J (880, law_L i, [], M')) : cm_wp cm_ms (cm_Call cm_ms 30) (some (L, xs)) lawP lu_c23a (lu_st 880) J (fun _ _ => False) 80 (863, law_L i, [], M) := by
  show 1000 = 1000 ∧ 0 ≤ (i + 1).toInt ∧ (i + 1).toInt < (L : Int) ∧ 1000 = 1000 ∧ 0 ≤ (i + 2).toInt ∧ (i + 2).toInt < (L : Int) ∧ cm_cs [] ≤ 8 ∧ ev_nar1 _ _ = true ∧ (_ → _) ∧ cm_Call cm_ms 30 120 [.ref 0, .int (xs (i + 1).toNatClampNeg), .int (xs (i + 2).toNatClampNeg)] M _
  refine ⟨rfl, (lu_ix hi (a := 1) (by decide) (by decide)).1, (lu_ix hi (a := 1) (by decide) (by decide)).2, rfl, (lu_ix hi (a := 2) (by decide) (by decide)).1, (lu_ix hi (a := 2) (by decide) (by decide)).2, by decide, by decide, fun _ => Or.inr rfl, cm_Call_up (lk_120 hM _ _) (Nat.le_refl _) (fun v M1 hv => ?_)⟩
  obtain ⟨⟨r, rfl⟩, hP⟩ := hv
  show (Value.int r).category = 1 ∧ J (880, law_L i, [], M1)
  exact ⟨rfl, hJ M1 hP⟩
set_option maxRecDepth 100000 in
theorem lh_23b (hi : lu_in L i) (hM : ab_ok hp hN M) (hJ : ∀ M', lu_P M M' → J (1722, law_L i, [], M')) : cm_wp cm_ms (cm_Call cm_ms 30) (some (L, xs)) lawP lu_c23b (lu_st 1722) J (fun _ _ => False) 80 (880, law_L i, [], M) := by
  show 1000 = 1000 ∧ 0 ≤ (i + 1).toInt ∧ (i + 1).toInt < (L : Int) ∧ 1000 = 1000 ∧ 0 ≤ (i + 2).toInt ∧ (i + 2).toInt < (L : Int) ∧ cm_cs [] ≤ 8 ∧ ev_nar1 _ _ = true ∧ (_ → _) ∧ cm_Call cm_ms 30 250 [.ref 124, .int (xs (i + 1).toNatClampNeg), .int (xs (i + 2).toNatClampNeg)] M _
  refine ⟨rfl, (lu_ix hi (a := 1) (by decide) (by decide)).1, (lu_ix hi (a := 1) (by decide) (by decide)).2, rfl, (lu_ix hi (a := 2) (by decide) (by decide)).1, (lu_ix hi (a := 2) (by decide) (by decide)).2, by decide, by decide, fun _ => Or.inr rfl, cm_Call_up (lk_250 hM _ _) (Nat.le_refl _) (fun v M1 hv => ?_)⟩
  obtain ⟨⟨r, rfl⟩, hP⟩ := hv
  show (Value.int r).category = 1 ∧ 0 ≤ _ ∧ J (1722, law_L i, [], M1)
  exact ⟨rfl, (by decide : (0 : Int) ≤ 1722), hJ M1 hP⟩
set_option maxRecDepth 100000 in
theorem lh_25a (hi : lu_in L i) (hM : ab_ok hp hN M) (hJ : ∀ M', lu_P M M' → J (936, law_L i, [], M')) : cm_wp cm_ms (cm_Call cm_ms 30) (some (L, xs)) lawP lu_c25a (lu_st 936) J (fun _ _ => False) 80 (925, law_L i, [], M) := by
  show 1000 = 1000 ∧ 0 ≤ (i + 1).toInt ∧ (i + 1).toInt < (L : Int) ∧ cm_cs [] ≤ 8 ∧ ev_nar1 _ _ = true ∧ (_ → _) ∧ cm_Call cm_ms 30 122 [.ref 0, .int (xs (i + 1).toNatClampNeg)] M _
  refine ⟨rfl, (lu_ix hi (a := 1) (by decide) (by decide)).1, (lu_ix hi (a := 1) (by decide) (by decide)).2, by decide, by decide, fun _ => Or.inr rfl, cm_Call_up (lk_122 hM _) (Nat.le_refl _) (fun v M1 hv => ?_)⟩
  obtain ⟨⟨r, rfl⟩, hP⟩ := hv
  show (Value.int r).category = 1 ∧ J (936, law_L i, [], M1)
  exact ⟨rfl, hJ M1 hP⟩
set_option maxRecDepth 100000 in
theorem lh_25b (hi : lu_in L i) (hM : ab_ok hp hN M) (hJ : ∀ M', lu_P M M' → J (1722, law_L i, [], M')) : cm_wp cm_ms (cm_Call cm_ms 30) (some (L, xs)) lawP lu_c25b (lu_st 1722) J (fun _ _ => False) 80 (936, law_L i, [], M) := by
  show 1000 = 1000 ∧ 0 ≤ (i + 1).toInt ∧ (i + 1).toInt < (L : Int) ∧ cm_cs [] ≤ 8 ∧ ev_nar1 _ _ = true ∧ (_ → _) ∧ cm_Call cm_ms 30 252 [.ref 124, .int (xs (i + 1).toNatClampNeg)] M _
  refine ⟨rfl, (lu_ix hi (a := 1) (by decide) (by decide)).1, (lu_ix hi (a := 1) (by decide) (by decide)).2, by decide, by decide, fun _ => Or.inr rfl, cm_Call_up (lk_252 hM _) (Nat.le_refl _) (fun v M1 hv => ?_)⟩
  obtain ⟨⟨r, rfl⟩, hP⟩ := hv
  show (Value.int r).category = 1 ∧ 0 ≤ _ ∧ J (1722, law_L i, [], M1)
  exact ⟨rfl, (by decide : (0 : Int) ≤ 1722), hJ M1 hP⟩
set_option maxRecDepth 100000 in
theorem lh_26a (hi : lu_in L i) (hM : ab_ok hp hN M) (hJ : ∀ M', lu_P M M' → J (961, law_L i, [], M')) : cm_wp cm_ms (cm_Call cm_ms 30) (some (L, xs)) lawP lu_c26a (lu_st 961) J (fun _ _ => False) 80 (950, law_L i, [], M) := by
  show 1000 = 1000 ∧ 0 ≤ (i + 1).toInt ∧ (i + 1).toInt < (L : Int) ∧ cm_cs [] ≤ 8 ∧ ev_nar1 _ _ = true ∧ (_ → _) ∧ cm_Call cm_ms 30 123 [.ref 0, .int (xs (i + 1).toNatClampNeg)] M _
  refine ⟨rfl, (lu_ix hi (a := 1) (by decide) (by decide)).1, (lu_ix hi (a := 1) (by decide) (by decide)).2, by decide, by decide, fun _ => Or.inr rfl, cm_Call_up (lk_123 hM _) (Nat.le_refl _) (fun v M1 hv => ?_)⟩
  obtain ⟨⟨r, rfl⟩, hP⟩ := hv
  show (Value.int r).category = 1 ∧ J (961, law_L i, [], M1)
  exact ⟨rfl, hJ M1 hP⟩
set_option maxRecDepth 100000 in
theorem lh_26b (hi : lu_in L i) (hM : ab_ok hp hN M) (hJ : ∀ M', lu_P M M' → J (1722, law_L i, [], M')) : cm_wp cm_ms (cm_Call cm_ms 30) (some (L, xs)) lawP lu_c26b (lu_st 1722) J (fun _ _ => False) 80 (961, law_L i, [], M) := by
  show 1000 = 1000 ∧ 0 ≤ (i + 1).toInt ∧ (i + 1).toInt < (L : Int) ∧ cm_cs [] ≤ 8 ∧ ev_nar1 _ _ = true ∧ (_ → _) ∧ cm_Call cm_ms 30 253 [.ref 124, .int (xs (i + 1).toNatClampNeg)] M _
  refine ⟨rfl, (lu_ix hi (a := 1) (by decide) (by decide)).1, (lu_ix hi (a := 1) (by decide) (by decide)).2, by decide, by decide, fun _ => Or.inr rfl, cm_Call_up (lk_253 hM _) (Nat.le_refl _) (fun v M1 hv => ?_)⟩
  obtain ⟨⟨r, rfl⟩, hP⟩ := hv
  show (Value.int r).category = 1 ∧ 0 ≤ _ ∧ J (1722, law_L i, [], M1)
  exact ⟨rfl, (by decide : (0 : Int) ≤ 1722), hJ M1 hP⟩
end HALVES
section HALVES
variable {J : cm_S → Prop} {L : Nat} {xs : Nat → Int32} {i : Int32} {M : cm_M}
set_option maxRecDepth 100000 in
theorem lh_27a (hM : ab_ok hp hN M) (hJ : ∀ M', lu_P M M' → J (980, law_L i, [], M')) : cm_wp cm_ms (cm_Call cm_ms 30) (some (L, xs)) lawP lu_c27a (lu_st 980) J (fun _ _ => False) 80 (975, law_L i, [], M) := by
  show cm_cs [] ≤ 8 ∧ ev_nar1 _ _ = true ∧ (_ → _) ∧ cm_Call cm_ms 30 124 [.ref 0] M _
  refine ⟨by decide, by decide, fun _ => Or.inr rfl, cm_Call_up (lk_124 hM) (Nat.le_refl _) (fun v M1 hv => ?_)⟩
  obtain ⟨⟨r, rfl⟩, hP⟩ := hv
  show (Value.int r).category = 1 ∧ J (980, law_L i, [], M1)
  exact ⟨rfl, hJ M1 hP⟩
set_option maxRecDepth 100000 in
theorem lh_27b (hM : ab_ok hp hN M) (hJ : ∀ M', lu_P M M' → J (1722, law_L i, [], M')) : cm_wp cm_ms (cm_Call cm_ms 30) (some (L, xs)) lawP lu_c27b (lu_st 1722) J (fun _ _ => False) 80 (980, law_L i, [], M) := by
  show cm_cs [] ≤ 8 ∧ ev_nar1 _ _ = true ∧ (_ → _) ∧ cm_Call cm_ms 30 256 [.ref 124] M _
  refine ⟨by decide, by decide, fun _ => Or.inr rfl, cm_Call_up (lk_256 hM) (Nat.le_refl _) (fun v M1 hv => ?_)⟩
  obtain ⟨⟨r, rfl⟩, hP⟩ := hv
  show (Value.int r).category = 1 ∧ 0 ≤ _ ∧ J (1722, law_L i, [], M1)
  exact ⟨rfl, (by decide : (0 : Int) ≤ 1722), hJ M1 hP⟩
set_option maxRecDepth 100000 in
theorem lh_28a (hM : ab_ok hp hN M) (hJ : ∀ M', lu_P M M' → J (993, law_L i, [], M')) : cm_wp cm_ms (cm_Call cm_ms 30) (some (L, xs)) lawP lu_c28a (lu_st 993) J (fun _ _ => False) 80 (988, law_L i, [], M) := by
  show cm_cs [] ≤ 8 ∧ ev_nar1 _ _ = true ∧ (_ → _) ∧ cm_Call cm_ms 30 125 [.ref 0] M _
  refine ⟨by decide, by decide, fun _ => Or.inr rfl, cm_Call_up (lk_125 hM) (Nat.le_refl _) (fun v M1 hv => ?_)⟩
  obtain ⟨⟨r, rfl⟩, hP⟩ := hv
  show (Value.int r).category = 1 ∧ J (993, law_L i, [], M1)
  exact ⟨rfl, hJ M1 hP⟩
set_option maxRecDepth 100000 in
theorem lh_28b (hM : ab_ok hp hN M) (hJ : ∀ M', lu_P M M' → J (1722, law_L i, [], M')) : cm_wp cm_ms (cm_Call cm_ms 30) (some (L, xs)) lawP lu_c28b (lu_st 1722) J (fun _ _ => False) 80 (993, law_L i, [], M) := by
  show cm_cs [] ≤ 8 ∧ ev_nar1 _ _ = true ∧ (_ → _) ∧ cm_Call cm_ms 30 257 [.ref 124] M _
  refine ⟨by decide, by decide, fun _ => Or.inr rfl, cm_Call_up (lk_257 hM) (Nat.le_refl _) (fun v M1 hv => ?_)⟩
  obtain ⟨⟨r, rfl⟩, hP⟩ := hv
  show (Value.int r).category = 1 ∧ 0 ≤ _ ∧ J (1722, law_L i, [], M1)
  exact ⟨rfl, (by decide : (0 : Int) ≤ 1722), hJ M1 hP⟩
set_option maxRecDepth 100000 in
theorem lh_29a (hM : ab_ok hp hN M) (hJ : ∀ M', lu_P M M' → J (1006, law_L i, [], M')) : cm_wp cm_ms (cm_Call cm_ms 30) (some (L, xs)) lawP lu_c29a (lu_st 1006) J (fun _ _ => False) 80 (1001, law_L i, [], M) := by
  show cm_cs [] ≤ 8 ∧ ev_nar1 _ _ = true ∧ (_ → _) ∧ cm_Call cm_ms 30 126 [.ref 0] M _
  refine ⟨by decide, by decide, fun _ => Or.inr rfl, cm_Call_up (lk_126 hM) (Nat.le_refl _) (fun v M1 hv => ?_)⟩
  obtain ⟨⟨r, rfl⟩, hP⟩ := hv
  show (Value.int r).category = 1 ∧ J (1006, law_L i, [], M1)
  exact ⟨rfl, hJ M1 hP⟩
set_option maxRecDepth 100000 in
theorem lh_29b (hM : ab_ok hp hN M) (hJ : ∀ M', lu_P M M' → J (1722, law_L i, [], M')) : cm_wp cm_ms (cm_Call cm_ms 30) (some (L, xs)) lawP lu_c29b (lu_st 1722) J (fun _ _ => False) 80 (1006, law_L i, [], M) := by
  show cm_cs [] ≤ 8 ∧ ev_nar1 _ _ = true ∧ (_ → _) ∧ cm_Call cm_ms 30 258 [.ref 124] M _
  refine ⟨by decide, by decide, fun _ => Or.inr rfl, cm_Call_up (lk_258 hM) (Nat.le_refl _) (fun v M1 hv => ?_)⟩
  obtain ⟨⟨r, rfl⟩, hP⟩ := hv
  show (Value.int r).category = 1 ∧ 0 ≤ _ ∧ J (1722, law_L i, [], M1)
  exact ⟨rfl, (by decide : (0 : Int) ≤ 1722), hJ M1 hP⟩
set_option maxRecDepth 100000 in
theorem lh_30a (hi : lu_in L i) (hM : ab_ok hp hN M) (hJ : ∀ M', lu_P M M' → J (1031, law_L i, [], M')) : cm_wp cm_ms (cm_Call cm_ms 30) (some (L, xs)) lawP lu_c30a (lu_st 1031) J (fun _ _ => False) 80 (1014, law_L i, [], M) := by
  show 1000 = 1000 ∧ 0 ≤ (i + 1).toInt ∧ (i + 1).toInt < (L : Int) ∧ 1000 = 1000 ∧ 0 ≤ (i + 2).toInt ∧ (i + 2).toInt < (L : Int) ∧ cm_cs [] ≤ 8 ∧ ev_nar1 _ _ = true ∧ (_ → _) ∧ cm_Call cm_ms 30 128 [.ref 0, .int (xs (i + 1).toNatClampNeg), .int (xs (i + 2).toNatClampNeg)] M _
  refine ⟨rfl, (lu_ix hi (a := 1) (by decide) (by decide)).1, (lu_ix hi (a := 1) (by decide) (by decide)).2, rfl, (lu_ix hi (a := 2) (by decide) (by decide)).1, (lu_ix hi (a := 2) (by decide) (by decide)).2, by decide, by decide, fun _ => Or.inr rfl, cm_Call_up (lk_128 hM _ _) (Nat.le_refl _) (fun v M1 hv => ?_)⟩
  obtain ⟨⟨r, rfl⟩, hP⟩ := hv
  show (Value.int r).category = 1 ∧ J (1031, law_L i, [], M1)
  exact ⟨rfl, hJ M1 hP⟩
set_option maxRecDepth 100000 in
theorem lh_30b (hi : lu_in L i) (hM : ab_ok hp hN M) (hJ : ∀ M', lu_P M M' → J (1722, law_L i, [], M')) : cm_wp cm_ms (cm_Call cm_ms 30) (some (L, xs)) lawP lu_c30b (lu_st 1722) J (fun _ _ => False) 80 (1031, law_L i, [], M) := by
  show 1000 = 1000 ∧ 0 ≤ (i + 1).toInt ∧ (i + 1).toInt < (L : Int) ∧ 1000 = 1000 ∧ 0 ≤ (i + 2).toInt ∧ (i + 2).toInt < (L : Int) ∧ cm_cs [] ≤ 8 ∧ ev_nar1 _ _ = true ∧ (_ → _) ∧ cm_Call cm_ms 30 260 [.ref 124, .int (xs (i + 1).toNatClampNeg), .int (xs (i + 2).toNatClampNeg)] M _
  refine ⟨rfl, (lu_ix hi (a := 1) (by decide) (by decide)).1, (lu_ix hi (a := 1) (by decide) (by decide)).2, rfl, (lu_ix hi (a := 2) (by decide) (by decide)).1, (lu_ix hi (a := 2) (by decide) (by decide)).2, by decide, by decide, fun _ => Or.inr rfl, cm_Call_up (lk_260 hM _ _) (Nat.le_refl _) (fun v M1 hv => ?_)⟩
  obtain ⟨⟨r, rfl⟩, hP⟩ := hv
  show (Value.int r).category = 1 ∧ 0 ≤ _ ∧ J (1722, law_L i, [], M1)
  exact ⟨rfl, (by decide : (0 : Int) ≤ 1722), hJ M1 hP⟩
set_option maxRecDepth 100000 in
theorem lh_31a (hM : ab_ok hp hN M) (hJ : ∀ M', lu_P M M' → J (1056, law_L i, [], M')) : cm_wp cm_ms (cm_Call cm_ms 30) (some (L, xs)) lawP lu_c31a (lu_st 1056) J (fun _ _ => False) 80 (1051, law_L i, [], M) := by
  show cm_cs [] ≤ 8 ∧ ev_nar1 _ _ = true ∧ (_ → _) ∧ cm_Call cm_ms 30 129 [.ref 0] M _
  refine ⟨by decide, by decide, fun _ => Or.inr rfl, cm_Call_up (lk_129 hM) (Nat.le_refl _) (fun v M1 hv => ?_)⟩
  obtain ⟨⟨r, rfl⟩, hP⟩ := hv
  show (Value.int r).category = 1 ∧ J (1056, law_L i, [], M1)
  exact ⟨rfl, hJ M1 hP⟩
set_option maxRecDepth 100000 in
theorem lh_31b (hM : ab_ok hp hN M) (hJ : ∀ M', lu_P M M' → J (1722, law_L i, [], M')) : cm_wp cm_ms (cm_Call cm_ms 30) (some (L, xs)) lawP lu_c31b (lu_st 1722) J (fun _ _ => False) 80 (1056, law_L i, [], M) := by
  show cm_cs [] ≤ 8 ∧ ev_nar1 _ _ = true ∧ (_ → _) ∧ cm_Call cm_ms 30 263 [.ref 124] M _
  refine ⟨by decide, by decide, fun _ => Or.inr rfl, cm_Call_up (lk_263 hM) (Nat.le_refl _) (fun v M1 hv => ?_)⟩
  obtain ⟨⟨r, rfl⟩, hP⟩ := hv
  show (Value.int r).category = 1 ∧ 0 ≤ _ ∧ J (1722, law_L i, [], M1)
  exact ⟨rfl, (by decide : (0 : Int) ≤ 1722), hJ M1 hP⟩
end HALVES
section HALVES
variable {J : cm_S → Prop} {L : Nat} {xs : Nat → Int32} {i : Int32} {M : cm_M}
set_option maxRecDepth 100000 in
theorem lh_32a (hi : lu_in L i) (hM : ab_ok hp hN M) (hJ : ∀ M', lu_P M M' → J (1075, law_L i, [], M')) : cm_wp cm_ms (cm_Call cm_ms 30) (some (L, xs)) lawP lu_c32a (lu_st 1075) J (fun _ _ => False) 80 (1064, law_L i, [], M) := by
  show 1000 = 1000 ∧ 0 ≤ (i + 1).toInt ∧ (i + 1).toInt < (L : Int) ∧ cm_cs [] ≤ 8 ∧ ev_nar1 _ _ = true ∧ (_ → _) ∧ cm_Call cm_ms 30 130 [.ref 0, .int (xs (i + 1).toNatClampNeg)] M _
  refine ⟨rfl, (lu_ix hi (a := 1) (by decide) (by decide)).1, (lu_ix hi (a := 1) (by decide) (by decide)).2, by decide, by decide, fun _ => Or.inr rfl, cm_Call_up (lk_130 hM _) (Nat.le_refl _) (fun v M1 hv => ?_)⟩
  obtain ⟨⟨r, rfl⟩, hP⟩ := hv
  show (Value.int r).category = 1 ∧ J (1075, law_L i, [], M1)
  exact ⟨rfl, hJ M1 hP⟩
set_option maxRecDepth 100000 in
theorem lh_32b (hi : lu_in L i) (hM : ab_ok hp hN M) (hJ : ∀ M', lu_P M M' → J (1722, law_L i, [], M')) : cm_wp cm_ms (cm_Call cm_ms 30) (some (L, xs)) lawP lu_c32b (lu_st 1722) J (fun _ _ => False) 80 (1075, law_L i, [], M) := by
  show 1000 = 1000 ∧ 0 ≤ (i + 1).toInt ∧ (i + 1).toInt < (L : Int) ∧ cm_cs [] ≤ 8 ∧ ev_nar1 _ _ = true ∧ (_ → _) ∧ cm_Call cm_ms 30 264 [.ref 124, .int (xs (i + 1).toNatClampNeg)] M _
  refine ⟨rfl, (lu_ix hi (a := 1) (by decide) (by decide)).1, (lu_ix hi (a := 1) (by decide) (by decide)).2, by decide, by decide, fun _ => Or.inr rfl, cm_Call_up (lk_264 hM _) (Nat.le_refl _) (fun v M1 hv => ?_)⟩
  obtain ⟨⟨r, rfl⟩, hP⟩ := hv
  show (Value.int r).category = 1 ∧ 0 ≤ _ ∧ J (1722, law_L i, [], M1)
  exact ⟨rfl, (by decide : (0 : Int) ≤ 1722), hJ M1 hP⟩
set_option maxRecDepth 100000 in
theorem lh_33a (hM : ab_ok hp hN M) (hJ : ∀ M', lu_P M M' → J (1094, law_L i, [], M')) : cm_wp cm_ms (cm_Call cm_ms 30) (some (L, xs)) lawP lu_c33a (lu_st 1094) J (fun _ _ => False) 80 (1089, law_L i, [], M) := by
  show cm_cs [] ≤ 8 ∧ ev_nar1 _ _ = true ∧ (_ → _) ∧ cm_Call cm_ms 30 131 [.ref 0] M _
  refine ⟨by decide, by decide, fun _ => Or.inr rfl, cm_Call_up (lk_131 hM) (Nat.le_refl _) (fun v M1 hv => ?_)⟩
  obtain ⟨⟨r, rfl⟩, hP⟩ := hv
  show (Value.int r).category = 1 ∧ J (1094, law_L i, [], M1)
  exact ⟨rfl, hJ M1 hP⟩
set_option maxRecDepth 100000 in
theorem lh_33b (hM : ab_ok hp hN M) (hJ : ∀ M', lu_P M M' → J (1722, law_L i, [], M')) : cm_wp cm_ms (cm_Call cm_ms 30) (some (L, xs)) lawP lu_c33b (lu_st 1722) J (fun _ _ => False) 80 (1094, law_L i, [], M) := by
  show cm_cs [] ≤ 8 ∧ ev_nar1 _ _ = true ∧ (_ → _) ∧ cm_Call cm_ms 30 267 [.ref 124] M _
  refine ⟨by decide, by decide, fun _ => Or.inr rfl, cm_Call_up (lk_267 hM) (Nat.le_refl _) (fun v M1 hv => ?_)⟩
  obtain ⟨⟨r, rfl⟩, hP⟩ := hv
  show (Value.int r).category = 1 ∧ 0 ≤ _ ∧ J (1722, law_L i, [], M1)
  exact ⟨rfl, (by decide : (0 : Int) ≤ 1722), hJ M1 hP⟩
set_option maxRecDepth 100000 in
theorem lh_34a (hi : lu_in L i) (hM : ab_ok hp hN M) (hJ : ∀ M', lu_P M M' → J (1113, law_L i, [], M')) : cm_wp cm_ms (cm_Call cm_ms 30) (some (L, xs)) lawP lu_c34a (lu_st 1113) J (fun _ _ => False) 80 (1102, law_L i, [], M) := by
  show 1000 = 1000 ∧ 0 ≤ (i + 1).toInt ∧ (i + 1).toInt < (L : Int) ∧ cm_cs [] ≤ 8 ∧ ev_nar1 _ _ = true ∧ (_ → _) ∧ cm_Call cm_ms 30 132 [.ref 0, .int (xs (i + 1).toNatClampNeg)] M _
  refine ⟨rfl, (lu_ix hi (a := 1) (by decide) (by decide)).1, (lu_ix hi (a := 1) (by decide) (by decide)).2, by decide, by decide, fun _ => Or.inr rfl, cm_Call_up (lk_132 hM _) (Nat.le_refl _) (fun v M1 hv => ?_)⟩
  obtain ⟨⟨r, rfl⟩, hP⟩ := hv
  show (Value.int r).category = 1 ∧ J (1113, law_L i, [], M1)
  exact ⟨rfl, hJ M1 hP⟩
set_option maxRecDepth 100000 in
theorem lh_34b (hi : lu_in L i) (hM : ab_ok hp hN M) (hJ : ∀ M', lu_P M M' → J (1722, law_L i, [], M')) : cm_wp cm_ms (cm_Call cm_ms 30) (some (L, xs)) lawP lu_c34b (lu_st 1722) J (fun _ _ => False) 80 (1113, law_L i, [], M) := by
  show 1000 = 1000 ∧ 0 ≤ (i + 1).toInt ∧ (i + 1).toInt < (L : Int) ∧ cm_cs [] ≤ 8 ∧ ev_nar1 _ _ = true ∧ (_ → _) ∧ cm_Call cm_ms 30 268 [.ref 124, .int (xs (i + 1).toNatClampNeg)] M _
  refine ⟨rfl, (lu_ix hi (a := 1) (by decide) (by decide)).1, (lu_ix hi (a := 1) (by decide) (by decide)).2, by decide, by decide, fun _ => Or.inr rfl, cm_Call_up (lk_268 hM _) (Nat.le_refl _) (fun v M1 hv => ?_)⟩
  obtain ⟨⟨r, rfl⟩, hP⟩ := hv
  show (Value.int r).category = 1 ∧ 0 ≤ _ ∧ J (1722, law_L i, [], M1)
  exact ⟨rfl, (by decide : (0 : Int) ≤ 1722), hJ M1 hP⟩
set_option maxRecDepth 100000 in
theorem lh_35a (hM : ab_ok hp hN M) (hJ : ∀ M', lu_P M M' → J (1132, law_L i, [], M')) : cm_wp cm_ms (cm_Call cm_ms 30) (some (L, xs)) lawP lu_c35a (lu_st 1132) J (fun _ _ => False) 80 (1127, law_L i, [], M) := by
  show cm_cs [] ≤ 8 ∧ ev_nar1 _ _ = true ∧ (_ → _) ∧ cm_Call cm_ms 30 133 [.ref 0] M _
  refine ⟨by decide, by decide, fun _ => Or.inr rfl, cm_Call_up (lk_133 hM) (Nat.le_refl _) (fun v M1 hv => ?_)⟩
  obtain ⟨⟨r, rfl⟩, hP⟩ := hv
  show (Value.int r).category = 1 ∧ J (1132, law_L i, [], M1)
  exact ⟨rfl, hJ M1 hP⟩
set_option maxRecDepth 100000 in
theorem lh_35b (hM : ab_ok hp hN M) (hJ : ∀ M', lu_P M M' → J (1722, law_L i, [], M')) : cm_wp cm_ms (cm_Call cm_ms 30) (some (L, xs)) lawP lu_c35b (lu_st 1722) J (fun _ _ => False) 80 (1132, law_L i, [], M) := by
  show cm_cs [] ≤ 8 ∧ ev_nar1 _ _ = true ∧ (_ → _) ∧ cm_Call cm_ms 30 269 [.ref 124] M _
  refine ⟨by decide, by decide, fun _ => Or.inr rfl, cm_Call_up (lk_269 hM) (Nat.le_refl _) (fun v M1 hv => ?_)⟩
  obtain ⟨⟨r, rfl⟩, hP⟩ := hv
  show (Value.int r).category = 1 ∧ 0 ≤ _ ∧ J (1722, law_L i, [], M1)
  exact ⟨rfl, (by decide : (0 : Int) ≤ 1722), hJ M1 hP⟩
set_option maxRecDepth 100000 in
theorem lh_36a (hM : ab_ok hp hN M) (hJ : ∀ M', lu_P M M' → J (1145, law_L i, [], M')) : cm_wp cm_ms (cm_Call cm_ms 30) (some (L, xs)) lawP lu_c36a (lu_st 1145) J (fun _ _ => False) 80 (1140, law_L i, [], M) := by
  show cm_cs [] ≤ 8 ∧ ev_nar1 _ _ = true ∧ (_ → _) ∧ cm_Call cm_ms 30 134 [.ref 0] M _
  refine ⟨by decide, by decide, fun _ => Or.inr rfl, cm_Call_up (lk_134 hM) (Nat.le_refl _) (fun v M1 hv => ?_)⟩
  obtain ⟨⟨r, rfl⟩, hP⟩ := hv
  show (Value.int r).category = 1 ∧ J (1145, law_L i, [], M1)
  exact ⟨rfl, hJ M1 hP⟩
set_option maxRecDepth 100000 in
theorem lh_36b (hM : ab_ok hp hN M) (hJ : ∀ M', lu_P M M' → J (1722, law_L i, [], M')) : cm_wp cm_ms (cm_Call cm_ms 30) (some (L, xs)) lawP lu_c36b (lu_st 1722) J (fun _ _ => False) 80 (1145, law_L i, [], M) := by
  show cm_cs [] ≤ 8 ∧ ev_nar1 _ _ = true ∧ (_ → _) ∧ cm_Call cm_ms 30 270 [.ref 124] M _
  refine ⟨by decide, by decide, fun _ => Or.inr rfl, cm_Call_up (lk_270 hM) (Nat.le_refl _) (fun v M1 hv => ?_)⟩
  obtain ⟨⟨r, rfl⟩, hP⟩ := hv
  show (Value.int r).category = 1 ∧ 0 ≤ _ ∧ J (1722, law_L i, [], M1)
  exact ⟨rfl, (by decide : (0 : Int) ≤ 1722), hJ M1 hP⟩
end HALVES
section HALVES
variable {J : cm_S → Prop} {L : Nat} {xs : Nat → Int32} {i : Int32} {M : cm_M}
set_option maxRecDepth 100000 in
theorem lh_37a (hM : ab_ok hp hN M) (hJ : ∀ M', lu_P M M' → J (1158, law_L i, [], M')) : cm_wp cm_ms (cm_Call cm_ms 30) (some (L, xs)) lawP lu_c37a (lu_st 1158) J (fun _ _ => False) 80 (1153, law_L i, [], M) := by
  show cm_cs [] ≤ 8 ∧ ev_nar1 _ _ = true ∧ (_ → _) ∧ cm_Call cm_ms 30 135 [.ref 0] M _
  refine ⟨by decide, by decide, fun _ => Or.inr rfl, cm_Call_up (lk_135 hM) (Nat.le_refl _) (fun v M1 hv => ?_)⟩
  obtain ⟨⟨r, rfl⟩, hP⟩ := hv
  show (Value.int r).category = 1 ∧ J (1158, law_L i, [], M1)
  exact ⟨rfl, hJ M1 hP⟩
set_option maxRecDepth 100000 in
theorem lh_37b (hM : ab_ok hp hN M) (hJ : ∀ M', lu_P M M' → J (1722, law_L i, [], M')) : cm_wp cm_ms (cm_Call cm_ms 30) (some (L, xs)) lawP lu_c37b (lu_st 1722) J (fun _ _ => False) 80 (1158, law_L i, [], M) := by
  show cm_cs [] ≤ 8 ∧ ev_nar1 _ _ = true ∧ (_ → _) ∧ cm_Call cm_ms 30 273 [.ref 124] M _
  refine ⟨by decide, by decide, fun _ => Or.inr rfl, cm_Call_up (lk_273 hM) (Nat.le_refl _) (fun v M1 hv => ?_)⟩
  obtain ⟨⟨r, rfl⟩, hP⟩ := hv
  show (Value.int r).category = 1 ∧ 0 ≤ _ ∧ J (1722, law_L i, [], M1)
  exact ⟨rfl, (by decide : (0 : Int) ≤ 1722), hJ M1 hP⟩
set_option maxRecDepth 100000 in
theorem lh_38a (hM : ab_ok hp hN M) (hJ : ∀ M', lu_P M M' → J (1171, law_L i, [], M')) : cm_wp cm_ms (cm_Call cm_ms 30) (some (L, xs)) lawP lu_c38a (lu_st 1171) J (fun _ _ => False) 80 (1166, law_L i, [], M) := by
  show cm_cs [] ≤ 8 ∧ ev_nar1 _ _ = true ∧ (_ → _) ∧ cm_Call cm_ms 30 136 [.ref 0] M _
  refine ⟨by decide, by decide, fun _ => Or.inr rfl, cm_Call_up (lk_136 hM) (Nat.le_refl _) (fun v M1 hv => ?_)⟩
  obtain ⟨⟨r, rfl⟩, hP⟩ := hv
  show (Value.int r).category = 1 ∧ J (1171, law_L i, [], M1)
  exact ⟨rfl, hJ M1 hP⟩
set_option maxRecDepth 100000 in
theorem lh_38b (hM : ab_ok hp hN M) (hJ : ∀ M', lu_P M M' → J (1722, law_L i, [], M')) : cm_wp cm_ms (cm_Call cm_ms 30) (some (L, xs)) lawP lu_c38b (lu_st 1722) J (fun _ _ => False) 80 (1171, law_L i, [], M) := by
  show cm_cs [] ≤ 8 ∧ ev_nar1 _ _ = true ∧ (_ → _) ∧ cm_Call cm_ms 30 274 [.ref 124] M _
  refine ⟨by decide, by decide, fun _ => Or.inr rfl, cm_Call_up (lk_274 hM) (Nat.le_refl _) (fun v M1 hv => ?_)⟩
  obtain ⟨⟨r, rfl⟩, hP⟩ := hv
  show (Value.int r).category = 1 ∧ 0 ≤ _ ∧ J (1722, law_L i, [], M1)
  exact ⟨rfl, (by decide : (0 : Int) ≤ 1722), hJ M1 hP⟩
set_option maxRecDepth 100000 in
theorem lh_39a (hi : lu_in L i) {C : cm_C} (hU : cm_CM C C) (hC : ∀ x0 x1 x2 x3 : Int32, 0 ≤ x1.toInt ∧ x1.toInt ≤ 1 → 0 ≤ x2.toInt ∧ x2.toInt ≤ 1 → 0 ≤ x3.toInt ∧ x3.toInt ≤ 1 → C 138 [.ref 0, .int x0, .int x1, .int x2, .int x3] M (lp_P 0 M)) (hJ : ∀ M', lu_P M M' → J (1232, law_L i, [], M')) : cm_wp cm_ms (C) (some (L, xs)) lawP lu_c39a (lu_st 1232) J (fun _ _ => False) 80 (1179, law_L i, [], M) := by
  show 1000 = 1000 ∧ 0 ≤ (i + 1).toInt ∧ (i + 1).toInt < (L : Int) ∧ 1000 = 1000 ∧ 0 ≤ (i + 2).toInt ∧ (i + 2).toInt < (L : Int) ∧ 0 ≤ _ ∧ (ev_cmp 0 (xs (i + 2).toNatClampNeg) 0 = true → _) ∧ (ev_cmp 0 (xs (i + 2).toNatClampNeg) 0 = false → _)
  refine ⟨rfl, (lu_ix hi (a := 1) (by decide) (by decide)).1, (lu_ix hi (a := 1) (by decide) (by decide)).2, rfl, (lu_ix hi (a := 2) (by decide) (by decide)).1, (lu_ix hi (a := 2) (by decide) (by decide)).2, (by decide : (0 : Int) ≤ 1199), fun _ => ?_, fun _ => ?_⟩
  · show 1000 = 1000 ∧ 0 ≤ (i + 3).toInt ∧ (i + 3).toInt < (L : Int) ∧ 0 ≤ _ ∧ (ev_cmp 0 (xs (i + 3).toNatClampNeg) 0 = true → _) ∧ (ev_cmp 0 (xs (i + 3).toNatClampNeg) 0 = false → _)
    refine ⟨rfl, (lu_ix hi (a := 3) (by decide) (by decide)).1, (lu_ix hi (a := 3) (by decide) (by decide)).2, (by decide : (0 : Int) ≤ 1213), fun _ => ?_, fun _ => ?_⟩
    · show 1000 = 1000 ∧ 0 ≤ (i + 4).toInt ∧ (i + 4).toInt < (L : Int) ∧ 0 ≤ _ ∧ (ev_cmp 0 (xs (i + 4).toNatClampNeg) 0 = true → _) ∧ (ev_cmp 0 (xs (i + 4).toNatClampNeg) 0 = false → _)
      refine ⟨rfl, (lu_ix hi (a := 4) (by decide) (by decide)).1, (lu_ix hi (a := 4) (by decide) (by decide)).2, (by decide : (0 : Int) ≤ 1227), fun _ => ?_, fun _ => ?_⟩
      · show cm_cs [] ≤ 8 ∧ ev_nar1 _ _ = true ∧ (_ → _) ∧ C 138 [.ref 0, .int (xs (i + 1).toNatClampNeg), .int 0, .int 0, .int 0] M _
        refine ⟨by decide, by decide, fun _ => Or.inr rfl, hU _ _ _ _ _ (fun v M1 hv => ?_) (hC _ _ _ _ (by decide) (by decide) (by decide))⟩
        obtain ⟨⟨r, rfl⟩, hP⟩ := hv
        show (Value.int r).category = 1 ∧ J (1232, law_L i, [], M1)
        exact ⟨rfl, hJ M1 hP⟩
      · show 0 ≤ _ ∧ cm_cs [] ≤ 8 ∧ ev_nar1 _ _ = true ∧ (_ → _) ∧ C 138 [.ref 0, .int (xs (i + 1).toNatClampNeg), .int 0, .int 0, .int 1] M _
        refine ⟨(by decide : (0 : Int) ≤ 1228), by decide, by decide, fun _ => Or.inr rfl, hU _ _ _ _ _ (fun v M1 hv => ?_) (hC _ _ _ _ (by decide) (by decide) (by decide))⟩
        obtain ⟨⟨r, rfl⟩, hP⟩ := hv
        show (Value.int r).category = 1 ∧ J (1232, law_L i, [], M1)
        exact ⟨rfl, hJ M1 hP⟩
    · show 0 ≤ _ ∧ 1000 = 1000 ∧ 0 ≤ (i + 4).toInt ∧ (i + 4).toInt < (L : Int) ∧ 0 ≤ _ ∧ (ev_cmp 0 (xs (i + 4).toNatClampNeg) 0 = true → _) ∧ (ev_cmp 0 (xs (i + 4).toNatClampNeg) 0 = false → _)
      refine ⟨(by decide : (0 : Int) ≤ 1214), rfl, (lu_ix hi (a := 4) (by decide) (by decide)).1, (lu_ix hi (a := 4) (by decide) (by decide)).2, (by decide : (0 : Int) ≤ 1227), fun _ => ?_, fun _ => ?_⟩
      · show cm_cs [] ≤ 8 ∧ ev_nar1 _ _ = true ∧ (_ → _) ∧ C 138 [.ref 0, .int (xs (i + 1).toNatClampNeg), .int 0, .int 1, .int 0] M _
        refine ⟨by decide, by decide, fun _ => Or.inr rfl, hU _ _ _ _ _ (fun v M1 hv => ?_) (hC _ _ _ _ (by decide) (by decide) (by decide))⟩
        obtain ⟨⟨r, rfl⟩, hP⟩ := hv
        show (Value.int r).category = 1 ∧ J (1232, law_L i, [], M1)
        exact ⟨rfl, hJ M1 hP⟩
      · show 0 ≤ _ ∧ cm_cs [] ≤ 8 ∧ ev_nar1 _ _ = true ∧ (_ → _) ∧ C 138 [.ref 0, .int (xs (i + 1).toNatClampNeg), .int 0, .int 1, .int 1] M _
        refine ⟨(by decide : (0 : Int) ≤ 1228), by decide, by decide, fun _ => Or.inr rfl, hU _ _ _ _ _ (fun v M1 hv => ?_) (hC _ _ _ _ (by decide) (by decide) (by decide))⟩
        obtain ⟨⟨r, rfl⟩, hP⟩ := hv
        show (Value.int r).category = 1 ∧ J (1232, law_L i, [], M1)
        exact ⟨rfl, hJ M1 hP⟩
  · show 0 ≤ _ ∧ 1000 = 1000 ∧ 0 ≤ (i + 3).toInt ∧ (i + 3).toInt < (L : Int) ∧ 0 ≤ _ ∧ (ev_cmp 0 (xs (i + 3).toNatClampNeg) 0 = true → _) ∧ (ev_cmp 0 (xs (i + 3).toNatClampNeg) 0 = false → _)
    refine ⟨(by decide : (0 : Int) ≤ 1200), rfl, (lu_ix hi (a := 3) (by decide) (by decide)).1, (lu_ix hi (a := 3) (by decide) (by decide)).2, (by decide : (0 : Int) ≤ 1213), fun _ => ?_, fun _ => ?_⟩
    · show 1000 = 1000 ∧ 0 ≤ (i + 4).toInt ∧ (i + 4).toInt < (L : Int) ∧ 0 ≤ _ ∧ (ev_cmp 0 (xs (i + 4).toNatClampNeg) 0 = true → _) ∧ (ev_cmp 0 (xs (i + 4).toNatClampNeg) 0 = false → _)
      refine ⟨rfl, (lu_ix hi (a := 4) (by decide) (by decide)).1, (lu_ix hi (a := 4) (by decide) (by decide)).2, (by decide : (0 : Int) ≤ 1227), fun _ => ?_, fun _ => ?_⟩
      · show cm_cs [] ≤ 8 ∧ ev_nar1 _ _ = true ∧ (_ → _) ∧ C 138 [.ref 0, .int (xs (i + 1).toNatClampNeg), .int 1, .int 0, .int 0] M _
        refine ⟨by decide, by decide, fun _ => Or.inr rfl, hU _ _ _ _ _ (fun v M1 hv => ?_) (hC _ _ _ _ (by decide) (by decide) (by decide))⟩
        obtain ⟨⟨r, rfl⟩, hP⟩ := hv
        show (Value.int r).category = 1 ∧ J (1232, law_L i, [], M1)
        exact ⟨rfl, hJ M1 hP⟩
      · show 0 ≤ _ ∧ cm_cs [] ≤ 8 ∧ ev_nar1 _ _ = true ∧ (_ → _) ∧ C 138 [.ref 0, .int (xs (i + 1).toNatClampNeg), .int 1, .int 0, .int 1] M _
        refine ⟨(by decide : (0 : Int) ≤ 1228), by decide, by decide, fun _ => Or.inr rfl, hU _ _ _ _ _ (fun v M1 hv => ?_) (hC _ _ _ _ (by decide) (by decide) (by decide))⟩
        obtain ⟨⟨r, rfl⟩, hP⟩ := hv
        show (Value.int r).category = 1 ∧ J (1232, law_L i, [], M1)
        exact ⟨rfl, hJ M1 hP⟩
    · show 0 ≤ _ ∧ 1000 = 1000 ∧ 0 ≤ (i + 4).toInt ∧ (i + 4).toInt < (L : Int) ∧ 0 ≤ _ ∧ (ev_cmp 0 (xs (i + 4).toNatClampNeg) 0 = true → _) ∧ (ev_cmp 0 (xs (i + 4).toNatClampNeg) 0 = false → _)
      refine ⟨(by decide : (0 : Int) ≤ 1214), rfl, (lu_ix hi (a := 4) (by decide) (by decide)).1, (lu_ix hi (a := 4) (by decide) (by decide)).2, (by decide : (0 : Int) ≤ 1227), fun _ => ?_, fun _ => ?_⟩
      · show cm_cs [] ≤ 8 ∧ ev_nar1 _ _ = true ∧ (_ → _) ∧ C 138 [.ref 0, .int (xs (i + 1).toNatClampNeg), .int 1, .int 1, .int 0] M _
        refine ⟨by decide, by decide, fun _ => Or.inr rfl, hU _ _ _ _ _ (fun v M1 hv => ?_) (hC _ _ _ _ (by decide) (by decide) (by decide))⟩
        obtain ⟨⟨r, rfl⟩, hP⟩ := hv
        show (Value.int r).category = 1 ∧ J (1232, law_L i, [], M1)
        exact ⟨rfl, hJ M1 hP⟩
      · show 0 ≤ _ ∧ cm_cs [] ≤ 8 ∧ ev_nar1 _ _ = true ∧ (_ → _) ∧ C 138 [.ref 0, .int (xs (i + 1).toNatClampNeg), .int 1, .int 1, .int 1] M _
        refine ⟨(by decide : (0 : Int) ≤ 1228), by decide, by decide, fun _ => Or.inr rfl, hU _ _ _ _ _ (fun v M1 hv => ?_) (hC _ _ _ _ (by decide) (by decide) (by decide))⟩
        obtain ⟨⟨r, rfl⟩, hP⟩ := hv
        show (Value.int r).category = 1 ∧ J (1232, law_L i, [], M1)
        exact ⟨rfl, hJ M1 hP⟩
set_option maxRecDepth 100000 in
theorem lh_39b (hi : lu_in L i) {C : cm_C} (hU : cm_CM C C) (hC : ∀ x0 x1 x2 x3 : Int32, 0 ≤ x1.toInt ∧ x1.toInt ≤ 1 → 0 ≤ x2.toInt ∧ x2.toInt ≤ 1 → 0 ≤ x3.toInt ∧ x3.toInt ≤ 1 → C 276 [.ref 124, .int x0, .int x1, .int x2, .int x3] M (lp_P 0 M)) (hJ : ∀ M', lu_P M M' → J (1722, law_L i, [], M')) : cm_wp cm_ms (C) (some (L, xs)) lawP lu_c39b (lu_st 1722) J (fun _ _ => False) 80 (1232, law_L i, [], M) := by
  show 1000 = 1000 ∧ 0 ≤ (i + 1).toInt ∧ (i + 1).toInt < (L : Int) ∧ 1000 = 1000 ∧ 0 ≤ (i + 2).toInt ∧ (i + 2).toInt < (L : Int) ∧ 0 ≤ _ ∧ (ev_cmp 0 (xs (i + 2).toNatClampNeg) 0 = true → _) ∧ (ev_cmp 0 (xs (i + 2).toNatClampNeg) 0 = false → _)
  refine ⟨rfl, (lu_ix hi (a := 1) (by decide) (by decide)).1, (lu_ix hi (a := 1) (by decide) (by decide)).2, rfl, (lu_ix hi (a := 2) (by decide) (by decide)).1, (lu_ix hi (a := 2) (by decide) (by decide)).2, (by decide : (0 : Int) ≤ 1252), fun _ => ?_, fun _ => ?_⟩
  · show 1000 = 1000 ∧ 0 ≤ (i + 3).toInt ∧ (i + 3).toInt < (L : Int) ∧ 0 ≤ _ ∧ (ev_cmp 0 (xs (i + 3).toNatClampNeg) 0 = true → _) ∧ (ev_cmp 0 (xs (i + 3).toNatClampNeg) 0 = false → _)
    refine ⟨rfl, (lu_ix hi (a := 3) (by decide) (by decide)).1, (lu_ix hi (a := 3) (by decide) (by decide)).2, (by decide : (0 : Int) ≤ 1266), fun _ => ?_, fun _ => ?_⟩
    · show 1000 = 1000 ∧ 0 ≤ (i + 4).toInt ∧ (i + 4).toInt < (L : Int) ∧ 0 ≤ _ ∧ (ev_cmp 0 (xs (i + 4).toNatClampNeg) 0 = true → _) ∧ (ev_cmp 0 (xs (i + 4).toNatClampNeg) 0 = false → _)
      refine ⟨rfl, (lu_ix hi (a := 4) (by decide) (by decide)).1, (lu_ix hi (a := 4) (by decide) (by decide)).2, (by decide : (0 : Int) ≤ 1280), fun _ => ?_, fun _ => ?_⟩
      · show cm_cs [] ≤ 8 ∧ ev_nar1 _ _ = true ∧ (_ → _) ∧ C 276 [.ref 124, .int (xs (i + 1).toNatClampNeg), .int 0, .int 0, .int 0] M _
        refine ⟨by decide, by decide, fun _ => Or.inr rfl, hU _ _ _ _ _ (fun v M1 hv => ?_) (hC _ _ _ _ (by decide) (by decide) (by decide))⟩
        obtain ⟨⟨r, rfl⟩, hP⟩ := hv
        show (Value.int r).category = 1 ∧ 0 ≤ _ ∧ J (1722, law_L i, [], M1)
        exact ⟨rfl, (by decide : (0 : Int) ≤ 1722), hJ M1 hP⟩
      · show 0 ≤ _ ∧ cm_cs [] ≤ 8 ∧ ev_nar1 _ _ = true ∧ (_ → _) ∧ C 276 [.ref 124, .int (xs (i + 1).toNatClampNeg), .int 0, .int 0, .int 1] M _
        refine ⟨(by decide : (0 : Int) ≤ 1281), by decide, by decide, fun _ => Or.inr rfl, hU _ _ _ _ _ (fun v M1 hv => ?_) (hC _ _ _ _ (by decide) (by decide) (by decide))⟩
        obtain ⟨⟨r, rfl⟩, hP⟩ := hv
        show (Value.int r).category = 1 ∧ 0 ≤ _ ∧ J (1722, law_L i, [], M1)
        exact ⟨rfl, (by decide : (0 : Int) ≤ 1722), hJ M1 hP⟩
    · show 0 ≤ _ ∧ 1000 = 1000 ∧ 0 ≤ (i + 4).toInt ∧ (i + 4).toInt < (L : Int) ∧ 0 ≤ _ ∧ (ev_cmp 0 (xs (i + 4).toNatClampNeg) 0 = true → _) ∧ (ev_cmp 0 (xs (i + 4).toNatClampNeg) 0 = false → _)
      refine ⟨(by decide : (0 : Int) ≤ 1267), rfl, (lu_ix hi (a := 4) (by decide) (by decide)).1, (lu_ix hi (a := 4) (by decide) (by decide)).2, (by decide : (0 : Int) ≤ 1280), fun _ => ?_, fun _ => ?_⟩
      · show cm_cs [] ≤ 8 ∧ ev_nar1 _ _ = true ∧ (_ → _) ∧ C 276 [.ref 124, .int (xs (i + 1).toNatClampNeg), .int 0, .int 1, .int 0] M _
        refine ⟨by decide, by decide, fun _ => Or.inr rfl, hU _ _ _ _ _ (fun v M1 hv => ?_) (hC _ _ _ _ (by decide) (by decide) (by decide))⟩
        obtain ⟨⟨r, rfl⟩, hP⟩ := hv
        show (Value.int r).category = 1 ∧ 0 ≤ _ ∧ J (1722, law_L i, [], M1)
        exact ⟨rfl, (by decide : (0 : Int) ≤ 1722), hJ M1 hP⟩
      · show 0 ≤ _ ∧ cm_cs [] ≤ 8 ∧ ev_nar1 _ _ = true ∧ (_ → _) ∧ C 276 [.ref 124, .int (xs (i + 1).toNatClampNeg), .int 0, .int 1, .int 1] M _
        refine ⟨(by decide : (0 : Int) ≤ 1281), by decide, by decide, fun _ => Or.inr rfl, hU _ _ _ _ _ (fun v M1 hv => ?_) (hC _ _ _ _ (by decide) (by decide) (by decide))⟩
        obtain ⟨⟨r, rfl⟩, hP⟩ := hv
        show (Value.int r).category = 1 ∧ 0 ≤ _ ∧ J (1722, law_L i, [], M1)
        exact ⟨rfl, (by decide : (0 : Int) ≤ 1722), hJ M1 hP⟩
  · show 0 ≤ _ ∧ 1000 = 1000 ∧ 0 ≤ (i + 3).toInt ∧ (i + 3).toInt < (L : Int) ∧ 0 ≤ _ ∧ (ev_cmp 0 (xs (i + 3).toNatClampNeg) 0 = true → _) ∧ (ev_cmp 0 (xs (i + 3).toNatClampNeg) 0 = false → _)
    refine ⟨(by decide : (0 : Int) ≤ 1253), rfl, (lu_ix hi (a := 3) (by decide) (by decide)).1, (lu_ix hi (a := 3) (by decide) (by decide)).2, (by decide : (0 : Int) ≤ 1266), fun _ => ?_, fun _ => ?_⟩
    · show 1000 = 1000 ∧ 0 ≤ (i + 4).toInt ∧ (i + 4).toInt < (L : Int) ∧ 0 ≤ _ ∧ (ev_cmp 0 (xs (i + 4).toNatClampNeg) 0 = true → _) ∧ (ev_cmp 0 (xs (i + 4).toNatClampNeg) 0 = false → _)
      refine ⟨rfl, (lu_ix hi (a := 4) (by decide) (by decide)).1, (lu_ix hi (a := 4) (by decide) (by decide)).2, (by decide : (0 : Int) ≤ 1280), fun _ => ?_, fun _ => ?_⟩
      · show cm_cs [] ≤ 8 ∧ ev_nar1 _ _ = true ∧ (_ → _) ∧ C 276 [.ref 124, .int (xs (i + 1).toNatClampNeg), .int 1, .int 0, .int 0] M _
        refine ⟨by decide, by decide, fun _ => Or.inr rfl, hU _ _ _ _ _ (fun v M1 hv => ?_) (hC _ _ _ _ (by decide) (by decide) (by decide))⟩
        obtain ⟨⟨r, rfl⟩, hP⟩ := hv
        show (Value.int r).category = 1 ∧ 0 ≤ _ ∧ J (1722, law_L i, [], M1)
        exact ⟨rfl, (by decide : (0 : Int) ≤ 1722), hJ M1 hP⟩
      · show 0 ≤ _ ∧ cm_cs [] ≤ 8 ∧ ev_nar1 _ _ = true ∧ (_ → _) ∧ C 276 [.ref 124, .int (xs (i + 1).toNatClampNeg), .int 1, .int 0, .int 1] M _
        refine ⟨(by decide : (0 : Int) ≤ 1281), by decide, by decide, fun _ => Or.inr rfl, hU _ _ _ _ _ (fun v M1 hv => ?_) (hC _ _ _ _ (by decide) (by decide) (by decide))⟩
        obtain ⟨⟨r, rfl⟩, hP⟩ := hv
        show (Value.int r).category = 1 ∧ 0 ≤ _ ∧ J (1722, law_L i, [], M1)
        exact ⟨rfl, (by decide : (0 : Int) ≤ 1722), hJ M1 hP⟩
    · show 0 ≤ _ ∧ 1000 = 1000 ∧ 0 ≤ (i + 4).toInt ∧ (i + 4).toInt < (L : Int) ∧ 0 ≤ _ ∧ (ev_cmp 0 (xs (i + 4).toNatClampNeg) 0 = true → _) ∧ (ev_cmp 0 (xs (i + 4).toNatClampNeg) 0 = false → _)
      refine ⟨(by decide : (0 : Int) ≤ 1267), rfl, (lu_ix hi (a := 4) (by decide) (by decide)).1, (lu_ix hi (a := 4) (by decide) (by decide)).2, (by decide : (0 : Int) ≤ 1280), fun _ => ?_, fun _ => ?_⟩
      · show cm_cs [] ≤ 8 ∧ ev_nar1 _ _ = true ∧ (_ → _) ∧ C 276 [.ref 124, .int (xs (i + 1).toNatClampNeg), .int 1, .int 1, .int 0] M _
        refine ⟨by decide, by decide, fun _ => Or.inr rfl, hU _ _ _ _ _ (fun v M1 hv => ?_) (hC _ _ _ _ (by decide) (by decide) (by decide))⟩
        obtain ⟨⟨r, rfl⟩, hP⟩ := hv
        show (Value.int r).category = 1 ∧ 0 ≤ _ ∧ J (1722, law_L i, [], M1)
        exact ⟨rfl, (by decide : (0 : Int) ≤ 1722), hJ M1 hP⟩
      · show 0 ≤ _ ∧ cm_cs [] ≤ 8 ∧ ev_nar1 _ _ = true ∧ (_ → _) ∧ C 276 [.ref 124, .int (xs (i + 1).toNatClampNeg), .int 1, .int 1, .int 1] M _
        refine ⟨(by decide : (0 : Int) ≤ 1281), by decide, by decide, fun _ => Or.inr rfl, hU _ _ _ _ _ (fun v M1 hv => ?_) (hC _ _ _ _ (by decide) (by decide) (by decide))⟩
        obtain ⟨⟨r, rfl⟩, hP⟩ := hv
        show (Value.int r).category = 1 ∧ 0 ≤ _ ∧ J (1722, law_L i, [], M1)
        exact ⟨rfl, (by decide : (0 : Int) ≤ 1722), hJ M1 hP⟩
set_option maxRecDepth 100000 in
theorem lh_40a (hi : lu_in L i) (hM : ab_ok hp hN M) (hJ : ∀ M', lu_P M M' → J (1299, law_L i, [], M')) : cm_wp cm_ms (cm_Call cm_ms 30) (some (L, xs)) lawP lu_c40a (lu_st 1299) J (fun _ _ => False) 80 (1288, law_L i, [], M) := by
  show 1000 = 1000 ∧ 0 ≤ (i + 1).toInt ∧ (i + 1).toInt < (L : Int) ∧ cm_cs [] ≤ 8 ∧ ev_nar1 _ _ = true ∧ (_ → _) ∧ cm_Call cm_ms 30 139 [.ref 0, .int (xs (i + 1).toNatClampNeg)] M _
  refine ⟨rfl, (lu_ix hi (a := 1) (by decide) (by decide)).1, (lu_ix hi (a := 1) (by decide) (by decide)).2, by decide, by decide, fun _ => Or.inr rfl, cm_Call_up (lk_139 hM _) (Nat.le_refl _) (fun v M1 hv => ?_)⟩
  obtain ⟨⟨r, rfl⟩, hP⟩ := hv
  show (Value.int r).category = 1 ∧ J (1299, law_L i, [], M1)
  exact ⟨rfl, hJ M1 hP⟩
set_option maxRecDepth 100000 in
theorem lh_40b (hi : lu_in L i) (hM : ab_ok hp hN M) (hJ : ∀ M', lu_P M M' → J (1722, law_L i, [], M')) : cm_wp cm_ms (cm_Call cm_ms 30) (some (L, xs)) lawP lu_c40b (lu_st 1722) J (fun _ _ => False) 80 (1299, law_L i, [], M) := by
  show 1000 = 1000 ∧ 0 ≤ (i + 1).toInt ∧ (i + 1).toInt < (L : Int) ∧ cm_cs [] ≤ 8 ∧ ev_nar1 _ _ = true ∧ (_ → _) ∧ cm_Call cm_ms 30 279 [.ref 124, .int (xs (i + 1).toNatClampNeg)] M _
  refine ⟨rfl, (lu_ix hi (a := 1) (by decide) (by decide)).1, (lu_ix hi (a := 1) (by decide) (by decide)).2, by decide, by decide, fun _ => Or.inr rfl, cm_Call_up (lk_279 hM _) (Nat.le_refl _) (fun v M1 hv => ?_)⟩
  obtain ⟨⟨r, rfl⟩, hP⟩ := hv
  show (Value.int r).category = 1 ∧ 0 ≤ _ ∧ J (1722, law_L i, [], M1)
  exact ⟨rfl, (by decide : (0 : Int) ≤ 1722), hJ M1 hP⟩
set_option maxRecDepth 100000 in
theorem lh_41a (hi : lu_in L i) (hM : ab_ok hp hN M) (hJ : ∀ M', lu_P M M' → J (1324, law_L i, [], M')) : cm_wp cm_ms (cm_Call cm_ms 30) (some (L, xs)) lawP lu_c41a (lu_st 1324) J (fun _ _ => False) 80 (1313, law_L i, [], M) := by
  show 1000 = 1000 ∧ 0 ≤ (i + 1).toInt ∧ (i + 1).toInt < (L : Int) ∧ cm_cs [] ≤ 8 ∧ ev_nar1 _ _ = true ∧ (_ → _) ∧ cm_Call cm_ms 30 140 [.ref 0, .int (xs (i + 1).toNatClampNeg)] M _
  refine ⟨rfl, (lu_ix hi (a := 1) (by decide) (by decide)).1, (lu_ix hi (a := 1) (by decide) (by decide)).2, by decide, by decide, fun _ => Or.inr rfl, cm_Call_up (lk_140 hM _) (Nat.le_refl _) (fun v M1 hv => ?_)⟩
  obtain ⟨⟨r, rfl⟩, hP⟩ := hv
  show (Value.int r).category = 1 ∧ J (1324, law_L i, [], M1)
  exact ⟨rfl, hJ M1 hP⟩
set_option maxRecDepth 100000 in
theorem lh_41b (hi : lu_in L i) (hM : ab_ok hp hN M) (hJ : ∀ M', lu_P M M' → J (1722, law_L i, [], M')) : cm_wp cm_ms (cm_Call cm_ms 30) (some (L, xs)) lawP lu_c41b (lu_st 1722) J (fun _ _ => False) 80 (1324, law_L i, [], M) := by
  show 1000 = 1000 ∧ 0 ≤ (i + 1).toInt ∧ (i + 1).toInt < (L : Int) ∧ cm_cs [] ≤ 8 ∧ ev_nar1 _ _ = true ∧ (_ → _) ∧ cm_Call cm_ms 30 280 [.ref 124, .int (xs (i + 1).toNatClampNeg)] M _
  refine ⟨rfl, (lu_ix hi (a := 1) (by decide) (by decide)).1, (lu_ix hi (a := 1) (by decide) (by decide)).2, by decide, by decide, fun _ => Or.inr rfl, cm_Call_up (lk_280 hM _) (Nat.le_refl _) (fun v M1 hv => ?_)⟩
  obtain ⟨⟨r, rfl⟩, hP⟩ := hv
  show (Value.int r).category = 1 ∧ 0 ≤ _ ∧ J (1722, law_L i, [], M1)
  exact ⟨rfl, (by decide : (0 : Int) ≤ 1722), hJ M1 hP⟩
end HALVES
section HALVES
variable {J : cm_S → Prop} {L : Nat} {xs : Nat → Int32} {i : Int32} {M : cm_M}
set_option maxRecDepth 100000 in
theorem lh_42a (hi : lu_in L i) (hM : ab_ok hp hN M) (hJ : ∀ M', lu_P M M' → J (1363, law_L i, [], M')) : cm_wp cm_ms (cm_Call cm_ms 30) (some (L, xs)) lawP lu_c42a (lu_st 1363) J (fun _ _ => False) 80 (1338, law_L i, [], M) := by
  show 1000 = 1000 ∧ 0 ≤ (i + 1).toInt ∧ (i + 1).toInt < (L : Int) ∧ 1000 = 1000 ∧ 0 ≤ (i + 2).toInt ∧ (i + 2).toInt < (L : Int) ∧ 0 ≤ _ ∧ (ev_cmp 0 (xs (i + 2).toNatClampNeg) 0 = true → _) ∧ (ev_cmp 0 (xs (i + 2).toNatClampNeg) 0 = false → _)
  refine ⟨rfl, (lu_ix hi (a := 1) (by decide) (by decide)).1, (lu_ix hi (a := 1) (by decide) (by decide)).2, rfl, (lu_ix hi (a := 2) (by decide) (by decide)).1, (lu_ix hi (a := 2) (by decide) (by decide)).2, (by decide : (0 : Int) ≤ 1358), fun _ => ?_, fun _ => ?_⟩
  · show cm_cs [] ≤ 8 ∧ ev_nar1 _ _ = true ∧ (_ → _) ∧ cm_Call cm_ms 30 144 [.ref 0, .int (xs (i + 1).toNatClampNeg), .int 0] M _
    refine ⟨by decide, by decide, fun _ => Or.inr rfl, cm_Call_up (lk_144 hM _ _ (by decide)) (Nat.le_refl _) (fun v M1 hv => ?_)⟩
    obtain ⟨⟨r, rfl⟩, hP⟩ := hv
    show J (1363, law_L i, [], M1)
    exact hJ M1 hP
  · show 0 ≤ _ ∧ cm_cs [] ≤ 8 ∧ ev_nar1 _ _ = true ∧ (_ → _) ∧ cm_Call cm_ms 30 144 [.ref 0, .int (xs (i + 1).toNatClampNeg), .int 1] M _
    refine ⟨(by decide : (0 : Int) ≤ 1359), by decide, by decide, fun _ => Or.inr rfl, cm_Call_up (lk_144 hM _ _ (by decide)) (Nat.le_refl _) (fun v M1 hv => ?_)⟩
    obtain ⟨⟨r, rfl⟩, hP⟩ := hv
    show J (1363, law_L i, [], M1)
    exact hJ M1 hP
set_option maxRecDepth 100000 in
theorem lh_42b (hi : lu_in L i) (hM : ab_ok hp hN M) (hJ : ∀ M', lu_P M M' → J (1722, law_L i, [], M')) : cm_wp cm_ms (cm_Call cm_ms 30) (some (L, xs)) lawP lu_c42b (lu_st 1722) J (fun _ _ => False) 80 (1363, law_L i, [], M) := by
  show 1000 = 1000 ∧ 0 ≤ (i + 1).toInt ∧ (i + 1).toInt < (L : Int) ∧ 1000 = 1000 ∧ 0 ≤ (i + 2).toInt ∧ (i + 2).toInt < (L : Int) ∧ 0 ≤ _ ∧ (ev_cmp 0 (xs (i + 2).toNatClampNeg) 0 = true → _) ∧ (ev_cmp 0 (xs (i + 2).toNatClampNeg) 0 = false → _)
  refine ⟨rfl, (lu_ix hi (a := 1) (by decide) (by decide)).1, (lu_ix hi (a := 1) (by decide) (by decide)).2, rfl, (lu_ix hi (a := 2) (by decide) (by decide)).1, (lu_ix hi (a := 2) (by decide) (by decide)).2, (by decide : (0 : Int) ≤ 1383), fun _ => ?_, fun _ => ?_⟩
  · show cm_cs [] ≤ 8 ∧ ev_nar1 _ _ = true ∧ (_ → _) ∧ cm_Call cm_ms 30 282 [.ref 124, .int (xs (i + 1).toNatClampNeg), .int 0] M _
    refine ⟨by decide, by decide, fun _ => Or.inr rfl, cm_Call_up (lk_282 hM _ _ (by decide)) (Nat.le_refl _) (fun v M1 hv => ?_)⟩
    obtain ⟨⟨r, rfl⟩, hP⟩ := hv
    show 0 ≤ _ ∧ J (1722, law_L i, [], M1)
    exact ⟨(by decide : (0 : Int) ≤ 1722), hJ M1 hP⟩
  · show 0 ≤ _ ∧ cm_cs [] ≤ 8 ∧ ev_nar1 _ _ = true ∧ (_ → _) ∧ cm_Call cm_ms 30 282 [.ref 124, .int (xs (i + 1).toNatClampNeg), .int 1] M _
    refine ⟨(by decide : (0 : Int) ≤ 1384), by decide, by decide, fun _ => Or.inr rfl, cm_Call_up (lk_282 hM _ _ (by decide)) (Nat.le_refl _) (fun v M1 hv => ?_)⟩
    obtain ⟨⟨r, rfl⟩, hP⟩ := hv
    show 0 ≤ _ ∧ J (1722, law_L i, [], M1)
    exact ⟨(by decide : (0 : Int) ≤ 1722), hJ M1 hP⟩
set_option maxRecDepth 100000 in
theorem lh_43a (hi : lu_in L i) (hM : ab_ok hp hN M) (hJ : ∀ M', lu_P M M' → J (1416, law_L i, [], M')) : cm_wp cm_ms (cm_Call cm_ms 30) (some (L, xs)) lawP lu_c43a (lu_st 1416) J (fun _ _ => False) 80 (1391, law_L i, [], M) := by
  show 1000 = 1000 ∧ 0 ≤ (i + 1).toInt ∧ (i + 1).toInt < (L : Int) ∧ 1000 = 1000 ∧ 0 ≤ (i + 2).toInt ∧ (i + 2).toInt < (L : Int) ∧ 0 ≤ _ ∧ (ev_cmp 0 (xs (i + 2).toNatClampNeg) 0 = true → _) ∧ (ev_cmp 0 (xs (i + 2).toNatClampNeg) 0 = false → _)
  refine ⟨rfl, (lu_ix hi (a := 1) (by decide) (by decide)).1, (lu_ix hi (a := 1) (by decide) (by decide)).2, rfl, (lu_ix hi (a := 2) (by decide) (by decide)).1, (lu_ix hi (a := 2) (by decide) (by decide)).2, (by decide : (0 : Int) ≤ 1411), fun _ => ?_, fun _ => ?_⟩
  · show cm_cs [] ≤ 8 ∧ ev_nar1 _ _ = true ∧ (_ → _) ∧ cm_Call cm_ms 30 145 [.ref 0, .int (xs (i + 1).toNatClampNeg), .int 0] M _
    refine ⟨by decide, by decide, fun _ => Or.inr rfl, cm_Call_up (lk_145 hM _ _ (by decide)) (Nat.le_refl _) (fun v M1 hv => ?_)⟩
    obtain ⟨⟨r, rfl⟩, hP⟩ := hv
    show J (1416, law_L i, [], M1)
    exact hJ M1 hP
  · show 0 ≤ _ ∧ cm_cs [] ≤ 8 ∧ ev_nar1 _ _ = true ∧ (_ → _) ∧ cm_Call cm_ms 30 145 [.ref 0, .int (xs (i + 1).toNatClampNeg), .int 1] M _
    refine ⟨(by decide : (0 : Int) ≤ 1412), by decide, by decide, fun _ => Or.inr rfl, cm_Call_up (lk_145 hM _ _ (by decide)) (Nat.le_refl _) (fun v M1 hv => ?_)⟩
    obtain ⟨⟨r, rfl⟩, hP⟩ := hv
    show J (1416, law_L i, [], M1)
    exact hJ M1 hP
set_option maxRecDepth 100000 in
theorem lh_43b (hi : lu_in L i) (hM : ab_ok hp hN M) (hJ : ∀ M', lu_P M M' → J (1722, law_L i, [], M')) : cm_wp cm_ms (cm_Call cm_ms 30) (some (L, xs)) lawP lu_c43b (lu_st 1722) J (fun _ _ => False) 80 (1416, law_L i, [], M) := by
  show 1000 = 1000 ∧ 0 ≤ (i + 1).toInt ∧ (i + 1).toInt < (L : Int) ∧ 1000 = 1000 ∧ 0 ≤ (i + 2).toInt ∧ (i + 2).toInt < (L : Int) ∧ 0 ≤ _ ∧ (ev_cmp 0 (xs (i + 2).toNatClampNeg) 0 = true → _) ∧ (ev_cmp 0 (xs (i + 2).toNatClampNeg) 0 = false → _)
  refine ⟨rfl, (lu_ix hi (a := 1) (by decide) (by decide)).1, (lu_ix hi (a := 1) (by decide) (by decide)).2, rfl, (lu_ix hi (a := 2) (by decide) (by decide)).1, (lu_ix hi (a := 2) (by decide) (by decide)).2, (by decide : (0 : Int) ≤ 1436), fun _ => ?_, fun _ => ?_⟩
  · show cm_cs [] ≤ 8 ∧ ev_nar1 _ _ = true ∧ (_ → _) ∧ cm_Call cm_ms 30 283 [.ref 124, .int (xs (i + 1).toNatClampNeg), .int 0] M _
    refine ⟨by decide, by decide, fun _ => Or.inr rfl, cm_Call_up (lk_283 hM _ _ (by decide)) (Nat.le_refl _) (fun v M1 hv => ?_)⟩
    obtain ⟨⟨r, rfl⟩, hP⟩ := hv
    show 0 ≤ _ ∧ J (1722, law_L i, [], M1)
    exact ⟨(by decide : (0 : Int) ≤ 1722), hJ M1 hP⟩
  · show 0 ≤ _ ∧ cm_cs [] ≤ 8 ∧ ev_nar1 _ _ = true ∧ (_ → _) ∧ cm_Call cm_ms 30 283 [.ref 124, .int (xs (i + 1).toNatClampNeg), .int 1] M _
    refine ⟨(by decide : (0 : Int) ≤ 1437), by decide, by decide, fun _ => Or.inr rfl, cm_Call_up (lk_283 hM _ _ (by decide)) (Nat.le_refl _) (fun v M1 hv => ?_)⟩
    obtain ⟨⟨r, rfl⟩, hP⟩ := hv
    show 0 ≤ _ ∧ J (1722, law_L i, [], M1)
    exact ⟨(by decide : (0 : Int) ≤ 1722), hJ M1 hP⟩
set_option maxRecDepth 100000 in
theorem lh_44a (hi : lu_in L i) (hM : ab_ok hp hN M) (hJ : ∀ M', lu_P M M' → J (1467, law_L i, [], M')) : cm_wp cm_ms (cm_Call cm_ms 30) (some (L, xs)) lawP lu_c44a (lu_st 1467) J (fun _ _ => False) 80 (1444, law_L i, [], M) := by
  show 1000 = 1000 ∧ 0 ≤ (i + 1).toInt ∧ (i + 1).toInt < (L : Int) ∧ 1000 = 1000 ∧ 0 ≤ (i + 2).toInt ∧ (i + 2).toInt < (L : Int) ∧ 1000 = 1000 ∧ 0 ≤ (i + 3).toInt ∧ (i + 3).toInt < (L : Int) ∧ cm_cs [] ≤ 8 ∧ ev_nar1 _ _ = true ∧ (_ → _) ∧ cm_Call cm_ms 30 146 [.ref 0, .int (xs (i + 1).toNatClampNeg), .int (xs (i + 2).toNatClampNeg), .int (xs (i + 3).toNatClampNeg)] M _
  refine ⟨rfl, (lu_ix hi (a := 1) (by decide) (by decide)).1, (lu_ix hi (a := 1) (by decide) (by decide)).2, rfl, (lu_ix hi (a := 2) (by decide) (by decide)).1, (lu_ix hi (a := 2) (by decide) (by decide)).2, rfl, (lu_ix hi (a := 3) (by decide) (by decide)).1, (lu_ix hi (a := 3) (by decide) (by decide)).2, by decide, by decide, fun _ => Or.inr rfl, cm_Call_up (lk_146 hM _ _ _) (Nat.le_refl _) (fun v M1 hv => ?_)⟩
  obtain ⟨⟨r, rfl⟩, hP⟩ := hv
  show (Value.int r).category = 1 ∧ J (1467, law_L i, [], M1)
  exact ⟨rfl, hJ M1 hP⟩
set_option maxRecDepth 100000 in
theorem lh_44b (hi : lu_in L i) (hM : ab_ok hp hN M) (hJ : ∀ M', lu_P M M' → J (1722, law_L i, [], M')) : cm_wp cm_ms (cm_Call cm_ms 30) (some (L, xs)) lawP lu_c44b (lu_st 1722) J (fun _ _ => False) 80 (1467, law_L i, [], M) := by
  show 1000 = 1000 ∧ 0 ≤ (i + 1).toInt ∧ (i + 1).toInt < (L : Int) ∧ 1000 = 1000 ∧ 0 ≤ (i + 2).toInt ∧ (i + 2).toInt < (L : Int) ∧ 1000 = 1000 ∧ 0 ≤ (i + 3).toInt ∧ (i + 3).toInt < (L : Int) ∧ cm_cs [] ≤ 8 ∧ ev_nar1 _ _ = true ∧ (_ → _) ∧ cm_Call cm_ms 30 285 [.ref 124, .int (xs (i + 1).toNatClampNeg), .int (xs (i + 2).toNatClampNeg), .int (xs (i + 3).toNatClampNeg)] M _
  refine ⟨rfl, (lu_ix hi (a := 1) (by decide) (by decide)).1, (lu_ix hi (a := 1) (by decide) (by decide)).2, rfl, (lu_ix hi (a := 2) (by decide) (by decide)).1, (lu_ix hi (a := 2) (by decide) (by decide)).2, rfl, (lu_ix hi (a := 3) (by decide) (by decide)).1, (lu_ix hi (a := 3) (by decide) (by decide)).2, by decide, by decide, fun _ => Or.inr rfl, cm_Call_up (lk_285 hM _ _ _) (Nat.le_refl _) (fun v M1 hv => ?_)⟩
  obtain ⟨⟨r, rfl⟩, hP⟩ := hv
  show (Value.int r).category = 1 ∧ 0 ≤ _ ∧ J (1722, law_L i, [], M1)
  exact ⟨rfl, (by decide : (0 : Int) ≤ 1722), hJ M1 hP⟩
set_option maxRecDepth 100000 in
theorem lh_45a (hi : lu_in L i) (hM : ab_ok hp hN M) (hJ : ∀ M', lu_P M M' → J (1516, law_L i, [], M')) : cm_wp cm_ms (cm_Call cm_ms 30) (some (L, xs)) lawP lu_c45a (lu_st 1516) J (fun _ _ => False) 80 (1493, law_L i, [], M) := by
  show 1000 = 1000 ∧ 0 ≤ (i + 1).toInt ∧ (i + 1).toInt < (L : Int) ∧ 1000 = 1000 ∧ 0 ≤ (i + 2).toInt ∧ (i + 2).toInt < (L : Int) ∧ 1000 = 1000 ∧ 0 ≤ (i + 3).toInt ∧ (i + 3).toInt < (L : Int) ∧ cm_cs [] ≤ 8 ∧ ev_nar1 _ _ = true ∧ (_ → _) ∧ cm_Call cm_ms 30 147 [.ref 0, .int (xs (i + 1).toNatClampNeg), .int (xs (i + 2).toNatClampNeg), .int (xs (i + 3).toNatClampNeg)] M _
  refine ⟨rfl, (lu_ix hi (a := 1) (by decide) (by decide)).1, (lu_ix hi (a := 1) (by decide) (by decide)).2, rfl, (lu_ix hi (a := 2) (by decide) (by decide)).1, (lu_ix hi (a := 2) (by decide) (by decide)).2, rfl, (lu_ix hi (a := 3) (by decide) (by decide)).1, (lu_ix hi (a := 3) (by decide) (by decide)).2, by decide, by decide, fun _ => Or.inr rfl, cm_Call_up (lk_147 hM _ _ _) (Nat.le_refl _) (fun v M1 hv => ?_)⟩
  obtain ⟨⟨r, rfl⟩, hP⟩ := hv
  show (Value.int r).category = 1 ∧ J (1516, law_L i, [], M1)
  exact ⟨rfl, hJ M1 hP⟩
set_option maxRecDepth 100000 in
theorem lh_45b (hi : lu_in L i) (hM : ab_ok hp hN M) (hJ : ∀ M', lu_P M M' → J (1722, law_L i, [], M')) : cm_wp cm_ms (cm_Call cm_ms 30) (some (L, xs)) lawP lu_c45b (lu_st 1722) J (fun _ _ => False) 80 (1516, law_L i, [], M) := by
  show 1000 = 1000 ∧ 0 ≤ (i + 1).toInt ∧ (i + 1).toInt < (L : Int) ∧ 1000 = 1000 ∧ 0 ≤ (i + 2).toInt ∧ (i + 2).toInt < (L : Int) ∧ 1000 = 1000 ∧ 0 ≤ (i + 3).toInt ∧ (i + 3).toInt < (L : Int) ∧ cm_cs [] ≤ 8 ∧ ev_nar1 _ _ = true ∧ (_ → _) ∧ cm_Call cm_ms 30 286 [.ref 124, .int (xs (i + 1).toNatClampNeg), .int (xs (i + 2).toNatClampNeg), .int (xs (i + 3).toNatClampNeg)] M _
  refine ⟨rfl, (lu_ix hi (a := 1) (by decide) (by decide)).1, (lu_ix hi (a := 1) (by decide) (by decide)).2, rfl, (lu_ix hi (a := 2) (by decide) (by decide)).1, (lu_ix hi (a := 2) (by decide) (by decide)).2, rfl, (lu_ix hi (a := 3) (by decide) (by decide)).1, (lu_ix hi (a := 3) (by decide) (by decide)).2, by decide, by decide, fun _ => Or.inr rfl, cm_Call_up (lk_286 hM _ _ _) (Nat.le_refl _) (fun v M1 hv => ?_)⟩
  obtain ⟨⟨r, rfl⟩, hP⟩ := hv
  show (Value.int r).category = 1 ∧ 0 ≤ _ ∧ J (1722, law_L i, [], M1)
  exact ⟨rfl, (by decide : (0 : Int) ≤ 1722), hJ M1 hP⟩
set_option maxRecDepth 100000 in
theorem lh_46a (hi : lu_in L i) {T : cm_M → Prop} (hC : cm_Call cm_ms 30 149 [.ref 0, .int (xs (i + 1).toNatClampNeg)] M (fun v M' => lp_kd 0 v ∧ T M')) (hJ : ∀ M', T M' → J (1553, law_L i, [], M')) : cm_wp cm_ms (cm_Call cm_ms 30) (some (L, xs)) lawP lu_c46a (lu_st 1553) J (fun _ _ => False) 80 (1542, law_L i, [], M) := by
  show 1000 = 1000 ∧ 0 ≤ (i + 1).toInt ∧ (i + 1).toInt < (L : Int) ∧ cm_cs [] ≤ 8 ∧ ev_nar1 _ _ = true ∧ (_ → _) ∧ cm_Call cm_ms 30 149 [.ref 0, .int (xs (i + 1).toNatClampNeg)] M _
  refine ⟨rfl, (lu_ix hi (a := 1) (by decide) (by decide)).1, (lu_ix hi (a := 1) (by decide) (by decide)).2, by decide, by decide, fun _ => Or.inr rfl, cm_Call_up hC (Nat.le_refl _) (fun v M1 hv => ?_)⟩
  obtain ⟨⟨r, rfl⟩, hP⟩ := hv
  show (Value.int r).category = 1 ∧ J (1553, law_L i, [], M1)
  exact ⟨rfl, hJ M1 hP⟩
set_option maxRecDepth 100000 in
theorem lh_46b (hi : lu_in L i) {T : cm_M → Prop} (hC : cm_Call cm_ms 30 288 [.ref 124, .int (xs (i + 1).toNatClampNeg)] M (fun v M' => lp_kd 0 v ∧ T M')) (hJ : ∀ M', T M' → J (1722, law_L i, [], M')) : cm_wp cm_ms (cm_Call cm_ms 30) (some (L, xs)) lawP lu_c46b (lu_st 1722) J (fun _ _ => False) 80 (1553, law_L i, [], M) := by
  show 1000 = 1000 ∧ 0 ≤ (i + 1).toInt ∧ (i + 1).toInt < (L : Int) ∧ cm_cs [] ≤ 8 ∧ ev_nar1 _ _ = true ∧ (_ → _) ∧ cm_Call cm_ms 30 288 [.ref 124, .int (xs (i + 1).toNatClampNeg)] M _
  refine ⟨rfl, (lu_ix hi (a := 1) (by decide) (by decide)).1, (lu_ix hi (a := 1) (by decide) (by decide)).2, by decide, by decide, fun _ => Or.inr rfl, cm_Call_up hC (Nat.le_refl _) (fun v M1 hv => ?_)⟩
  obtain ⟨⟨r, rfl⟩, hP⟩ := hv
  show (Value.int r).category = 1 ∧ 0 ≤ _ ∧ J (1722, law_L i, [], M1)
  exact ⟨rfl, (by decide : (0 : Int) ≤ 1722), hJ M1 hP⟩
end HALVES
section HALVES
variable {J : cm_S → Prop} {L : Nat} {xs : Nat → Int32} {i : Int32} {M : cm_M}
set_option maxRecDepth 100000 in
theorem lh_47a {T : cm_M → Prop} (hC : cm_Call cm_ms 30 150 [.ref 0] M (fun v M' => lp_kd 0 v ∧ T M')) (hJ : ∀ M', T M' → J (1572, law_L i, [], M')) : cm_wp cm_ms (cm_Call cm_ms 30) (some (L, xs)) lawP lu_c47a (lu_st 1572) J (fun _ _ => False) 80 (1567, law_L i, [], M) := by
  show cm_cs [] ≤ 8 ∧ ev_nar1 _ _ = true ∧ (_ → _) ∧ cm_Call cm_ms 30 150 [.ref 0] M _
  refine ⟨by decide, by decide, fun _ => Or.inr rfl, cm_Call_up hC (Nat.le_refl _) (fun v M1 hv => ?_)⟩
  obtain ⟨⟨r, rfl⟩, hP⟩ := hv
  show (Value.int r).category = 1 ∧ J (1572, law_L i, [], M1)
  exact ⟨rfl, hJ M1 hP⟩
set_option maxRecDepth 100000 in
theorem lh_47b {T : cm_M → Prop} (hC : cm_Call cm_ms 30 289 [.ref 124] M (fun v M' => lp_kd 0 v ∧ T M')) (hJ : ∀ M', T M' → J (1722, law_L i, [], M')) : cm_wp cm_ms (cm_Call cm_ms 30) (some (L, xs)) lawP lu_c47b (lu_st 1722) J (fun _ _ => False) 80 (1572, law_L i, [], M) := by
  show cm_cs [] ≤ 8 ∧ ev_nar1 _ _ = true ∧ (_ → _) ∧ cm_Call cm_ms 30 289 [.ref 124] M _
  refine ⟨by decide, by decide, fun _ => Or.inr rfl, cm_Call_up hC (Nat.le_refl _) (fun v M1 hv => ?_)⟩
  obtain ⟨⟨r, rfl⟩, hP⟩ := hv
  show (Value.int r).category = 1 ∧ 0 ≤ _ ∧ J (1722, law_L i, [], M1)
  exact ⟨rfl, (by decide : (0 : Int) ≤ 1722), hJ M1 hP⟩
set_option maxRecDepth 100000 in
theorem lh_48a (hi : lu_in L i) {T : cm_M → Prop} (hC : cm_Call cm_ms 30 151 [.ref 0, .int (xs (i + 1).toNatClampNeg)] M (fun v M' => lp_kd 0 v ∧ T M')) (hJ : ∀ M', T M' → J (1591, law_L i, [], M')) : cm_wp cm_ms (cm_Call cm_ms 30) (some (L, xs)) lawP lu_c48a (lu_st 1591) J (fun _ _ => False) 80 (1580, law_L i, [], M) := by
  show 1000 = 1000 ∧ 0 ≤ (i + 1).toInt ∧ (i + 1).toInt < (L : Int) ∧ cm_cs [] ≤ 8 ∧ ev_nar1 _ _ = true ∧ (_ → _) ∧ cm_Call cm_ms 30 151 [.ref 0, .int (xs (i + 1).toNatClampNeg)] M _
  refine ⟨rfl, (lu_ix hi (a := 1) (by decide) (by decide)).1, (lu_ix hi (a := 1) (by decide) (by decide)).2, by decide, by decide, fun _ => Or.inr rfl, cm_Call_up hC (Nat.le_refl _) (fun v M1 hv => ?_)⟩
  obtain ⟨⟨r, rfl⟩, hP⟩ := hv
  show (Value.int r).category = 1 ∧ J (1591, law_L i, [], M1)
  exact ⟨rfl, hJ M1 hP⟩
set_option maxRecDepth 100000 in
theorem lh_48b (hi : lu_in L i) {T : cm_M → Prop} (hC : cm_Call cm_ms 30 290 [.ref 124, .int (xs (i + 1).toNatClampNeg)] M (fun v M' => lp_kd 0 v ∧ T M')) (hJ : ∀ M', T M' → J (1722, law_L i, [], M')) : cm_wp cm_ms (cm_Call cm_ms 30) (some (L, xs)) lawP lu_c48b (lu_st 1722) J (fun _ _ => False) 80 (1591, law_L i, [], M) := by
  show 1000 = 1000 ∧ 0 ≤ (i + 1).toInt ∧ (i + 1).toInt < (L : Int) ∧ cm_cs [] ≤ 8 ∧ ev_nar1 _ _ = true ∧ (_ → _) ∧ cm_Call cm_ms 30 290 [.ref 124, .int (xs (i + 1).toNatClampNeg)] M _
  refine ⟨rfl, (lu_ix hi (a := 1) (by decide) (by decide)).1, (lu_ix hi (a := 1) (by decide) (by decide)).2, by decide, by decide, fun _ => Or.inr rfl, cm_Call_up hC (Nat.le_refl _) (fun v M1 hv => ?_)⟩
  obtain ⟨⟨r, rfl⟩, hP⟩ := hv
  show (Value.int r).category = 1 ∧ 0 ≤ _ ∧ J (1722, law_L i, [], M1)
  exact ⟨rfl, (by decide : (0 : Int) ≤ 1722), hJ M1 hP⟩
set_option maxRecDepth 100000 in
theorem lh_49a {T : cm_M → Prop} (hC : cm_Call cm_ms 30 152 [.ref 0] M (fun v M' => lp_kd 0 v ∧ T M')) (hJ : ∀ M', T M' → J (1610, law_L i, [], M')) : cm_wp cm_ms (cm_Call cm_ms 30) (some (L, xs)) lawP lu_c49a (lu_st 1610) J (fun _ _ => False) 80 (1605, law_L i, [], M) := by
  show cm_cs [] ≤ 8 ∧ ev_nar1 _ _ = true ∧ (_ → _) ∧ cm_Call cm_ms 30 152 [.ref 0] M _
  refine ⟨by decide, by decide, fun _ => Or.inr rfl, cm_Call_up hC (Nat.le_refl _) (fun v M1 hv => ?_)⟩
  obtain ⟨⟨r, rfl⟩, hP⟩ := hv
  show (Value.int r).category = 1 ∧ J (1610, law_L i, [], M1)
  exact ⟨rfl, hJ M1 hP⟩
set_option maxRecDepth 100000 in
theorem lh_49b {T : cm_M → Prop} (hC : cm_Call cm_ms 30 291 [.ref 124] M (fun v M' => lp_kd 0 v ∧ T M')) (hJ : ∀ M', T M' → J (1722, law_L i, [], M')) : cm_wp cm_ms (cm_Call cm_ms 30) (some (L, xs)) lawP lu_c49b (lu_st 1722) J (fun _ _ => False) 80 (1610, law_L i, [], M) := by
  show cm_cs [] ≤ 8 ∧ ev_nar1 _ _ = true ∧ (_ → _) ∧ cm_Call cm_ms 30 291 [.ref 124] M _
  refine ⟨by decide, by decide, fun _ => Or.inr rfl, cm_Call_up hC (Nat.le_refl _) (fun v M1 hv => ?_)⟩
  obtain ⟨⟨r, rfl⟩, hP⟩ := hv
  show (Value.int r).category = 1 ∧ 0 ≤ _ ∧ J (1722, law_L i, [], M1)
  exact ⟨rfl, (by decide : (0 : Int) ≤ 1722), hJ M1 hP⟩
set_option maxRecDepth 100000 in
theorem lh_50a {T : cm_M → Prop} (hC : cm_Call cm_ms 30 153 [.ref 0] M (fun v M' => lp_kd 0 v ∧ T M')) (hJ : ∀ M', T M' → J (1623, law_L i, [], M')) : cm_wp cm_ms (cm_Call cm_ms 30) (some (L, xs)) lawP lu_c50a (lu_st 1623) J (fun _ _ => False) 80 (1618, law_L i, [], M) := by
  show cm_cs [] ≤ 8 ∧ ev_nar1 _ _ = true ∧ (_ → _) ∧ cm_Call cm_ms 30 153 [.ref 0] M _
  refine ⟨by decide, by decide, fun _ => Or.inr rfl, cm_Call_up hC (Nat.le_refl _) (fun v M1 hv => ?_)⟩
  obtain ⟨⟨r, rfl⟩, hP⟩ := hv
  show (Value.int r).category = 1 ∧ J (1623, law_L i, [], M1)
  exact ⟨rfl, hJ M1 hP⟩
set_option maxRecDepth 100000 in
theorem lh_50b {T : cm_M → Prop} (hC : cm_Call cm_ms 30 292 [.ref 124] M (fun v M' => lp_kd 0 v ∧ T M')) (hJ : ∀ M', T M' → J (1722, law_L i, [], M')) : cm_wp cm_ms (cm_Call cm_ms 30) (some (L, xs)) lawP lu_c50b (lu_st 1722) J (fun _ _ => False) 80 (1623, law_L i, [], M) := by
  show cm_cs [] ≤ 8 ∧ ev_nar1 _ _ = true ∧ (_ → _) ∧ cm_Call cm_ms 30 292 [.ref 124] M _
  refine ⟨by decide, by decide, fun _ => Or.inr rfl, cm_Call_up hC (Nat.le_refl _) (fun v M1 hv => ?_)⟩
  obtain ⟨⟨r, rfl⟩, hP⟩ := hv
  show (Value.int r).category = 1 ∧ 0 ≤ _ ∧ J (1722, law_L i, [], M1)
  exact ⟨rfl, (by decide : (0 : Int) ≤ 1722), hJ M1 hP⟩
set_option maxRecDepth 100000 in
theorem lh_51a (hi : lu_in L i) {T : cm_M → Prop} (hC : cm_Call cm_ms 30 154 [.ref 0, .int (xs (i + 1).toNatClampNeg)] M (fun v M' => lp_kd 0 v ∧ T M')) (hJ : ∀ M', T M' → J (1642, law_L i, [], M')) : cm_wp cm_ms (cm_Call cm_ms 30) (some (L, xs)) lawP lu_c51a (lu_st 1642) J (fun _ _ => False) 80 (1631, law_L i, [], M) := by
  show 1000 = 1000 ∧ 0 ≤ (i + 1).toInt ∧ (i + 1).toInt < (L : Int) ∧ cm_cs [] ≤ 8 ∧ ev_nar1 _ _ = true ∧ (_ → _) ∧ cm_Call cm_ms 30 154 [.ref 0, .int (xs (i + 1).toNatClampNeg)] M _
  refine ⟨rfl, (lu_ix hi (a := 1) (by decide) (by decide)).1, (lu_ix hi (a := 1) (by decide) (by decide)).2, by decide, by decide, fun _ => Or.inr rfl, cm_Call_up hC (Nat.le_refl _) (fun v M1 hv => ?_)⟩
  obtain ⟨⟨r, rfl⟩, hP⟩ := hv
  show (Value.int r).category = 1 ∧ J (1642, law_L i, [], M1)
  exact ⟨rfl, hJ M1 hP⟩
set_option maxRecDepth 100000 in
theorem lh_51b (hi : lu_in L i) {T : cm_M → Prop} (hC : cm_Call cm_ms 30 293 [.ref 124, .int (xs (i + 1).toNatClampNeg)] M (fun v M' => lp_kd 0 v ∧ T M')) (hJ : ∀ M', T M' → J (1722, law_L i, [], M')) : cm_wp cm_ms (cm_Call cm_ms 30) (some (L, xs)) lawP lu_c51b (lu_st 1722) J (fun _ _ => False) 80 (1642, law_L i, [], M) := by
  show 1000 = 1000 ∧ 0 ≤ (i + 1).toInt ∧ (i + 1).toInt < (L : Int) ∧ cm_cs [] ≤ 8 ∧ ev_nar1 _ _ = true ∧ (_ → _) ∧ cm_Call cm_ms 30 293 [.ref 124, .int (xs (i + 1).toNatClampNeg)] M _
  refine ⟨rfl, (lu_ix hi (a := 1) (by decide) (by decide)).1, (lu_ix hi (a := 1) (by decide) (by decide)).2, by decide, by decide, fun _ => Or.inr rfl, cm_Call_up hC (Nat.le_refl _) (fun v M1 hv => ?_)⟩
  obtain ⟨⟨r, rfl⟩, hP⟩ := hv
  show (Value.int r).category = 1 ∧ 0 ≤ _ ∧ J (1722, law_L i, [], M1)
  exact ⟨rfl, (by decide : (0 : Int) ≤ 1722), hJ M1 hP⟩
end HALVES
section HALVES
variable {J : cm_S → Prop} {L : Nat} {xs : Nat → Int32} {i : Int32} {M : cm_M}
set_option maxRecDepth 100000 in
theorem lh_53a (hi : lu_in L i) (hM : ab_ok hp hN M) (hJ : ∀ M', lu_P M M' → J (1695, law_L i, [], M')) : cm_wp cm_ms (cm_Call cm_ms 30) (some (L, xs)) lawP lu_c53a (lu_st 1695) J (fun _ _ => False) 80 (1684, law_L i, [], M) := by
  show 1000 = 1000 ∧ 0 ≤ (i + 1).toInt ∧ (i + 1).toInt < (L : Int) ∧ cm_cs [] ≤ 8 ∧ ev_nar1 _ _ = true ∧ (_ → _) ∧ cm_Call cm_ms 30 155 [.ref 0, .int (xs (i + 1).toNatClampNeg)] M _
  refine ⟨rfl, (lu_ix hi (a := 1) (by decide) (by decide)).1, (lu_ix hi (a := 1) (by decide) (by decide)).2, by decide, by decide, fun _ => Or.inr rfl, cm_Call_up (lk_155 hM _) (Nat.le_refl _) (fun v M1 hv => ?_)⟩
  obtain ⟨⟨r, rfl⟩, hP⟩ := hv
  show (Value.int r).category = 1 ∧ J (1695, law_L i, [], M1)
  exact ⟨rfl, hJ M1 hP⟩
set_option maxRecDepth 100000 in
theorem lh_53b (hi : lu_in L i) (hM : ab_ok hp hN M) (hJ : ∀ M', lu_P M M' → J (1722, law_L i, [], M')) : cm_wp cm_ms (cm_Call cm_ms 30) (some (L, xs)) lawP lu_c53b (lu_st 1722) J (fun _ _ => False) 80 (1695, law_L i, [], M) := by
  show 1000 = 1000 ∧ 0 ≤ (i + 1).toInt ∧ (i + 1).toInt < (L : Int) ∧ cm_cs [] ≤ 8 ∧ ev_nar1 _ _ = true ∧ (_ → _) ∧ cm_Call cm_ms 30 295 [.ref 124, .int (xs (i + 1).toNatClampNeg)] M _
  refine ⟨rfl, (lu_ix hi (a := 1) (by decide) (by decide)).1, (lu_ix hi (a := 1) (by decide) (by decide)).2, by decide, by decide, fun _ => Or.inr rfl, cm_Call_up (lk_295 hM _) (Nat.le_refl _) (fun v M1 hv => ?_)⟩
  obtain ⟨⟨r, rfl⟩, hP⟩ := hv
  show (Value.int r).category = 1 ∧ 0 ≤ _ ∧ J (1722, law_L i, [], M1)
  exact ⟨rfl, (by decide : (0 : Int) ≤ 1722), hJ M1 hP⟩
set_option maxRecDepth 100000 in
theorem lh_54a (hM : ab_ok hp hN M) (hJ : ∀ M', lu_P M M' → J (1714, law_L i, [], M')) : cm_wp cm_ms (cm_Call cm_ms 30) (some (L, xs)) lawP lu_c54a (lu_st 1714) J (fun _ _ => False) 80 (1709, law_L i, [], M) := by
  show cm_cs [] ≤ 8 ∧ ev_nar1 _ _ = true ∧ (_ → _) ∧ cm_Call cm_ms 30 156 [.ref 0] M _
  refine ⟨by decide, by decide, fun _ => Or.inr rfl, cm_Call_up (lk_156 hM) (Nat.le_refl _) (fun v M1 hv => ?_)⟩
  obtain ⟨⟨r, rfl⟩, hP⟩ := hv
  show (Value.int r).category = 1 ∧ J (1714, law_L i, [], M1)
  exact ⟨rfl, hJ M1 hP⟩
set_option maxRecDepth 100000 in
theorem lh_54b (hM : ab_ok hp hN M) (hJ : ∀ M', lu_P M M' → J (1722, law_L i, [], M')) : cm_wp cm_ms (cm_Call cm_ms 30) (some (L, xs)) lawP lu_c54b (lu_st 1722) J (fun _ _ => False) 80 (1714, law_L i, [], M) := by
  show cm_cs [] ≤ 8 ∧ ev_nar1 _ _ = true ∧ (_ → _) ∧ cm_Call cm_ms 30 296 [.ref 124] M _
  refine ⟨by decide, by decide, fun _ => Or.inr rfl, cm_Call_up (lk_296 hM) (Nat.le_refl _) (fun v M1 hv => ?_)⟩
  obtain ⟨⟨r, rfl⟩, hP⟩ := hv
  show (Value.int r).category = 1 ∧ 0 ≤ _ ∧ J (1722, law_L i, [], M1)
  exact ⟨rfl, (by decide : (0 : Int) ≤ 1722), hJ M1 hP⟩
end HALVES
theorem hd_up {d : Nat} {mi : ev_MI} {P1 P2 : cm_K} {S : cm_S} (h : cm_At cm_ms d mi P1 S) (hp : ∀ v M, P1 v M → P2 v M) : cm_At cm_ms d mi P2 S := cm_At_im h hp
/-- the rest of a method by AB -/
theorem hd_rest {us : List ab_Ct} {inl : List (Nat × ev_MI)} (hin : ∀ q ∈ inl, cm_ms[q.1]? = some q.2) {d dd n : Nat} (hus : ∀ c ∈ us, ab_CT cm_ms hp hN d c) {c : ab_Ct} {mi : ev_MI} (hmi : cm_ms[c.1]? = some mi) {tms : List ab_Tm} {S : ab_S} {C : cm_S} {M : cm_M} {ρ : List Int32} (hlen : ρ.length = c.2.2.1.length) (h2 : ab_chk1 cm_ms hp us inl dd n c mi tms none S = true) (h3 : tms.all (fun T => ab_chk1 cm_ms hp us inl dd n c mi tms (some T.2) T.1) = true) (hmu : ∀ T ∈ tms, T.2.all (ab_tok T.1.2.2.2.1) = true) (hG : ab_G hp hN M c.2.2.2.2.1 ρ S C) : cm_At cm_ms (d + dd) mi (ab_Post hp hN M c.2.2.2.2.1 ρ c.2.2.2.2.2) C := by
  have loops : ∀ (k : Nat) (T : ab_Tm), T ∈ tms → ∀ (eT : List Int32) (C' : cm_S), ab_G hp hN M c.2.2.2.2.1 (ρ ++ eT) T.1 C' → ab_mu (ρ ++ eT) T.2 < k → cm_At cm_ms (d + dd) mi (ab_Post hp hN M c.2.2.2.2.1 ρ c.2.2.2.2.2) C' := by
    intro k
    induction k with
    | zero => intro T hT eT C' hG hlt; exact absurd hlt (Nat.not_lt_zero _)
    | succ k ih =>
      intro T hT eT C' hG hlt
      refine ab_chk1_ok cm_ms_ok cm_ms_rc hin hNP hus hmi hlen (List.all_eq_true.mp h3 T hT) hG (fun T' hT' e' C2 hG2 hm => ih T' hT' e' C2 hG2 ?_) (fun m hm q hq => ?_)
      · have := hm T.2 rfl
        omega
      · cases hm
        have h4 := List.all_eq_true.mp (hmu T hT) q hq
        simp only [ab_tok, Bool.and_eq_true] at h4
        exact ab_def_ok h4.1 hG.2.2.2.1
  refine ab_chk1_ok (e := []) cm_ms_ok cm_ms_rc hin hNP hus hmi hlen h2 (by rw [ab_nil]; exact hG) (fun T hT eT C' hG _ => loops _ T hT eT C' hG (Nat.lt_succ_self _)) (fun m hm => by cases hm)
noncomputable def tw_c (k rc : Nat) (K : ab_Ke) (md : ab_Md) (ca : ab_Ca) : ab_Ct := (k, [(1, 0, [rc]), (3, 0, [])], [K], [], md, [([(3, 1, [])], [K, ((-2147483648), 2147483647, 0, (0, 0, []), (0, 0, []))], ca)])
noncomputable def tw_S (pc rc : Nat) (K : ab_Ke) (ca : ab_Ca) : ab_S := (pc, [(0, (1, 0, [rc])), (1, (3, 0, []))], [], [K], ca)
theorem tw_G {pc rc : Nat} {K : ab_Ke} {ca : ab_Ca} {md : ab_Md} {M : cm_M} {n : Int32} (hM : ab_ok hp hN M) (hK : K.2.2.1 = 0 ∧ K.1 ≤ n.toInt ∧ n.toInt ≤ K.2.1) (hca : ab_ca [n] M ca) : ab_G hp hN M md [n] (tw_S pc rc K ca) (pc, [(0, .ref rc), (1, .int n)], [], M) := by
  refine ⟨rfl, ?_, trivial, lk_k ⟨hK, trivial⟩, hM, ab_fr_rf _ _, hca⟩
  intro q hq
  simp only [tw_S, List.mem_cons, List.not_mem_nil, or_false] at hq
  rcases hq with rfl | rfl
  · exact ⟨_, rfl, rc, List.mem_singleton.mpr rfl, rfl⟩
  · exact ⟨_, rfl, n, rfl, rfl⟩
theorem tw_out {k rc : Nat} {K : ab_Ke} {md : ab_Md} {ca : ab_Ca} {M : cm_M} {n : Int32} {v : Option Value} {M' : cm_M} (h : ab_Post hp hN M md [n] (tw_c k rc K md ca).2.2.2.2.2 v M') : lp_kd 0 v ∧ ab_ok hp hN M' ∧ ab_fr md M M' ∧ ∃ ext, ab_ca ([n] ++ ext) M' ca := by
  obtain ⟨o, ho, ext, h1, h2, h3⟩ := h
  have ho := List.mem_singleton.mp ho
  subst ho
  exact ⟨lk_kd_ok (kd := 0) rfl h1, h3.1, h3.2.1, ext, h3.2.2⟩
noncomputable def tw_T (c i : Nat) (M : cm_M) (n : Int32) (M' : cm_M) : Prop := ab_ok hp hN M' ∧ M'.1 c i = if 0 ≤ n.toInt ∧ n.toInt ≤ (M.1 c i).toInt then 0 else M.1 c i
noncomputable def tw_PC (M : cm_M) (n : Int32) : cm_K := fun v M' => lp_kd 0 v ∧ (tw_T 0 1 M n M' ∧ M'.1 124 2 = M.1 124 2 ∧ (∀ j, M'.1 125 j = M.1 125 j) ∧ ∀ c j, 124 ≤ c → M'.1 c j = M.1 c j)
noncomputable def tw_PM (M : cm_M) (n : Int32) : cm_K := fun v M' => lp_kd 0 v ∧ (tw_T 124 2 M n M' ∧ M'.1 0 1 = M.1 0 1 ∧ (∀ j, M'.1 1 j = M.1 1 j) ∧ ∀ c j, c < 124 → M'.1 c j = M.1 c j ∧ M'.2.2 c j = M.2.2 c j)
noncomputable abbrev tw_md6 : ab_Md := ct_232.2.2.2.2.1
noncomputable abbrev tw_md19 : ab_Md := ct_233.2.2.2.2.1
noncomputable abbrev tw_mdm : ab_Md := ct_352.2.2.2.2.1
set_option maxRecDepth 1000000 in
theorem tw_in6 {M : cm_M} (hM : ab_ok hp hN M) {n : Int32} (h0 : 0 ≤ n.toInt) (h1 : n.toInt ≤ 900) (hs : M.2.2 0 4 = some 6) : cm_At cm_ms 17 mr_95 (ab_Post hp hN M tw_md6 [n] (tw_c 95 0 (0, 900, 0, (0, 0, []), (0, 0, [])) tw_md6 [(0, 1, (0, 0, []))]).2.2.2.2.2) (18, [(0, .ref 0), (1, .int n)], [], M) :=
  hd_rest (us := [ct_22, ct_228]) (inl := inl0) (hin := inl0_ok) (d := 16) (dd := 1) (n := 20000) (tms := []) (List.forall_mem_cons.mpr ⟨ab_CT_up ck_22 (by decide), List.forall_mem_cons.mpr ⟨ab_CT_up ck_228 (by decide), fun _ h => absurd h List.not_mem_nil⟩⟩) (c := tw_c 95 0 (0, 900, 0, (0, 0, []), (0, 0, [])) tw_md6 [(0, 1, (0, 0, []))]) (mi := mr_95) rfl rfl (S := tw_S 18 0 (0, 900, 0, (0, 0, []), (0, 0, [])) [(0, 4, (1, 0, [6]))]) (by decide +kernel) (by decide +kernel) (by decide +kernel) (tw_G hM ⟨rfl, h0, h1⟩ (fun q hq => by rw [List.mem_singleton.mp hq]; unfold ab_ce; rw [if_neg (by decide)]; show ab_v _ _ (cm_rq (M.2.2 0 4)); rw [hs]; exact ⟨6, List.mem_singleton.mpr rfl, rfl⟩))
set_option maxRecDepth 1000000 in
theorem tw_in19 {M : cm_M} (hM : ab_ok hp hN M) {n : Int32} (h0 : 0 ≤ n.toInt) (h1 : n.toInt ≤ 900) (hs : M.2.2 0 4 = some 19) : cm_At cm_ms 17 mr_95 (ab_Post hp hN M tw_md19 [n] (tw_c 95 0 (0, 900, 0, (0, 0, []), (0, 0, [])) tw_md19 [(0, 1, (0, 0, []))]).2.2.2.2.2) (18, [(0, .ref 0), (1, .int n)], [], M) :=
  hd_rest (us := [ct_22, ct_229]) (inl := inl0) (hin := inl0_ok) (d := 16) (dd := 1) (n := 20000) (tms := []) (List.forall_mem_cons.mpr ⟨ab_CT_up ck_22 (by decide), List.forall_mem_cons.mpr ⟨ab_CT_up ck_229 (by decide), fun _ h => absurd h List.not_mem_nil⟩⟩) (c := tw_c 95 0 (0, 900, 0, (0, 0, []), (0, 0, [])) tw_md19 [(0, 1, (0, 0, []))]) (mi := mr_95) rfl rfl (S := tw_S 18 0 (0, 900, 0, (0, 0, []), (0, 0, [])) [(0, 4, (1, 0, [19]))]) (by decide +kernel) (by decide +kernel) (by decide +kernel) (tw_G hM ⟨rfl, h0, h1⟩ (fun q hq => by rw [List.mem_singleton.mp hq]; unfold ab_ce; rw [if_neg (by decide)]; show ab_v _ _ (cm_rq (M.2.2 0 4)); rw [hs]; exact ⟨19, List.mem_singleton.mpr rfl, rfl⟩))
set_option maxRecDepth 1000000 in
theorem tw_no {M : cm_M} (hM : ab_ok hp hN M) {n : Int32} : cm_At cm_ms 17 mr_95 (ab_Post hp hN M [(0, [14])] [n] (tw_c 95 0 ((-2147483648), 2147483647, 0, (0, 0, []), (0, 0, [])) [(0, [14])] []).2.2.2.2.2) (12, [(0, .ref 0), (1, .int n)], [], M) :=
  hd_rest (us := []) (inl := inl0) (hin := inl0_ok) (d := 16) (dd := 1) (n := 200) (tms := []) (fun _ h => absurd h List.not_mem_nil) (c := tw_c 95 0 ((-2147483648), 2147483647, 0, (0, 0, []), (0, 0, [])) [(0, [14])] []) (mi := mr_95) rfl rfl (S := tw_S 12 0 ((-2147483648), 2147483647, 0, (0, 0, []), (0, 0, [])) []) (by decide +kernel) (by decide +kernel) (by decide +kernel) (tw_G hM (lu_f n) (fun q hq => nomatch hq))
theorem tw_sp {M : cm_M} (h : ab_ok hp hN M) : M.2.2 0 4 = some 6 ∨ M.2.2 0 4 = some 19 := by
  have h1 := h.2.1 0 4
  rw [show ab_hr hp 0 4 = some (false, [6, 19]) from by decide +kernel] at h1
  cases hc : M.2.2 0 4 with
  | none => rw [hc] at h1; cases h1
  | some q =>
    rw [hc] at h1
    have h1 : q ∈ [6, 19] := h1
    simp only [List.mem_cons, List.not_mem_nil, or_false] at h1
    rcases h1 with rfl | rfl
    · exact Or.inl rfl
    · exact Or.inr rfl
theorem tw_max {M : cm_M} (h : ab_ok hp hN M) : (M.1 0 1).toInt ≤ 900 ∧ (M.1 124 2).toInt ≤ 900 := by
  have h2 := h.1 0 1
  have h3 := h.1 124 2
  rw [show ab_hi hp 0 1 = (0, 900) from by decide +kernel] at h2
  rw [show ab_hi hp 124 2 = (0, 900) from by decide +kernel] at h3
  exact ⟨h2.2, h3.2⟩
theorem tw_n0 {n : Int32} (h : ev_cmp 2 n 0 = true) : n.toInt < 0 := by
  have h1 : n < 0 := of_decide_eq_true h
  rw [Int32.lt_iff_toInt_lt] at h1
  exact h1
theorem tw_n1 {n : Int32} (h : ev_cmp 2 n 0 = false) : 0 ≤ n.toInt := by
  have h1 : ¬ n < 0 := of_decide_eq_false h
  rw [Int32.lt_iff_toInt_lt] at h1
  have h0 : (0 : Int32).toInt = 0 := by decide
  omega
theorem tw_g1 {n t : Int32} (h : ev_cmp 4 n t = true) : t.toInt < n.toInt := by
  have h1 : n > t := of_decide_eq_true h
  exact Int32.lt_iff_toInt_lt.mp h1
theorem tw_g0 {n t : Int32} (h : ev_cmp 4 n t = false) : n.toInt ≤ t.toInt := by
  have h1 : ¬ n > t := of_decide_eq_false h
  have h2 : ¬ t.toInt < n.toInt := fun hc => h1 (Int32.lt_iff_toInt_lt.mpr hc)
  omega
theorem tw_l1 {n t : Int32} (h : ev_cmp 5 n t = true) : n.toInt ≤ t.toInt := by
  have h1 : n ≤ t := of_decide_eq_true h
  rw [Int32.le_iff_toInt_le] at h1
  exact h1
theorem tw_l0 {n t : Int32} (h : ev_cmp 5 n t = false) : t.toInt < n.toInt := by
  have h1 : ¬ n ≤ t := of_decide_eq_false h
  rw [Int32.le_iff_toInt_le] at h1
  omega
set_option maxRecDepth 1000000 in
theorem hd_town {M : cm_M} (hM : ab_ok hp hN M) (n : Int32) : cm_Call cm_ms 30 95 [.ref 0, .int n] M (tw_PC M n) := by
  have hno : ¬ (0 ≤ n.toInt ∧ n.toInt ≤ (M.1 0 1).toInt) → cm_At cm_ms 17 mr_95 (tw_PC M n) (12, [(0, .ref 0), (1, .int n)], [], M) := fun hc => hd_up (tw_no hM) (fun v M' hv => by
    obtain ⟨k0, k1, k2, -⟩ := tw_out hv
    exact ⟨k0, ⟨k1, by rw [if_neg hc]; exact (k2 0 1 (by decide +kernel)).1⟩, (k2 124 2 (by decide +kernel)).1, fun j => (k2 125 j (lk_lt_in (by decide +kernel) (by decide))).1, fun c j q => (k2 c j (lk_lt_in (by decide +kernel) q)).1⟩)
  have hyes : 0 ≤ n.toInt → n.toInt ≤ (M.1 0 1).toInt → cm_At cm_ms 17 mr_95 (tw_PC M n) (18, [(0, .ref 0), (1, .int n)], [], M) := by
    intro h0 h1
    have h9 := (tw_max hM).1
    rcases tw_sp hM with hs | hs
    · refine hd_up (tw_in6 hM h0 (by omega) hs) (fun v M' hv => ?_)
      obtain ⟨k0, k1, k2, ext, k3⟩ := tw_out hv
      have k4 : some (Int32.ofInt 0) = some (M'.1 0 1) := k3 (0, 1, (0, 0, [])) List.mem_cons_self
      exact ⟨k0, ⟨k1, by rw [if_pos ⟨h0, h1⟩]; exact (Option.some.inj k4).symm⟩, (k2 124 2 (by decide +kernel)).1, fun j => (k2 125 j (lk_lt_in (by decide +kernel) (by decide))).1, fun c j q => (k2 c j (lk_lt_in (by decide +kernel) q)).1⟩
    · refine hd_up (tw_in19 hM h0 (by omega) hs) (fun v M' hv => ?_)
      obtain ⟨k0, k1, k2, ext, k3⟩ := tw_out hv
      have k4 : some (Int32.ofInt 0) = some (M'.1 0 1) := k3 (0, 1, (0, 0, [])) List.mem_cons_self
      exact ⟨k0, ⟨k1, by rw [if_pos ⟨h0, h1⟩]; exact (Option.some.inj k4).symm⟩, (k2 124 2 (by decide +kernel)).1, fun j => (k2 125 j (lk_lt_in (by decide +kernel) (by decide))).1, fun c j q => (k2 c j (lk_lt_in (by decide +kernel) q)).1⟩
  refine cm_Call_up (cm_Call_of cm_ms_ok (k := 95) (mi := mr_95) rfl (by show 2 ≤ 3; decide) ?_) (show 17 + 1 ≤ 30 by decide) (fun _ _ h => h)
  refine cm_At_run cm_ms_ok (k := 95) rfl (stops := [(12, [0, 1]), (18, [0, 1])]) (J := cm_At cm_ms 17 mr_95 (tw_PC M n)) (fun S hS => hS) (n := 20) ?_
  show 0 ≤ _ ∧ (ev_cmp 2 n 0 = true → cm_At cm_ms 17 mr_95 (tw_PC M n) (12, [(0, .ref 0), (1, .int n)], [], M)) ∧ (ev_cmp 2 n 0 = false → (cm_kind 0).1 = _ ∧ _ < _ ∧ 0 ≤ _ ∧ (ev_cmp 5 n (M.1 0 1) = true → cm_At cm_ms 17 mr_95 (tw_PC M n) (18, [(0, .ref 0), (1, .int n)], [], M)) ∧ (ev_cmp 5 n (M.1 0 1) = false → cm_At cm_ms 17 mr_95 (tw_PC M n) (12, [(0, .ref 0), (1, .int n)], [], M)))
  exact ⟨(by decide : (0 : Int) ≤ 12), fun h => hno (fun hc => by have := tw_n0 h; omega), fun h => ⟨by decide, by decide, (by decide : (0 : Int) ≤ 18), fun h2 => hyes (tw_n1 h) (tw_l1 h2), fun h2 => hno (fun hc => by have := tw_l0 h2; omega)⟩⟩
set_option maxRecDepth 1000000 in
theorem tw_good : ab_CT cm_ms hp hN 1 (164, [(1, 0, [124])], [], [], [(124, [0, 11])], [([], [], [(124, 0, (0, 0, [])), (124, 11, (0, 0, []))])]) := ab_chk_ok (us := []) (inl := []) (hin := fun _ h => nomatch h) (d := 0) (dd := 0) (n := 100) (tms := []) cm_ms_ok cm_ms_rc hNP (fun _ h => absurd h List.not_mem_nil) (by decide +kernel) (by decide +kernel)
theorem tw_iv {M : cm_M} (n t : Int32) : cm_Call cm_ms 1 167 [.int n, .int 0, .int t] M (fun v M' => M' = M ∧ ((v = some (.int 1) ∧ 0 ≤ n.toInt ∧ n.toInt ≤ t.toInt) ∨ (v = some (.int 0) ∧ ¬ (0 ≤ n.toInt ∧ n.toInt ≤ t.toInt)))) := by
  refine cm_Call_of cm_ms_ok (k := 167) (mi := mr_167) rfl (by show 3 ≤ 3; decide) ?_
  refine cm_At_run cm_ms_ok (k := 167) rfl (stops := []) (J := fun _ => False) (fun S hS => hS.elim) (n := 20) ?_
  show 0 ≤ _ ∧ (ev_cmp 2 n 0 = true → ((0 : Int32) = 0 ∨ _) ∧ _) ∧ (ev_cmp 2 n 0 = false → 0 ≤ _ ∧ (ev_cmp 4 n t = true → ((0 : Int32) = 0 ∨ _) ∧ _) ∧ (ev_cmp 4 n t = false → 0 ≤ _ ∧ ((1 : Int32) = 0 ∨ _) ∧ _))
  refine ⟨(by decide : (0 : Int) ≤ 14), fun h => ⟨Or.inl rfl, rfl, Or.inr ⟨rfl, fun hc => by have := tw_n0 h; omega⟩⟩, fun h => ⟨(by decide : (0 : Int) ≤ 14), fun h2 => ⟨Or.inl rfl, rfl, Or.inr ⟨rfl, fun hc => by have := tw_g1 h2; omega⟩⟩, fun h2 => ⟨(by decide : (0 : Int) ≤ 15), Or.inr rfl, rfl, Or.inl ⟨rfl, tw_n1 h, by have := tw_g0 h2; omega⟩⟩⟩⟩
set_option maxRecDepth 1000000 in
theorem tw_inm {M : cm_M} (hM : ab_ok hp hN M) {n : Int32} (h0 : 0 ≤ n.toInt) (h1 : n.toInt ≤ 900) (e0 : M.1 124 0 = 0) (e11 : M.1 124 11 = 0) : cm_At cm_ms 15 mr_191 (ab_Post hp hN M tw_mdm [n] (tw_c 191 124 (0, 900, 0, (0, 0, []), (0, 0, [])) tw_mdm [(124, 2, (0, 0, []))]).2.2.2.2.2) (22, [(0, .ref 124), (1, .int n)], [], M) :=
  hd_rest (us := [ct_296, ct_299, ct_335, ct_351]) (inl := inl0) (hin := inl0_ok) (d := 14) (dd := 1) (n := 20000) (tms := [((39, [(0, (1, 0, [124])), (1, (3, 0, [])), (2, (3, 1, []))], [], [(0, 900, 0, (0, 0, []), (0, 0, [])), (0, 213, 0, (0, 0, []), (0, 0, []))], [(124, 0, (0, 0, [])), (124, 2, (0, 0, [])), (124, 9, (0, 0, [])), (124, 11, (0, 0, [])), (124, 13, (0, 0, []))]), [(0, 2, (0, 0, [])), ((-1), 2147483648, (3, 1, [])), (0, 1000, (0, 0, [])), (0, 0, (0, 0, [])), (0, 0, (0, 0, [])), (0, 0, (0, 0, [])), (0, 0, (0, 0, [])), (0, 0, (0, 0, [])), (0, 0, (0, 0, [])), (0, 0, (0, 0, [])), (0, 0, (0, 0, []))]), ((77, [(0, (1, 0, [124]))], [], [(0, 900, 0, (0, 0, []), (0, 0, [])), (0, 6, 0, (0, 0, []), (0, 0, [])), (0, 5, 0, (0, 0, []), (0, 0, [])), (0, 9, 0, (0, 0, []), (0, 0, [])), (0, 6, 0, (0, 0, []), (0, 0, [])), (0, 9, 0, (0, 0, []), (0, 0, [])), (0, 5, 0, (0, 0, []), (0, 0, [])), (0, 1, 0, (0, 0, []), (0, 0, [])), (0, 1000, 0, (0, 0, []), (0, 0, [])), (0, 1000, 0, (0, 0, []), (0, 0, [])), (0, 1000, 0, (0, 0, []), (0, 0, []))], [(124, 0, (0, 0, [])), (124, 2, (0, 0, [])), (124, 3, (3, 0, [])), (124, 11, (0, 0, [])), (124, 13, (0, 1, [])), (128, 3, (3, 1, [])), (128, 4, (3, 2, [])), (128, 5, (3, 3, [])), (128, 6, (3, 4, [])), (128, 7, (3, 5, [])), (128, 8, (3, 6, [])), (128, 10, (3, 7, [])), (128, 66, (3, 8, [])), (128, 67, (3, 9, [])), (128, 68, (3, 10, []))]), [(0, 0, (0, 0, [])), (0, 1000, (0, 0, [])), (0, 0, (0, 0, [])), (0, 0, (0, 0, [])), (0, 0, (0, 0, [])), (0, 0, (0, 0, [])), (0, 0, (0, 0, [])), (0, 0, (0, 0, [])), (0, 0, (0, 0, [])), (0, 0, (0, 0, [])), (0, 0, (0, 0, []))]), ((77, [(0, (1, 0, [124]))], [], [(0, 900, 0, (0, 0, []), (0, 0, [])), (0, 6, 0, (0, 0, []), (0, 0, [])), (0, 5, 0, (0, 0, []), (0, 0, [])), (0, 9, 0, (0, 0, []), (0, 0, [])), (0, 6, 0, (0, 0, []), (0, 0, [])), (0, 9, 0, (0, 0, []), (0, 0, [])), (0, 5, 0, (0, 0, []), (0, 0, [])), (1, 1, 0, (0, 0, []), (0, 0, [])), (0, 1000, 0, (0, 0, []), (0, 0, [])), (0, 1000, 0, (0, 0, []), (0, 0, [])), (0, 1000, 0, (0, 0, []), (0, 0, []))], [(124, 0, (0, 0, [])), (124, 2, (0, 0, [])), (124, 3, (3, 0, [])), (124, 11, (0, 0, [])), (124, 13, (0, 0, [])), (128, 3, (3, 1, [])), (128, 4, (3, 2, [])), (128, 5, (3, 3, [])), (128, 6, (3, 4, [])), (128, 7, (3, 5, [])), (128, 8, (3, 6, [])), (128, 10, (3, 7, [])), (128, 66, (3, 8, [])), (128, 67, (3, 9, [])), (128, 68, (3, 10, []))]), [(0, 1, (0, 0, [])), ((-1), 2147483648, (3, 7, [])), ((-1), 2147483648, (3, 1, [])), ((-1), 2147483648, (3, 2, [])), ((-1), 2147483648, (3, 3, [])), ((-1), 2147483648, (3, 4, [])), ((-1), 2147483648, (3, 5, [])), ((-1), 2147483648, (3, 6, [])), ((-1), 2147483648, (3, 8, [])), ((-1), 2147483648, (3, 9, [])), ((-1), 2147483648, (3, 10, []))])]) (List.forall_mem_cons.mpr ⟨ab_CT_up ck_296 (by decide), List.forall_mem_cons.mpr ⟨ab_CT_up ck_299 (by decide), List.forall_mem_cons.mpr ⟨ab_CT_up ck_335 (by decide), List.forall_mem_cons.mpr ⟨ab_CT_up ck_351 (by decide), fun _ h => absurd h List.not_mem_nil⟩⟩⟩⟩) (c := tw_c 191 124 (0, 900, 0, (0, 0, []), (0, 0, [])) tw_mdm [(124, 2, (0, 0, []))]) (mi := mr_191) rfl rfl (S := tw_S 22 124 (0, 900, 0, (0, 0, []), (0, 0, [])) [(124, 0, (0, 0, [])), (124, 11, (0, 0, []))]) (by decide +kernel) (by decide +kernel) (by decide +kernel) (tw_G hM ⟨rfl, h0, h1⟩ (fun q hq => by
    simp only [List.mem_cons, List.not_mem_nil, or_false] at hq
    rcases hq with rfl | rfl
    · exact congrArg some e0.symm
    · exact congrArg some e11.symm))
set_option maxRecDepth 1000000 in
theorem tw_nom {M : cm_M} (hM : ab_ok hp hN M) {n : Int32} : cm_At cm_ms 15 mr_191 (ab_Post hp hN M [(124, [0, 11])] [n] (tw_c 191 124 ((-2147483648), 2147483647, 0, (0, 0, []), (0, 0, [])) [(124, [0, 11])] []).2.2.2.2.2) (16, [(0, .ref 124), (1, .int n)], [], M) :=
  hd_rest (us := []) (inl := inl0) (hin := inl0_ok) (d := 14) (dd := 1) (n := 200) (tms := []) (fun _ h => absurd h List.not_mem_nil) (c := tw_c 191 124 ((-2147483648), 2147483647, 0, (0, 0, []), (0, 0, [])) [(124, [0, 11])] []) (mi := mr_191) rfl rfl (S := tw_S 16 124 ((-2147483648), 2147483647, 0, (0, 0, []), (0, 0, [])) []) (by decide +kernel) (by decide +kernel) (by decide +kernel) (tw_G hM (lu_f n) (fun q hq => nomatch hq))
set_option maxRecDepth 1000000 in
theorem hd_mtown {M : cm_M} (hM : ab_ok hp hN M) (n : Int32) : cm_Call cm_ms 30 191 [.ref 124, .int n] M (tw_PM M n) := by
  refine cm_Call_up (cm_Call_of cm_ms_ok (k := 191) (mi := mr_191) rfl (by show 2 ≤ 3; decide) ?_) (show 15 + 1 ≤ 30 by decide) (fun _ _ h => h)
  refine cm_At_run cm_ms_ok (k := 191) rfl (stops := [(16, [0, 1]), (22, [0, 1])]) (J := cm_At cm_ms 15 mr_191 (tw_PM M n)) (fun S hS => hS) (n := 20) ?_
  show cm_cs [] ≤ 8 ∧ ev_nar1 _ _ = true ∧ (_ → _) ∧ cm_Call cm_ms 15 164 [.ref 124] M _
  refine ⟨by decide, by decide, fun _ => Or.inr rfl, cm_Call_up (tw_good [] [.ref 124] M ⟨⟨124, List.mem_cons_self, rfl⟩, trivial⟩ ⟨rfl, fun j r x h => by cases h⟩ hM (fun q hq => nomatch hq)) (by decide) (fun v M1 hv => ?_)⟩
  obtain ⟨o, ho, ext, h1, h2, k1, k2, k3⟩ := hv
  have ho := List.mem_singleton.mp ho
  subst ho
  cases v with
  | some v => exact h1.elim
  | none =>
  have e0 : some (Int32.ofInt 0) = some (M1.1 124 0) := k3 (124, 0, (0, 0, [])) List.mem_cons_self
  have e11 : some (Int32.ofInt 0) = some (M1.1 124 11) := k3 (124, 11, (0, 0, [])) (List.mem_cons_of_mem _ List.mem_cons_self)
  have e2 : M1.1 124 2 = M.1 124 2 := (k2 124 2 (by decide +kernel)).1
  have e1 : M1.1 0 1 = M.1 0 1 := (k2 0 1 (by decide +kernel)).1
  have e5 : ∀ c j, c < 124 → M1.1 c j = M.1 c j ∧ M1.2.2 c j = M.2.2 c j := fun c j q => ⟨(k2 c j (lk_ge_in (by decide +kernel) q)).1, (k2 c j (lk_ge_in (by decide +kernel) q)).2.2⟩
  show (cm_kind 124).1 = _ ∧ _ < _ ∧ cm_cs [] ≤ 8 ∧ ev_nar1 _ _ = true ∧ (_ → _) ∧ cm_Call cm_ms 15 167 [.int n, .int 0, .int (M1.1 124 2)] M1 _
  refine ⟨by decide, by decide, by decide, by decide, fun h => absurd h (by decide), cm_Call_up (tw_iv n (M1.1 124 2)) (by decide) (fun v M2 hv => ?_)⟩
  obtain ⟨rfl, ⟨rfl, g0, g1⟩ | ⟨rfl, g⟩⟩ := hv
  · show 0 ≤ _ ∧ (ev_cmp 1 1 0 = true → cm_At cm_ms 15 mr_191 (tw_PM M n) (22, [(0, .ref 124), (1, .int n)], [], M2)) ∧ (ev_cmp 1 1 0 = false → _)
    refine ⟨(by decide : (0 : Int) ≤ 22), fun _ => ?_, fun h => by cases h⟩
    have h9 := (tw_max k1).2
    refine hd_up (tw_inm k1 g0 (by omega) (Option.some.inj e0).symm (Option.some.inj e11).symm) (fun v M' hv => ?_)
    obtain ⟨z0, z1, z2, ext, z3⟩ := tw_out hv
    have z4 : some (Int32.ofInt 0) = some (M'.1 124 2) := z3 (124, 2, (0, 0, [])) List.mem_cons_self
    exact ⟨z0, ⟨z1, by rw [← e2, if_pos ⟨g0, g1⟩]; exact (Option.some.inj z4).symm⟩, ((z2 0 1 (by decide +kernel)).1).trans e1, fun j => ((z2 1 j (lk_ge_in (by decide +kernel) (by decide))).1).trans (e5 1 j (by decide)).1, fun c j q => ⟨((z2 c j (lk_ge_in (by decide +kernel) q)).1).trans (e5 c j q).1, ((z2 c j (lk_ge_in (by decide +kernel) q)).2.2).trans (e5 c j q).2⟩⟩
  · show 0 ≤ _ ∧ (ev_cmp 1 0 0 = true → _) ∧ (ev_cmp 1 0 0 = false → cm_At cm_ms 15 mr_191 (tw_PM M n) (16, [(0, .ref 124), (1, .int n)], [], M2))
    refine ⟨(by decide : (0 : Int) ≤ 22), ?_, ?_⟩
    · intro h
      exact absurd h (by decide)
    intro _
    refine hd_up (tw_nom k1) (fun v M' hv => ?_)
    obtain ⟨z0, z1, z2, -⟩ := tw_out hv
    exact ⟨z0, ⟨z1, by rw [← e2, if_neg g]; exact (z2 124 2 (by decide +kernel)).1⟩, ((z2 0 1 (by decide +kernel)).1).trans e1, fun j => ((z2 1 j (lk_ge_in (by decide +kernel) (by decide))).1).trans (e5 1 j (by decide)).1, fun c j q => ⟨((z2 c j (lk_ge_in (by decide +kernel) q)).1).trans (e5 c j q).1, ((z2 c j (lk_ge_in (by decide +kernel) q)).2.2).trans (e5 c j q).2⟩⟩
theorem hd_sum {ρ : List Int32} {K : ab_K} {j u : Nat} {c : Int} {x : Int32} (hk : ab_k ρ K) (hK : (K[j]?).map (fun r => r.2.2) = some (1, (3, (u : Int), []), (0, c, []))) (hx : ρ[j]? = some x) : ∃ y, ρ[u]? = some y ∧ x = y + Int32.ofInt c := by
  cases hr : K[j]? with
  | none => rw [hr] at hK; cases hK
  | some r =>
    rw [hr] at hK
    have h5 : r.2.2 = (1, (3, (u : Int), []), (0, c, [])) := Option.some.inj hK
    have h6 := (hk.2 j r x hr hx).2
    rw [h5] at h6
    rcases h6 with h6 | ⟨y, z, a1, a2, a3⟩
    · cases h6
    · have a1 : ρ[(u : Int).toNat]? = some y := a1
      have a2 : some (Int32.ofInt c) = some z := a2
      rw [Int.toNat_natCast] at a1
      cases a2
      exact ⟨y, a1, a3⟩
