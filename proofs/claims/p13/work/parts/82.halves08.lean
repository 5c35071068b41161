/-! THE LAW'S CASES, on -/
section HALVES
variable {J : cm_S → Prop} {L : Nat} {xs : Nat → Int32} {i : Int32} {M : cm_M}
set_option maxRecDepth 100000 in
theorem lh_42a (hi : lu_in L i) (hM : ab_ok hp hN M) (hJ : ∀ M', lu_P M M' → J (1363, law_L i, [], M')) : cm_wp cm_ms (cm_Call cm_ms 30) (some (L, xs)) lawP lu_c42a (lu_st 1363) J (fun _ _ => False) 80 (1338, law_L i, [], M) := by
  show 1000 = 1000 ∧ 0 ≤ (i + 1).toInt ∧ (i + 1).toInt < (L : Int) ∧ 1000 = 1000 ∧ 0 ≤ (i + 2).toInt ∧ (i + 2).toInt < (L : Int) ∧ 0 ≤ _ ∧ (ev_cmp 0 (xs (i + 2).toNatClampNeg) 0 = true → _) ∧ (ev_cmp 0 (xs (i + 2).toNatClampNeg) 0 = false → _)
  refine ⟨rfl, (lu_ix hi (a := 1) (by decide) (by decide)).1, (lu_ix hi (a := 1) (by decide) (by decide)).2, rfl, (lu_ix hi (a := 2) (by decide) (by decide)).1, (lu_ix hi (a := 2) (by decide) (by decide)).2, (by decide : (0 : Int) ≤ 1358), fun _ => ?_, fun _ => ?_⟩
  · show cm_cs [] ≤ 8 ∧ ev_nar1 _ _ = true ∧ (_ → _) ∧ cm_Call cm_ms 30 144 [.ref 0, .int (xs (i + 1).toNatClampNeg), .int 0] M _
    refine ⟨by decide, by decide, fun _ => Or.inr rfl, cm_Call_up (lk_144 hM _ _ (by decide)) (Nat.le_refl _) (fun v M1 hv => ?_)⟩
    obtain ⟨⟨r, rfl⟩, hP⟩ := hv
    show J (1363, law_L i, [], M1)
    exact hJ M1 hP
  · show 0 ≤ _ ∧ cm_cs [] ≤ 8 ∧ ev_nar1 _ _ = true ∧ (_ → _) ∧ cm_Call cm_ms 30 144 [.ref 0, .int (xs (i + 1).toNatClampNeg), .int 1] M _
    refine ⟨(by decide : (0 : Int) ≤ 1359), by decide, by decide, fun _ => Or.inr rfl, cm_Call_up (lk_144 hM _ _ (by decide)) (Nat.le_refl _) (fun v M1 hv => ?_)⟩
    obtain ⟨⟨r, rfl⟩, hP⟩ := hv
    show J (1363, law_L i, [], M1)
    exact hJ M1 hP
set_option maxRecDepth 100000 in
theorem lh_42b (hi : lu_in L i) (hM : ab_ok hp hN M) (hJ : ∀ M', lu_P M M' → J (1722, law_L i, [], M')) : cm_wp cm_ms (cm_Call cm_ms 30) (some (L, xs)) lawP lu_c42b (lu_st 1722) J (fun _ _ => False) 80 (1363, law_L i, [], M) := by
  show 1000 = 1000 ∧ 0 ≤ (i + 1).toInt ∧ (i + 1).toInt < (L : Int) ∧ 1000 = 1000 ∧ 0 ≤ (i + 2).toInt ∧ (i + 2).toInt < (L : Int) ∧ 0 ≤ _ ∧ (ev_cmp 0 (xs (i + 2).toNatClampNeg) 0 = true → _) ∧ (ev_cmp 0 (xs (i + 2).toNatClampNeg) 0 = false → _)
  refine ⟨rfl, (lu_ix hi (a := 1) (by decide) (by decide)).1, (lu_ix hi (a := 1) (by decide) (by decide)).2, rfl, (lu_ix hi (a := 2) (by decide) (by decide)).1, (lu_ix hi (a := 2) (by decide) (by decide)).2, (by decide : (0 : Int) ≤ 1383), fun _ => ?_, fun _ => ?_⟩
  · show cm_cs [] ≤ 8 ∧ ev_nar1 _ _ = true ∧ (_ → _) ∧ cm_Call cm_ms 30 282 [.ref 124, .int (xs (i + 1).toNatClampNeg), .int 0] M _
    refine ⟨by decide, by decide, fun _ => Or.inr rfl, cm_Call_up (lk_282 hM _ _ (by decide)) (Nat.le_refl _) (fun v M1 hv => ?_)⟩
    obtain ⟨⟨r, rfl⟩, hP⟩ := hv
    show 0 ≤ _ ∧ J (1722, law_L i, [], M1)
    exact ⟨(by decide : (0 : Int) ≤ 1722), hJ M1 hP⟩
  · show 0 ≤ _ ∧ cm_cs [] ≤ 8 ∧ ev_nar1 _ _ = true ∧ (_ → _) ∧ cm_Call cm_ms 30 282 [.ref 124, .int (xs (i + 1).toNatClampNeg), .int 1] M _
    refine ⟨(by decide : (0 : Int) ≤ 1384), by decide, by decide, fun _ => Or.inr rfl, cm_Call_up (lk_282 hM _ _ (by decide)) (Nat.le_refl _) (fun v M1 hv => ?_)⟩
    obtain ⟨⟨r, rfl⟩, hP⟩ := hv
    show 0 ≤ _ ∧ J (1722, law_L i, [], M1)
    exact ⟨(by decide : (0 : Int) ≤ 1722), hJ M1 hP⟩
set_option maxRecDepth 100000 in
theorem lh_43a (hi : lu_in L i) (hM : ab_ok hp hN M) (hJ : ∀ M', lu_P M M' → J (1416, law_L i, [], M')) : cm_wp cm_ms (cm_Call cm_ms 30) (some (L, xs)) lawP lu_c43a (lu_st 1416) J (fun _ _ => False) 80 (1391, law_L i, [], M) := by
  show 1000 = 1000 ∧ 0 ≤ (i + 1).toInt ∧ (i + 1).toInt < (L : Int) ∧ 1000 = 1000 ∧ 0 ≤ (i + 2).toInt ∧ (i + 2).toInt < (L : Int) ∧ 0 ≤ _ ∧ (ev_cmp 0 (xs (i + 2).toNatClampNeg) 0 = true → _) ∧ (ev_cmp 0 (xs (i + 2).toNatClampNeg) 0 = false → _)
  refine ⟨rfl, (lu_ix hi (a := 1) (by decide) (by decide)).1, (lu_ix hi (a := 1) (by decide) (by decide)).2, rfl, (lu_ix hi (a := 2) (by decide) (by decide)).1, (lu_ix hi (a := 2) (by decide) (by decide)).2, (by decide : (0 : Int) ≤ 1411), fun _ => ?_, fun _ => ?_⟩
  · show cm_cs [] ≤ 8 ∧ ev_nar1 _ _ = true ∧ (_ → _) ∧ cm_Call cm_ms 30 145 [.ref 0, .int (xs (i + 1).toNatClampNeg), .int 0] M _
    refine ⟨by decide, by decide, fun _ => Or.inr rfl, cm_Call_up (lk_145 hM _ _ (by decide)) (Nat.le_refl _) (fun v M1 hv => ?_)⟩
    obtain ⟨⟨r, rfl⟩, hP⟩ := hv
    show J (1416, law_L i, [], M1)
    exact hJ M1 hP
  · show 0 ≤ _ ∧ cm_cs [] ≤ 8 ∧ ev_nar1 _ _ = true ∧ (_ → _) ∧ cm_Call cm_ms 30 145 [.ref 0, .int (xs (i + 1).toNatClampNeg), .int 1] M _
    refine ⟨(by decide : (0 : Int) ≤ 1412), by decide, by decide, fun _ => Or.inr rfl, cm_Call_up (lk_145 hM _ _ (by decide)) (Nat.le_refl _) (fun v M1 hv => ?_)⟩
    obtain ⟨⟨r, rfl⟩, hP⟩ := hv
    show J (1416, law_L i, [], M1)
    exact hJ M1 hP
set_option maxRecDepth 100000 in
theorem lh_43b (hi : lu_in L i) (hM : ab_ok hp hN M) (hJ : ∀ M', lu_P M M' → J (1722, law_L i, [], M')) : cm_wp cm_ms (cm_Call cm_ms 30) (some (L, xs)) lawP lu_c43b (lu_st 1722) J (fun _ _ => False) 80 (1416, law_L i, [], M) := by
  show 1000 = 1000 ∧ 0 ≤ (i + 1).toInt ∧ (i + 1).toInt < (L : Int) ∧ 1000 = 1000 ∧ 0 ≤ (i + 2).toInt ∧ (i + 2).toInt < (L : Int) ∧ 0 ≤ _ ∧ (ev_cmp 0 (xs (i + 2).toNatClampNeg) 0 = true → _) ∧ (ev_cmp 0 (xs (i + 2).toNatClampNeg) 0 = false → _)
  refine ⟨rfl, (lu_ix hi (a := 1) (by decide) (by decide)).1, (lu_ix hi (a := 1) (by decide) (by decide)).2, rfl, (lu_ix hi (a := 2) (by decide) (by decide)).1, (lu_ix hi (a := 2) (by decide) (by decide)).2, (by decide : (0 : Int) ≤ 1436), fun _ => ?_, fun _ => ?_⟩
  · show cm_cs [] ≤ 8 ∧ ev_nar1 _ _ = true ∧ (_ → _) ∧ cm_Call cm_ms 30 283 [.ref 124, .int (xs (i + 1).toNatClampNeg), .int 0] M _
    refine ⟨by decide, by decide, fun _ => Or.inr rfl, cm_Call_up (lk_283 hM _ _ (by decide)) (Nat.le_refl _) (fun v M1 hv => ?_)⟩
    obtain ⟨⟨r, rfl⟩, hP⟩ := hv
    show 0 ≤ _ ∧ J (1722, law_L i, [], M1)
    exact ⟨(by decide : (0 : Int) ≤ 1722), hJ M1 hP⟩
  · show 0 ≤ _ ∧ cm_cs [] ≤ 8 ∧ ev_nar1 _ _ = true ∧ (_ → _) ∧ cm_Call cm_ms 30 283 [.ref 124, .int (xs (i + 1).toNatClampNeg), .int 1] M _
    refine ⟨(by decide : (0 : Int) ≤ 1437), by decide, by decide, fun _ => Or.inr rfl, cm_Call_up (lk_283 hM _ _ (by decide)) (Nat.le_refl _) (fun v M1 hv => ?_)⟩
    obtain ⟨⟨r, rfl⟩, hP⟩ := hv
    show 0 ≤ _ ∧ J (1722, law_L i, [], M1)
    exact ⟨(by decide : (0 : Int) ≤ 1722), hJ M1 hP⟩
set_option maxRecDepth 100000 in
theorem lh_44a (hi : lu_in L i) (hM : ab_ok hp hN M) (hJ : ∀ M', lu_P M M' → J (1467, law_L i, [], M')) : cm_wp cm_ms (cm_Call cm_ms 30) (some (L, xs)) lawP lu_c44a (lu_st 1467) J (fun _ _ => False) 80 (1444, law_L i, [], M) := by
  show 1000 = 1000 ∧ 0 ≤ (i + 1).toInt ∧ (i + 1).toInt < (L : Int) ∧ 1000 = 1000 ∧ 0 ≤ (i + 2).toInt ∧ (i + 2).toInt < (L : Int) ∧ 1000 = 1000 ∧ 0 ≤ (i + 3).toInt ∧ (i + 3).toInt < (L : Int) ∧ cm_cs [] ≤ 8 ∧ ev_nar1 _ _ = true ∧ (_ → _) ∧ cm_Call cm_ms 30 146 [.ref 0, .int (xs (i + 1).toNatClampNeg), .int (xs (i + 2).toNatClampNeg), .int (xs (i + 3).toNatClampNeg)] M _
  refine ⟨rfl, (lu_ix hi (a := 1) (by decide) (by decide)).1, (lu_ix hi (a := 1) (by decide) (by decide)).2, rfl, (lu_ix hi (a := 2) (by decide) (by decide)).1, (lu_ix hi (a := 2) (by decide) (by decide)).2, rfl, (lu_ix hi (a := 3) (by decide) (by decide)).1, (lu_ix hi (a := 3) (by decide) (by decide)).2, by decide, by decide, fun _ => Or.inr rfl, cm_Call_up (lk_146 hM _ _ _) (Nat.le_refl _) (fun v M1 hv => ?_)⟩
  obtain ⟨⟨r, rfl⟩, hP⟩ := hv
  show (Value.int r).category = 1 ∧ J (1467, law_L i, [], M1)
  exact ⟨rfl, hJ M1 hP⟩
set_option maxRecDepth 100000 in
theorem lh_44b (hi : lu_in L i) (hM : ab_ok hp hN M) (hJ : ∀ M', lu_P M M' → J (1722, law_L i, [], M')) : cm_wp cm_ms (cm_Call cm_ms 30) (some (L, xs)) lawP lu_c44b (lu_st 1722) J (fun _ _ => False) 80 (1467, law_L i, [], M) := by
  show 1000 = 1000 ∧ 0 ≤ (i + 1).toInt ∧ (i + 1).toInt < (L : Int) ∧ 1000 = 1000 ∧ 0 ≤ (i + 2).toInt ∧ (i + 2).toInt < (L : Int) ∧ 1000 = 1000 ∧ 0 ≤ (i + 3).toInt ∧ (i + 3).toInt < (L : Int) ∧ cm_cs [] ≤ 8 ∧ ev_nar1 _ _ = true ∧ (_ → _) ∧ cm_Call cm_ms 30 285 [.ref 124, .int (xs (i + 1).toNatClampNeg), .int (xs (i + 2).toNatClampNeg), .int (xs (i + 3).toNatClampNeg)] M _
  refine ⟨rfl, (lu_ix hi (a := 1) (by decide) (by decide)).1, (lu_ix hi (a := 1) (by decide) (by decide)).2, rfl, (lu_ix hi (a := 2) (by decide) (by decide)).1, (lu_ix hi (a := 2) (by decide) (by decide)).2, rfl, (lu_ix hi (a := 3) (by decide) (by decide)).1, (lu_ix hi (a := 3) (by decide) (by decide)).2, by decide, by decide, fun _ => Or.inr rfl, cm_Call_up (lk_285 hM _ _ _) (Nat.le_refl _) (fun v M1 hv => ?_)⟩
  obtain ⟨⟨r, rfl⟩, hP⟩ := hv
  show (Value.int r).category = 1 ∧ 0 ≤ _ ∧ J (1722, law_L i, [], M1)
  exact ⟨rfl, (by decide : (0 : Int) ≤ 1722), hJ M1 hP⟩
set_option maxRecDepth 100000 in
theorem lh_45a (hi : lu_in L i) (hM : ab_ok hp hN M) (hJ : ∀ M', lu_P M M' → J (1516, law_L i, [], M')) : cm_wp cm_ms (cm_Call cm_ms 30) (some (L, xs)) lawP lu_c45a (lu_st 1516) J (fun _ _ => False) 80 (1493, law_L i, [], M) := by
  show 1000 = 1000 ∧ 0 ≤ (i + 1).toInt ∧ (i + 1).toInt < (L : Int) ∧ 1000 = 1000 ∧ 0 ≤ (i + 2).toInt ∧ (i + 2).toInt < (L : Int) ∧ 1000 = 1000 ∧ 0 ≤ (i + 3).toInt ∧ (i + 3).toInt < (L : Int) ∧ cm_cs [] ≤ 8 ∧ ev_nar1 _ _ = true ∧ (_ → _) ∧ cm_Call cm_ms 30 147 [.ref 0, .int (xs (i + 1).toNatClampNeg), .int (xs (i + 2).toNatClampNeg), .int (xs (i + 3).toNatClampNeg)] M _
  refine ⟨rfl, (lu_ix hi (a := 1) (by decide) (by decide)).1, (lu_ix hi (a := 1) (by decide) (by decide)).2, rfl, (lu_ix hi (a := 2) (by decide) (by decide)).1, (lu_ix hi (a := 2) (by decide) (by decide)).2, rfl, (lu_ix hi (a := 3) (by decide) (by decide)).1, (lu_ix hi (a := 3) (by decide) (by decide)).2, by decide, by decide, fun _ => Or.inr rfl, cm_Call_up (lk_147 hM _ _ _) (Nat.le_refl _) (fun v M1 hv => ?_)⟩
  obtain ⟨⟨r, rfl⟩, hP⟩ := hv
  show (Value.int r).category = 1 ∧ J (1516, law_L i, [], M1)
  exact ⟨rfl, hJ M1 hP⟩
set_option maxRecDepth 100000 in
theorem lh_45b (hi : lu_in L i) (hM : ab_ok hp hN M) (hJ : ∀ M', lu_P M M' → J (1722, law_L i, [], M')) : cm_wp cm_ms (cm_Call cm_ms 30) (some (L, xs)) lawP lu_c45b (lu_st 1722) J (fun _ _ => False) 80 (1516, law_L i, [], M) := by
  show 1000 = 1000 ∧ 0 ≤ (i + 1).toInt ∧ (i + 1).toInt < (L : Int) ∧ 1000 = 1000 ∧ 0 ≤ (i + 2).toInt ∧ (i + 2).toInt < (L : Int) ∧ 1000 = 1000 ∧ 0 ≤ (i + 3).toInt ∧ (i + 3).toInt < (L : Int) ∧ cm_cs [] ≤ 8 ∧ ev_nar1 _ _ = true ∧ (_ → _) ∧ cm_Call cm_ms 30 286 [.ref 124, .int (xs (i + 1).toNatClampNeg), .int (xs (i + 2).toNatClampNeg), .int (xs (i + 3).toNatClampNeg)] M _
  refine ⟨rfl, (lu_ix hi (a := 1) (by decide) (by decide)).1, (lu_ix hi (a := 1) (by decide) (by decide)).2, rfl, (lu_ix hi (a := 2) (by decide) (by decide)).1, (lu_ix hi (a := 2) (by decide) (by decide)).2, rfl, (lu_ix hi (a := 3) (by decide) (by decide)).1, (lu_ix hi (a := 3) (by decide) (by decide)).2, by decide, by decide, fun _ => Or.inr rfl, cm_Call_up (lk_286 hM _ _ _) (Nat.le_refl _) (fun v M1 hv => ?_)⟩
  obtain ⟨⟨r, rfl⟩, hP⟩ := hv
  show (Value.int r).category = 1 ∧ 0 ≤ _ ∧ J (1722, law_L i, [], M1)
  exact ⟨rfl, (by decide : (0 : Int) ≤ 1722), hJ M1 hP⟩
set_option maxRecDepth 100000 in
theorem lh_46a (hi : lu_in L i) (hM : ab_ok hp hN M) (hJ : ∀ M', lu_P M M' → J (1553, law_L i, [], M')) : cm_wp cm_ms (cm_Call cm_ms 30) (some (L, xs)) lawP lu_c46a (lu_st 1553) J (fun _ _ => False) 80 (1542, law_L i, [], M) := by
  show 1000 = 1000 ∧ 0 ≤ (i + 1).toInt ∧ (i + 1).toInt < (L : Int) ∧ cm_cs [] ≤ 8 ∧ ev_nar1 _ _ = true ∧ (_ → _) ∧ cm_Call cm_ms 30 149 [.ref 0, .int (xs (i + 1).toNatClampNeg)] M _
  refine ⟨rfl, (lu_ix hi (a := 1) (by decide) (by decide)).1, (lu_ix hi (a := 1) (by decide) (by decide)).2, by decide, by decide, fun _ => Or.inr rfl, cm_Call_up (lk_149 hM _) (Nat.le_refl _) (fun v M1 hv => ?_)⟩
  obtain ⟨⟨r, rfl⟩, hP⟩ := hv
  show (Value.int r).category = 1 ∧ J (1553, law_L i, [], M1)
  exact ⟨rfl, hJ M1 hP⟩
set_option maxRecDepth 100000 in
theorem lh_46b (hi : lu_in L i) (hM : ab_ok hp hN M) (hJ : ∀ M', lu_P M M' → J (1722, law_L i, [], M')) : cm_wp cm_ms (cm_Call cm_ms 30) (some (L, xs)) lawP lu_c46b (lu_st 1722) J (fun _ _ => False) 80 (1553, law_L i, [], M) := by
  show 1000 = 1000 ∧ 0 ≤ (i + 1).toInt ∧ (i + 1).toInt < (L : Int) ∧ cm_cs [] ≤ 8 ∧ ev_nar1 _ _ = true ∧ (_ → _) ∧ cm_Call cm_ms 30 288 [.ref 124, .int (xs (i + 1).toNatClampNeg)] M _
  refine ⟨rfl, (lu_ix hi (a := 1) (by decide) (by decide)).1, (lu_ix hi (a := 1) (by decide) (by decide)).2, by decide, by decide, fun _ => Or.inr rfl, cm_Call_up (lk_288 hM _) (Nat.le_refl _) (fun v M1 hv => ?_)⟩
  obtain ⟨⟨r, rfl⟩, hP⟩ := hv
  show (Value.int r).category = 1 ∧ 0 ≤ _ ∧ J (1722, law_L i, [], M1)
  exact ⟨rfl, (by decide : (0 : Int) ≤ 1722), hJ M1 hP⟩
end HALVES
