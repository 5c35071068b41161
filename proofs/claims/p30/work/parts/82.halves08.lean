/-! THE LAW'S CASES, on -/
section HALVES
variable {J : cm_S → Prop} {L : Nat} {xs : Nat → Int32} {i : Int32} {M : cm_M}
set_option maxRecDepth 100000 in
theorem lh_42a (hi : lu_in L i) (hM : ab_ok hp hN M) (hJ : ∀ M', lu_P M M' → J (1363, law_L i, [], M')) : cm_wp cm_ms (cm_Call cm_ms 30) (some (L, xs)) lawP lu_c42a (lu_st 1363) J (fun _ _ => False) 80 (1338, law_L i, [], M) := by
  show 1000 = 1000 ∧ 0 ≤ (i + 1).toInt ∧ (i + 1).toInt < (L : Int) ∧ 1000 = 1000 ∧ 0 ≤ (i + 2).toInt ∧ (i + 2).toInt < (L : Int) ∧ 0 ≤ _ ∧ (ev_cmp 0 (xs (i + 2).toNatClampNeg) 0 = true → _) ∧ (ev_cmp 0 (xs (i + 2).toNatClampNeg) 0 = false → _)
  refine ⟨rfl, (lu_ix hi (a := 1) (by decide) (by decide)).1, (lu_ix hi (a := 1) (by decide) (by decide)).2, rfl, (lu_ix hi (a := 2) (by decide) (by decide)).1, (lu_ix hi (a := 2) (by decide) (by decide)).2, (by decide : (0 : Int) ≤ 1358), fun _ => ?_, fun _ => ?_⟩
  · show cm_cs [] ≤ 8 ∧ ev_nar1 _ _ = true ∧ (_ → _) ∧ cm_Call cm_ms 30 144 [.ref 0, .int (xs (i + 1).toNatClampNeg), .int 0] M _
    refine ⟨by decide, by decide, fun _ => Or.inr rfl, cm_Call_up (lk_144 hM _ _ (by decide)) (Nat.le_refl _) (fun v M1 hv => ?_)⟩
    obtain ⟨⟨r, rfl⟩, hP⟩ := hv
    show J (1363, law_L i, [], M1)
    exact hJ M1 hP
  · show 0 ≤ _ ∧ cm_cs [] ≤ 8 ∧ ev_nar1 _ _ = true ∧ (_ → _) ∧ cm_Call cm_ms 30 144 [.ref 0, .int (xs (i + 1).toNatClampNeg), .int 1] M _
    refine ⟨(by decide : (0 : Int) ≤ 1359), by decide, by decide, fun _ => Or.inr rfl, cm_Call_up (lk_144 hM _ _ (by decide)) (Nat.le_refl _) (fun v M1 hv => ?_)⟩
    obtain ⟨⟨r, rfl⟩, hP⟩ := hv
    show J (1363, law_L i, [], M1)
    exact hJ M1 hP
set_option maxRecDepth 100000 in
theorem lh_42b (hi : lu_in L i) (hM : ab_ok hp hN M) (hJ : ∀ M', lu_P M M' → J (1722, law_L i, [], M')) : cm_wp cm_ms (cm_Call cm_ms 30) (some (L, xs)) lawP lu_c42b (lu_st 1722) J (fun _ _ => False) 80 (1363, law_L i, [], M) := by
  show 1000 = 1000 ∧ 0 ≤ (i + 1).toInt ∧ (i + 1).toInt < (L : Int) ∧ 1000 = 1000 ∧ 0 ≤ (i + 2).toInt ∧ (i + 2).toInt < (L : Int) ∧ 0 ≤ _ ∧ (ev_cmp 0 (xs (i + 2).toNatClampNeg) 0 = true → _) ∧ (ev_cmp 0 (xs (i + 2).toNatClampNeg) 0 = false → _)
  refine ⟨rfl, (lu_ix hi (a := 1) (by decide) (by decide)).1, (lu_ix hi (a := 1) (by decide) (by decide)).2, rfl, (lu_ix hi (a := 2) (by decide) (by decide)).1, (lu_ix hi (a := 2) (by decide) (by decide)).2, (by decide : (0 : Int) ≤ 1383), fun _ => ?_, fun _ => ?_⟩
  · show cm_cs [] ≤ 8 ∧ ev_nar1 _ _ = true ∧ (_ → _) ∧ cm_Call cm_ms 30 282 [.ref 124, .int (xs (i + 1).toNatClampNeg), .int 0] M _
    refine ⟨by decide, by decide, fun _ => Or.inr rfl, cm_Call_up (lk_282 hM _ _ (by decide)) (Nat.le_refl _) (fun v M1 hv => ?_)⟩
    obtain ⟨⟨r, rfl⟩, hP⟩ := hv
    show 0 ≤ _ ∧ J (1722, law_L i, [], M1)
    exact ⟨(by decide : (0 : Int) ≤ 1722), hJ M1 hP⟩
  · show 0 ≤ _ ∧ cm_cs [] ≤ 8 ∧ ev_nar1 _ _ = true ∧ (_ → _) ∧ cm_Call cm_ms 30 282 [.ref 124, .int (xs (i + 1).toNatClampNeg), .int 1] M _
    refine ⟨(by decide : (0 : Int) ≤ 1384), by decide, by decide, fun _ => Or.inr rfl, cm_Call_up (lk_282 hM _ _ (by decide)) (Nat.le_refl _) (fun v M1 hv => ?_)⟩
    obtain ⟨⟨r, rfl⟩, hP⟩ := hv
    show 0 ≤ _ ∧ J (1722, law_L i, [], M1)
    exact ⟨(by decide : (0 : Int) ≤ 1722), hJ M1 hP⟩
set_option maxRecDepth 100000 in
theorem lh_43a (hi : lu_in L i) (hM : ab_ok hp hN M) (hJ : ∀ M', lu_P M M' → J (1416, law_L i, [], M')) : cm_wp cm_ms (cm_Call cm_ms 30) (some (L, xs)) lawP lu_c43a (lu_st 1416) J (fun _ _ => False) 80 (1391, law_L i, [], M) := by
  show 1000 = 1000 ∧ 0 ≤ (i + 1).toInt ∧ (i + 1).toInt < (L : Int) ∧ 1000 = 1000 ∧ 0 ≤ (i + 2).toInt ∧ (i + 2).toInt < (L : Int) ∧ 0 ≤ _ ∧ (ev_cmp 0 (xs (i + 2).toNatClampNeg) 0 = true → _) ∧ (ev_cmp 0 (xs (i + 2).toNatClampNeg) 0 = false → _)
  refine ⟨rfl, (lu_ix hi (a := 1) (by decide) (by decide)).1, (lu_ix hi (a := 1) (by decide) (by decide)).2, rfl, (lu_ix hi (a := 2) (by decide) (by decide)).1, (lu_ix hi (a := 2) (by decide) (by decide)).2, (by decide : (0 : Int) ≤ 1411), fun _ => ?_, fun _ => ?_⟩
  · show cm_cs [] ≤ 8 ∧ ev_nar1 _ _ = true ∧ (_ → _) ∧ cm_Call cm_ms 30 145 [.ref 0, .int (xs (i + 1).toNatClampNeg), .int 0] M _
    refine ⟨by decide, by decide, fun _ => Or.inr rfl, cm_Call_up (lk_145 hM _ _ (by decide)) (Nat.le_refl _) (fun v M1 hv => ?_)⟩
    obtain ⟨⟨r, rfl⟩, hP⟩ := hv
    show J (1416, law_L i, [], M1)
    exact hJ M1 hP
  · show 0 ≤ _ ∧ cm_cs [] ≤ 8 ∧ ev_nar1 _ _ = true ∧ (_ → _) ∧ cm_Call cm_ms 30 145 [.ref 0, .int (xs (i + 1).toNatClampNeg), .int 1] M _
    refine ⟨(by decide : (0 : Int) ≤ 1412), by decide, by decide, fun _ => Or.inr rfl, cm_Call_up (lk_145 hM _ _ (by decide)) (Nat.le_refl _) (fun v M1 hv => ?_)⟩
    obtain ⟨⟨r, rfl⟩, hP⟩ := hv
    show J (1416, law_L i, [], M1)
    exact hJ M1 hP
set_option maxRecDepth 100000 in
theorem lh_43b (hi : lu_in L i) (hM : ab_ok hp hN M) (hJ : ∀ M', lu_P M M' → J (1722, law_L i, [], M')) : cm_wp cm_ms (cm_Call cm_ms 30) (some (L, xs)) lawP lu_c43b (lu_st 1722) J (fun _ _ => False) 80 (1416, law_L i, [], M) := by
  show 1000 = 1000 ∧ 0 ≤ (i + 1).toInt ∧ (i + 1).toInt < (L : Int) ∧ 1000 = 1000 ∧ 0 ≤ (i + 2).toInt ∧ (i + 2).toInt < (L : Int) ∧ 0 ≤ _ ∧ (ev_cmp 0 (xs (i + 2).toNatClampNeg) 0 = true → _) ∧ (ev_cmp 0 (xs (i + 2).toNatClampNeg) 0 = false → _)
  refine ⟨rfl, (lu_ix hi (a := 1) (by decide) (by decide)).1, (lu_ix hi (a := 1) (by decide) (by decide)).2, rfl, (lu_ix hi (a := 2) (by decide) (by decide)).1, (lu_ix hi (a := 2) (by decide) (by decide)).2, (by decide : (0 : Int) ≤ 1436), fun _ => ?_, fun _ => ?_⟩
  · show cm_cs [] ≤ 8 ∧ ev_nar1 _ _ = true ∧ (_ → _) ∧ cm_Call cm_ms 30 283 [.ref 124, .int (xs (i + 1).toNatClampNeg), .int 0] M _
    refine ⟨by decide, by decide, fun _ => Or.inr rfl, cm_Call_up (lk_283 hM _ _ (by decide)) (Nat.le_refl _) (fun v M1 hv => ?_)⟩
    obtain ⟨⟨r, rfl⟩, hP⟩ := hv
    show 0 ≤ _ ∧ J (1722, law_L i, [], M1)
    exact ⟨(by decide : (0 : Int) ≤ 1722), hJ M1 hP⟩
  · show 0 ≤ _ ∧ cm_cs [] ≤ 8 ∧ ev_nar1 _ _ = true ∧ (_ → _) ∧ cm_Call cm_ms 30 283 [.ref 124, .int (xs (i + 1).toNatClampNeg), .int 1] M _
    refine ⟨(by decide : (0 : Int) ≤ 1437), by decide, by decide, fun _ => Or.inr rfl, cm_Call_up (lk_283 hM _ _ (by decide)) (Nat.le_refl _) (fun v M1 hv => ?_)⟩
    obtain ⟨⟨r, rfl⟩, hP⟩ := hv
    show 0 ≤ _ ∧ J (1722, law_L i, [], M1)
    exact ⟨(by decide : (0 : Int) ≤ 1722), hJ M1 hP⟩
set_option maxRecDepth 100000 in
theorem lh_44a (hi : lu_in L i) (hM : ab_ok hp hN M) (hJ : ∀ M', lu_P M M' → J (1467, law_L i, [], M')) : cm_wp cm_ms (cm_Call cm_ms 30) (some (L, xs)) lawP lu_c44a (lu_st 1467) J (fun _ _ => False) 80 (1444, law_L i, [], M) := by
  show 1000 = 1000 ∧ 0 ≤ (i + 1).toInt ∧ (i + 1).toInt < (L : Int) ∧ 1000 = 1000 ∧ 0 ≤ (i + 2).toInt ∧ (i + 2).toInt < (L : Int) ∧ 1000 = 1000 ∧ 0 ≤ (i + 3).toInt ∧ (i + 3).toInt < (L : Int) ∧ cm_cs [] ≤ 8 ∧ ev_nar1 _ _ = true ∧ (_ → _) ∧ cm_Call cm_ms 30 146 [.ref 0, .int (xs (i + 1).toNatClampNeg), .int (xs (i + 2).toNatClampNeg), .int (xs (i + 3).toNatClampNeg)] M _
  refine ⟨rfl, (lu_ix hi (a := 1) (by decide) (by decide)).1, (lu_ix hi (a := 1) (by decide) (by decide)).2, rfl, (lu_ix hi (a := 2) (by decide) (by decide)).1, (lu_ix hi (a := 2) (by decide) (by decide)).2, rfl, (lu_ix hi (a := 3) (by decide) (by decide)).1, (lu_ix hi (a := 3) (by decide) (by decide)).2, by decide, by decide, fun _ => Or.inr rfl, cm_Call_up (lk_146 hM _ _ _) (Nat.le_refl _) (fun v M1 hv => ?_)⟩
  obtain ⟨⟨r, rfl⟩, hP⟩ := hv
  show (Value.int r).category = 1 ∧ J (1467, law_L i, [], M1)
  exact ⟨rfl, hJ M1 hP⟩
set_option maxRecDepth 100000 in
theorem lh_44b (hi : lu_in L i) (hM : ab_ok hp hN M) (hJ : ∀ M', lu_P M M' → J (1722, law_L i, [], M')) : cm_wp cm_ms (cm_Call cm_ms 30) (some (L, xs)) lawP lu_c44b (lu_st 1722) J (fun _ _ => False) 80 (1467, law_L i, [], M) := by
  show 1000 = 1000 ∧ 0 ≤ (i + 1).toInt ∧ (i + 1).toInt < (L : Int) ∧ 1000 = 1000 ∧ 0 ≤ (i + 2).toInt ∧ (i + 2).toInt < (L : Int) ∧ 1000 = 1000 ∧ 0 ≤ (i + 3).toInt ∧ (i + 3).toInt < (L : Int) ∧ cm_cs [] ≤ 8 ∧ ev_nar1 _ _ = true ∧ (_ → _) ∧ cm_Call cm_ms 30 285 [.ref 124, .int (xs (i + 1).toNatClampNeg), .int (xs (i + 2).toNatClampNeg), .int (xs (i + 3).toNatClampNeg)] M _
  refine ⟨rfl, (lu_ix hi (a := 1) (by decide) (by decide)).1, (lu_ix hi (a := 1) (by decide) (by decide)).2, rfl, (lu_ix hi (a := 2) (by decide) (by decide)).1, (lu_ix hi (a := 2) (by decide) (by decide)).2, rfl, (lu_ix hi (a := 3) (by decide) (by decide)).1, (lu_ix hi (a := 3) (by decide) (by decide)).2, by decide, by decide, fun _ => Or.inr rfl, cm_Call_up (lk_285 hM _ _ _) (Nat.le_refl _) (fun v M1 hv => ?_)⟩
  obtain ⟨⟨r, rfl⟩, hP⟩ := hv
  show (Value.int r).category = 1 ∧ 0 ≤ _ ∧ J (1722, law_L i, [], M1)
  exact ⟨rfl, (by decide : (0 : Int) ≤ 1722), hJ M1 hP⟩
set_option maxRecDepth 100000 in
theorem lh_45a (hi : lu_in L i) (hM : ab_ok hp hN M) (hJ : ∀ M', lu_P M M' → J (1516, law_L i, [], M')) : cm_wp cm_ms (cm_Call cm_ms 30) (some (L, xs)) lawP lu_c45a (lu_st 1516) J (fun _ _ => False) 80 (1493, law_L i, [], M) := by
  show 1000 = 1000 ∧ 0 ≤ (i + 1).toInt ∧ (i + 1).toInt < (L : Int) ∧ 1000 = 1000 ∧ 0 ≤ (i + 2).toInt ∧ (i + 2).toInt < (L : Int) ∧ 1000 = 1000 ∧ 0 ≤ (i + 3).toInt ∧ (i + 3).toInt < (L : Int) ∧ cm_cs [] ≤ 8 ∧ ev_nar1 _ _ = true ∧ (_ → _) ∧ cm_Call cm_ms 30 147 [.ref 0, .int (xs (i + 1).toNatClampNeg), .int (xs (i + 2).toNatClampNeg), .int (xs (i + 3).toNatClampNeg)] M _
  refine ⟨rfl, (lu_ix hi (a := 1) (by decide) (by decide)).1, (lu_ix hi (a := 1) (by decide) (by decide)).2, rfl, (lu_ix hi (a := 2) (by decide) (by decide)).1, (lu_ix hi (a := 2) (by decide) (by decide)).2, rfl, (lu_ix hi (a := 3) (by decide) (by decide)).1, (lu_ix hi (a := 3) (by decide) (by decide)).2, by decide, by decide, fun _ => Or.inr rfl, cm_Call_up (lk_147 hM _ _ _) (Nat.le_refl _) (fun v M1 hv => ?_)⟩
  obtain ⟨⟨r, rfl⟩, hP⟩ := hv
  show (Value.int r).category = 1 ∧ J (1516, law_L i, [], M1)
  exact ⟨rfl, hJ M1 hP⟩
set_option maxRecDepth 100000 in
theorem lh_45b (hi : lu_in L i) (hM : ab_ok hp hN M) (hJ : ∀ M', lu_P M M' → J (1722, law_L i, [], M')) : cm_wp cm_ms (cm_Call cm_ms 30) (some (L, xs)) lawP lu_c45b (lu_st 1722) J (fun _ _ => False) 80 (1516, law_L i, [], M) := by
  show 1000 = 1000 ∧ 0 ≤ (i + 1).toInt ∧ (i + 1).toInt < (L : Int) ∧ 1000 = 1000 ∧ 0 ≤ (i + 2).toInt ∧ (i + 2).toInt < (L : Int) ∧ 1000 = 1000 ∧ 0 ≤ (i + 3).toInt ∧ (i + 3).toInt < (L : Int) ∧ cm_cs [] ≤ 8 ∧ ev_nar1 _ _ = true ∧ (_ → _) ∧ cm_Call cm_ms 30 286 [.ref 124, .int (xs (i + 1).toNatClampNeg), .int (xs (i + 2).toNatClampNeg), .int (xs (i + 3).toNatClampNeg)] M _
  refine ⟨rfl, (lu_ix hi (a := 1) (by decide) (by decide)).1, (lu_ix hi (a := 1) (by decide) (by decide)).2, rfl, (lu_ix hi (a := 2) (by decide) (by decide)).1, (lu_ix hi (a := 2) (by decide) (by decide)).2, rfl, (lu_ix hi (a := 3) (by decide) (by decide)).1, (lu_ix hi (a := 3) (by decide) (by decide)).2, by decide, by decide, fun _ => Or.inr rfl, cm_Call_up (lk_286 hM _ _ _) (Nat.le_refl _) (fun v M1 hv => ?_)⟩
  obtain ⟨⟨r, rfl⟩, hP⟩ := hv
  show (Value.int r).category = 1 ∧ 0 ≤ _ ∧ J (1722, law_L i, [], M1)
  exact ⟨rfl, (by decide : (0 : Int) ≤ 1722), hJ M1 hP⟩
set_option maxRecDepth 100000 in
theorem lh_46a (hi : lu_in L i) (hM : ab_ok hp hN M) (hJ : ∀ M', lu_P M M' → J (1553, law_L i, [], M')) : cm_wp cm_ms (cm_Call cm_ms 30) (some (L, xs)) lawP lu_c46a (lu_st 1553) J (fun _ _ => False) 80 (1542, law_L i, [], M) := by
  show 1000 = 1000 ∧ 0 ≤ (i + 1).toInt ∧ (i + 1).toInt < (L : Int) ∧ cm_cs [] ≤ 8 ∧ ev_nar1 _ _ = true ∧ (_ → _) ∧ cm_Call cm_ms 30 149 [.ref 0, .int (xs (i + 1).toNatClampNeg)] M _
  refine ⟨rfl, (lu_ix hi (a := 1) (by decide) (by decide)).1, (lu_ix hi (a := 1) (by decide) (by decide)).2, by decide, by decide, fun _ => Or.inr rfl, cm_Call_up (lk_149 hM _) (Nat.le_refl _) (fun v M1 hv => ?_)⟩
  obtain ⟨⟨r, rfl⟩, hP⟩ := hv
  show (Value.int r).category = 1 ∧ J (1553, law_L i, [], M1)
  exact ⟨rfl, hJ M1 hP⟩
set_option maxRecDepth 100000 in
theorem lh_46b (hi : lu_in L i) (hM : ab_ok hp hN M) (hJ : ∀ M', lu_P M M' → J (1722, law_L i, [], M')) : cm_wp cm_ms (cm_Call cm_ms 30) (some (L, xs)) lawP lu_c46b (lu_st 1722) J (fun _ _ => False) 80 (1553, law_L i, [], M) := by
  show 1000 = 1000 ∧ 0 ≤ (i + 1).toInt ∧ (i + 1).toInt < (L : Int) ∧ cm_cs [] ≤ 8 ∧ ev_nar1 _ _ = true ∧ (_ → _) ∧ cm_Call cm_ms 30 288 [.ref 124, .int (xs (i + 1).toNatClampNeg)] M _
  refine ⟨rfl, (lu_ix hi (a := 1) (by decide) (by decide)).1, (lu_ix hi (a := 1) (by decide) (by decide)).2, by decide, by decide, fun _ => Or.inr rfl, cm_Call_up (lk_288 hM _) (Nat.le_refl _) (fun v M1 hv => ?_)⟩
  obtain ⟨⟨r, rfl⟩, hP⟩ := hv
  show (Value.int r).category = 1 ∧ 0 ≤ _ ∧ J (1722, law_L i, [], M1)
  exact ⟨rfl, (by decide : (0 : Int) ≤ 1722), hJ M1 hP⟩
end HALVES
/-! THE LAW'S CASES, on -/
section HALVES
variable {J : cm_S → Prop} {L : Nat} {xs : Nat → Int32} {i : Int32} {M : cm_M}
set_option maxRecDepth 100000 in
theorem lh_47a (hM : ab_ok hp hN M) (hJ : ∀ M', lu_P M M' → J (1572, law_L i, [], M')) : cm_wp cm_ms (cm_Call cm_ms 30) (some (L, xs)) lawP lu_c47a (lu_st 1572) J (fun _ _ => False) 80 (1567, law_L i, [], M) := by
  show cm_cs [] ≤ 8 ∧ ev_nar1 _ _ = true ∧ (_ → _) ∧ cm_Call cm_ms 30 150 [.ref 0] M _
  refine ⟨by decide, by decide, fun _ => Or.inr rfl, cm_Call_up (lk_150 hM) (Nat.le_refl _) (fun v M1 hv => ?_)⟩
  obtain ⟨⟨r, rfl⟩, hP⟩ := hv
  show (Value.int r).category = 1 ∧ J (1572, law_L i, [], M1)
  exact ⟨rfl, hJ M1 hP⟩
set_option maxRecDepth 100000 in
theorem lh_47b (hM : ab_ok hp hN M) (hJ : ∀ M', lu_P M M' → J (1722, law_L i, [], M')) : cm_wp cm_ms (cm_Call cm_ms 30) (some (L, xs)) lawP lu_c47b (lu_st 1722) J (fun _ _ => False) 80 (1572, law_L i, [], M) := by
  show cm_cs [] ≤ 8 ∧ ev_nar1 _ _ = true ∧ (_ → _) ∧ cm_Call cm_ms 30 289 [.ref 124] M _
  refine ⟨by decide, by decide, fun _ => Or.inr rfl, cm_Call_up (lk_289 hM) (Nat.le_refl _) (fun v M1 hv => ?_)⟩
  obtain ⟨⟨r, rfl⟩, hP⟩ := hv
  show (Value.int r).category = 1 ∧ 0 ≤ _ ∧ J (1722, law_L i, [], M1)
  exact ⟨rfl, (by decide : (0 : Int) ≤ 1722), hJ M1 hP⟩
set_option maxRecDepth 100000 in
theorem lh_48a (hi : lu_in L i) (hM : ab_ok hp hN M) (hJ : ∀ M', lu_P M M' → J (1591, law_L i, [], M')) : cm_wp cm_ms (cm_Call cm_ms 30) (some (L, xs)) lawP lu_c48a (lu_st 1591) J (fun _ _ => False) 80 (1580, law_L i, [], M) := by
  show 1000 = 1000 ∧ 0 ≤ (i + 1).toInt ∧ (i + 1).toInt < (L : Int) ∧ cm_cs [] ≤ 8 ∧ ev_nar1 _ _ = true ∧ (_ → _) ∧ cm_Call cm_ms 30 151 [.ref 0, .int (xs (i + 1).toNatClampNeg)] M _
  refine ⟨rfl, (lu_ix hi (a := 1) (by decide) (by decide)).1, (lu_ix hi (a := 1) (by decide) (by decide)).2, by decide, by decide, fun _ => Or.inr rfl, cm_Call_up (lk_151 hM _) (Nat.le_refl _) (fun v M1 hv => ?_)⟩
  obtain ⟨⟨r, rfl⟩, hP⟩ := hv
  show (Value.int r).category = 1 ∧ J (1591, law_L i, [], M1)
  exact ⟨rfl, hJ M1 hP⟩
set_option maxRecDepth 100000 in
theorem lh_48b (hi : lu_in L i) (hM : ab_ok hp hN M) (hJ : ∀ M', lu_P M M' → J (1722, law_L i, [], M')) : cm_wp cm_ms (cm_Call cm_ms 30) (some (L, xs)) lawP lu_c48b (lu_st 1722) J (fun _ _ => False) 80 (1591, law_L i, [], M) := by
  show 1000 = 1000 ∧ 0 ≤ (i + 1).toInt ∧ (i + 1).toInt < (L : Int) ∧ cm_cs [] ≤ 8 ∧ ev_nar1 _ _ = true ∧ (_ → _) ∧ cm_Call cm_ms 30 290 [.ref 124, .int (xs (i + 1).toNatClampNeg)] M _
  refine ⟨rfl, (lu_ix hi (a := 1) (by decide) (by decide)).1, (lu_ix hi (a := 1) (by decide) (by decide)).2, by decide, by decide, fun _ => Or.inr rfl, cm_Call_up (lk_290 hM _) (Nat.le_refl _) (fun v M1 hv => ?_)⟩
  obtain ⟨⟨r, rfl⟩, hP⟩ := hv
  show (Value.int r).category = 1 ∧ 0 ≤ _ ∧ J (1722, law_L i, [], M1)
  exact ⟨rfl, (by decide : (0 : Int) ≤ 1722), hJ M1 hP⟩
set_option maxRecDepth 100000 in
theorem lh_49a (hM : ab_ok hp hN M) (hJ : ∀ M', lu_P M M' → J (1610, law_L i, [], M')) : cm_wp cm_ms (cm_Call cm_ms 30) (some (L, xs)) lawP lu_c49a (lu_st 1610) J (fun _ _ => False) 80 (1605, law_L i, [], M) := by
  show cm_cs [] ≤ 8 ∧ ev_nar1 _ _ = true ∧ (_ → _) ∧ cm_Call cm_ms 30 152 [.ref 0] M _
  refine ⟨by decide, by decide, fun _ => Or.inr rfl, cm_Call_up (lk_152 hM) (Nat.le_refl _) (fun v M1 hv => ?_)⟩
  obtain ⟨⟨r, rfl⟩, hP⟩ := hv
  show (Value.int r).category = 1 ∧ J (1610, law_L i, [], M1)
  exact ⟨rfl, hJ M1 hP⟩
set_option maxRecDepth 100000 in
theorem lh_49b (hM : ab_ok hp hN M) (hJ : ∀ M', lu_P M M' → J (1722, law_L i, [], M')) : cm_wp cm_ms (cm_Call cm_ms 30) (some (L, xs)) lawP lu_c49b (lu_st 1722) J (fun _ _ => False) 80 (1610, law_L i, [], M) := by
  show cm_cs [] ≤ 8 ∧ ev_nar1 _ _ = true ∧ (_ → _) ∧ cm_Call cm_ms 30 291 [.ref 124] M _
  refine ⟨by decide, by decide, fun _ => Or.inr rfl, cm_Call_up (lk_291 hM) (Nat.le_refl _) (fun v M1 hv => ?_)⟩
  obtain ⟨⟨r, rfl⟩, hP⟩ := hv
  show (Value.int r).category = 1 ∧ 0 ≤ _ ∧ J (1722, law_L i, [], M1)
  exact ⟨rfl, (by decide : (0 : Int) ≤ 1722), hJ M1 hP⟩
set_option maxRecDepth 100000 in
theorem lh_50a (hM : ab_ok hp hN M) (hJ : ∀ M', lu_P M M' → J (1623, law_L i, [], M')) : cm_wp cm_ms (cm_Call cm_ms 30) (some (L, xs)) lawP lu_c50a (lu_st 1623) J (fun _ _ => False) 80 (1618, law_L i, [], M) := by
  show cm_cs [] ≤ 8 ∧ ev_nar1 _ _ = true ∧ (_ → _) ∧ cm_Call cm_ms 30 153 [.ref 0] M _
  refine ⟨by decide, by decide, fun _ => Or.inr rfl, cm_Call_up (lk_153 hM) (Nat.le_refl _) (fun v M1 hv => ?_)⟩
  obtain ⟨⟨r, rfl⟩, hP⟩ := hv
  show (Value.int r).category = 1 ∧ J (1623, law_L i, [], M1)
  exact ⟨rfl, hJ M1 hP⟩
set_option maxRecDepth 100000 in
theorem lh_50b (hM : ab_ok hp hN M) (hJ : ∀ M', lu_P M M' → J (1722, law_L i, [], M')) : cm_wp cm_ms (cm_Call cm_ms 30) (some (L, xs)) lawP lu_c50b (lu_st 1722) J (fun _ _ => False) 80 (1623, law_L i, [], M) := by
  show cm_cs [] ≤ 8 ∧ ev_nar1 _ _ = true ∧ (_ → _) ∧ cm_Call cm_ms 30 292 [.ref 124] M _
  refine ⟨by decide, by decide, fun _ => Or.inr rfl, cm_Call_up (lk_292 hM) (Nat.le_refl _) (fun v M1 hv => ?_)⟩
  obtain ⟨⟨r, rfl⟩, hP⟩ := hv
  show (Value.int r).category = 1 ∧ 0 ≤ _ ∧ J (1722, law_L i, [], M1)
  exact ⟨rfl, (by decide : (0 : Int) ≤ 1722), hJ M1 hP⟩
set_option maxRecDepth 100000 in
theorem lh_51a (hi : lu_in L i) (hM : ab_ok hp hN M) (hJ : ∀ M', lu_P M M' → J (1642, law_L i, [], M')) : cm_wp cm_ms (cm_Call cm_ms 30) (some (L, xs)) lawP lu_c51a (lu_st 1642) J (fun _ _ => False) 80 (1631, law_L i, [], M) := by
  show 1000 = 1000 ∧ 0 ≤ (i + 1).toInt ∧ (i + 1).toInt < (L : Int) ∧ cm_cs [] ≤ 8 ∧ ev_nar1 _ _ = true ∧ (_ → _) ∧ cm_Call cm_ms 30 154 [.ref 0, .int (xs (i + 1).toNatClampNeg)] M _
  refine ⟨rfl, (lu_ix hi (a := 1) (by decide) (by decide)).1, (lu_ix hi (a := 1) (by decide) (by decide)).2, by decide, by decide, fun _ => Or.inr rfl, cm_Call_up (lk_154 hM _) (Nat.le_refl _) (fun v M1 hv => ?_)⟩
  obtain ⟨⟨r, rfl⟩, hP⟩ := hv
  show (Value.int r).category = 1 ∧ J (1642, law_L i, [], M1)
  exact ⟨rfl, hJ M1 hP⟩
set_option maxRecDepth 100000 in
theorem lh_51b (hi : lu_in L i) (hM : ab_ok hp hN M) (hJ : ∀ M', lu_P M M' → J (1722, law_L i, [], M')) : cm_wp cm_ms (cm_Call cm_ms 30) (some (L, xs)) lawP lu_c51b (lu_st 1722) J (fun _ _ => False) 80 (1642, law_L i, [], M) := by
  show 1000 = 1000 ∧ 0 ≤ (i + 1).toInt ∧ (i + 1).toInt < (L : Int) ∧ cm_cs [] ≤ 8 ∧ ev_nar1 _ _ = true ∧ (_ → _) ∧ cm_Call cm_ms 30 293 [.ref 124, .int (xs (i + 1).toNatClampNeg)] M _
  refine ⟨rfl, (lu_ix hi (a := 1) (by decide) (by decide)).1, (lu_ix hi (a := 1) (by decide) (by decide)).2, by decide, by decide, fun _ => Or.inr rfl, cm_Call_up (lk_293 hM _) (Nat.le_refl _) (fun v M1 hv => ?_)⟩
  obtain ⟨⟨r, rfl⟩, hP⟩ := hv
  show (Value.int r).category = 1 ∧ 0 ≤ _ ∧ J (1722, law_L i, [], M1)
  exact ⟨rfl, (by decide : (0 : Int) ≤ 1722), hJ M1 hP⟩
end HALVES
/-! THE LAW'S CASES, on -/
section HALVES
variable {J : cm_S → Prop} {L : Nat} {xs : Nat → Int32} {i : Int32} {M : cm_M}
set_option maxRecDepth 100000 in
theorem lh_53a (hi : lu_in L i) (hM : ab_ok hp hN M) (hJ : ∀ M', lu_P M M' → J (1695, law_L i, [], M')) : cm_wp cm_ms (cm_Call cm_ms 30) (some (L, xs)) lawP lu_c53a (lu_st 1695) J (fun _ _ => False) 80 (1684, law_L i, [], M) := by
  show 1000 = 1000 ∧ 0 ≤ (i + 1).toInt ∧ (i + 1).toInt < (L : Int) ∧ cm_cs [] ≤ 8 ∧ ev_nar1 _ _ = true ∧ (_ → _) ∧ cm_Call cm_ms 30 155 [.ref 0, .int (xs (i + 1).toNatClampNeg)] M _
  refine ⟨rfl, (lu_ix hi (a := 1) (by decide) (by decide)).1, (lu_ix hi (a := 1) (by decide) (by decide)).2, by decide, by decide, fun _ => Or.inr rfl, cm_Call_up (lk_155 hM _) (Nat.le_refl _) (fun v M1 hv => ?_)⟩
  obtain ⟨⟨r, rfl⟩, hP⟩ := hv
  show (Value.int r).category = 1 ∧ J (1695, law_L i, [], M1)
  exact ⟨rfl, hJ M1 hP⟩
set_option maxRecDepth 100000 in
theorem lh_53b (hi : lu_in L i) (hM : ab_ok hp hN M) (hJ : ∀ M', lu_P M M' → J (1722, law_L i, [], M')) : cm_wp cm_ms (cm_Call cm_ms 30) (some (L, xs)) lawP lu_c53b (lu_st 1722) J (fun _ _ => False) 80 (1695, law_L i, [], M) := by
  show 1000 = 1000 ∧ 0 ≤ (i + 1).toInt ∧ (i + 1).toInt < (L : Int) ∧ cm_cs [] ≤ 8 ∧ ev_nar1 _ _ = true ∧ (_ → _) ∧ cm_Call cm_ms 30 295 [.ref 124, .int (xs (i + 1).toNatClampNeg)] M _
  refine ⟨rfl, (lu_ix hi (a := 1) (by decide) (by decide)).1, (lu_ix hi (a := 1) (by decide) (by decide)).2, by decide, by decide, fun _ => Or.inr rfl, cm_Call_up (lk_295 hM _) (Nat.le_refl _) (fun v M1 hv => ?_)⟩
  obtain ⟨⟨r, rfl⟩, hP⟩ := hv
  show (Value.int r).category = 1 ∧ 0 ≤ _ ∧ J (1722, law_L i, [], M1)
  exact ⟨rfl, (by decide : (0 : Int) ≤ 1722), hJ M1 hP⟩
set_option maxRecDepth 100000 in
theorem lh_54a (hM : ab_ok hp hN M) (hJ : ∀ M', lu_P M M' → J (1714, law_L i, [], M')) : cm_wp cm_ms (cm_Call cm_ms 30) (some (L, xs)) lawP lu_c54a (lu_st 1714) J (fun _ _ => False) 80 (1709, law_L i, [], M) := by
  show cm_cs [] ≤ 8 ∧ ev_nar1 _ _ = true ∧ (_ → _) ∧ cm_Call cm_ms 30 156 [.ref 0] M _
  refine ⟨by decide, by decide, fun _ => Or.inr rfl, cm_Call_up (lk_156 hM) (Nat.le_refl _) (fun v M1 hv => ?_)⟩
  obtain ⟨⟨r, rfl⟩, hP⟩ := hv
  show (Value.int r).category = 1 ∧ J (1714, law_L i, [], M1)
  exact ⟨rfl, hJ M1 hP⟩
set_option maxRecDepth 100000 in
theorem lh_54b (hM : ab_ok hp hN M) (hJ : ∀ M', lu_P M M' → J (1722, law_L i, [], M')) : cm_wp cm_ms (cm_Call cm_ms 30) (some (L, xs)) lawP lu_c54b (lu_st 1722) J (fun _ _ => False) 80 (1714, law_L i, [], M) := by
  show cm_cs [] ≤ 8 ∧ ev_nar1 _ _ = true ∧ (_ → _) ∧ cm_Call cm_ms 30 296 [.ref 124] M _
  refine ⟨by decide, by decide, fun _ => Or.inr rfl, cm_Call_up (lk_296 hM) (Nat.le_refl _) (fun v M1 hv => ?_)⟩
  obtain ⟨⟨r, rfl⟩, hP⟩ := hv
  show (Value.int r).category = 1 ∧ 0 ≤ _ ∧ J (1722, law_L i, [], M1)
  exact ⟨rfl, (by decide : (0 : Int) ≤ 1722), hJ M1 hP⟩
end HALVES
/-! TOWN, exactly: how much of the tape is used behind it -/
theorem hd_up {d : Nat} {mi : ev_MI} {P1 P2 : cm_K} {S : cm_S} (h : cm_At cm_ms d mi P1 S) (hp : ∀ v M, P1 v M → P2 v M) : cm_At cm_ms d mi P2 S := cm_At_im h hp
/-- the rest of a method by AB -/
theorem hd_rest {us : List ab_Ct} {inl : List (Nat × ev_MI)} (hin : ∀ q ∈ inl, cm_ms[q.1]? = some q.2) {d dd n : Nat} (hus : ∀ c ∈ us, ab_CT cm_ms hp hN d c) {c : ab_Ct} {mi : ev_MI} (hmi : cm_ms[c.1]? = some mi) {tms : List ab_Tm} {S : ab_S} {C : cm_S} {M : cm_M} {ρ : List Int32} (hlen : ρ.length = c.2.2.1.length) (h2 : ab_chk1 cm_ms hp us inl dd n c mi tms none S = true) (h3 : tms.all (fun T => ab_chk1 cm_ms hp us inl dd n c mi tms (some T.2) T.1) = true) (hmu : ∀ T ∈ tms, T.2.all (ab_tok T.1.2.2.2.1) = true) (hG : ab_G hp hN M c.2.2.2.2.1 ρ S C) : cm_At cm_ms (d + dd) mi (ab_Post hp hN M c.2.2.2.2.1 ρ c.2.2.2.2.2) C := by
  have loops : ∀ (k : Nat) (T : ab_Tm), T ∈ tms → ∀ (eT : List Int32) (C' : cm_S), ab_G hp hN M c.2.2.2.2.1 (ρ ++ eT) T.1 C' → ab_mu (ρ ++ eT) T.2 < k → cm_At cm_ms (d + dd) mi (ab_Post hp hN M c.2.2.2.2.1 ρ c.2.2.2.2.2) C' := by
    intro k
    induction k with
    | zero => intro T hT eT C' hG hlt; exact absurd hlt (Nat.not_lt_zero _)
    | succ k ih =>
      intro T hT eT C' hG hlt
      refine ab_chk1_ok cm_ms_ok cm_ms_rc hin hNP hus hmi hlen (List.all_eq_true.mp h3 T hT) hG (fun T' hT' e' C2 hG2 hm => ih T' hT' e' C2 hG2 ?_) (fun m hm q hq => ?_)
      · have := hm T.2 rfl
        omega
      · cases hm
        have h4 := List.all_eq_true.mp (hmu T hT) q hq
        simp only [ab_tok, Bool.and_eq_true] at h4
        exact ab_def_ok h4.1 hG.2.2.2.1
  refine ab_chk1_ok (e := []) cm_ms_ok cm_ms_rc hin hNP hus hmi hlen h2 (by rw [ab_nil]; exact hG) (fun T hT eT C' hG _ => loops _ T hT eT C' hG (Nat.lt_succ_self _)) (fun m hm => by cases hm)
def tw_c (k rc : Nat) (K : ab_Ke) (md : ab_Md) (ca : ab_Ca) : ab_Ct := (k, [(1, 0, [rc]), (3, 0, [])], [K], [], md, [([(3, 1, [])], [K, ((-2147483648), 2147483647, 0, (0, 0, []), (0, 0, []))], ca)])
def tw_S (pc rc : Nat) (K : ab_Ke) (ca : ab_Ca) : ab_S := (pc, [(0, (1, 0, [rc])), (1, (3, 0, []))], [], [K], ca)
theorem tw_G {pc rc : Nat} {K : ab_Ke} {ca : ab_Ca} {md : ab_Md} {M : cm_M} {n : Int32} (hM : ab_ok hp hN M) (hK : K.2.2.1 = 0 ∧ K.1 ≤ n.toInt ∧ n.toInt ≤ K.2.1) (hca : ab_ca [n] M ca) : ab_G hp hN M md [n] (tw_S pc rc K ca) (pc, [(0, .ref rc), (1, .int n)], [], M) := by
  refine ⟨rfl, ?_, trivial, lk_k ⟨hK, trivial⟩, hM, ab_fr_rf _ _, hca⟩
  intro q hq
  simp only [tw_S, List.mem_cons, List.not_mem_nil, or_false] at hq
  rcases hq with rfl | rfl
  · exact ⟨_, rfl, rc, List.mem_singleton.mpr rfl, rfl⟩
  · exact ⟨_, rfl, n, rfl, rfl⟩
theorem tw_out {k rc : Nat} {K : ab_Ke} {md : ab_Md} {ca : ab_Ca} {M : cm_M} {n : Int32} {v : Option Value} {M' : cm_M} (h : ab_Post hp hN M md [n] (tw_c k rc K md ca).2.2.2.2.2 v M') : lp_kd 0 v ∧ ab_ok hp hN M' ∧ ab_fr md M M' ∧ ∃ ext, ab_ca ([n] ++ ext) M' ca := by
  obtain ⟨o, ho, ext, h1, h2, h3⟩ := h
  have ho := List.mem_singleton.mp ho
  subst ho
  exact ⟨lk_kd_ok (kd := 0) rfl h1, h3.1, h3.2.1, ext, h3.2.2⟩
def tw_T (c i : Nat) (M : cm_M) (n : Int32) (M' : cm_M) : Prop := ab_ok hp hN M' ∧ M'.1 c i = if 0 ≤ n.toInt ∧ n.toInt ≤ (M.1 c i).toInt then 0 else M.1 c i
def tw_PC (M : cm_M) (n : Int32) : cm_K := fun v M' => lp_kd 0 v ∧ (tw_T 0 1 M n M' ∧ M'.1 124 2 = M.1 124 2 ∧ (∀ j, M'.1 125 j = M.1 125 j) ∧ ∀ c j, 124 ≤ c → M'.1 c j = M.1 c j)
def tw_PM (M : cm_M) (n : Int32) : cm_K := fun v M' => lp_kd 0 v ∧ (tw_T 124 2 M n M' ∧ M'.1 0 1 = M.1 0 1 ∧ (∀ j, M'.1 1 j = M.1 1 j) ∧ ∀ c j, c < 124 → M'.1 c j = M.1 c j ∧ M'.2.2 c j = M.2.2 c j)
abbrev tw_md6 : ab_Md := ct_225.2.2.2.2.1
abbrev tw_md19 : ab_Md := ct_226.2.2.2.2.1
abbrev tw_mdm : ab_Md := ct_344.2.2.2.2.1
set_option maxRecDepth 1000000 in
theorem tw_in6 {M : cm_M} (hM : ab_ok hp hN M) {n : Int32} (h0 : 0 ≤ n.toInt) (h1 : n.toInt ≤ 900) (hs : M.2.2 0 4 = some 6) : cm_At cm_ms 17 mr_95 (ab_Post hp hN M tw_md6 [n] (tw_c 95 0 (0, 900, 0, (0, 0, []), (0, 0, [])) tw_md6 [(0, 1, (0, 0, []))]).2.2.2.2.2) (18, [(0, .ref 0), (1, .int n)], [], M) :=
  hd_rest (us := [ct_21, ct_221]) (inl := inl0) (hin := inl0_ok) (d := 16) (dd := 1) (n := 20000) (tms := []) (List.forall_mem_cons.mpr ⟨ab_CT_up ck_21 (by decide), List.forall_mem_cons.mpr ⟨ab_CT_up ck_221 (by decide), fun _ h => absurd h List.not_mem_nil⟩⟩) (c := tw_c 95 0 (0, 900, 0, (0, 0, []), (0, 0, [])) tw_md6 [(0, 1, (0, 0, []))]) (mi := mr_95) rfl rfl (S := tw_S 18 0 (0, 900, 0, (0, 0, []), (0, 0, [])) [(0, 4, (1, 0, [6]))]) (by decide +kernel) (by decide +kernel) (by decide +kernel) (tw_G hM ⟨rfl, h0, h1⟩ (fun q hq => by rw [List.mem_singleton.mp hq]; unfold ab_ce; rw [if_neg (by decide)]; show ab_v _ _ (cm_rq (M.2.2 0 4)); rw [hs]; exact ⟨6, List.mem_singleton.mpr rfl, rfl⟩))
set_option maxRecDepth 1000000 in
theorem tw_in19 {M : cm_M} (hM : ab_ok hp hN M) {n : Int32} (h0 : 0 ≤ n.toInt) (h1 : n.toInt ≤ 900) (hs : M.2.2 0 4 = some 19) : cm_At cm_ms 17 mr_95 (ab_Post hp hN M tw_md19 [n] (tw_c 95 0 (0, 900, 0, (0, 0, []), (0, 0, [])) tw_md19 [(0, 1, (0, 0, []))]).2.2.2.2.2) (18, [(0, .ref 0), (1, .int n)], [], M) :=
  hd_rest (us := [ct_21, ct_222]) (inl := inl0) (hin := inl0_ok) (d := 16) (dd := 1) (n := 20000) (tms := []) (List.forall_mem_cons.mpr ⟨ab_CT_up ck_21 (by decide), List.forall_mem_cons.mpr ⟨ab_CT_up ck_222 (by decide), fun _ h => absurd h List.not_mem_nil⟩⟩) (c := tw_c 95 0 (0, 900, 0, (0, 0, []), (0, 0, [])) tw_md19 [(0, 1, (0, 0, []))]) (mi := mr_95) rfl rfl (S := tw_S 18 0 (0, 900, 0, (0, 0, []), (0, 0, [])) [(0, 4, (1, 0, [19]))]) (by decide +kernel) (by decide +kernel) (by decide +kernel) (tw_G hM ⟨rfl, h0, h1⟩ (fun q hq => by rw [List.mem_singleton.mp hq]; unfold ab_ce; rw [if_neg (by decide)]; show ab_v _ _ (cm_rq (M.2.2 0 4)); rw [hs]; exact ⟨19, List.mem_singleton.mpr rfl, rfl⟩))
set_option maxRecDepth 1000000 in
theorem tw_no {M : cm_M} (hM : ab_ok hp hN M) {n : Int32} : cm_At cm_ms 17 mr_95 (ab_Post hp hN M [(0, [14])] [n] (tw_c 95 0 ((-2147483648), 2147483647, 0, (0, 0, []), (0, 0, [])) [(0, [14])] []).2.2.2.2.2) (12, [(0, .ref 0), (1, .int n)], [], M) :=
  hd_rest (us := []) (inl := inl0) (hin := inl0_ok) (d := 16) (dd := 1) (n := 200) (tms := []) (fun _ h => absurd h List.not_mem_nil) (c := tw_c 95 0 ((-2147483648), 2147483647, 0, (0, 0, []), (0, 0, [])) [(0, [14])] []) (mi := mr_95) rfl rfl (S := tw_S 12 0 ((-2147483648), 2147483647, 0, (0, 0, []), (0, 0, [])) []) (by decide +kernel) (by decide +kernel) (by decide +kernel) (tw_G hM (lu_f n) (fun q hq => nomatch hq))
theorem tw_sp {M : cm_M} (h : ab_ok hp hN M) : M.2.2 0 4 = some 6 ∨ M.2.2 0 4 = some 19 := by
  have h1 := h.2.1 0 4
  rw [show ab_hr hp 0 4 = some (false, [6, 19]) from by decide +kernel] at h1
  cases hc : M.2.2 0 4 with
  | none => rw [hc] at h1; cases h1
  | some q =>
    rw [hc] at h1
    have h1 : q ∈ [6, 19] := h1
    simp only [List.mem_cons, List.not_mem_nil, or_false] at h1
    rcases h1 with rfl | rfl
    · exact Or.inl rfl
    · exact Or.inr rfl
theorem tw_max {M : cm_M} (h : ab_ok hp hN M) : (M.1 0 1).toInt ≤ 900 ∧ (M.1 124 2).toInt ≤ 900 := by
  have h2 := h.1 0 1
  have h3 := h.1 124 2
  rw [show ab_hi hp 0 1 = (0, 900) from by decide +kernel] at h2
  rw [show ab_hi hp 124 2 = (0, 900) from by decide +kernel] at h3
  exact ⟨h2.2, h3.2⟩
theorem tw_n0 {n : Int32} (h : ev_cmp 2 n 0 = true) : n.toInt < 0 := by
  have h1 : n < 0 := of_decide_eq_true h
  rw [Int32.lt_iff_toInt_lt] at h1
  exact h1
theorem tw_n1 {n : Int32} (h : ev_cmp 2 n 0 = false) : 0 ≤ n.toInt := by
  have h1 : ¬ n < 0 := of_decide_eq_false h
  rw [Int32.lt_iff_toInt_lt] at h1
  have h0 : (0 : Int32).toInt = 0 := by decide
  omega
theorem tw_g1 {n t : Int32} (h : ev_cmp 4 n t = true) : t.toInt < n.toInt := by
  have h1 : n > t := of_decide_eq_true h
  exact Int32.lt_iff_toInt_lt.mp h1
theorem tw_g0 {n t : Int32} (h : ev_cmp 4 n t = false) : n.toInt ≤ t.toInt := by
  have h1 : ¬ n > t := of_decide_eq_false h
  have h2 : ¬ t.toInt < n.toInt := fun hc => h1 (Int32.lt_iff_toInt_lt.mpr hc)
  omega
theorem tw_l1 {n t : Int32} (h : ev_cmp 5 n t = true) : n.toInt ≤ t.toInt := by
  have h1 : n ≤ t := of_decide_eq_true h
  rw [Int32.le_iff_toInt_le] at h1
  exact h1
theorem tw_l0 {n t : Int32} (h : ev_cmp 5 n t = false) : t.toInt < n.toInt := by
  have h1 : ¬ n ≤ t := of_decide_eq_false h
  rw [Int32.le_iff_toInt_le] at h1
  omega
set_option maxRecDepth 1000000 in
theorem hd_town {M : cm_M} (hM : ab_ok hp hN M) (n : Int32) : cm_Call cm_ms 30 95 [.ref 0, .int n] M (tw_PC M n) := by
  have hno : ¬ (0 ≤ n.toInt ∧ n.toInt ≤ (M.1 0 1).toInt) → cm_At cm_ms 17 mr_95 (tw_PC M n) (12, [(0, .ref 0), (1, .int n)], [], M) := fun hc => hd_up (tw_no hM) (fun v M' hv => by
    obtain ⟨k0, k1, k2, -⟩ := tw_out hv
    exact ⟨k0, ⟨k1, by rw [if_neg hc]; exact (k2 0 1 (by decide +kernel)).1⟩, (k2 124 2 (by decide +kernel)).1, fun j => (k2 125 j (lk_lt_in (by decide +kernel) (by decide))).1, fun c j q => (k2 c j (lk_lt_in (by decide +kernel) q)).1⟩)
  have hyes : 0 ≤ n.toInt → n.toInt ≤ (M.1 0 1).toInt → cm_At cm_ms 17 mr_95 (tw_PC M n) (18, [(0, .ref 0), (1, .int n)], [], M) := by
    intro h0 h1
    have h9 := (tw_max hM).1
    rcases tw_sp hM with hs | hs
    · refine hd_up (tw_in6 hM h0 (by omega) hs) (fun v M' hv => ?_)
      obtain ⟨k0, k1, k2, ext, k3⟩ := tw_out hv
      have k4 : some (Int32.ofInt 0) = some (M'.1 0 1) := k3 (0, 1, (0, 0, [])) List.mem_cons_self
      exact ⟨k0, ⟨k1, by rw [if_pos ⟨h0, h1⟩]; exact (Option.some.inj k4).symm⟩, (k2 124 2 (by decide +kernel)).1, fun j => (k2 125 j (lk_lt_in (by decide +kernel) (by decide))).1, fun c j q => (k2 c j (lk_lt_in (by decide +kernel) q)).1⟩
    · refine hd_up (tw_in19 hM h0 (by omega) hs) (fun v M' hv => ?_)
      obtain ⟨k0, k1, k2, ext, k3⟩ := tw_out hv
      have k4 : some (Int32.ofInt 0) = some (M'.1 0 1) := k3 (0, 1, (0, 0, [])) List.mem_cons_self
      exact ⟨k0, ⟨k1, by rw [if_pos ⟨h0, h1⟩]; exact (Option.some.inj k4).symm⟩, (k2 124 2 (by decide +kernel)).1, fun j => (k2 125 j (lk_lt_in (by decide +kernel) (by decide))).1, fun c j q => (k2 c j (lk_lt_in (by decide +kernel) q)).1⟩
  refine cm_Call_up (cm_Call_of cm_ms_ok (k := 95) (mi := mr_95) rfl (by show 2 ≤ 3; decide) ?_) (show 17 + 1 ≤ 30 by decide) (fun _ _ h => h)
  refine cm_At_run cm_ms_ok (k := 95) rfl (stops := [(12, [0, 1]), (18, [0, 1])]) (J := cm_At cm_ms 17 mr_95 (tw_PC M n)) (fun S hS => hS) (n := 20) ?_
  show 0 ≤ _ ∧ (ev_cmp 2 n 0 = true → cm_At cm_ms 17 mr_95 (tw_PC M n) (12, [(0, .ref 0), (1, .int n)], [], M)) ∧ (ev_cmp 2 n 0 = false → (cm_kind 0).1 = _ ∧ _ < _ ∧ 0 ≤ _ ∧ (ev_cmp 5 n (M.1 0 1) = true → cm_At cm_ms 17 mr_95 (tw_PC M n) (18, [(0, .ref 0), (1, .int n)], [], M)) ∧ (ev_cmp 5 n (M.1 0 1) = false → cm_At cm_ms 17 mr_95 (tw_PC M n) (12, [(0, .ref 0), (1, .int n)], [], M)))
  exact ⟨(by decide : (0 : Int) ≤ 12), fun h => hno (fun hc => by have := tw_n0 h; omega), fun h => ⟨by decide, by decide, (by decide : (0 : Int) ≤ 18), fun h2 => hyes (tw_n1 h) (tw_l1 h2), fun h2 => hno (fun hc => by have := tw_l0 h2; omega)⟩⟩
/-! the reference's town -/
set_option maxRecDepth 1000000 in
theorem tw_good : ab_CT cm_ms hp hN 1 (164, [(1, 0, [124])], [], [], [(124, [0, 11])], [([], [], [(124, 0, (0, 0, [])), (124, 11, (0, 0, []))])]) := ab_chk_ok (us := []) (inl := []) (hin := fun _ h => nomatch h) (d := 0) (dd := 0) (n := 100) (tms := []) cm_ms_ok cm_ms_rc hNP (fun _ h => absurd h List.not_mem_nil) (by decide +kernel) (by decide +kernel)
theorem tw_iv {M : cm_M} (n t : Int32) : cm_Call cm_ms 1 167 [.int n, .int 0, .int t] M (fun v M' => M' = M ∧ ((v = some (.int 1) ∧ 0 ≤ n.toInt ∧ n.toInt ≤ t.toInt) ∨ (v = some (.int 0) ∧ ¬ (0 ≤ n.toInt ∧ n.toInt ≤ t.toInt)))) := by
  refine cm_Call_of cm_ms_ok (k := 167) (mi := mr_167) rfl (by show 3 ≤ 3; decide) ?_
  refine cm_At_run cm_ms_ok (k := 167) rfl (stops := []) (J := fun _ => False) (fun S hS => hS.elim) (n := 20) ?_
  show 0 ≤ _ ∧ (ev_cmp 2 n 0 = true → ((0 : Int32) = 0 ∨ _) ∧ _) ∧ (ev_cmp 2 n 0 = false → 0 ≤ _ ∧ (ev_cmp 4 n t = true → ((0 : Int32) = 0 ∨ _) ∧ _) ∧ (ev_cmp 4 n t = false → 0 ≤ _ ∧ ((1 : Int32) = 0 ∨ _) ∧ _))
  refine ⟨(by decide : (0 : Int) ≤ 14), fun h => ⟨Or.inl rfl, rfl, Or.inr ⟨rfl, fun hc => by have := tw_n0 h; omega⟩⟩, fun h => ⟨(by decide : (0 : Int) ≤ 14), fun h2 => ⟨Or.inl rfl, rfl, Or.inr ⟨rfl, fun hc => by have := tw_g1 h2; omega⟩⟩, fun h2 => ⟨(by decide : (0 : Int) ≤ 15), Or.inr rfl, rfl, Or.inl ⟨rfl, tw_n1 h, by have := tw_g0 h2; omega⟩⟩⟩⟩
set_option maxRecDepth 1000000 in
theorem tw_inm {M : cm_M} (hM : ab_ok hp hN M) {n : Int32} (h0 : 0 ≤ n.toInt) (h1 : n.toInt ≤ 900) (e0 : M.1 124 0 = 0) (e11 : M.1 124 11 = 0) : cm_At cm_ms 15 mr_191 (ab_Post hp hN M tw_mdm [n] (tw_c 191 124 (0, 900, 0, (0, 0, []), (0, 0, [])) tw_mdm [(124, 2, (0, 0, []))]).2.2.2.2.2) (22, [(0, .ref 124), (1, .int n)], [], M) :=
  hd_rest (us := [ct_289, ct_292, ct_327, ct_343]) (inl := inl0) (hin := inl0_ok) (d := 14) (dd := 1) (n := 20000) (tms := [((39, [(0, (1, 0, [124])), (1, (3, 0, [])), (2, (3, 1, []))], [], [(0, 900, 0, (0, 0, []), (0, 0, [])), (0, 213, 0, (0, 0, []), (0, 0, []))], [(124, 0, (0, 0, [])), (124, 2, (0, 0, [])), (124, 9, (0, 0, [])), (124, 11, (0, 0, [])), (124, 13, (0, 0, []))]), [(0, 2, (0, 0, [])), ((-1), 2147483648, (3, 1, [])), (0, 1000, (0, 0, [])), (0, 0, (0, 0, [])), (0, 0, (0, 0, [])), (0, 0, (0, 0, [])), (0, 0, (0, 0, [])), (0, 0, (0, 0, [])), (0, 0, (0, 0, [])), (0, 0, (0, 0, [])), (0, 0, (0, 0, []))]), ((77, [(0, (1, 0, [124]))], [], [(0, 900, 0, (0, 0, []), (0, 0, [])), (0, 6, 0, (0, 0, []), (0, 0, [])), (0, 5, 0, (0, 0, []), (0, 0, [])), (0, 9, 0, (0, 0, []), (0, 0, [])), (0, 6, 0, (0, 0, []), (0, 0, [])), (0, 9, 0, (0, 0, []), (0, 0, [])), (0, 5, 0, (0, 0, []), (0, 0, [])), (0, 1, 0, (0, 0, []), (0, 0, [])), (0, 1000, 0, (0, 0, []), (0, 0, [])), (0, 1000, 0, (0, 0, []), (0, 0, [])), (0, 1000, 0, (0, 0, []), (0, 0, []))], [(124, 0, (0, 0, [])), (124, 2, (0, 0, [])), (124, 3, (3, 0, [])), (124, 11, (0, 0, [])), (124, 13, (0, 1, [])), (128, 3, (3, 1, [])), (128, 4, (3, 2, [])), (128, 5, (3, 3, [])), (128, 6, (3, 4, [])), (128, 7, (3, 5, [])), (128, 8, (3, 6, [])), (128, 10, (3, 7, [])), (128, 66, (3, 8, [])), (128, 67, (3, 9, [])), (128, 68, (3, 10, []))]), [(0, 0, (0, 0, [])), (0, 1000, (0, 0, [])), (0, 0, (0, 0, [])), (0, 0, (0, 0, [])), (0, 0, (0, 0, [])), (0, 0, (0, 0, [])), (0, 0, (0, 0, [])), (0, 0, (0, 0, [])), (0, 0, (0, 0, [])), (0, 0, (0, 0, [])), (0, 0, (0, 0, []))]), ((77, [(0, (1, 0, [124]))], [], [(0, 900, 0, (0, 0, []), (0, 0, [])), (0, 6, 0, (0, 0, []), (0, 0, [])), (0, 5, 0, (0, 0, []), (0, 0, [])), (0, 9, 0, (0, 0, []), (0, 0, [])), (0, 6, 0, (0, 0, []), (0, 0, [])), (0, 9, 0, (0, 0, []), (0, 0, [])), (0, 5, 0, (0, 0, []), (0, 0, [])), (1, 1, 0, (0, 0, []), (0, 0, [])), (0, 1000, 0, (0, 0, []), (0, 0, [])), (0, 1000, 0, (0, 0, []), (0, 0, [])), (0, 1000, 0, (0, 0, []), (0, 0, []))], [(124, 0, (0, 0, [])), (124, 2, (0, 0, [])), (124, 3, (3, 0, [])), (124, 11, (0, 0, [])), (124, 13, (0, 0, [])), (128, 3, (3, 1, [])), (128, 4, (3, 2, [])), (128, 5, (3, 3, [])), (128, 6, (3, 4, [])), (128, 7, (3, 5, [])), (128, 8, (3, 6, [])), (128, 10, (3, 7, [])), (128, 66, (3, 8, [])), (128, 67, (3, 9, [])), (128, 68, (3, 10, []))]), [(0, 1, (0, 0, [])), ((-1), 2147483648, (3, 7, [])), ((-1), 2147483648, (3, 1, [])), ((-1), 2147483648, (3, 2, [])), ((-1), 2147483648, (3, 3, [])), ((-1), 2147483648, (3, 4, [])), ((-1), 2147483648, (3, 5, [])), ((-1), 2147483648, (3, 6, [])), ((-1), 2147483648, (3, 8, [])), ((-1), 2147483648, (3, 9, [])), ((-1), 2147483648, (3, 10, []))])]) (List.forall_mem_cons.mpr ⟨ab_CT_up ck_289 (by decide), List.forall_mem_cons.mpr ⟨ab_CT_up ck_292 (by decide), List.forall_mem_cons.mpr ⟨ab_CT_up ck_327 (by decide), List.forall_mem_cons.mpr ⟨ab_CT_up ck_343 (by decide), fun _ h => absurd h List.not_mem_nil⟩⟩⟩⟩) (c := tw_c 191 124 (0, 900, 0, (0, 0, []), (0, 0, [])) tw_mdm [(124, 2, (0, 0, []))]) (mi := mr_191) rfl rfl (S := tw_S 22 124 (0, 900, 0, (0, 0, []), (0, 0, [])) [(124, 0, (0, 0, [])), (124, 11, (0, 0, []))]) (by decide +kernel) (by decide +kernel) (by decide +kernel) (tw_G hM ⟨rfl, h0, h1⟩ (fun q hq => by
    simp only [List.mem_cons, List.not_mem_nil, or_false] at hq
    rcases hq with rfl | rfl
    · exact congrArg some e0.symm
    · exact congrArg some e11.symm))
set_option maxRecDepth 1000000 in
theorem tw_nom {M : cm_M} (hM : ab_ok hp hN M) {n : Int32} : cm_At cm_ms 15 mr_191 (ab_Post hp hN M [(124, [0, 11])] [n] (tw_c 191 124 ((-2147483648), 2147483647, 0, (0, 0, []), (0, 0, [])) [(124, [0, 11])] []).2.2.2.2.2) (16, [(0, .ref 124), (1, .int n)], [], M) :=
  hd_rest (us := []) (inl := inl0) (hin := inl0_ok) (d := 14) (dd := 1) (n := 200) (tms := []) (fun _ h => absurd h List.not_mem_nil) (c := tw_c 191 124 ((-2147483648), 2147483647, 0, (0, 0, []), (0, 0, [])) [(124, [0, 11])] []) (mi := mr_191) rfl rfl (S := tw_S 16 124 ((-2147483648), 2147483647, 0, (0, 0, []), (0, 0, [])) []) (by decide +kernel) (by decide +kernel) (by decide +kernel) (tw_G hM (lu_f n) (fun q hq => nomatch hq))
set_option maxRecDepth 1000000 in
theorem hd_mtown {M : cm_M} (hM : ab_ok hp hN M) (n : Int32) : cm_Call cm_ms 30 191 [.ref 124, .int n] M (tw_PM M n) := by
  refine cm_Call_up (cm_Call_of cm_ms_ok (k := 191) (mi := mr_191) rfl (by show 2 ≤ 3; decide) ?_) (show 15 + 1 ≤ 30 by decide) (fun _ _ h => h)
  refine cm_At_run cm_ms_ok (k := 191) rfl (stops := [(16, [0, 1]), (22, [0, 1])]) (J := cm_At cm_ms 15 mr_191 (tw_PM M n)) (fun S hS => hS) (n := 20) ?_
  show cm_cs [] ≤ 8 ∧ ev_nar1 _ _ = true ∧ (_ → _) ∧ cm_Call cm_ms 15 164 [.ref 124] M _
  refine ⟨by decide, by decide, fun _ => Or.inr rfl, cm_Call_up (tw_good [] [.ref 124] M ⟨⟨124, List.mem_cons_self, rfl⟩, trivial⟩ ⟨rfl, fun j r x h => by cases h⟩ hM (fun q hq => nomatch hq)) (by decide) (fun v M1 hv => ?_)⟩
  obtain ⟨o, ho, ext, h1, h2, k1, k2, k3⟩ := hv
  have ho := List.mem_singleton.mp ho
  subst ho
  cases v with
  | some v => exact h1.elim
  | none =>
  have e0 : some (Int32.ofInt 0) = some (M1.1 124 0) := k3 (124, 0, (0, 0, [])) List.mem_cons_self
  have e11 : some (Int32.ofInt 0) = some (M1.1 124 11) := k3 (124, 11, (0, 0, [])) (List.mem_cons_of_mem _ List.mem_cons_self)
  have e2 : M1.1 124 2 = M.1 124 2 := (k2 124 2 (by decide +kernel)).1
  have e1 : M1.1 0 1 = M.1 0 1 := (k2 0 1 (by decide +kernel)).1
  have e5 : ∀ c j, c < 124 → M1.1 c j = M.1 c j ∧ M1.2.2 c j = M.2.2 c j := fun c j q => ⟨(k2 c j (lk_ge_in (by decide +kernel) q)).1, (k2 c j (lk_ge_in (by decide +kernel) q)).2.2⟩
  show (cm_kind 124).1 = _ ∧ _ < _ ∧ cm_cs [] ≤ 8 ∧ ev_nar1 _ _ = true ∧ (_ → _) ∧ cm_Call cm_ms 15 167 [.int n, .int 0, .int (M1.1 124 2)] M1 _
  refine ⟨by decide, by decide, by decide, by decide, fun h => absurd h (by decide), cm_Call_up (tw_iv n (M1.1 124 2)) (by decide) (fun v M2 hv => ?_)⟩
  obtain ⟨rfl, ⟨rfl, g0, g1⟩ | ⟨rfl, g⟩⟩ := hv
  · show 0 ≤ _ ∧ (ev_cmp 1 1 0 = true → cm_At cm_ms 15 mr_191 (tw_PM M n) (22, [(0, .ref 124), (1, .int n)], [], M2)) ∧ (ev_cmp 1 1 0 = false → _)
    refine ⟨(by decide : (0 : Int) ≤ 22), fun _ => ?_, fun h => by cases h⟩
    have h9 := (tw_max k1).2
    refine hd_up (tw_inm k1 g0 (by omega) (Option.some.inj e0).symm (Option.some.inj e11).symm) (fun v M' hv => ?_)
    obtain ⟨z0, z1, z2, ext, z3⟩ := tw_out hv
    have z4 : some (Int32.ofInt 0) = some (M'.1 124 2) := z3 (124, 2, (0, 0, [])) List.mem_cons_self
    exact ⟨z0, ⟨z1, by rw [← e2, if_pos ⟨g0, g1⟩]; exact (Option.some.inj z4).symm⟩, ((z2 0 1 (by decide +kernel)).1).trans e1, fun j => ((z2 1 j (lk_ge_in (by decide +kernel) (by decide))).1).trans (e5 1 j (by decide)).1, fun c j q => ⟨((z2 c j (lk_ge_in (by decide +kernel) q)).1).trans (e5 c j q).1, ((z2 c j (lk_ge_in (by decide +kernel) q)).2.2).trans (e5 c j q).2⟩⟩
  · show 0 ≤ _ ∧ (ev_cmp 1 0 0 = true → _) ∧ (ev_cmp 1 0 0 = false → cm_At cm_ms 15 mr_191 (tw_PM M n) (16, [(0, .ref 124), (1, .int n)], [], M2))
    refine ⟨(by decide : (0 : Int) ≤ 22), ?_, ?_⟩
    · intro h
      exact absurd h (by decide)
    intro _
    refine hd_up (tw_nom k1) (fun v M' hv => ?_)
    obtain ⟨z0, z1, z2, -⟩ := tw_out hv
    exact ⟨z0, ⟨z1, by rw [← e2, if_neg g]; exact (z2 124 2 (by decide +kernel)).1⟩, ((z2 0 1 (by decide +kernel)).1).trans e1, fun j => ((z2 1 j (lk_ge_in (by decide +kernel) (by decide))).1).trans (e5 1 j (by decide)).1, fun c j q => ⟨((z2 c j (lk_ge_in (by decide +kernel) q)).1).trans (e5 c j q).1, ((z2 c j (lk_ge_in (by decide +kernel) q)).2.2).trans (e5 c j q).2⟩⟩
/-! a sum of two -/
theorem hd_sum {ρ : List Int32} {K : ab_K} {j u : Nat} {c : Int} {x : Int32} (hk : ab_k ρ K) (hK : (K[j]?).map (fun r => r.2.2) = some (1, (3, (u : Int), []), (0, c, []))) (hx : ρ[j]? = some x) : ∃ y, ρ[u]? = some y ∧ x = y + Int32.ofInt c := by
  cases hr : K[j]? with
  | none => rw [hr] at hK; cases hK
  | some r =>
    rw [hr] at hK
    have h5 : r.2.2 = (1, (3, (u : Int), []), (0, c, [])) := Option.some.inj hK
    have h6 := (hk.2 j r x hr hx).2
    rw [h5] at h6
    rcases h6 with h6 | ⟨y, z, a1, a2, a3⟩
    · cases h6
    · have a1 : ρ[(u : Int).toNat]? = some y := a1
      have a2 : some (Int32.ofInt c) = some z := a2
      rw [Int.toNat_natCast] at a1
      cases a2
      exact ⟨y, a1, a3⟩
/-! FEED AND TOWN, both sides: what the law needs -/
def lu_I (M : cm_M) : Prop := M.1 0 1 = M.1 124 2 ∧ ∀ j, j < (M.1 0 1).toNatClampNeg → tb (M.1 1 j) (M.1 125 j)
theorem okr {M : cm_M} (h : ab_ok hp hN M) {c i q : Nat} (e : ab_hr hp c i = some (false, [q])) : M.2.2 c i = some q := by
  have h1 := h.2.1 c i
  rw [e] at h1
  cases hc : M.2.2 c i with
  | none => rw [hc] at h1; cases h1
  | some x =>
    rw [hc] at h1
    have h1 : x ∈ [q] := h1
    rw [List.mem_singleton.mp h1]
theorem okt {M : cm_M} (h : ab_ok hp hN M) : ∃ T', M.2.2 0 3 = some T' := by
  have h1 := h.2.1 0 3
  rw [show ab_hr hp 0 3 = some (false, [6, 19]) from by decide +kernel] at h1
  cases hc : M.2.2 0 3 with
  | none => rw [hc] at h1; cases h1
  | some x => exact ⟨x, rfl⟩
def okR (M : cm_M) : Prop := M.2.2 2 11 = some 3 ∧ M.2.2 2 12 = some 4 ∧ M.2.2 2 13 = some 5 ∧ M.2.2 6 4 = some 7 ∧ M.2.2 6 5 = some 8 ∧ M.2.2 6 6 = some 9 ∧ M.2.2 6 7 = some 10 ∧ M.2.2 6 8 = some 11 ∧ M.2.2 6 10 = some 12 ∧ M.2.2 6 11 = some 13 ∧ M.2.2 6 12 = some 14 ∧ M.2.2 6 13 = some 15 ∧ M.2.2 6 14 = some 16 ∧ M.2.2 6 16 = some 17 ∧ M.2.2 6 17 = some 18 ∧ M.2.2 19 4 = some 20 ∧ M.2.2 19 5 = some 21 ∧ M.2.2 19 6 = some 22 ∧ M.2.2 19 7 = some 23 ∧ M.2.2 19 8 = some 24 ∧ M.2.2 19 10 = some 25 ∧ M.2.2 19 11 = some 26 ∧ M.2.2 19 12 = some 27 ∧ M.2.2 19 13 = some 28 ∧ M.2.2 19 14 = some 29 ∧ M.2.2 19 16 = some 30 ∧ M.2.2 19 17 = some 31 ∧ M.2.2 0 0 = some 1 ∧ M.2.2 0 2 = some 2 ∧ M.2.2 0 5 = some 32 ∧ M.2.2 0 7 = some 38 ∧ M.2.2 32 0 = some 33 ∧ M.2.2 32 1 = some 34
set_option maxRecDepth 1000000 in
theorem okR_of {M : cm_M} (h : ab_ok hp hN M) : okR M := ⟨okr h (by decide +kernel), okr h (by decide +kernel), okr h (by decide +kernel), okr h (by decide +kernel), okr h (by decide +kernel), okr h (by decide +kernel), okr h (by decide +kernel), okr h (by decide +kernel), okr h (by decide +kernel), okr h (by decide +kernel), okr h (by decide +kernel), okr h (by decide +kernel), okr h (by decide +kernel), okr h (by decide +kernel), okr h (by decide +kernel), okr h (by decide +kernel), okr h (by decide +kernel), okr h (by decide +kernel), okr h (by decide +kernel), okr h (by decide +kernel), okr h (by decide +kernel), okr h (by decide +kernel), okr h (by decide +kernel), okr h (by decide +kernel), okr h (by decide +kernel), okr h (by decide +kernel), okr h (by decide +kernel), okr h (by decide +kernel), okr h (by decide +kernel), okr h (by decide +kernel), okr h (by decide +kernel), okr h (by decide +kernel), okr h (by decide +kernel)⟩
set_option maxRecDepth 1000000 in
set_option maxHeartbeats 4000000 in
theorem fbgb {M : cm_M} {T T' : Nat} (h : okR M) (h3 : M.2.2 0 3 = some T') (h4 : M.2.2 0 4 = some T) : fb (gb T T' M) = M := by
  obtain ⟨r0, r1, r2, r3, r4, r5, r6, r7, r8, r9, r10, r11, r12, r13, r14, r15, r16, r17, r18, r19, r20, r21, r22, r23, r24, r25, r26, r27, r28, r29, r30, r31, r32⟩ := h
  refine Prod.ext rfl (Prod.ext rfl (funext fun c => funext fun i => ?_))
  by_cases c2 : c = 2
  · subst c2
    show (if i = 11 then some 3 else if i = 12 then some 4 else if i = 13 then some 5 else M.2.2 2 i) = M.2.2 2 i
    by_cases q11 : i = 11
    · rw [if_pos q11, q11, r0]
    rw [if_neg q11]
    by_cases q12 : i = 12
    · rw [if_pos q12, q12, r1]
    rw [if_neg q12]
    by_cases q13 : i = 13
    · rw [if_pos q13, q13, r2]
    rw [if_neg q13]
  · by_cases c6 : c = 6
    · subst c6
      show (if i = 4 then some 7 else if i = 5 then some 8 else if i = 6 then some 9 else if i = 7 then some 10 else if i = 8 then some 11 else if i = 10 then some 12 else if i = 11 then some 13 else if i = 12 then some 14 else if i = 13 then some 15 else if i = 14 then some 16 else if i = 16 then some 17 else if i = 17 then some 18 else M.2.2 6 i) = M.2.2 6 i
      by_cases q4 : i = 4
      · rw [if_pos q4, q4, r3]
      rw [if_neg q4]
      by_cases q5 : i = 5
      · rw [if_pos q5, q5, r4]
      rw [if_neg q5]
      by_cases q6 : i = 6
      · rw [if_pos q6, q6, r5]
      rw [if_neg q6]
      by_cases q7 : i = 7
      · rw [if_pos q7, q7, r6]
      rw [if_neg q7]
      by_cases q8 : i = 8
      · rw [if_pos q8, q8, r7]
      rw [if_neg q8]
      by_cases q10 : i = 10
      · rw [if_pos q10, q10, r8]
      rw [if_neg q10]
      by_cases q11 : i = 11
      · rw [if_pos q11, q11, r9]
      rw [if_neg q11]
      by_cases q12 : i = 12
      · rw [if_pos q12, q12, r10]
      rw [if_neg q12]
      by_cases q13 : i = 13
      · rw [if_pos q13, q13, r11]
      rw [if_neg q13]
      by_cases q14 : i = 14
      · rw [if_pos q14, q14, r12]
      rw [if_neg q14]
      by_cases q16 : i = 16
      · rw [if_pos q16, q16, r13]
      rw [if_neg q16]
      by_cases q17 : i = 17
      · rw [if_pos q17, q17, r14]
      rw [if_neg q17]
    · by_cases c19 : c = 19
      · subst c19
        show (if i = 4 then some 20 else if i = 5 then some 21 else if i = 6 then some 22 else if i = 7 then some 23 else if i = 8 then some 24 else if i = 10 then some 25 else if i = 11 then some 26 else if i = 12 then some 27 else if i = 13 then some 28 else if i = 14 then some 29 else if i = 16 then some 30 else if i = 17 then some 31 else M.2.2 19 i) = M.2.2 19 i
        by_cases q4 : i = 4
        · rw [if_pos q4, q4, r15]
        rw [if_neg q4]
        by_cases q5 : i = 5
        · rw [if_pos q5, q5, r16]
        rw [if_neg q5]
        by_cases q6 : i = 6
        · rw [if_pos q6, q6, r17]
        rw [if_neg q6]
        by_cases q7 : i = 7
        · rw [if_pos q7, q7, r18]
        rw [if_neg q7]
        by_cases q8 : i = 8
        · rw [if_pos q8, q8, r19]
        rw [if_neg q8]
        by_cases q10 : i = 10
        · rw [if_pos q10, q10, r20]
        rw [if_neg q10]
        by_cases q11 : i = 11
        · rw [if_pos q11, q11, r21]
        rw [if_neg q11]
        by_cases q12 : i = 12
        · rw [if_pos q12, q12, r22]
        rw [if_neg q12]
        by_cases q13 : i = 13
        · rw [if_pos q13, q13, r23]
        rw [if_neg q13]
        by_cases q14 : i = 14
        · rw [if_pos q14, q14, r24]
        rw [if_neg q14]
        by_cases q16 : i = 16
        · rw [if_pos q16, q16, r25]
        rw [if_neg q16]
        by_cases q17 : i = 17
        · rw [if_pos q17, q17, r26]
        rw [if_neg q17]
      · by_cases c0 : c = 0
        · subst c0
          show (if i = 0 then some 1 else if i = 2 then some 2 else if i = 3 then some T' else if i = 4 then some T else if i = 5 then some 32 else if i = 7 then some 38 else M.2.2 0 i) = M.2.2 0 i
          by_cases q0 : i = 0
          · rw [if_pos q0, q0, r27]
          rw [if_neg q0]
          by_cases q2 : i = 2
          · rw [if_pos q2, q2, r28]
          rw [if_neg q2]
          by_cases q3 : i = 3
          · rw [if_pos q3, q3, h3]
          rw [if_neg q3]
          by_cases q4 : i = 4
          · rw [if_pos q4, q4, h4]
          rw [if_neg q4]
          by_cases q5 : i = 5
          · rw [if_pos q5, q5, r29]
          rw [if_neg q5]
          by_cases q7 : i = 7
          · rw [if_pos q7, q7, r30]
          rw [if_neg q7]
        · by_cases c32 : c = 32
          · subst c32
            show (if i = 0 then some 33 else if i = 1 then some 34 else M.2.2 32 i) = M.2.2 32 i
            by_cases q0 : i = 0
            · rw [if_pos q0, q0, r31]
            rw [if_neg q0]
            by_cases q1 : i = 1
            · rw [if_pos q1, q1, r32]
            rw [if_neg q1]
          · show (if c = 2 then _ else if c = 6 then _ else if c = 19 then _ else if c = 0 then _ else if c = 32 then _ else M.2.2 c i) = M.2.2 c i
            rw [if_neg c2, if_neg c6, if_neg c19, if_neg c0, if_neg c32]
set_option maxRecDepth 1000000 in
theorem fm_of {M : cm_M} (h : ab_ok hp hN M) : fm M = M := by
  refine Prod.ext rfl (Prod.ext rfl (funext fun c => funext fun i => ?_))
  by_cases c124 : c = 124
  · subst c124
    show (if i = 16 then some 128 else if i = 15 then some 127 else if i = 17 then some 129 else if i = 12 then some 126 else if i = 1 then some 125 else if i = 22 then some 132 else if i = 18 then some 130 else if i = 19 then some 131 else if i = 23 then some 133 else if i = 24 then some 134 else if i = 26 then some 135 else M.2.2 124 i) = M.2.2 124 i
    by_cases q16 : i = 16
    · rw [if_pos q16, q16, okr (c := 124) (i := 16) (q := 128) h (by decide +kernel)]
    rw [if_neg q16]
    by_cases q15 : i = 15
    · rw [if_pos q15, q15, okr (c := 124) (i := 15) (q := 127) h (by decide +kernel)]
    rw [if_neg q15]
    by_cases q17 : i = 17
    · rw [if_pos q17, q17, okr (c := 124) (i := 17) (q := 129) h (by decide +kernel)]
    rw [if_neg q17]
    by_cases q12 : i = 12
    · rw [if_pos q12, q12, okr (c := 124) (i := 12) (q := 126) h (by decide +kernel)]
    rw [if_neg q12]
    by_cases q1 : i = 1
    · rw [if_pos q1, q1, okr (c := 124) (i := 1) (q := 125) h (by decide +kernel)]
    rw [if_neg q1]
    by_cases q22 : i = 22
    · rw [if_pos q22, q22, okr (c := 124) (i := 22) (q := 132) h (by decide +kernel)]
    rw [if_neg q22]
    by_cases q18 : i = 18
    · rw [if_pos q18, q18, okr (c := 124) (i := 18) (q := 130) h (by decide +kernel)]
    rw [if_neg q18]
    by_cases q19 : i = 19
    · rw [if_pos q19, q19, okr (c := 124) (i := 19) (q := 131) h (by decide +kernel)]
    rw [if_neg q19]
    by_cases q23 : i = 23
    · rw [if_pos q23, q23, okr (c := 124) (i := 23) (q := 133) h (by decide +kernel)]
    rw [if_neg q23]
    by_cases q24 : i = 24
    · rw [if_pos q24, q24, okr (c := 124) (i := 24) (q := 134) h (by decide +kernel)]
    rw [if_neg q24]
    by_cases q26 : i = 26
    · rw [if_pos q26, q26, okr (c := 124) (i := 26) (q := 135) h (by decide +kernel)]
    rw [if_neg q26]
  · show (if c = 124 then _ else M.2.2 c i) = M.2.2 c i
    rw [if_neg c124]
/-! feed -/
theorem tp {M : cm_M} (h : ab_ok hp hN M) : ∃ t, t ≤ 900 ∧ M.1 0 1 = Int32.ofNat t := by
  have h2 := h.1 0 1
  rw [show ab_hi hp 0 1 = (0, 900) from by decide +kernel] at h2
  obtain ⟨n, q1, q2, q3⟩ := i_of h2.1
  have h9 : (M.1 0 1).toInt ≤ 900 := h2.2
  exact ⟨n, by omega, q1⟩
theorem tpm {M : cm_M} (h : ab_ok hp hN M) : ∃ t, t ≤ 900 ∧ M.1 124 2 = Int32.ofNat t := by
  have h2 := h.1 124 2
  rw [show ab_hi hp 124 2 = (0, 900) from by decide +kernel] at h2
  obtain ⟨n, q1, q2, q3⟩ := i_of h2.1
  have h9 : (M.1 124 2).toInt ≤ 900 := h2.2
  exact ⟨n, by omega, q1⟩
def fd_C (M : cm_M) (a b c d e : Int32) (M1 : cm_M) : Prop := ab_ok hp hN M1 ∧ ∃ t, t ≤ 900 ∧ M.1 0 1 = Int32.ofNat t ∧ ((880 < t ∧ M1 = M) ∨ (t ≤ 880 ∧ M1 = fd_m M t a b c d e))
def fd_D (M : cm_M) (a b c d e : Int32) (M1 : cm_M) : Prop := ab_ok hp hN M1 ∧ ∃ t, t ≤ 900 ∧ M.1 124 2 = Int32.ofNat t ∧ ((880 < t ∧ M1 = cm_wi M 124 0 0) ∨ (t ≤ 880 ∧ M1 = mfd_m M t a b c d e))
set_option maxRecDepth 1000000 in
theorem hd_feedC {M : cm_M} (hM : ab_ok hp hN M) (a b c d e : Int32) : cm_Call cm_ms 30 93 [.ref 0, .int a, .int b, .int c, .int d, .int e] M (fun v M1 => lp_kd 0 v ∧ fd_C M a b c d e M1) := by
  obtain ⟨t, h9, ht⟩ := tp hM
  refine cm_Call_up (cm_Lc_use (ck_224 [a, b, c, d, e] [.ref 0, .int a, .int b, .int c, .int d, .int e] M ⟨⟨0, List.mem_cons_self, rfl⟩, ⟨a, rfl, rfl⟩, ⟨b, rfl, rfl⟩, ⟨c, rfl, rfl⟩, ⟨d, rfl, rfl⟩, ⟨e, rfl, rfl⟩, trivial⟩ (lk_k ⟨lu_f a, lu_f b, lu_f c, lu_f d, lu_f e, trivial⟩) hM (fun q hq => nomatch hq)) (fn_feed (okr hM (by decide +kernel)) ht h9 a b c d e)) (by decide) (fun v M1 q => ?_)
  obtain ⟨⟨o, ho, ext, k1, k2, k3⟩, q1, q2⟩ := q
  rcases Nat.lt_or_ge 880 t with hc | hc
  · exact ⟨⟨_, (q1 hc).1⟩, k3.1, t, h9, ht, Or.inl ⟨hc, (q1 hc).2⟩⟩
  · exact ⟨⟨_, (q2 hc).1⟩, k3.1, t, h9, ht, Or.inr ⟨hc, (q2 hc).2⟩⟩
set_option maxRecDepth 1000000 in
theorem hd_feedD {M : cm_M} (hM : ab_ok hp hN M) (a b c d e : Int32) : cm_Call cm_ms 30 172 [.ref 124, .int a, .int b, .int c, .int d, .int e] M (fun v M1 => lp_kd 0 v ∧ fd_D M a b c d e M1) := by
  obtain ⟨t, h9, ht⟩ := tpm hM
  refine cm_Call_up (cm_Lc_use (ck_290 [a, b, c, d, e] [.ref 124, .int a, .int b, .int c, .int d, .int e] M ⟨⟨124, List.mem_cons_self, rfl⟩, ⟨a, rfl, rfl⟩, ⟨b, rfl, rfl⟩, ⟨c, rfl, rfl⟩, ⟨d, rfl, rfl⟩, ⟨e, rfl, rfl⟩, trivial⟩ (lk_k ⟨lu_f a, lu_f b, lu_f c, lu_f d, lu_f e, trivial⟩) hM (fun q hq => nomatch hq)) (fn_mfeed (okr hM (by decide +kernel)) ht h9 a b c d e)) (by decide) (fun v M1 q => ?_)
  obtain ⟨⟨o, ho, ext, k1, k2, k3⟩, q1, q2⟩ := q
  rcases Nat.lt_or_ge 880 t with hc | hc
  · exact ⟨⟨_, (q1 hc).1⟩, k3.1, t, h9, ht, Or.inl ⟨hc, (q1 hc).2⟩⟩
  · exact ⟨⟨_, (q2 hc).1⟩, k3.1, t, h9, ht, Or.inr ⟨hc, (q2 hc).2⟩⟩
theorem sb_1 (M : cm_M) (x : Int32) (t j : Nat) : ∀ c, (sb M x t c).1 1 j = if t ≤ j ∧ j < t + c then bt x (Int32.ofInt (24 - 8 * ((j - t : Nat) : Int))) else M.1 1 j
  | 0 => by rw [if_neg (by omega)]; rfl
  | c + 1 => by
    show (if 1 = 1 ∧ j = t + c then bt x (Int32.ofInt (24 - 8 * (c : Int))) else (sb M x t c).1 1 j) = _
    by_cases h : j = t + c
    · have e : j - t = c := by omega
      rw [if_pos ⟨rfl, h⟩, if_pos (by omega), e]
    · rw [if_neg (fun q => h q.2), sb_1 M x t j c]
      by_cases h2 : t ≤ j ∧ j < t + c
      · rw [if_pos h2, if_pos (by omega)]
      · rw [if_neg h2, if_neg (by omega)]
theorem sbn_q (M : cm_M) (x : Int32) (t q j : Nat) (h0 : q ≠ 0) (h1 : q ≠ 1) : ∀ c, (sb M x t c).1 q j = M.1 q j
  | 0 => rfl
  | c + 1 => by
    show (if q = 0 ∧ j = 1 then _ else if q = 1 ∧ j = t + c then _ else (sb M x t c).1 q j) = _
    rw [if_neg (fun z => h0 z.1), if_neg (fun z => h1 z.1), sbn_q M x t q j h0 h1 c]
theorem sm_1 (M : cm_M) (f : Nat → Int32) (t j : Nat) : ∀ c, (sm M f t c).1 125 j = if t ≤ j ∧ j < t + c then mt (f (j - t)) (j - t) else M.1 125 j
  | 0 => by rw [if_neg (by omega)]; rfl
  | c + 1 => by
    show (if 125 = 125 ∧ j = t + c then mt (f c) c else (sm M f t c).1 125 j) = _
    by_cases h : j = t + c
    · have e : j - t = c := by omega
      rw [if_pos ⟨rfl, h⟩, if_pos (by omega), e]
    · rw [if_neg (fun q => h q.2), sm_1 M f t j c]
      by_cases h2 : t ≤ j ∧ j < t + c
      · rw [if_pos h2, if_pos (by omega)]
      · rw [if_neg h2, if_neg (by omega)]
theorem sm_n (M : cm_M) (f : Nat → Int32) (t q j : Nat) (h0 : q ≠ 124) (h1 : q ≠ 125) : ∀ c, (sm M f t c).1 q j = M.1 q j
  | 0 => rfl
  | c + 1 => by
    show (if q = 124 ∧ j = 2 then _ else if q = 125 ∧ j = t + c then _ else (sm M f t c).1 q j) = _
    rw [if_neg (fun z => h0 z.1), if_neg (fun z => h1 z.1), sm_n M f t q j h0 h1 c]
theorem fd_c1 (M : cm_M) (t j : Nat) (a b c d e : Int32) : (fd_m M t a b c d e).1 1 j = if t ≤ j ∧ j < t + 20 then bt (w5 a b c d e (j - t)) (Int32.ofInt (24 - 8 * (((j - t) % 4 : Nat) : Int))) else M.1 1 j := by
  unfold fd_m
  rw [sb_1, sb_1, sb_1, sb_1, sb_1]
  by_cases h5 : t + 16 ≤ j ∧ j < t + 16 + 4
  · have e1 : (j - t) % 4 = j - (t + 16) := by omega
    have e2 : w5 a b c d e (j - t) = e := by
      unfold w5
      rw [if_neg (by omega), if_neg (by omega), if_neg (by omega), if_neg (by omega)]
    rw [if_pos h5, if_pos (by omega), e1, e2]
  · rw [if_neg h5]
    by_cases h4 : t + 12 ≤ j ∧ j < t + 12 + 4
    · have e1 : (j - t) % 4 = j - (t + 12) := by omega
      have e2 : w5 a b c d e (j - t) = d := by
        unfold w5
        rw [if_neg (by omega), if_neg (by omega), if_neg (by omega), if_pos (by omega)]
      rw [if_pos h4, if_pos (by omega), e1, e2]
    · rw [if_neg h4]
      by_cases h3 : t + 8 ≤ j ∧ j < t + 8 + 4
      · have e1 : (j - t) % 4 = j - (t + 8) := by omega
        have e2 : w5 a b c d e (j - t) = c := by
          unfold w5
          rw [if_neg (by omega), if_neg (by omega), if_pos (by omega)]
        rw [if_pos h3, if_pos (by omega), e1, e2]
      · rw [if_neg h3]
        by_cases h2 : t + 4 ≤ j ∧ j < t + 4 + 4
        · have e1 : (j - t) % 4 = j - (t + 4) := by omega
          have e2 : w5 a b c d e (j - t) = b := by
            unfold w5
            rw [if_neg (by omega), if_pos (by omega)]
          rw [if_pos h2, if_pos (by omega), e1, e2]
        · rw [if_neg h2]
          by_cases h1 : t ≤ j ∧ j < t + 4
          · have e1 : (j - t) % 4 = j - t := by omega
            have e2 : w5 a b c d e (j - t) = a := by
              unfold w5
              rw [if_pos (by omega)]
            rw [if_pos h1, if_pos (by omega), e1, e2]
          · rw [if_neg h1, if_neg (by omega)]
theorem fd_n (M : cm_M) (t q j : Nat) (a b c d e : Int32) (h0 : q ≠ 0) (h1 : q ≠ 1) : (fd_m M t a b c d e).1 q j = M.1 q j := by
  unfold fd_m
  rw [sbn_q _ _ _ _ _ h0 h1, sbn_q _ _ _ _ _ h0 h1, sbn_q _ _ _ _ _ h0 h1, sbn_q _ _ _ _ _ h0 h1, sbn_q _ _ _ _ _ h0 h1]
theorem fd_n2 (M : cm_M) (t q j : Nat) (a b c d e : Int32) (h1 : q ≠ 1) (h0 : ¬ (q = 0 ∧ j = 1)) : (fd_m M t a b c d e).1 q j = M.1 q j := by
  have k : ∀ (M : cm_M) (x : Int32) (t c : Nat), (sb M x t c).1 q j = M.1 q j := fun M x t c => by
    induction c with
    | zero => rfl
    | succ c ih =>
      show (if q = 0 ∧ j = 1 then _ else if q = 1 ∧ j = t + c then _ else (sb M x t c).1 q j) = _
      rw [if_neg h0, if_neg (fun z => h1 z.1), ih]
  unfold fd_m
  rw [k, k, k, k, k]
theorem fd_r (M : cm_M) (t : Nat) (a b c d e : Int32) : (fd_m M t a b c d e).2 = M.2 := by
  unfold fd_m
  rw [sb_r, sb_r, sb_r, sb_r, sb_r]
theorem sm_n2 (M : cm_M) (f : Nat → Int32) (t q j : Nat) (h1 : q ≠ 125) (h0 : ¬ (q = 124 ∧ j = 2)) : ∀ c, (sm M f t c).1 q j = M.1 q j
  | 0 => rfl
  | c + 1 => by
    show (if q = 124 ∧ j = 2 then _ else if q = 125 ∧ j = t + c then _ else (sm M f t c).1 q j) = _
    rw [if_neg h0, if_neg (fun z => h1 z.1), sm_n2 M f t q j h1 h0 c]
theorem sh_k : ∀ k, k < 20 → (24 : Int32) - 8 * (Int32.ofNat k - Int32.ofNat k / 4 * 4) = Int32.ofInt (24 - 8 * ((k % 4 : Nat) : Int)) := by decide +kernel
theorem feed_I {M M1 M2 : cm_M} {a b c d e : Int32} (hI : lu_I M) (h1 : fd_C M a b c d e M1) (h2 : fd_D M1 a b c d e M2) : lu_I M2 := by
  obtain ⟨-, t, t9, ht, h1⟩ := h1
  obtain ⟨-, u, u9, hu, h2⟩ := h2
  have et : M.1 124 2 = Int32.ofNat t := hI.1.symm.trans ht
  rcases h1 with ⟨hc, rfl⟩ | ⟨hc, rfl⟩
  · have e1 : u = t := ofn_inj (by omega) (by omega) (hu.symm.trans et)
    rcases h2 with ⟨hd, rfl⟩ | ⟨hd, rfl⟩
    · exact hI
    · omega
  · have e1 : u = t := ofn_inj (by omega) (by omega) (hu.symm.trans ((fd_n M t 124 2 a b c d e (by decide) (by decide)).trans et))
    subst e1
    rcases h2 with ⟨hd, rfl⟩ | ⟨hd, rfl⟩
    · omega
    · have f1 : (mfd_m (fd_m M u a b c d e) u a b c d e).1 0 1 = Int32.ofNat (u + 20) := by
        rw [sm_n _ _ _ _ _ (by decide) (by decide)]
        rfl
      have f2 : (mfd_m (fd_m M u a b c d e) u a b c d e).1 124 2 = Int32.ofNat (u + 20) := rfl
      refine ⟨by rw [f1, f2], fun j hj => ?_⟩
      rw [f1, fn_nat (by omega)] at hj
      rw [sm_n _ _ _ _ _ (by decide) (by decide), sm_1]
      show tb ((fd_m M u a b c d e).1 1 j) (if u ≤ j ∧ j < u + 20 then mt (w5 a b c d e (j - u)) (j - u) else (fd_m M u a b c d e).1 125 j)
      rw [fd_c1]
      by_cases hq : u ≤ j ∧ j < u + 20
      · rw [if_pos hq, if_pos hq]
        unfold mt bt
        rw [sh_k (j - u) (by omega)]
        exact tb_y _
      · rw [if_neg hq, if_neg hq, fd_n _ _ _ _ _ _ _ _ _ (by decide) (by decide)]
        exact hI.2 j (by rw [ht, fn_nat (by omega)]; omega)
/-! town -/
theorem rd0_1 {T j : Nat} {n : Int32} {C : cm_M} (hT : 6 ≤ T) : (rd0 T n C).1 1 j = C.1 1 j := by
  show (cF_clear T (cm_wi (cm_wi C 2 1 n) 2 2 0)).1 1 j = _
  unfold cF_clear
  rw [wi_ne (by omega), wi_ne (by omega), wi_ne (by omega), wi_ne (by omega), wi_ne (by omega), wi_ne (by omega), wi_ne (by omega), wi_ne (by omega), wi_ne (by omega), wi_ne (by omega)]
  rfl
theorem rd0_T {T i : Nat} {n : Int32} {C : cm_M} (hT : 6 ≤ T) (hi : i = 3 ∨ i = 9 ∨ i = 15 ∨ i = 18) : (rd0 T n C).1 T i = 0 := by
  have e : (rd0 T n C).1 T i = (cF_clear T (cm_wi (cm_wi C 2 1 n) 2 2 0)).1 T i := by
    unfold rd0
    rw [wi_ne (by omega), wi_ne (by omega), wi_ne (by omega)]
    rfl
  rw [e]
  unfold cF_clear
  rw [wi_ne (by omega), wi_ne (by omega), wi_ne (by omega)]
  rcases hi with rfl | rfl | rfl | rfl
  · rw [wC, if_neg (by omega), wC, if_neg (by omega), wC, if_neg (by omega), wC, if_pos ⟨rfl, rfl⟩]
  · rw [wC, if_neg (by omega), wC, if_neg (by omega), wC, if_pos ⟨rfl, rfl⟩]
  · rw [wC, if_neg (by omega), wC, if_pos ⟨rfl, rfl⟩]
  · rw [wC, if_pos ⟨rfl, rfl⟩]
theorem DR_A {me mo ch : Nat} {td : Int32} {A A' : Nat → Nat → Int32} {F : Nat → Int32} (h : DR me mo ch td A F) (hA : ∀ i, i ≤ 12 → i ≠ 10 → ∀ j, A' i j = A i j) : DR me mo ch td A' F := by
  obtain ⟨⟨a1, a2, a3⟩, ⟨b1, b2, b3, b4, b5, b6⟩, c, d, e, f, hb, g1, g2, g3, g4⟩ := h
  have e12 : A' 12 = A 12 := funext fun j => hA 12 (by omega) (by omega) j
  refine ⟨⟨a1, a2, fun q => ?_⟩, ⟨?_, b2, ?_, b4, ?_, b6⟩, fun m hm => ?_, fun k hk => ?_, fun x hx => ?_, f, hb, g1, ?_, g3, ?_⟩
  · rw [hA 0 (by omega) (by omega), hA 0 (by omega) (by omega), hA 0 (by omega) (by omega)]; exact a3 q
  · rw [hA 0 (by omega) (by omega)]; exact b1
  · rw [hA 0 (by omega) (by omega)]; exact b3
  · rw [hA 0 (by omega) (by omega)]; exact b5
  · rw [hA 1 (by omega) (by omega), hA 2 (by omega) (by omega), hA 3 (by omega) (by omega), hA 4 (by omega) (by omega), hA 5 (by omega) (by omega)]; exact c m hm
  · rw [hA 6 (by omega) (by omega), hA 7 (by omega) (by omega), hA 8 (by omega) (by omega), hA 9 (by omega) (by omega)]; exact d k hk
  · rw [hA 11 (by omega) (by omega)]; exact e x hx
  · rw [hA 0 (by omega) (by omega)]; exact g2
  · rw [e12]; exact g4
/-- what is told of a town, on both sides -/
def SD (T' : Nat) (M : cm_M) : Prop := (M.1 T' 3 = 0 ∧ M.1 T' 9 = 0 ∧ M.1 T' 15 = 0 ∧ M.1 124 14 = 0) ∨ (M.1 124 14 = 1 ∧ ∃ me mo ch, 0 < me ∧ me ≤ 6 ∧ mo ≤ 5 ∧ ch ≤ 5 ∧ DR me mo ch 1 (DA T' M) (M.1 127))
def SR (M : cm_M) : Prop := M.1 0 12 = M.1 124 9 ∧ ∃ T', (T' = 6 ∨ T' = 19) ∧ M.2.2 0 3 = some T' ∧ M.2.2 0 4 = some (25 - T') ∧ SD T' M
def LI (M : cm_M) : Prop := lu_I M ∧ SR M
theorem SD_cg {T' : Nat} {M M' : cm_M} (h : SD T' M) (h1 : ∀ c j, T' ≤ c → c ≤ T' + 12 → c ≠ T' + 10 → M'.1 c j = M.1 c j) (h2 : M'.1 124 14 = M.1 124 14) (h3 : ∀ j, M'.1 127 j = M.1 127 j) : SD T' M' := by
  rcases h with ⟨a1, a2, a3, a4⟩ | ⟨a1, me, mo, ch, b1, b2, b3, b4, b5⟩
  · exact Or.inl ⟨(h1 T' 3 (by omega) (by omega) (by omega)).trans a1, (h1 T' 9 (by omega) (by omega) (by omega)).trans a2, (h1 T' 15 (by omega) (by omega) (by omega)).trans a3, h2.trans a4⟩
  · refine Or.inr ⟨h2.trans a1, me, mo, ch, b1, b2, b3, b4, ?_⟩
    rw [show M'.1 127 = M.1 127 from funext h3]
    exact DR_A b5 (fun i hi h10 j => h1 (T' + i) j (by omega) (by omega) (by omega))
theorem LI_P {M M' : cm_M} (h : LI M) (hp : lu_P M M') : LI M' := by
  obtain ⟨k1, k2⟩ := hp
  have e : ∀ c i, st_B c i = true → M'.1 c i = M.1 c i := fun c i q => (k2 c i q).1
  obtain ⟨⟨i1, i2⟩, s1, T', s2, s3, s4, s5⟩ := h
  refine ⟨⟨by rw [e 0 1 rfl, e 124 2 rfl]; exact i1, fun j hj => ?_⟩, by rw [e 0 12 rfl, e 124 9 rfl]; exact s1, T', s2, (k2 0 3 rfl).2.trans s3, (k2 0 4 rfl).2.trans s4, SD_cg s5 (fun c j c1 c2 c3 => e c j (st_B_t (by omega) (by omega) (by omega) (by omega))) (e 124 14 rfl) (fun j => e 127 j rfl)⟩
  rw [e 0 1 rfl] at hj
  rw [e 1 j rfl, e 125 j rfl]
  exact i2 j hj
theorem feed_LI {M M1 M2 : cm_M} {a b c d e : Int32} (hI : LI M) (h1 : fd_C M a b c d e M1) (h2 : fd_D M1 a b c d e M2) : LI M2 := by
  refine ⟨feed_I hI.1 h1 h2, ?_⟩
  have f1 : (∀ q j, q ≠ 1 → ¬ (q = 0 ∧ j = 1) → M1.1 q j = M.1 q j) ∧ M1.2 = M.2 := by
    obtain ⟨-, t, -, -, ⟨-, rfl⟩ | ⟨-, rfl⟩⟩ := h1
    · exact ⟨fun _ _ _ _ => rfl, rfl⟩
    · exact ⟨fun q j a1 a2 => fd_n2 M t q j a b c d e a1 a2, fd_r M t a b c d e⟩
  have f2 : (∀ q j, q ≠ 125 → ¬ (q = 124 ∧ (j = 0 ∨ j = 2)) → M2.1 q j = M1.1 q j) ∧ M2.2 = M1.2 := by
    obtain ⟨-, t, -, -, ⟨-, rfl⟩ | ⟨-, rfl⟩⟩ := h2
    · exact ⟨fun q j a1 a2 => wi_n2 (by omega), rfl⟩
    · refine ⟨fun q j a1 a2 => ?_, (sm_r _ _ _ _).trans rfl⟩
      rw [sm_n2 _ _ _ _ _ a1 (by omega), wi_n2 (by omega)]
  have e : ∀ q j, q ≠ 125 → q ≠ 1 → ¬ (q = 0 ∧ j = 1) → ¬ (q = 124 ∧ (j = 0 ∨ j = 2)) → M2.1 q j = M.1 q j := fun q j a1 a2 a3 a4 => (f2.1 q j a1 a4).trans (f1.1 q j a2 a3)
  have er : M2.2 = M.2 := f2.2.trans f1.2
  obtain ⟨s1, T', s2, s3, s4, s5⟩ := hI.2
  refine ⟨by rw [e 0 12 (by omega) (by omega) (by omega) (by omega), e 124 9 (by omega) (by omega) (by omega) (by omega)]; exact s1, T', s2, by rw [er]; exact s3, by rw [er]; exact s4, SD_cg s5 (fun c j c1 c2 _ => e c j (by omega) (by omega) (by omega) (by omega)) (e 124 14 (by omega) (by omega) (by omega) (by omega)) (fun j => e 127 j (by omega) (by omega) (by omega) (by omega))⟩
/-- the frame of rd0, for what the class's reader leaves alone -/
theorem rd0_n {T c j : Nat} {n : Int32} {C : cm_M} (hT : 6 ≤ T) (h1 : ¬ (2 ≤ c ∧ c ≤ 5)) (h2 : ¬ (T ≤ c ∧ c ≤ T + 12)) : (rd0 T n C).1 c j = C.1 c j := by
  unfold rd0
  rw [wi_ne (by omega), wi_ne (by omega), wi_ne (by omega)]
  show (cF_clear T (cm_wi (cm_wi C 2 1 n) 2 2 0)).1 c j = _
  unfold cF_clear
  rw [wi_ne (by omega), wi_ne (by omega), wi_ne (by omega), wi_ne (by omega), wi_ne (by omega), wi_ne (by omega), wi_ne (by omega), wi_ne (by omega), wi_ne (by omega), wi_ne (by omega), wi_ne (by omega), wi_ne (by omega)]
theorem Ex_n {T N c j : Nat} {n : Int32} {C X : cm_M} (hT : 6 ≤ T) (hX : Ex T N (rd0 T n C) X) (h1 : ¬ (2 ≤ c ∧ c ≤ 5)) (h2 : ¬ (T ≤ c ∧ c ≤ T + 12)) : (fin T X).1 c j = C.1 c j := ((PG_fin (T := T) (N := N)).2.2 c j h1 h2).trans (((PG_Ex hT hX).2.2 c j h1 h2).trans (rd0_n hT h1 h2))
theorem fin_3 {T : Nat} {X : cm_M} (h : (fin T X).1 2 9 = 0) : (fin T X).1 T 3 ≠ 0 := by
  unfold fin at h ⊢
  generalize (if X.1 2 3 = 0 then X else cF_fail 1 X) = Y at h ⊢
  by_cases q : Y.1 T 3 = 0
  · rw [if_pos q] at h
    exact absurd h (cF_fail_9n (by decide))
  · rw [if_neg q]
    exact q
theorem ref_town {T T' N : Nat} {M M1 : cm_M} (hT : 6 ≤ T) (hT2 : T ≤ 19) (hN9 : N ≤ 900) (hM1 : ab_ok hp hN M1) (ht : (N : Int) ≤ (M1.1 124 2).toInt) (htb : ∀ j, j < N → tb (M.1 1 j) (M1.1 125 j)) (hfr : ∀ c j, prC c j → M1.1 c j = M.1 c j) : cm_Lc cm_ms 191 [.ref 124, .int (Int32.ofNat N)] M1 (mt_K T N (rd0 T (Int32.ofNat N) (gb T T' (cm_wi M 0 1 0)))) := by
  have q := m_town (T := T) (N := N) (C0 := rd0 T (Int32.ofNat N) (gb T T' (cm_wi M 0 1 0))) (D := M1) hT hT2 hN9 (rd0_RC hT hN9) rfl (clr_2 hT : (cF_clear T (cm_wi (cm_wi (gb T T' (cm_wi M 0 1 0)) 2 1 (Int32.ofNat N)) 2 2 0)).1 2 2 = _) rfl rfl (rd0_T hT (by omega)) (rd0_T hT (by omega)) (rd0_T hT (by omega)) (rd0_T hT (by omega)) ht (fun j hj => by
    rw [rd0_1 hT]
    exact htb j hj) (fun c j q => by
    have q2 := q
    unfold prC at q2
    rw [rd0_n hT (by omega) (by omega)]
    show _ = (cm_wi M 0 1 0).1 c j
    rw [wi_n2 (by omega)]
    exact hfr c j q)
  rw [fm_of hM1] at q
  exact q
/-- town on both sides: the answers, and what is told then -/
def tsm_P (n : Int32) : cm_K := fun v M1 => ∃ r, v = some (.int r) ∧ ab_ok hp hN M1 ∧ cm_Call cm_ms 30 191 [.ref 124, .int n] M1 (fun v2 M2 => v2 = some (.int r) ∧ ab_ok hp hN M2 ∧ LI M2)
/-- the class's cells behind its town -/
def tc_F (T T' : Nat) (M X M1 : cm_M) : Prop := ((fin T X).1 2 9 ≠ 0 → M1.1 0 12 = (fin T X).1 2 9 ∧ M1.2.2 0 3 = some T' ∧ M1.2.2 0 4 = some T ∧ ∀ c j, T' ≤ c → c ≤ T' + 12 → M1.1 c j = M.1 c j) ∧ ((fin T X).1 2 9 = 0 → M1.1 0 12 = 0 ∧ M1.2.2 0 3 = some T ∧ M1.2.2 0 4 = some T' ∧ ∀ c j, T ≤ c → c ≤ T + 12 → M1.1 c j = (fin T X).1 c j)
theorem tc_6 {N : Nat} {M X E M1 : cm_M} (hX : Ex 6 N (rd0 6 (Int32.ofNat N) (gb 6 19 (cm_wi M 0 1 0))) X) (hE : E.1 = (fin 6 X).1) (h1 : (fin 6 X).1 2 9 ≠ 0 → ct_B6 19 E M1) (h2 : (fin 6 X).1 2 9 = 0 → ct_G6 19 E M1) : tc_F 6 19 M X M1 := by
  refine ⟨fun z => ?_, fun z => ?_⟩
  · have e := h1 z
    unfold ct_B6 at e
    subst e
    refine ⟨by rw [← hE]; rfl, rfl, rfl, fun c j c1 c2 => ?_⟩
    rw [wi_n2 (by omega), wi_n2 (by omega), wi_n2 (by omega)]
    show E.1 c j = _
    rw [hE, Ex_n (by decide) hX (by omega) (by omega)]
    exact wi_n2 (by omega)
  · have e := h2 z
    unfold ct_G6 at e
    subst e
    refine ⟨by rw [← hE] at z; exact z, rfl, rfl, fun c j c1 c2 => ?_⟩
    rw [wi_n2 (by omega), wi_n2 (by omega), wi_n2 (by omega)]
    unfold bgF
    rw [wi_n2 (by omega), wi_n2 (by omega), wi_n2 (by omega), wi_n2 (by omega), wi_n2 (by omega)]
    show (if c = 33 ∧ 0 ≤ j ∧ j < 0 + 6 then _ else (cm_wi (fr 6 (gb 6 19 E)) 0 12 (E.1 2 9)).1 c j) = _
    rw [if_neg (by omega), wi_n2 (by omega), ← hE]
    rfl
theorem tc_19 {N : Nat} {M X E M1 : cm_M} (hX : Ex 19 N (rd0 19 (Int32.ofNat N) (gb 19 6 (cm_wi M 0 1 0))) X) (hE : E.1 = (fin 19 X).1) (h1 : (fin 19 X).1 2 9 ≠ 0 → ct_B19 6 E M1) (h2 : (fin 19 X).1 2 9 = 0 → ct_G19 6 E M1) : tc_F 19 6 M X M1 := by
  refine ⟨fun z => ?_, fun z => ?_⟩
  · have e := h1 z
    unfold ct_B19 at e
    subst e
    refine ⟨by rw [← hE]; rfl, rfl, rfl, fun c j c1 c2 => ?_⟩
    rw [wi_n2 (by omega), wi_n2 (by omega), wi_n2 (by omega)]
    show E.1 c j = _
    rw [hE, Ex_n (by decide) hX (by omega) (by omega)]
    exact wi_n2 (by omega)
  · have e := h2 z
    unfold ct_G19 at e
    subst e
    refine ⟨by rw [← hE] at z; exact z, rfl, rfl, fun c j c1 c2 => ?_⟩
    rw [wi_n2 (by omega), wi_n2 (by omega), wi_n2 (by omega)]
    unfold bgF
    rw [wi_n2 (by omega), wi_n2 (by omega), wi_n2 (by omega), wi_n2 (by omega), wi_n2 (by omega)]
    show (if c = 33 ∧ 0 ≤ j ∧ j < 0 + 6 then _ else (cm_wi (fr 19 (gb 19 6 E)) 0 12 (E.1 2 9)).1 c j) = _
    rw [if_neg (by omega), wi_n2 (by omega), ← hE]
    rfl
theorem town_same {M : cm_M} (hM : ab_ok hp hN M) (hL : LI M) (n : Int32) : cm_Call cm_ms 30 95 [.ref 0, .int n] M (tsm_P n) := by
  have hI := hL.1
  obtain ⟨s1, T', s2, s3, s4, s5⟩ := id hL.2
  obtain ⟨t, h9, ht⟩ := tp hM
  have htm : M.1 124 2 = Int32.ofNat t := hI.1.symm.trans ht
  by_cases hn : 0 ≤ n.toInt ∧ n.toInt ≤ (M.1 0 1).toInt
  · obtain ⟨N, hN, hN2, -⟩ := i_of hn.1
    have hn2 := hn.2
    rw [ht, fn_toInt (by omega)] at hn2
    have N9 : N ≤ 900 := by omega
    have both : ∀ (T : Nat), T = 25 - T' → ∀ (v : Option Value) (M1 : cm_M), tw_PC M n v M1 → (∃ X, Ex T N (rd0 T (Int32.ofNat N) (gb T T' (cm_wi M 0 1 0))) X ∧ ((fin T X).1 2 9 ≠ 0 → v = some (.int (-1))) ∧ ((fin T X).1 2 9 = 0 → v = some (.int ((fin T X).1 T 3))) ∧ tc_F T T' M X M1) → tsm_P n v M1 := by
      intro T hTT v M1 hv ⟨X, hX, x1, x2, hF⟩
      obtain ⟨-, ⟨k1, k2⟩, k3, k4, k5⟩ := hv
      rw [if_pos hn] at k2
      have er : ∃ r, v = some (.int r) ∧ ((fin T X).1 2 9 ≠ 0 → r = -1) ∧ ((fin T X).1 2 9 = 0 → r = (fin T X).1 T 3) := by
        by_cases z : (fin T X).1 2 9 = 0
        · exact ⟨_, x2 z, fun q => absurd z q, fun _ => rfl⟩
        · exact ⟨_, x1 z, fun _ => rfl, fun q => absurd q z⟩
      obtain ⟨r, rv, y1, y2⟩ := er
      refine ⟨r, rv, k1, ?_⟩
      have lc := ref_town (T := T) (T' := T') (N := N) (M := M) (M1 := M1) (by omega) (by omega) N9 k1 (by rw [k3, htm, fn_toInt (by omega)]; omega) (fun j hj => by
        rw [k4]
        exact hI.2 j (by rw [ht, fn_nat (by omega)]; omega)) (fun c j q => k5 c j (by unfold prC at q; omega))
      rw [← hN] at lc
      refine cm_Call_up (cm_Lc_use (hd_mtown k1 n) lc) (Nat.le_refl _) (fun v2 M2 q => ?_)
      obtain ⟨⟨-, ⟨g1, g2⟩, g3, -, g5⟩, Y, D', hY, eD, w1, w2⟩ := q
      rw [hN] at hY
      have eX := Ex_uni hX hY
      subst eX
      have htm2 : n.toInt ≤ (M1.1 124 2).toInt := by rw [k3, htm, fn_toInt (by omega)]; omega
      rw [if_pos ⟨hn.1, htm2⟩] at g2
      have g4 : M2.1 0 1 = 0 := g3.trans k2
      have eM : ∀ c j, M2.1 c j = D'.1 c j := fun c j => by rw [eD]; rfl
      have hI2 : lu_I M2 := ⟨by rw [g4, g2], fun j hj => by
        rw [g4] at hj
        exact absurd hj (Nat.not_lt_zero j)⟩
      by_cases z : (fin T X).1 2 9 = 0
      · obtain ⟨u1, u2, u3, u4, u5, u6, u7, me, mo, ch, hd, u8⟩ := (w2 z)
        obtain ⟨f1, f2, f3, f4⟩ := hF.2 z
        refine ⟨by rw [u1, y2 z], g1, hI2, ?_, T, by omega, (g5 0 3 (by omega)).2.trans f2, by rw [(g5 0 4 (by omega)).2, f3, hTT]; congr 1; omega, Or.inr ⟨by rw [eM]; exact u4, me, mo, ch, ?_, hd.1.2.2.1, hd.1.2.2.2.1, hd.1.2.2.2.2.1, ?_⟩⟩
        · rw [(g5 0 12 (by omega)).1, f1, eM, u2]
        · rcases Nat.eq_zero_or_pos me with q | q
          · have b1 : (fin T X).1 T 3 = Int32.ofNat me := hd.2.2.1.1
            rw [q] at b1
            exact absurd b1 (fin_3 z)
          · exact q
        · have hd2 := hd.2
          rw [u7] at hd2
          rw [show M2.1 127 = D'.1 127 from funext fun j => eM 127 j]
          refine DR_A hd2 (fun i hi _ j => ?_)
          show M2.1 (T + i) j = (fin T X).1 (T + i) j
          rw [(g5 (T + i) j (by omega)).1]
          exact f4 (T + i) j (by omega) (by omega)
      · obtain ⟨u1, u2, u3, u4, u5⟩ := (w1 z)
        obtain ⟨f1, f2, f3, f4⟩ := hF.1 z
        have ep : ∀ c j, prC c j → M2.1 c j = M.1 c j := fun c j q => by
          have q2 := q
          unfold prC at q2
          rw [eM, u5 c j q, rd0_n (by omega) (by omega) (by omega)]
          show (cm_wi M 0 1 0).1 c j = _
          rw [wi_n2 (by omega)]
        refine ⟨by rw [u1, y1 z], g1, hI2, ?_, T', s2, (g5 0 3 (by omega)).2.trans f2, by rw [(g5 0 4 (by omega)).2, f3, hTT], SD_cg s5 (fun c j c1 c2 _ => ?_) (ep 124 14 (Or.inr ⟨rfl, by omega⟩)) (fun j => ep 127 j (Or.inl ⟨by omega, by omega⟩))⟩
        · rw [(g5 0 12 (by omega)).1, f1, eM, u2]
        · rw [(g5 c j (by omega)).1]
          exact f4 c j c1 c2
    rcases s2 with rfl | rfl
    · have lc := c_town19 (T' := 6) (N := N) (C := M) N9 (by rw [ht, fn_toInt (by omega)]; omega)
      rw [fbgb (okR_of hM) s3 s4, ← hN] at lc
      refine cm_Call_up (cm_Lc_use (hd_town hM n) lc) (Nat.le_refl _) (fun v M1 q => ?_)
      obtain ⟨q1, X, E, hX, hE, x1, x2⟩ := q
      exact both 19 rfl v M1 q1 ⟨X, hX, fun z => (x1 z).1, fun z => (x2 z).1, tc_19 hX hE (fun z => (x1 z).2) (fun z => (x2 z).2)⟩
    · have lc := c_town6 (T' := 19) (N := N) (C := M) N9 (by rw [ht, fn_toInt (by omega)]; omega)
      rw [fbgb (okR_of hM) s3 s4, ← hN] at lc
      refine cm_Call_up (cm_Lc_use (hd_town hM n) lc) (Nat.le_refl _) (fun v M1 q => ?_)
      obtain ⟨q1, X, E, hX, hE, x1, x2⟩ := q
      exact both 6 rfl v M1 q1 ⟨X, hX, fun z => (x1 z).1, fun z => (x2 z).1, tc_6 hX hE (fun z => (x1 z).2) (fun z => (x2 z).2)⟩
  · refine cm_Call_up (cm_Lc_use (hd_town hM n) (c_town2 hn)) (Nat.le_refl _) (fun v M1 q => ?_)
    obtain ⟨⟨-, ⟨k1, k2⟩, k3, k4, -⟩, rv, e1⟩ := q
    have hn1 : ¬ (0 ≤ n.toInt ∧ n.toInt ≤ (M1.1 124 2).toInt) := by rw [k3, ← hI.1]; exact hn
    refine ⟨-1, rv, k1, ?_⟩
    have lc := m_town2 (n := n) (D := M1) hn1
    rw [fm_of k1] at lc
    refine cm_Call_up (cm_Lc_use (hd_mtown k1 n) lc) (Nat.le_refl _) (fun v2 M2 q => ?_)
    obtain ⟨⟨-, ⟨g1, g2⟩, g3, -, g5⟩, rv2, e2⟩ := q
    have eM : ∀ c j, c ≠ 124 → ¬ (c = 0 ∧ j = 14) → M2.1 c j = M.1 c j := fun c j a1 a2 => by
      rw [e2, e1]
      show (cm_wi (cm_wi (cm_wi (cm_wi M 0 14 2) 124 0 0) 124 11 0) 124 11 2).1 c j = _
      rw [wi_n2 (by omega), wi_n2 (by omega), wi_n2 (by omega), wi_n2 (by omega)]
    refine ⟨rv2, g1, ?_, ?_, T', s2, ?_, ?_, SD_cg s5 (fun c j c1 c2 _ => eM c j (by omega) (by omega)) (by rw [e2, e1]; rfl) (fun j => eM 127 j (by omega) (by omega))⟩
    · rw [e2, e1]
      exact hI
    · rw [e2, e1]
      exact s1
    · rw [(g5 0 3 (by omega)).2, e1]
      exact s3
    · rw [(g5 0 4 (by omega)).2, e1]
      exact s4
/-- .. of which only the law's keeping is wanted -/
def td_T (n : Int32) (M1 : cm_M) : Prop := ab_ok hp hN M1 ∧ cm_Call cm_ms 30 191 [.ref 124, .int n] M1 (fun v M' => lp_kd 0 v ∧ (ab_ok hp hN M' ∧ LI M'))
theorem town_drop {M : cm_M} (hM : ab_ok hp hN M) (hL : LI M) (n : Int32) : cm_Call cm_ms 30 95 [.ref 0, .int n] M (fun v M1 => lp_kd 0 v ∧ td_T n M1) :=
  cm_Call_up (town_same hM hL n) (Nat.le_refl _) (fun v M1 q => by
    obtain ⟨r, e, k1, hc⟩ := q
    exact ⟨⟨r, e⟩, k1, cm_Call_up hc (Nat.le_refl _) (fun v2 M2 q2 => ⟨⟨r, q2.1⟩, q2.2.1, q2.2.2⟩)⟩)
/-! BOTH SIDES ANSWER ALIKE -/
def cmp_P (k : Nat) (as : List Value) : cm_K := fun v M1 => ∃ r, v = some (.int r) ∧ ab_ok hp hN M1 ∧ cm_Call cm_ms 30 k as M1 (fun v2 M2 => v2 = some (.int r) ∧ ab_ok hp hN M2 ∧ LI M2)
theorem cmp_gen {M : cm_M} {k kr : Nat} {as asr : List Value} {r : Int32} (hL : LI M) (hC : cm_Call cm_ms 30 k as M (lp_P 0 M)) (hR : ∀ M1, ab_ok hp hN M1 → cm_Call cm_ms 30 kr asr M1 (lp_P 0 M1)) (lC : cm_Lc cm_ms k as M (fun v _ => v = some (.int r))) (lR : ∀ M1, LI M1 → lu_P M M1 → cm_Lc cm_ms kr asr M1 (fun v _ => v = some (.int r))) : cm_Call cm_ms 30 k as M (cmp_P kr asr) :=
  cm_Call_up (cm_Lc_use hC lC) (Nat.le_refl _) (fun v M1 q => by
    obtain ⟨⟨-, q1⟩, q2⟩ := q
    have hL1 := LI_P hL q1
    exact ⟨r, q2, q1.1, cm_Call_up (cm_Lc_use (hR M1 q1.1) (lR M1 hL1 q1)) (Nat.le_refl _) (fun v2 M2 z => ⟨z.2, z.1.2.1, LI_P hL1 z.1.2⟩)⟩)
/-! BOTH SIDES ANSWER ALIKE: rests, rest -/
theorem LI_told {M : cm_M} (h : LI M) : ∃ T' a, (T' = 6 ∨ T' = 19) ∧ M.2.2 0 3 = some T' ∧ M.1 124 14 = bi a ∧ decide (M.1 T' 3 = 0) = !a := by
  obtain ⟨-, -, T', h1, h2, -, h3⟩ := h
  rcases h3 with ⟨b1, -, -, b4⟩ | ⟨b1, me, mo, ch, c1, c2, -, -, hd⟩
  · exact ⟨T', false, h1, h2, b4, decide_eq_true b1⟩
  · refine ⟨T', true, h1, h2, b1, decide_eq_false (fun q => ?_)⟩
    have e : M.1 T' 3 = Int32.ofNat me := hd.2.1.1
    rw [q] at e
    have := ofn_inj (a := 0) (b := me) (by omega) (by omega) e
    omega
theorem cmp_40 {M : cm_M} (hM : ab_ok hp hN M) (hL : LI M) (x : Int32) : cm_Call cm_ms 30 139 [.ref 0, .int x] M (cmp_P 279 [.ref 124, .int x]) := by
  obtain ⟨T', a, t1, t2, t3, t4⟩ := LI_told hL
  have q := c_rests (M := M) (T' := T') (by omega) t2 x
  rw [t4] at q
  exact cmp_gen hL (lk_139 hM x) (fun _ h => lk_279 h x) q (fun M1 h1 h2 => m_rests (((h2.2 124 14 rfl).1).trans t3) x)
theorem cmp_41 {M : cm_M} (hM : ab_ok hp hN M) (hL : LI M) (x : Int32) : cm_Call cm_ms 30 140 [.ref 0, .int x] M (cmp_P 280 [.ref 124, .int x]) := by
  obtain ⟨T', a, t1, t2, t3, t4⟩ := LI_told hL
  have q := c_rest (M := M) (T' := T') (by omega) t2 x
  rw [t4] at q
  exact cmp_gen hL (lk_140 hM x) (fun _ h => lk_280 h x) q (fun M1 h1 h2 => m_rest (((h2.2 124 14 rfl).1).trans t3) x)
/-! BOTH SIDES ANSWER ALIKE: what is told of a town -/
theorem tw_r {M : cm_M} (h : ab_ok hp hN M) {T' f o : Nat} (hT : T' = 6 ∨ T' = 19) (hf : (f, o) ∈ [(4, 1), (5, 2), (6, 3), (7, 4), (8, 5), (10, 6), (11, 7), (12, 8), (13, 9), (14, 10), (16, 11), (17, 12)]) : M.2.2 T' f = some (T' + o) := by
  have k : ∀ T', (T' = 6 ∨ T' = 19) → ∀ q ∈ [(4, 1), (5, 2), (6, 3), (7, 4), (8, 5), (10, 6), (11, 7), (12, 8), (13, 9), (14, 10), (16, 11), (17, 12)], ab_hr hp T' q.1 = some (false, [T' + q.2]) := by
    intro T' hT
    rcases hT with rfl | rfl <;> decide +kernel
  exact okr h (k T' hT (f, o) hf)
theorem md_15 {M : cm_M} (h : ab_ok hp hN M) : M.2.2 124 15 = some 127 := okr h (by decide +kernel)
theorem LI_all {M : cm_M} (h : LI M) : ∃ T' a me mo ch, (T' = 6 ∨ T' = 19) ∧ M.2.2 0 3 = some T' ∧ M.1 124 14 = bi a ∧ decide (M.1 T' 3 = 0) = !a ∧ (me ≤ 6 ∧ mo ≤ 5 ∧ ch ≤ 5) ∧ (M.1 T' 3 = Int32.ofNat me ∧ M.1 T' 9 = Int32.ofNat mo ∧ M.1 T' 15 = Int32.ofNat ch) ∧ (a = false → me = 0 ∧ mo = 0 ∧ ch = 0) ∧ (a = true → 0 < me ∧ DR me mo ch 1 (DA T' M) (M.1 127)) := by
  obtain ⟨-, -, T', h1, h2, -, h3⟩ := h
  rcases h3 with ⟨b1, b2, b3, b4⟩ | ⟨b1, me, mo, ch, c1, c2, c3, c4, hd⟩
  · exact ⟨T', false, 0, 0, 0, h1, h2, b4, decide_eq_true b1, ⟨by omega, by omega, by omega⟩, ⟨b1, b2, b3⟩, fun _ => ⟨rfl, rfl, rfl⟩, fun q => nomatch q⟩
  · refine ⟨T', true, me, mo, ch, h1, h2, b1, decide_eq_false (fun q => ?_), ⟨c2, c3, c4⟩, ⟨hd.2.1.1, hd.2.1.2.2.1, hd.2.1.2.2.2.2.1⟩, (fun q => nomatch q), fun _ => ⟨c1, hd⟩⟩
    have e : M.1 T' 3 = Int32.ofNat me := hd.2.1.1
    rw [q] at e
    have := ofn_inj (a := 0) (b := me) (by omega) (by omega) e
    omega
theorem LI_127 {M M1 : cm_M} (h : lu_P M M1) : M1.1 127 = M.1 127 := funext fun j => (h.2 127 j rfl).1
/-- the quarrels of the told town -/
theorem DR_qu {T' me mo ch : Nat} {M : cm_M} (h6 : me ≤ 6) (h : DR me mo ch 1 (DA T' M) (M.1 127)) : ∃ qu q, QU me (M.1 (T' + 5)) qu ∧ QU me (fun m => M.1 127 (55 + m)) qu ∧ M.1 127 7 = Int32.ofNat q ∧ su qu me = 2 * q ∧ ∀ m, m < me → qu m < 2 ^ me := by
  obtain ⟨-, -, c, -, -, ⟨ag, am, qu, f1, f2, f3, f4, f5, f6, q, f7, f8, f9⟩, -⟩ := h
  refine ⟨qu, q, fun m hm => ?_, fun m hm => ?_, f7, ?_, fun m hm => ?_⟩
  · exact ⟨((c m hm).2.2.2.2).trans (f1 m (by omega)).2.2.2, (f1 m (by omega)).2.2.1⟩
  · exact ⟨(f1 m (by omega)).2.2.2, (f1 m (by omega)).2.2.1⟩
  · rw [← f8]
    exact (su_zz (fun j hj => (f2 j hj).2) h6).symm
  · have t : ∀ me, me < 7 → ∀ a, a < 64 → (∀ o, o < 6 → me ≤ o → a / 2 ^ o % 2 = 0) → a < 2 ^ me := by decide +kernel
    refine t me (by omega) (qu m) (f1 m (by omega)).2.2.1 (fun o ho hmo => ?_)
    rw [(f9 m (by omega) o ho).1, (f2 o hmo).2, Nat.zero_div]
theorem cmp_27 {M : cm_M} (hM : ab_ok hp hN M) (hL : LI M) : cm_Call cm_ms 30 124 [.ref 0] M (cmp_P 256 [.ref 124]) := by
  obtain ⟨T', a, me, mo, ch, t1, t2, t3, t4, t5, t6, t7, t8⟩ := LI_all hL
  cases a with
  | false =>
    refine cmp_gen hL (lk_124 hM) (fun _ h => lk_256 h) (c_parting t2 (tw_r hM t1 (by decide)) t6.1 t5.1 t4 (fun q => nomatch q) (qu := fun _ => 0) (fun m hm => by have := (t7 rfl).1; omega)) (fun M1 h1 h2 => ?_)
    exact m_parting (me := me) (qu := fun _ => 0) (((h2.2 124 14 rfl).1).trans t3) (md_15 h2.1) (fun q => nomatch q) t5.1
  | true =>
    obtain ⟨qu, q, u1, u2, u3, u4, u5⟩ := DR_qu t5.1 (t8 rfl).2
    refine cmp_gen hL (lk_124 hM) (fun _ h => lk_256 h) (c_parting t2 (tw_r hM t1 (by decide)) t6.1 t5.1 t4 (fun _ => (t8 rfl).1) u1) (fun M1 h1 h2 => ?_)
    have e := LI_127 h2
    exact m_parting (me := me) (qu := qu) (((h2.2 124 14 rfl).1).trans t3) (md_15 h2.1) (fun _ => by
      rw [e]
      exact ⟨(t8 rfl).2.2.1.2.1, (t8 rfl).1, u2⟩) t5.1
theorem cmp_28 {M : cm_M} (hM : ab_ok hp hN M) (hL : LI M) : cm_Call cm_ms 30 125 [.ref 0] M (cmp_P 257 [.ref 124]) := by
  obtain ⟨T', a, me, mo, ch, t1, t2, t3, t4, t5, t6, t7, t8⟩ := LI_all hL
  cases a with
  | false =>
    refine cmp_gen hL (lk_125 hM) (fun _ h => lk_257 h) (c_left (q := 0) t1 t2 (tw_r hM t1 (by decide)) t6.1 t5.1 t4 (fun q => nomatch q) (qu := fun _ => 0) (fun m hm => by have := (t7 rfl).1; omega) (by rw [(t7 rfl).1]; rfl)) (fun M1 h1 h2 => ?_)
    exact m_left (me := me) (q := 0) (qu := fun _ => 0) (((h2.2 124 14 rfl).1).trans t3) (md_15 h2.1) (fun q => nomatch q) t5.1
  | true =>
    obtain ⟨qu, q, u1, u2, u3, u4, u5⟩ := DR_qu t5.1 (t8 rfl).2
    refine cmp_gen hL (lk_125 hM) (fun _ h => lk_257 h) (c_left t1 t2 (tw_r hM t1 (by decide)) t6.1 t5.1 t4 (fun _ => (t8 rfl).1) u1 u4) (fun M1 h1 h2 => ?_)
    have e := LI_127 h2
    exact m_left (me := me) (qu := qu) (q := q) (((h2.2 124 14 rfl).1).trans t3) (md_15 h2.1) (fun _ => by
      rw [e]
      exact ⟨(t8 rfl).2.2.1.2.1, (t8 rfl).1, u2, u3⟩) t5.1
theorem cmp_29 {M : cm_M} (hM : ab_ok hp hN M) (hL : LI M) : cm_Call cm_ms 30 126 [.ref 0] M (cmp_P 258 [.ref 124]) := by
  obtain ⟨T', a, me, mo, ch, t1, t2, t3, t4, t5, t6, t7, t8⟩ := LI_all hL
  cases a with
  | false =>
    refine cmp_gen hL (lk_126 hM) (fun _ h => lk_258 h) (c_peace t2 (tw_r hM t1 (by decide)) t6.1 t5.1 t4 (qu := fun _ => 0) (fun m hm => by have := (t7 rfl).1; omega)) (fun M1 h1 h2 => ?_)
    exact m_peace (me := me) (qu := fun _ => 0) (((h2.2 124 14 rfl).1).trans t3) (md_15 h2.1) (fun q => nomatch q) t5.1
  | true =>
    obtain ⟨qu, q, u1, u2, u3, u4, u5⟩ := DR_qu t5.1 (t8 rfl).2
    have c := c_peace t2 (tw_r hM t1 (by decide)) t6.1 t5.1 t4 u1
    rw [pe_end t5.1 u5] at c
    refine cmp_gen hL (lk_126 hM) (fun _ h => lk_258 h) c (fun M1 h1 h2 => ?_)
    have e := LI_127 h2
    exact m_peace (me := me) (qu := qu) (((h2.2 124 14 rfl).1).trans t3) (md_15 h2.1) (fun _ => by
      rw [e]
      exact ⟨(t8 rfl).2.2.1.2.1, u2⟩) t5.1
theorem ix61 {k : Nat} (h : k < 100) : ((61 : Int32) + Int32.ofNat k).toNatClampNeg = 61 + k := by
  rw [show (61 : Int32) = Int32.ofNat 61 from rfl, ← Int32.ofNat_add, fn_nat (by omega)]
theorem cmp_30 {M : cm_M} (hM : ab_ok hp hN M) (hL : LI M) (c o : Int32) : cm_Call cm_ms 30 128 [.ref 0, .int c, .int o] M (cmp_P 260 [.ref 124, .int c, .int o]) := by
  obtain ⟨T', a, me, mo, ch, t1, t2, t3, t4, t5, t6, t7, t8⟩ := LI_all hL
  refine cmp_gen hL (lk_128 hM c o) (fun _ h => lk_260 h c o) (c_apart t2 (tw_r hM t1 (by decide)) c o) (fun M1 h1 h2 => ?_)
  have q := m_apart (((h2.2 124 14 rfl).1).trans t3) (md_15 h2.1) c o
  have e : apM M1 a c o = apF M T' c o := by
    unfold apM apF
    rw [t6.2.2, LI_127 h2]
    cases a with
    | false =>
      have := (t7 rfl).2.2
      subst this
      rw [show outB c (Int32.ofNat 0) = true from out_0 c]
      rfl
    | true =>
      have hd := (t8 rfl).2
      rw [hd.2.1.2.2.2.2.2, out_in (by omega), out_in (by omega)]
      cases hc : outB c (Int32.ofNat ch) with
      | true => rfl
      | false =>
        cases ho : outB o (Int32.ofNat ch) with
        | true => rfl
        | false =>
          obtain ⟨i, hi, rfl⟩ := out_nat (by omega) hc
          obtain ⟨j, hj, rfl⟩ := out_nat (by omega) ho
          have x1 := hd.2.2.2.2.1 i hi
          have x2 := hd.2.2.2.2.1 j hj
          have x1 : M.1 (T' + 11) i = M.1 127 (61 + i) := x1
          have x2 : M.1 (T' + 11) j = M.1 127 (61 + j) := x2
          rw [if_pos (show (true && !false && (true && !false)) = true from rfl), if_neg (show ¬ (false || false) = true by decide), ix61 (by omega), ix61 (by omega), fn_nat (by omega), fn_nat (by omega), x1, x2, way_eq]
  rw [e] at q
  exact q
theorem cmp_11 {M : cm_M} (hM : ab_ok hp hN M) (hL : LI M) (x : Int32) : cm_Call cm_ms 30 105 [.ref 0, .int x] M (cmp_P 230 [.ref 124, .int x]) := by
  obtain ⟨T', a, me, mo, ch, t1, t2, t3, t4, t5, t6, t7, t8⟩ := LI_all hL
  refine cmp_gen hL (lk_105 hM x) (fun _ h => lk_230 h x) (c_behind t2 (tw_r hM t1 (by decide)) t6.2.1 t5.2.1 x) (fun M1 h1 h2 => ?_)
  have e127 := LI_127 h2
  have q := m_behind (mo := mo) (((h2.2 124 14 rfl).1).trans t3) (md_15 h2.1) (fun q => by rw [e127]; exact (t8 q).2.2.1.2.2.2.1) t5.2.1 x
  have e : bhM M1 mo a x = bhC M T' mo x := by
    unfold bhM bhC
    rw [e127]
    cases a with
    | false =>
      have := (t7 rfl).2.1
      subst this
      rw [show outB x (Int32.ofNat 0) = true from out_0 x]
      rfl
    | true =>
      have hd := (t8 rfl).2
      rw [out_in (by omega)]
      cases hc : outB x (Int32.ofNat mo) with
      | true => rfl
      | false =>
        obtain ⟨k, hk, rfl⟩ := out_nat (by omega) hc
        rw [if_pos (show (true && !false) = true from rfl), if_neg (show ¬ false = true by decide), fn_nat (by omega)]
        congr 1
        exact bhF_cg _ (fun o ho => ((hd.2.2.2.1 o (by omega)).2.2.2).symm)
  rw [e] at q
  exact q
