section HALVES
variable {J : cm_S → Prop} {L : Nat} {xs : Nat → Int32} {i : Int32} {M : cm_M}
set_option maxRecDepth 100000 in
theorem lh_36a (hM : ab_ok hp hN M) (hJ : ∀ M', lu_P M M' → J (1145, law_L i, [], M')) : cm_wp cm_ms (cm_Call cm_ms 30) (some (L, xs)) lawP lu_c36a (lu_st 1145) J (fun _ _ => False) 80 (1140, law_L i, [], M) := by
  show cm_cs [] ≤ 8 ∧ ev_nar1 _ _ = true ∧ (_ → _) ∧ cm_Call cm_ms 30 134 [.ref 0] M _
  refine ⟨by decide, by decide, fun _ => Or.inr rfl, cm_Call_up (lk_134 hM) (Nat.le_refl _) (fun v M1 hv => ?_)⟩
  obtain ⟨⟨r, rfl⟩, hP⟩ := hv
  show (Value.int r).category = 1 ∧ J (1145, law_L i, [], M1)
  exact ⟨rfl, hJ M1 hP⟩
set_option maxRecDepth 100000 in
theorem lh_36b (hM : ab_ok hp hN M) (hJ : ∀ M', lu_P M M' → J (1722, law_L i, [], M')) : cm_wp cm_ms (cm_Call cm_ms 30) (some (L, xs)) lawP lu_c36b (lu_st 1722) J (fun _ _ => False) 80 (1145, law_L i, [], M) := by
  show cm_cs [] ≤ 8 ∧ ev_nar1 _ _ = true ∧ (_ → _) ∧ cm_Call cm_ms 30 270 [.ref 124] M _
  refine ⟨by decide, by decide, fun _ => Or.inr rfl, cm_Call_up (lk_270 hM) (Nat.le_refl _) (fun v M1 hv => ?_)⟩
  obtain ⟨⟨r, rfl⟩, hP⟩ := hv
  show (Value.int r).category = 1 ∧ 0 ≤ _ ∧ J (1722, law_L i, [], M1)
  exact ⟨rfl, (by decide : (0 : Int) ≤ 1722), hJ M1 hP⟩
set_option maxRecDepth 100000 in
theorem lh_37a (hM : ab_ok hp hN M) (hJ : ∀ M', lu_P M M' → J (1158, law_L i, [], M')) : cm_wp cm_ms (cm_Call cm_ms 30) (some (L, xs)) lawP lu_c37a (lu_st 1158) J (fun _ _ => False) 80 (1153, law_L i, [], M) := by
  show cm_cs [] ≤ 8 ∧ ev_nar1 _ _ = true ∧ (_ → _) ∧ cm_Call cm_ms 30 135 [.ref 0] M _
  refine ⟨by decide, by decide, fun _ => Or.inr rfl, cm_Call_up (lk_135 hM) (Nat.le_refl _) (fun v M1 hv => ?_)⟩
  obtain ⟨⟨r, rfl⟩, hP⟩ := hv
  show (Value.int r).category = 1 ∧ J (1158, law_L i, [], M1)
  exact ⟨rfl, hJ M1 hP⟩
set_option maxRecDepth 100000 in
theorem lh_37b (hM : ab_ok hp hN M) (hJ : ∀ M', lu_P M M' → J (1722, law_L i, [], M')) : cm_wp cm_ms (cm_Call cm_ms 30) (some (L, xs)) lawP lu_c37b (lu_st 1722) J (fun _ _ => False) 80 (1158, law_L i, [], M) := by
  show cm_cs [] ≤ 8 ∧ ev_nar1 _ _ = true ∧ (_ → _) ∧ cm_Call cm_ms 30 273 [.ref 124] M _
  refine ⟨by decide, by decide, fun _ => Or.inr rfl, cm_Call_up (lk_273 hM) (Nat.le_refl _) (fun v M1 hv => ?_)⟩
  obtain ⟨⟨r, rfl⟩, hP⟩ := hv
  show (Value.int r).category = 1 ∧ 0 ≤ _ ∧ J (1722, law_L i, [], M1)
  exact ⟨rfl, (by decide : (0 : Int) ≤ 1722), hJ M1 hP⟩
set_option maxRecDepth 100000 in
theorem lh_38a (hM : ab_ok hp hN M) (hJ : ∀ M', lu_P M M' → J (1171, law_L i, [], M')) : cm_wp cm_ms (cm_Call cm_ms 30) (some (L, xs)) lawP lu_c38a (lu_st 1171) J (fun _ _ => False) 80 (1166, law_L i, [], M) := by
  show cm_cs [] ≤ 8 ∧ ev_nar1 _ _ = true ∧ (_ → _) ∧ cm_Call cm_ms 30 136 [.ref 0] M _
  refine ⟨by decide, by decide, fun _ => Or.inr rfl, cm_Call_up (lk_136 hM) (Nat.le_refl _) (fun v M1 hv => ?_)⟩
  obtain ⟨⟨r, rfl⟩, hP⟩ := hv
  show (Value.int r).category = 1 ∧ J (1171, law_L i, [], M1)
  exact ⟨rfl, hJ M1 hP⟩
set_option maxRecDepth 100000 in
theorem lh_38b (hM : ab_ok hp hN M) (hJ : ∀ M', lu_P M M' → J (1722, law_L i, [], M')) : cm_wp cm_ms (cm_Call cm_ms 30) (some (L, xs)) lawP lu_c38b (lu_st 1722) J (fun _ _ => False) 80 (1171, law_L i, [], M) := by
  show cm_cs [] ≤ 8 ∧ ev_nar1 _ _ = true ∧ (_ → _) ∧ cm_Call cm_ms 30 274 [.ref 124] M _
  refine ⟨by decide, by decide, fun _ => Or.inr rfl, cm_Call_up (lk_274 hM) (Nat.le_refl _) (fun v M1 hv => ?_)⟩
  obtain ⟨⟨r, rfl⟩, hP⟩ := hv
  show (Value.int r).category = 1 ∧ 0 ≤ _ ∧ J (1722, law_L i, [], M1)
  exact ⟨rfl, (by decide : (0 : Int) ≤ 1722), hJ M1 hP⟩
set_option maxRecDepth 100000 in
theorem lh_39a (hi : lu_in L i) {C : cm_C} (hU : cm_CM C C) (hC : ∀ x0 x1 x2 x3 : Int32, 0 ≤ x1.toInt ∧ x1.toInt ≤ 1 → 0 ≤ x2.toInt ∧ x2.toInt ≤ 1 → 0 ≤ x3.toInt ∧ x3.toInt ≤ 1 → C 138 [.ref 0, .int x0, .int x1, .int x2, .int x3] M (lp_P 0 M)) (hJ : ∀ M', lu_P M M' → J (1232, law_L i, [], M')) : cm_wp cm_ms (C) (some (L, xs)) lawP lu_c39a (lu_st 1232) J (fun _ _ => False) 80 (1179, law_L i, [], M) := by
  show 1000 = 1000 ∧ 0 ≤ (i + 1).toInt ∧ (i + 1).toInt < (L : Int) ∧ 1000 = 1000 ∧ 0 ≤ (i + 2).toInt ∧ (i + 2).toInt < (L : Int) ∧ 0 ≤ _ ∧ (ev_cmp 0 (xs (i + 2).toNatClampNeg) 0 = true → _) ∧ (ev_cmp 0 (xs (i + 2).toNatClampNeg) 0 = false → _)
  refine ⟨rfl, (lu_ix hi (a := 1) (by decide) (by decide)).1, (lu_ix hi (a := 1) (by decide) (by decide)).2, rfl, (lu_ix hi (a := 2) (by decide) (by decide)).1, (lu_ix hi (a := 2) (by decide) (by decide)).2, (by decide : (0 : Int) ≤ 1199), fun _ => ?_, fun _ => ?_⟩
  · show 1000 = 1000 ∧ 0 ≤ (i + 3).toInt ∧ (i + 3).toInt < (L : Int) ∧ 0 ≤ _ ∧ (ev_cmp 0 (xs (i + 3).toNatClampNeg) 0 = true → _) ∧ (ev_cmp 0 (xs (i + 3).toNatClampNeg) 0 = false → _)
    refine ⟨rfl, (lu_ix hi (a := 3) (by decide) (by decide)).1, (lu_ix hi (a := 3) (by decide) (by decide)).2, (by decide : (0 : Int) ≤ 1213), fun _ => ?_, fun _ => ?_⟩
    · show 1000 = 1000 ∧ 0 ≤ (i + 4).toInt ∧ (i + 4).toInt < (L : Int) ∧ 0 ≤ _ ∧ (ev_cmp 0 (xs (i + 4).toNatClampNeg) 0 = true → _) ∧ (ev_cmp 0 (xs (i + 4).toNatClampNeg) 0 = false → _)
      refine ⟨rfl, (lu_ix hi (a := 4) (by decide) (by decide)).1, (lu_ix hi (a := 4) (by decide) (by decide)).2, (by decide : (0 : Int) ≤ 1227), fun _ => ?_, fun _ => ?_⟩
      · show cm_cs [] ≤ 8 ∧ ev_nar1 _ _ = true ∧ (_ → _) ∧ C 138 [.ref 0, .int (xs (i + 1).toNatClampNeg), .int 0, .int 0, .int 0] M _
        refine ⟨by decide, by decide, fun _ => Or.inr rfl, hU _ _ _ _ _ (fun v M1 hv => ?_) (hC _ _ _ _ (by decide) (by decide) (by decide))⟩
        obtain ⟨⟨r, rfl⟩, hP⟩ := hv
        show (Value.int r).category = 1 ∧ J (1232, law_L i, [], M1)
        exact ⟨rfl, hJ M1 hP⟩
      · show 0 ≤ _ ∧ cm_cs [] ≤ 8 ∧ ev_nar1 _ _ = true ∧ (_ → _) ∧ C 138 [.ref 0, .int (xs (i + 1).toNatClampNeg), .int 0, .int 0, .int 1] M _
        refine ⟨(by decide : (0 : Int) ≤ 1228), by decide, by decide, fun _ => Or.inr rfl, hU _ _ _ _ _ (fun v M1 hv => ?_) (hC _ _ _ _ (by decide) (by decide) (by decide))⟩
        obtain ⟨⟨r, rfl⟩, hP⟩ := hv
        show (Value.int r).category = 1 ∧ J (1232, law_L i, [], M1)
        exact ⟨rfl, hJ M1 hP⟩
    · show 0 ≤ _ ∧ 1000 = 1000 ∧ 0 ≤ (i + 4).toInt ∧ (i + 4).toInt < (L : Int) ∧ 0 ≤ _ ∧ (ev_cmp 0 (xs (i + 4).toNatClampNeg) 0 = true → _) ∧ (ev_cmp 0 (xs (i + 4).toNatClampNeg) 0 = false → _)
      refine ⟨(by decide : (0 : Int) ≤ 1214), rfl, (lu_ix hi (a := 4) (by decide) (by decide)).1, (lu_ix hi (a := 4) (by decide) (by decide)).2, (by decide : (0 : Int) ≤ 1227), fun _ => ?_, fun _ => ?_⟩
      · show cm_cs [] ≤ 8 ∧ ev_nar1 _ _ = true ∧ (_ → _) ∧ C 138 [.ref 0, .int (xs (i + 1).toNatClampNeg), .int 0, .int 1, .int 0] M _
        refine ⟨by decide, by decide, fun _ => Or.inr rfl, hU _ _ _ _ _ (fun v M1 hv => ?_) (hC _ _ _ _ (by decide) (by decide) (by decide))⟩
        obtain ⟨⟨r, rfl⟩, hP⟩ := hv
        show (Value.int r).category = 1 ∧ J (1232, law_L i, [], M1)
        exact ⟨rfl, hJ M1 hP⟩
      · show 0 ≤ _ ∧ cm_cs [] ≤ 8 ∧ ev_nar1 _ _ = true ∧ (_ → _) ∧ C 138 [.ref 0, .int (xs (i + 1).toNatClampNeg), .int 0, .int 1, .int 1] M _
        refine ⟨(by decide : (0 : Int) ≤ 1228), by decide, by decide, fun _ => Or.inr rfl, hU _ _ _ _ _ (fun v M1 hv => ?_) (hC _ _ _ _ (by decide) (by decide) (by decide))⟩
        obtain ⟨⟨r, rfl⟩, hP⟩ := hv
        show (Value.int r).category = 1 ∧ J (1232, law_L i, [], M1)
        exact ⟨rfl, hJ M1 hP⟩
  · show 0 ≤ _ ∧ 1000 = 1000 ∧ 0 ≤ (i + 3).toInt ∧ (i + 3).toInt < (L : Int) ∧ 0 ≤ _ ∧ (ev_cmp 0 (xs (i + 3).toNatClampNeg) 0 = true → _) ∧ (ev_cmp 0 (xs (i + 3).toNatClampNeg) 0 = false → _)
    refine ⟨(by decide : (0 : Int) ≤ 1200), rfl, (lu_ix hi (a := 3) (by decide) (by decide)).1, (lu_ix hi (a := 3) (by decide) (by decide)).2, (by decide : (0 : Int) ≤ 1213), fun _ => ?_, fun _ => ?_⟩
    · show 1000 = 1000 ∧ 0 ≤ (i + 4).toInt ∧ (i + 4).toInt < (L : Int) ∧ 0 ≤ _ ∧ (ev_cmp 0 (xs (i + 4).toNatClampNeg) 0 = true → _) ∧ (ev_cmp 0 (xs (i + 4).toNatClampNeg) 0 = false → _)
      refine ⟨rfl, (lu_ix hi (a := 4) (by decide) (by decide)).1, (lu_ix hi (a := 4) (by decide) (by decide)).2, (by decide : (0 : Int) ≤ 1227), fun _ => ?_, fun _ => ?_⟩
      · show cm_cs [] ≤ 8 ∧ ev_nar1 _ _ = true ∧ (_ → _) ∧ C 138 [.ref 0, .int (xs (i + 1).toNatClampNeg), .int 1, .int 0, .int 0] M _
        refine ⟨by decide, by decide, fun _ => Or.inr rfl, hU _ _ _ _ _ (fun v M1 hv => ?_) (hC _ _ _ _ (by decide) (by decide) (by decide))⟩
        obtain ⟨⟨r, rfl⟩, hP⟩ := hv
        show (Value.int r).category = 1 ∧ J (1232, law_L i, [], M1)
        exact ⟨rfl, hJ M1 hP⟩
      · show 0 ≤ _ ∧ cm_cs [] ≤ 8 ∧ ev_nar1 _ _ = true ∧ (_ → _) ∧ C 138 [.ref 0, .int (xs (i + 1).toNatClampNeg), .int 1, .int 0, .int 1] M _
        refine ⟨(by decide : (0 : Int) ≤ 1228), by decide, by decide, fun _ => Or.inr rfl, hU _ _ _ _ _ (fun v M1 hv => ?_) (hC _ _ _ _ (by decide) (by decide) (by decide))⟩
        obtain ⟨⟨r, rfl⟩, hP⟩ := hv
        show (Value.int r).category = 1 ∧ J (1232, law_L i, [], M1)
        exact ⟨rfl, hJ M1 hP⟩
    · show 0 ≤ _ ∧ 1000 = 1000 ∧ 0 ≤ (i + 4).toInt ∧ (i + 4).toInt < (L : Int) ∧ 0 ≤ _ ∧ (ev_cmp 0 (xs (i + 4).toNatClampNeg) 0 = true → _) ∧ (ev_cmp 0 (xs (i + 4).toNatClampNeg) 0 = false → _)
      refine ⟨(by decide : (0 : Int) ≤ 1214), rfl, (lu_ix hi (a := 4) (by decide) (by decide)).1, (lu_ix hi (a := 4) (by decide) (by decide)).2, (by decide : (0 : Int) ≤ 1227), fun _ => ?_, fun _ => ?_⟩
      · show cm_cs [] ≤ 8 ∧ ev_nar1 _ _ = true ∧ (_ → _) ∧ C 138 [.ref 0, .int (xs (i + 1).toNatClampNeg), .int 1, .int 1, .int 0] M _
        refine ⟨by decide, by decide, fun _ => Or.inr rfl, hU _ _ _ _ _ (fun v M1 hv => ?_) (hC _ _ _ _ (by decide) (by decide) (by decide))⟩
        obtain ⟨⟨r, rfl⟩, hP⟩ := hv
        show (Value.int r).category = 1 ∧ J (1232, law_L i, [], M1)
        exact ⟨rfl, hJ M1 hP⟩
      · show 0 ≤ _ ∧ cm_cs [] ≤ 8 ∧ ev_nar1 _ _ = true ∧ (_ → _) ∧ C 138 [.ref 0, .int (xs (i + 1).toNatClampNeg), .int 1, .int 1, .int 1] M _
        refine ⟨(by decide : (0 : Int) ≤ 1228), by decide, by decide, fun _ => Or.inr rfl, hU _ _ _ _ _ (fun v M1 hv => ?_) (hC _ _ _ _ (by decide) (by decide) (by decide))⟩
        obtain ⟨⟨r, rfl⟩, hP⟩ := hv
        show (Value.int r).category = 1 ∧ J (1232, law_L i, [], M1)
        exact ⟨rfl, hJ M1 hP⟩
set_option maxRecDepth 100000 in
theorem lh_39b (hi : lu_in L i) {C : cm_C} (hU : cm_CM C C) (hC : ∀ x0 x1 x2 x3 : Int32, 0 ≤ x1.toInt ∧ x1.toInt ≤ 1 → 0 ≤ x2.toInt ∧ x2.toInt ≤ 1 → 0 ≤ x3.toInt ∧ x3.toInt ≤ 1 → C 276 [.ref 124, .int x0, .int x1, .int x2, .int x3] M (lp_P 0 M)) (hJ : ∀ M', lu_P M M' → J (1722, law_L i, [], M')) : cm_wp cm_ms (C) (some (L, xs)) lawP lu_c39b (lu_st 1722) J (fun _ _ => False) 80 (1232, law_L i, [], M) := by
  show 1000 = 1000 ∧ 0 ≤ (i + 1).toInt ∧ (i + 1).toInt < (L : Int) ∧ 1000 = 1000 ∧ 0 ≤ (i + 2).toInt ∧ (i + 2).toInt < (L : Int) ∧ 0 ≤ _ ∧ (ev_cmp 0 (xs (i + 2).toNatClampNeg) 0 = true → _) ∧ (ev_cmp 0 (xs (i + 2).toNatClampNeg) 0 = false → _)
  refine ⟨rfl, (lu_ix hi (a := 1) (by decide) (by decide)).1, (lu_ix hi (a := 1) (by decide) (by decide)).2, rfl, (lu_ix hi (a := 2) (by decide) (by decide)).1, (lu_ix hi (a := 2) (by decide) (by decide)).2, (by decide : (0 : Int) ≤ 1252), fun _ => ?_, fun _ => ?_⟩
  · show 1000 = 1000 ∧ 0 ≤ (i + 3).toInt ∧ (i + 3).toInt < (L : Int) ∧ 0 ≤ _ ∧ (ev_cmp 0 (xs (i + 3).toNatClampNeg) 0 = true → _) ∧ (ev_cmp 0 (xs (i + 3).toNatClampNeg) 0 = false → _)
    refine ⟨rfl, (lu_ix hi (a := 3) (by decide) (by decide)).1, (lu_ix hi (a := 3) (by decide) (by decide)).2, (by decide : (0 : Int) ≤ 1266), fun _ => ?_, fun _ => ?_⟩
    · show 1000 = 1000 ∧ 0 ≤ (i + 4).toInt ∧ (i + 4).toInt < (L : Int) ∧ 0 ≤ _ ∧ (ev_cmp 0 (xs (i + 4).toNatClampNeg) 0 = true → _) ∧ (ev_cmp 0 (xs (i + 4).toNatClampNeg) 0 = false → _)
      refine ⟨rfl, (lu_ix hi (a := 4) (by decide) (by decide)).1, (lu_ix hi (a := 4) (by decide) (by decide)).2, (by decide : (0 : Int) ≤ 1280), fun _ => ?_, fun _ => ?_⟩
      · show cm_cs [] ≤ 8 ∧ ev_nar1 _ _ = true ∧ (_ → _) ∧ C 276 [.ref 124, .int (xs (i + 1).toNatClampNeg), .int 0, .int 0, .int 0] M _
        refine ⟨by decide, by decide, fun _ => Or.inr rfl, hU _ _ _ _ _ (fun v M1 hv => ?_) (hC _ _ _ _ (by decide) (by decide) (by decide))⟩
        obtain ⟨⟨r, rfl⟩, hP⟩ := hv
        show (Value.int r).category = 1 ∧ 0 ≤ _ ∧ J (1722, law_L i, [], M1)
        exact ⟨rfl, (by decide : (0 : Int) ≤ 1722), hJ M1 hP⟩
      · show 0 ≤ _ ∧ cm_cs [] ≤ 8 ∧ ev_nar1 _ _ = true ∧ (_ → _) ∧ C 276 [.ref 124, .int (xs (i + 1).toNatClampNeg), .int 0, .int 0, .int 1] M _
        refine ⟨(by decide : (0 : Int) ≤ 1281), by decide, by decide, fun _ => Or.inr rfl, hU _ _ _ _ _ (fun v M1 hv => ?_) (hC _ _ _ _ (by decide) (by decide) (by decide))⟩
        obtain ⟨⟨r, rfl⟩, hP⟩ := hv
        show (Value.int r).category = 1 ∧ 0 ≤ _ ∧ J (1722, law_L i, [], M1)
        exact ⟨rfl, (by decide : (0 : Int) ≤ 1722), hJ M1 hP⟩
    · show 0 ≤ _ ∧ 1000 = 1000 ∧ 0 ≤ (i + 4).toInt ∧ (i + 4).toInt < (L : Int) ∧ 0 ≤ _ ∧ (ev_cmp 0 (xs (i + 4).toNatClampNeg) 0 = true → _) ∧ (ev_cmp 0 (xs (i + 4).toNatClampNeg) 0 = false → _)
      refine ⟨(by decide : (0 : Int) ≤ 1267), rfl, (lu_ix hi (a := 4) (by decide) (by decide)).1, (lu_ix hi (a := 4) (by decide) (by decide)).2, (by decide : (0 : Int) ≤ 1280), fun _ => ?_, fun _ => ?_⟩
      · show cm_cs [] ≤ 8 ∧ ev_nar1 _ _ = true ∧ (_ → _) ∧ C 276 [.ref 124, .int (xs (i + 1).toNatClampNeg), .int 0, .int 1, .int 0] M _
        refine ⟨by decide, by decide, fun _ => Or.inr rfl, hU _ _ _ _ _ (fun v M1 hv => ?_) (hC _ _ _ _ (by decide) (by decide) (by decide))⟩
        obtain ⟨⟨r, rfl⟩, hP⟩ := hv
        show (Value.int r).category = 1 ∧ 0 ≤ _ ∧ J (1722, law_L i, [], M1)
        exact ⟨rfl, (by decide : (0 : Int) ≤ 1722), hJ M1 hP⟩
      · show 0 ≤ _ ∧ cm_cs [] ≤ 8 ∧ ev_nar1 _ _ = true ∧ (_ → _) ∧ C 276 [.ref 124, .int (xs (i + 1).toNatClampNeg), .int 0, .int 1, .int 1] M _
        refine ⟨(by decide : (0 : Int) ≤ 1281), by decide, by decide, fun _ => Or.inr rfl, hU _ _ _ _ _ (fun v M1 hv => ?_) (hC _ _ _ _ (by decide) (by decide) (by decide))⟩
        obtain ⟨⟨r, rfl⟩, hP⟩ := hv
        show (Value.int r).category = 1 ∧ 0 ≤ _ ∧ J (1722, law_L i, [], M1)
        exact ⟨rfl, (by decide : (0 : Int) ≤ 1722), hJ M1 hP⟩
  · show 0 ≤ _ ∧ 1000 = 1000 ∧ 0 ≤ (i + 3).toInt ∧ (i + 3).toInt < (L : Int) ∧ 0 ≤ _ ∧ (ev_cmp 0 (xs (i + 3).toNatClampNeg) 0 = true → _) ∧ (ev_cmp 0 (xs (i + 3).toNatClampNeg) 0 = false → _)
    refine ⟨(by decide : (0 : Int) ≤ 1253), rfl, (lu_ix hi (a := 3) (by decide) (by decide)).1, (lu_ix hi (a := 3) (by decide) (by decide)).2, (by decide : (0 : Int) ≤ 1266), fun _ => ?_, fun _ => ?_⟩
    · show 1000 = 1000 ∧ 0 ≤ (i + 4).toInt ∧ (i + 4).toInt < (L : Int) ∧ 0 ≤ _ ∧ (ev_cmp 0 (xs (i + 4).toNatClampNeg) 0 = true → _) ∧ (ev_cmp 0 (xs (i + 4).toNatClampNeg) 0 = false → _)
      refine ⟨rfl, (lu_ix hi (a := 4) (by decide) (by decide)).1, (lu_ix hi (a := 4) (by decide) (by decide)).2, (by decide : (0 : Int) ≤ 1280), fun _ => ?_, fun _ => ?_⟩
      · show cm_cs [] ≤ 8 ∧ ev_nar1 _ _ = true ∧ (_ → _) ∧ C 276 [.ref 124, .int (xs (i + 1).toNatClampNeg), .int 1, .int 0, .int 0] M _
        refine ⟨by decide, by decide, fun _ => Or.inr rfl, hU _ _ _ _ _ (fun v M1 hv => ?_) (hC _ _ _ _ (by decide) (by decide) (by decide))⟩
        obtain ⟨⟨r, rfl⟩, hP⟩ := hv
        show (Value.int r).category = 1 ∧ 0 ≤ _ ∧ J (1722, law_L i, [], M1)
        exact ⟨rfl, (by decide : (0 : Int) ≤ 1722), hJ M1 hP⟩
      · show 0 ≤ _ ∧ cm_cs [] ≤ 8 ∧ ev_nar1 _ _ = true ∧ (_ → _) ∧ C 276 [.ref 124, .int (xs (i + 1).toNatClampNeg), .int 1, .int 0, .int 1] M _
        refine ⟨(by decide : (0 : Int) ≤ 1281), by decide, by decide, fun _ => Or.inr rfl, hU _ _ _ _ _ (fun v M1 hv => ?_) (hC _ _ _ _ (by decide) (by decide) (by decide))⟩
        obtain ⟨⟨r, rfl⟩, hP⟩ := hv
        show (Value.int r).category = 1 ∧ 0 ≤ _ ∧ J (1722, law_L i, [], M1)
        exact ⟨rfl, (by decide : (0 : Int) ≤ 1722), hJ M1 hP⟩
    · show 0 ≤ _ ∧ 1000 = 1000 ∧ 0 ≤ (i + 4).toInt ∧ (i + 4).toInt < (L : Int) ∧ 0 ≤ _ ∧ (ev_cmp 0 (xs (i + 4).toNatClampNeg) 0 = true → _) ∧ (ev_cmp 0 (xs (i + 4).toNatClampNeg) 0 = false → _)
      refine ⟨(by decide : (0 : Int) ≤ 1267), rfl, (lu_ix hi (a := 4) (by decide) (by decide)).1, (lu_ix hi (a := 4) (by decide) (by decide)).2, (by decide : (0 : Int) ≤ 1280), fun _ => ?_, fun _ => ?_⟩
      · show cm_cs [] ≤ 8 ∧ ev_nar1 _ _ = true ∧ (_ → _) ∧ C 276 [.ref 124, .int (xs (i + 1).toNatClampNeg), .int 1, .int 1, .int 0] M _
        refine ⟨by decide, by decide, fun _ => Or.inr rfl, hU _ _ _ _ _ (fun v M1 hv => ?_) (hC _ _ _ _ (by decide) (by decide) (by decide))⟩
        obtain ⟨⟨r, rfl⟩, hP⟩ := hv
        show (Value.int r).category = 1 ∧ 0 ≤ _ ∧ J (1722, law_L i, [], M1)
        exact ⟨rfl, (by decide : (0 : Int) ≤ 1722), hJ M1 hP⟩
      · show 0 ≤ _ ∧ cm_cs [] ≤ 8 ∧ ev_nar1 _ _ = true ∧ (_ → _) ∧ C 276 [.ref 124, .int (xs (i + 1).toNatClampNeg), .int 1, .int 1, .int 1] M _
        refine ⟨(by decide : (0 : Int) ≤ 1281), by decide, by decide, fun _ => Or.inr rfl, hU _ _ _ _ _ (fun v M1 hv => ?_) (hC _ _ _ _ (by decide) (by decide) (by decide))⟩
        obtain ⟨⟨r, rfl⟩, hP⟩ := hv
        show (Value.int r).category = 1 ∧ 0 ≤ _ ∧ J (1722, law_L i, [], M1)
        exact ⟨rfl, (by decide : (0 : Int) ≤ 1722), hJ M1 hP⟩
set_option maxRecDepth 100000 in
theorem lh_40a (hi : lu_in L i) (hM : ab_ok hp hN M) (hJ : ∀ M', lu_P M M' → J (1299, law_L i, [], M')) : cm_wp cm_ms (cm_Call cm_ms 30) (some (L, xs)) lawP lu_c40a (lu_st 1299) J (fun _ _ => False) 80 (1288, law_L i, [], M) := by
  show 1000 = 1000 ∧ 0 ≤ (i + 1).toInt ∧ (i + 1).toInt < (L : Int) ∧ cm_cs [] ≤ 8 ∧ ev_nar1 _ _ = true ∧ (_ → _) ∧ cm_Call cm_ms 30 139 [.ref 0, .int (xs (i + 1).toNatClampNeg)] M _
  refine ⟨rfl, (lu_ix hi (a := 1) (by decide) (by decide)).1, (lu_ix hi (a := 1) (by decide) (by decide)).2, by decide, by decide, fun _ => Or.inr rfl, cm_Call_up (lk_139 hM _) (Nat.le_refl _) (fun v M1 hv => ?_)⟩
  obtain ⟨⟨r, rfl⟩, hP⟩ := hv
  show (Value.int r).category = 1 ∧ J (1299, law_L i, [], M1)
  exact ⟨rfl, hJ M1 hP⟩
set_option maxRecDepth 100000 in
theorem lh_40b (hi : lu_in L i) (hM : ab_ok hp hN M) (hJ : ∀ M', lu_P M M' → J (1722, law_L i, [], M')) : cm_wp cm_ms (cm_Call cm_ms 30) (some (L, xs)) lawP lu_c40b (lu_st 1722) J (fun _ _ => False) 80 (1299, law_L i, [], M) := by
  show 1000 = 1000 ∧ 0 ≤ (i + 1).toInt ∧ (i + 1).toInt < (L : Int) ∧ cm_cs [] ≤ 8 ∧ ev_nar1 _ _ = true ∧ (_ → _) ∧ cm_Call cm_ms 30 279 [.ref 124, .int (xs (i + 1).toNatClampNeg)] M _
  refine ⟨rfl, (lu_ix hi (a := 1) (by decide) (by decide)).1, (lu_ix hi (a := 1) (by decide) (by decide)).2, by decide, by decide, fun _ => Or.inr rfl, cm_Call_up (lk_279 hM _) (Nat.le_refl _) (fun v M1 hv => ?_)⟩
  obtain ⟨⟨r, rfl⟩, hP⟩ := hv
  show (Value.int r).category = 1 ∧ 0 ≤ _ ∧ J (1722, law_L i, [], M1)
  exact ⟨rfl, (by decide : (0 : Int) ≤ 1722), hJ M1 hP⟩
end HALVES
