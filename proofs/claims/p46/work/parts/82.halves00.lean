noncomputable def lu_in (L : Nat) (i : Int32) : Prop := 0 ≤ i.toInt ∧ i.toInt + 6 ≤ (L : Int) ∧ L ≤ 3072
theorem lu_ix {L : Nat} {i : Int32} (h : lu_in L i) {a : Int32} (h0 : 0 ≤ a.toInt) (h5 : a.toInt ≤ 5) : 0 ≤ (i + a).toInt ∧ (i + a).toInt < (L : Int) := by
  obtain ⟨h1, h2, h3⟩ := h
  rw [Int32.toInt_add, ev_bm (by omega) (by omega)]
  omega
noncomputable abbrev lu_st (pc : Nat) : List (Nat × List Nat) := [(pc, [4, 3, 2, 1, 0])]
section HALVES
variable {J : cm_S → Prop} {L : Nat} {xs : Nat → Int32} {i : Int32} {M : cm_M}
set_option maxRecDepth 100000 in
theorem lh_1a (hi : lu_in L i) {T : cm_M → Prop} (hC : cm_Call cm_ms 30 95 [.ref 0, .int (xs (i + 1).toNatClampNeg)] M (fun v M' => lp_kd 0 v ∧ T M')) (hJ : ∀ M', T M' → J (360, law_L i, [], M')) : cm_wp cm_ms (cm_Call cm_ms 30) (some (L, xs)) lawP lu_c1a (lu_st 360) J (fun _ _ => False) 80 (349, law_L i, [], M) := by
  show 1000 = 1000 ∧ 0 ≤ (i + 1).toInt ∧ (i + 1).toInt < (L : Int) ∧ cm_cs [] ≤ 8 ∧ ev_nar1 _ _ = true ∧ (_ → _) ∧ cm_Call cm_ms 30 95 [.ref 0, .int (xs (i + 1).toNatClampNeg)] M _
  refine ⟨rfl, (lu_ix hi (a := 1) (by decide) (by decide)).1, (lu_ix hi (a := 1) (by decide) (by decide)).2, by decide, by decide, fun _ => Or.inr rfl, cm_Call_up hC (Nat.le_refl _) (fun v M1 hv => ?_)⟩
  obtain ⟨⟨r, rfl⟩, hP⟩ := hv
  show (Value.int r).category = 1 ∧ J (360, law_L i, [], M1)
  exact ⟨rfl, hJ M1 hP⟩
set_option maxRecDepth 100000 in
theorem lh_1b (hi : lu_in L i) {T : cm_M → Prop} (hC : cm_Call cm_ms 30 191 [.ref 124, .int (xs (i + 1).toNatClampNeg)] M (fun v M' => lp_kd 0 v ∧ T M')) (hJ : ∀ M', T M' → J (1722, law_L i, [], M')) : cm_wp cm_ms (cm_Call cm_ms 30) (some (L, xs)) lawP lu_c1b (lu_st 1722) J (fun _ _ => False) 80 (360, law_L i, [], M) := by
  show 1000 = 1000 ∧ 0 ≤ (i + 1).toInt ∧ (i + 1).toInt < (L : Int) ∧ cm_cs [] ≤ 8 ∧ ev_nar1 _ _ = true ∧ (_ → _) ∧ cm_Call cm_ms 30 191 [.ref 124, .int (xs (i + 1).toNatClampNeg)] M _
  refine ⟨rfl, (lu_ix hi (a := 1) (by decide) (by decide)).1, (lu_ix hi (a := 1) (by decide) (by decide)).2, by decide, by decide, fun _ => Or.inr rfl, cm_Call_up hC (Nat.le_refl _) (fun v M1 hv => ?_)⟩
  obtain ⟨⟨r, rfl⟩, hP⟩ := hv
  show (Value.int r).category = 1 ∧ 0 ≤ _ ∧ J (1722, law_L i, [], M1)
  exact ⟨rfl, (by decide : (0 : Int) ≤ 1722), hJ M1 hP⟩
set_option maxRecDepth 100000 in
theorem lh_2a (hM : ab_ok hp hN M) (hJ : ∀ M', lu_P M M' → J (379, law_L i, [], M')) : cm_wp cm_ms (cm_Call cm_ms 30) (some (L, xs)) lawP lu_c2a (lu_st 379) J (fun _ _ => False) 80 (374, law_L i, [], M) := by
  show cm_cs [] ≤ 8 ∧ ev_nar1 _ _ = true ∧ (_ → _) ∧ cm_Call cm_ms 30 96 [.ref 0] M _
  refine ⟨by decide, by decide, fun _ => Or.inr rfl, cm_Call_up (lk_96 hM) (Nat.le_refl _) (fun v M1 hv => ?_)⟩
  obtain ⟨⟨r, rfl⟩, hP⟩ := hv
  show (Value.int r).category = 1 ∧ J (379, law_L i, [], M1)
  exact ⟨rfl, hJ M1 hP⟩
set_option maxRecDepth 100000 in
theorem lh_2b (hM : ab_ok hp hN M) (hJ : ∀ M', lu_P M M' → J (1722, law_L i, [], M')) : cm_wp cm_ms (cm_Call cm_ms 30) (some (L, xs)) lawP lu_c2b (lu_st 1722) J (fun _ _ => False) 80 (379, law_L i, [], M) := by
  show cm_cs [] ≤ 8 ∧ ev_nar1 _ _ = true ∧ (_ → _) ∧ cm_Call cm_ms 30 203 [.ref 124] M _
  refine ⟨by decide, by decide, fun _ => Or.inr rfl, cm_Call_up (lk_203 hM) (Nat.le_refl _) (fun v M1 hv => ?_)⟩
  obtain ⟨⟨r, rfl⟩, hP⟩ := hv
  show (Value.int r).category = 1 ∧ 0 ≤ _ ∧ J (1722, law_L i, [], M1)
  exact ⟨rfl, (by decide : (0 : Int) ≤ 1722), hJ M1 hP⟩
set_option maxRecDepth 100000 in
theorem lh_3a (hM : ab_ok hp hN M) (hJ : ∀ M', lu_P M M' → J (392, law_L i, [], M')) : cm_wp cm_ms (cm_Call cm_ms 30) (some (L, xs)) lawP lu_c3a (lu_st 392) J (fun _ _ => False) 80 (387, law_L i, [], M) := by
  show cm_cs [] ≤ 8 ∧ ev_nar1 _ _ = true ∧ (_ → _) ∧ cm_Call cm_ms 30 97 [.ref 0] M _
  refine ⟨by decide, by decide, fun _ => Or.inr rfl, cm_Call_up (lk_97 hM) (Nat.le_refl _) (fun v M1 hv => ?_)⟩
  obtain ⟨⟨r, rfl⟩, hP⟩ := hv
  show (Value.int r).category = 1 ∧ J (392, law_L i, [], M1)
  exact ⟨rfl, hJ M1 hP⟩
set_option maxRecDepth 100000 in
theorem lh_3b (hM : ab_ok hp hN M) (hJ : ∀ M', lu_P M M' → J (1722, law_L i, [], M')) : cm_wp cm_ms (cm_Call cm_ms 30) (some (L, xs)) lawP lu_c3b (lu_st 1722) J (fun _ _ => False) 80 (392, law_L i, [], M) := by
  show cm_cs [] ≤ 8 ∧ ev_nar1 _ _ = true ∧ (_ → _) ∧ cm_Call cm_ms 30 204 [.ref 124] M _
  refine ⟨by decide, by decide, fun _ => Or.inr rfl, cm_Call_up (lk_204 hM) (Nat.le_refl _) (fun v M1 hv => ?_)⟩
  obtain ⟨⟨r, rfl⟩, hP⟩ := hv
  show (Value.int r).category = 1 ∧ 0 ≤ _ ∧ J (1722, law_L i, [], M1)
  exact ⟨rfl, (by decide : (0 : Int) ≤ 1722), hJ M1 hP⟩
set_option maxRecDepth 100000 in
theorem lh_4a (hi : lu_in L i) (hM : ab_ok hp hN M) (hJ : ∀ M', lu_P M M' → J (417, law_L i, [], M')) : cm_wp cm_ms (cm_Call cm_ms 30) (some (L, xs)) lawP lu_c4a (lu_st 417) J (fun _ _ => False) 80 (400, law_L i, [], M) := by
  show 1000 = 1000 ∧ 0 ≤ (i + 1).toInt ∧ (i + 1).toInt < (L : Int) ∧ 1000 = 1000 ∧ 0 ≤ (i + 2).toInt ∧ (i + 2).toInt < (L : Int) ∧ cm_cs [] ≤ 8 ∧ ev_nar1 _ _ = true ∧ (_ → _) ∧ cm_Call cm_ms 30 98 [.ref 0, .int (xs (i + 1).toNatClampNeg), .int (xs (i + 2).toNatClampNeg)] M _
  refine ⟨rfl, (lu_ix hi (a := 1) (by decide) (by decide)).1, (lu_ix hi (a := 1) (by decide) (by decide)).2, rfl, (lu_ix hi (a := 2) (by decide) (by decide)).1, (lu_ix hi (a := 2) (by decide) (by decide)).2, by decide, by decide, fun _ => Or.inr rfl, cm_Call_up (lk_98 hM _ _) (Nat.le_refl _) (fun v M1 hv => ?_)⟩
  obtain ⟨⟨r, rfl⟩, hP⟩ := hv
  show (Value.int r).category = 1 ∧ J (417, law_L i, [], M1)
  exact ⟨rfl, hJ M1 hP⟩
set_option maxRecDepth 100000 in
theorem lh_4b (hi : lu_in L i) (hM : ab_ok hp hN M) (hJ : ∀ M', lu_P M M' → J (1722, law_L i, [], M')) : cm_wp cm_ms (cm_Call cm_ms 30) (some (L, xs)) lawP lu_c4b (lu_st 1722) J (fun _ _ => False) 80 (417, law_L i, [], M) := by
  show 1000 = 1000 ∧ 0 ≤ (i + 1).toInt ∧ (i + 1).toInt < (L : Int) ∧ 1000 = 1000 ∧ 0 ≤ (i + 2).toInt ∧ (i + 2).toInt < (L : Int) ∧ cm_cs [] ≤ 8 ∧ ev_nar1 _ _ = true ∧ (_ → _) ∧ cm_Call cm_ms 30 221 [.ref 124, .int (xs (i + 1).toNatClampNeg), .int (xs (i + 2).toNatClampNeg)] M _
  refine ⟨rfl, (lu_ix hi (a := 1) (by decide) (by decide)).1, (lu_ix hi (a := 1) (by decide) (by decide)).2, rfl, (lu_ix hi (a := 2) (by decide) (by decide)).1, (lu_ix hi (a := 2) (by decide) (by decide)).2, by decide, by decide, fun _ => Or.inr rfl, cm_Call_up (lk_221 hM _ _) (Nat.le_refl _) (fun v M1 hv => ?_)⟩
  obtain ⟨⟨r, rfl⟩, hP⟩ := hv
  show (Value.int r).category = 1 ∧ 0 ≤ _ ∧ J (1722, law_L i, [], M1)
  exact ⟨rfl, (by decide : (0 : Int) ≤ 1722), hJ M1 hP⟩
set_option maxRecDepth 100000 in
theorem lh_5a (hi : lu_in L i) (hM : ab_ok hp hN M) (hJ : ∀ M', lu_P M M' → J (454, law_L i, [], M')) : cm_wp cm_ms (cm_Call cm_ms 30) (some (L, xs)) lawP lu_c5a (lu_st 454) J (fun _ _ => False) 80 (437, law_L i, [], M) := by
  show 1000 = 1000 ∧ 0 ≤ (i + 1).toInt ∧ (i + 1).toInt < (L : Int) ∧ 1000 = 1000 ∧ 0 ≤ (i + 2).toInt ∧ (i + 2).toInt < (L : Int) ∧ cm_cs [] ≤ 8 ∧ ev_nar1 _ _ = true ∧ (_ → _) ∧ cm_Call cm_ms 30 99 [.ref 0, .int (xs (i + 1).toNatClampNeg), .int (xs (i + 2).toNatClampNeg)] M _
  refine ⟨rfl, (lu_ix hi (a := 1) (by decide) (by decide)).1, (lu_ix hi (a := 1) (by decide) (by decide)).2, rfl, (lu_ix hi (a := 2) (by decide) (by decide)).1, (lu_ix hi (a := 2) (by decide) (by decide)).2, by decide, by decide, fun _ => Or.inr rfl, cm_Call_up (lk_99 hM _ _) (Nat.le_refl _) (fun v M1 hv => ?_)⟩
  obtain ⟨⟨r, rfl⟩, hP⟩ := hv
  show (Value.int r).category = 1 ∧ J (454, law_L i, [], M1)
  exact ⟨rfl, hJ M1 hP⟩
set_option maxRecDepth 100000 in
theorem lh_5b (hi : lu_in L i) (hM : ab_ok hp hN M) (hJ : ∀ M', lu_P M M' → J (1722, law_L i, [], M')) : cm_wp cm_ms (cm_Call cm_ms 30) (some (L, xs)) lawP lu_c5b (lu_st 1722) J (fun _ _ => False) 80 (454, law_L i, [], M) := by
  show 1000 = 1000 ∧ 0 ≤ (i + 1).toInt ∧ (i + 1).toInt < (L : Int) ∧ 1000 = 1000 ∧ 0 ≤ (i + 2).toInt ∧ (i + 2).toInt < (L : Int) ∧ cm_cs [] ≤ 8 ∧ ev_nar1 _ _ = true ∧ (_ → _) ∧ cm_Call cm_ms 30 223 [.ref 124, .int (xs (i + 1).toNatClampNeg), .int (xs (i + 2).toNatClampNeg)] M _
  refine ⟨rfl, (lu_ix hi (a := 1) (by decide) (by decide)).1, (lu_ix hi (a := 1) (by decide) (by decide)).2, rfl, (lu_ix hi (a := 2) (by decide) (by decide)).1, (lu_ix hi (a := 2) (by decide) (by decide)).2, by decide, by decide, fun _ => Or.inr rfl, cm_Call_up (lk_223 hM _ _) (Nat.le_refl _) (fun v M1 hv => ?_)⟩
  obtain ⟨⟨r, rfl⟩, hP⟩ := hv
  show (Value.int r).category = 1 ∧ 0 ≤ _ ∧ J (1722, law_L i, [], M1)
  exact ⟨rfl, (by decide : (0 : Int) ≤ 1722), hJ M1 hP⟩
end HALVES
section HALVES
variable {J : cm_S → Prop} {L : Nat} {xs : Nat → Int32} {i : Int32} {M : cm_M}
set_option maxRecDepth 100000 in
theorem lh_6a (hi : lu_in L i) (hM : ab_ok hp hN M) (hJ : ∀ M', lu_P M M' → J (485, law_L i, [], M')) : cm_wp cm_ms (cm_Call cm_ms 30) (some (L, xs)) lawP lu_c6a (lu_st 485) J (fun _ _ => False) 80 (474, law_L i, [], M) := by
  show 1000 = 1000 ∧ 0 ≤ (i + 1).toInt ∧ (i + 1).toInt < (L : Int) ∧ cm_cs [] ≤ 8 ∧ ev_nar1 _ _ = true ∧ (_ → _) ∧ cm_Call cm_ms 30 100 [.ref 0, .int (xs (i + 1).toNatClampNeg)] M _
  refine ⟨rfl, (lu_ix hi (a := 1) (by decide) (by decide)).1, (lu_ix hi (a := 1) (by decide) (by decide)).2, by decide, by decide, fun _ => Or.inr rfl, cm_Call_up (lk_100 hM _) (Nat.le_refl _) (fun v M1 hv => ?_)⟩
  obtain ⟨⟨r, rfl⟩, hP⟩ := hv
  show (Value.int r).category = 1 ∧ J (485, law_L i, [], M1)
  exact ⟨rfl, hJ M1 hP⟩
set_option maxRecDepth 100000 in
theorem lh_6b (hi : lu_in L i) (hM : ab_ok hp hN M) (hJ : ∀ M', lu_P M M' → J (1722, law_L i, [], M')) : cm_wp cm_ms (cm_Call cm_ms 30) (some (L, xs)) lawP lu_c6b (lu_st 1722) J (fun _ _ => False) 80 (485, law_L i, [], M) := by
  show 1000 = 1000 ∧ 0 ≤ (i + 1).toInt ∧ (i + 1).toInt < (L : Int) ∧ cm_cs [] ≤ 8 ∧ ev_nar1 _ _ = true ∧ (_ → _) ∧ cm_Call cm_ms 30 224 [.ref 124, .int (xs (i + 1).toNatClampNeg)] M _
  refine ⟨rfl, (lu_ix hi (a := 1) (by decide) (by decide)).1, (lu_ix hi (a := 1) (by decide) (by decide)).2, by decide, by decide, fun _ => Or.inr rfl, cm_Call_up (lk_224 hM _) (Nat.le_refl _) (fun v M1 hv => ?_)⟩
  obtain ⟨⟨r, rfl⟩, hP⟩ := hv
  show (Value.int r).category = 1 ∧ 0 ≤ _ ∧ J (1722, law_L i, [], M1)
  exact ⟨rfl, (by decide : (0 : Int) ≤ 1722), hJ M1 hP⟩
set_option maxRecDepth 100000 in
theorem lh_7a (hM : ab_ok hp hN M) (hJ : ∀ M', lu_P M M' → J (504, law_L i, [], M')) : cm_wp cm_ms (cm_Call cm_ms 30) (some (L, xs)) lawP lu_c7a (lu_st 504) J (fun _ _ => False) 80 (499, law_L i, [], M) := by
  show cm_cs [] ≤ 8 ∧ ev_nar1 _ _ = true ∧ (_ → _) ∧ cm_Call cm_ms 30 101 [.ref 0] M _
  refine ⟨by decide, by decide, fun _ => Or.inr rfl, cm_Call_up (lk_101 hM) (Nat.le_refl _) (fun v M1 hv => ?_)⟩
  obtain ⟨⟨r, rfl⟩, hP⟩ := hv
  show (Value.int r).category = 1 ∧ J (504, law_L i, [], M1)
  exact ⟨rfl, hJ M1 hP⟩
set_option maxRecDepth 100000 in
theorem lh_7b (hM : ab_ok hp hN M) (hJ : ∀ M', lu_P M M' → J (1722, law_L i, [], M')) : cm_wp cm_ms (cm_Call cm_ms 30) (some (L, xs)) lawP lu_c7b (lu_st 1722) J (fun _ _ => False) 80 (504, law_L i, [], M) := by
  show cm_cs [] ≤ 8 ∧ ev_nar1 _ _ = true ∧ (_ → _) ∧ cm_Call cm_ms 30 225 [.ref 124] M _
  refine ⟨by decide, by decide, fun _ => Or.inr rfl, cm_Call_up (lk_225 hM) (Nat.le_refl _) (fun v M1 hv => ?_)⟩
  obtain ⟨⟨r, rfl⟩, hP⟩ := hv
  show (Value.int r).category = 1 ∧ 0 ≤ _ ∧ J (1722, law_L i, [], M1)
  exact ⟨rfl, (by decide : (0 : Int) ≤ 1722), hJ M1 hP⟩
set_option maxRecDepth 100000 in
theorem lh_8a (hM : ab_ok hp hN M) (hJ : ∀ M', lu_P M M' → J (517, law_L i, [], M')) : cm_wp cm_ms (cm_Call cm_ms 30) (some (L, xs)) lawP lu_c8a (lu_st 517) J (fun _ _ => False) 80 (512, law_L i, [], M) := by
  show cm_cs [] ≤ 8 ∧ ev_nar1 _ _ = true ∧ (_ → _) ∧ cm_Call cm_ms 30 102 [.ref 0] M _
  refine ⟨by decide, by decide, fun _ => Or.inr rfl, cm_Call_up (lk_102 hM) (Nat.le_refl _) (fun v M1 hv => ?_)⟩
  obtain ⟨⟨r, rfl⟩, hP⟩ := hv
  show (Value.int r).category = 1 ∧ J (517, law_L i, [], M1)
  exact ⟨rfl, hJ M1 hP⟩
set_option maxRecDepth 100000 in
theorem lh_8b (hM : ab_ok hp hN M) (hJ : ∀ M', lu_P M M' → J (1722, law_L i, [], M')) : cm_wp cm_ms (cm_Call cm_ms 30) (some (L, xs)) lawP lu_c8b (lu_st 1722) J (fun _ _ => False) 80 (517, law_L i, [], M) := by
  show cm_cs [] ≤ 8 ∧ ev_nar1 _ _ = true ∧ (_ → _) ∧ cm_Call cm_ms 30 226 [.ref 124] M _
  refine ⟨by decide, by decide, fun _ => Or.inr rfl, cm_Call_up (lk_226 hM) (Nat.le_refl _) (fun v M1 hv => ?_)⟩
  obtain ⟨⟨r, rfl⟩, hP⟩ := hv
  show (Value.int r).category = 1 ∧ 0 ≤ _ ∧ J (1722, law_L i, [], M1)
  exact ⟨rfl, (by decide : (0 : Int) ≤ 1722), hJ M1 hP⟩
set_option maxRecDepth 100000 in
theorem lh_9a (hM : ab_ok hp hN M) (hJ : ∀ M', lu_P M M' → J (530, law_L i, [], M')) : cm_wp cm_ms (cm_Call cm_ms 30) (some (L, xs)) lawP lu_c9a (lu_st 530) J (fun _ _ => False) 80 (525, law_L i, [], M) := by
  show cm_cs [] ≤ 8 ∧ ev_nar1 _ _ = true ∧ (_ → _) ∧ cm_Call cm_ms 30 103 [.ref 0] M _
  refine ⟨by decide, by decide, fun _ => Or.inr rfl, cm_Call_up (lk_103 hM) (Nat.le_refl _) (fun v M1 hv => ?_)⟩
  obtain ⟨⟨r, rfl⟩, hP⟩ := hv
  show (Value.int r).category = 1 ∧ J (530, law_L i, [], M1)
  exact ⟨rfl, hJ M1 hP⟩
set_option maxRecDepth 100000 in
theorem lh_9b (hM : ab_ok hp hN M) (hJ : ∀ M', lu_P M M' → J (1722, law_L i, [], M')) : cm_wp cm_ms (cm_Call cm_ms 30) (some (L, xs)) lawP lu_c9b (lu_st 1722) J (fun _ _ => False) 80 (530, law_L i, [], M) := by
  show cm_cs [] ≤ 8 ∧ ev_nar1 _ _ = true ∧ (_ → _) ∧ cm_Call cm_ms 30 227 [.ref 124] M _
  refine ⟨by decide, by decide, fun _ => Or.inr rfl, cm_Call_up (lk_227 hM) (Nat.le_refl _) (fun v M1 hv => ?_)⟩
  obtain ⟨⟨r, rfl⟩, hP⟩ := hv
  show (Value.int r).category = 1 ∧ 0 ≤ _ ∧ J (1722, law_L i, [], M1)
  exact ⟨rfl, (by decide : (0 : Int) ≤ 1722), hJ M1 hP⟩
set_option maxRecDepth 100000 in
theorem lh_10a (hM : ab_ok hp hN M) (hJ : ∀ M', lu_P M M' → J (543, law_L i, [], M')) : cm_wp cm_ms (cm_Call cm_ms 30) (some (L, xs)) lawP lu_c10a (lu_st 543) J (fun _ _ => False) 80 (538, law_L i, [], M) := by
  show cm_cs [] ≤ 8 ∧ ev_nar1 _ _ = true ∧ (_ → _) ∧ cm_Call cm_ms 30 104 [.ref 0] M _
  refine ⟨by decide, by decide, fun _ => Or.inr rfl, cm_Call_up (lk_104 hM) (Nat.le_refl _) (fun v M1 hv => ?_)⟩
  obtain ⟨⟨r, rfl⟩, hP⟩ := hv
  show (Value.int r).category = 1 ∧ J (543, law_L i, [], M1)
  exact ⟨rfl, hJ M1 hP⟩
set_option maxRecDepth 100000 in
theorem lh_10b (hM : ab_ok hp hN M) (hJ : ∀ M', lu_P M M' → J (1722, law_L i, [], M')) : cm_wp cm_ms (cm_Call cm_ms 30) (some (L, xs)) lawP lu_c10b (lu_st 1722) J (fun _ _ => False) 80 (543, law_L i, [], M) := by
  show cm_cs [] ≤ 8 ∧ ev_nar1 _ _ = true ∧ (_ → _) ∧ cm_Call cm_ms 30 229 [.ref 124] M _
  refine ⟨by decide, by decide, fun _ => Or.inr rfl, cm_Call_up (lk_229 hM) (Nat.le_refl _) (fun v M1 hv => ?_)⟩
  obtain ⟨⟨r, rfl⟩, hP⟩ := hv
  show (Value.int r).category = 1 ∧ 0 ≤ _ ∧ J (1722, law_L i, [], M1)
  exact ⟨rfl, (by decide : (0 : Int) ≤ 1722), hJ M1 hP⟩
end HALVES
section HALVES
variable {J : cm_S → Prop} {L : Nat} {xs : Nat → Int32} {i : Int32} {M : cm_M}
set_option maxRecDepth 100000 in
theorem lh_11a (hi : lu_in L i) (hM : ab_ok hp hN M) (hJ : ∀ M', lu_P M M' → J (562, law_L i, [], M')) : cm_wp cm_ms (cm_Call cm_ms 30) (some (L, xs)) lawP lu_c11a (lu_st 562) J (fun _ _ => False) 80 (551, law_L i, [], M) := by
  show 1000 = 1000 ∧ 0 ≤ (i + 1).toInt ∧ (i + 1).toInt < (L : Int) ∧ cm_cs [] ≤ 8 ∧ ev_nar1 _ _ = true ∧ (_ → _) ∧ cm_Call cm_ms 30 105 [.ref 0, .int (xs (i + 1).toNatClampNeg)] M _
  refine ⟨rfl, (lu_ix hi (a := 1) (by decide) (by decide)).1, (lu_ix hi (a := 1) (by decide) (by decide)).2, by decide, by decide, fun _ => Or.inr rfl, cm_Call_up (lk_105 hM _) (Nat.le_refl _) (fun v M1 hv => ?_)⟩
  obtain ⟨⟨r, rfl⟩, hP⟩ := hv
  show (Value.int r).category = 1 ∧ J (562, law_L i, [], M1)
  exact ⟨rfl, hJ M1 hP⟩
set_option maxRecDepth 100000 in
theorem lh_11b (hi : lu_in L i) (hM : ab_ok hp hN M) (hJ : ∀ M', lu_P M M' → J (1722, law_L i, [], M')) : cm_wp cm_ms (cm_Call cm_ms 30) (some (L, xs)) lawP lu_c11b (lu_st 1722) J (fun _ _ => False) 80 (562, law_L i, [], M) := by
  show 1000 = 1000 ∧ 0 ≤ (i + 1).toInt ∧ (i + 1).toInt < (L : Int) ∧ cm_cs [] ≤ 8 ∧ ev_nar1 _ _ = true ∧ (_ → _) ∧ cm_Call cm_ms 30 230 [.ref 124, .int (xs (i + 1).toNatClampNeg)] M _
  refine ⟨rfl, (lu_ix hi (a := 1) (by decide) (by decide)).1, (lu_ix hi (a := 1) (by decide) (by decide)).2, by decide, by decide, fun _ => Or.inr rfl, cm_Call_up (lk_230 hM _) (Nat.le_refl _) (fun v M1 hv => ?_)⟩
  obtain ⟨⟨r, rfl⟩, hP⟩ := hv
  show (Value.int r).category = 1 ∧ 0 ≤ _ ∧ J (1722, law_L i, [], M1)
  exact ⟨rfl, (by decide : (0 : Int) ≤ 1722), hJ M1 hP⟩
set_option maxRecDepth 100000 in
theorem lh_12a (hi : lu_in L i) (hM : ab_ok hp hN M) (hJ : ∀ M', lu_P M M' → J (587, law_L i, [], M')) : cm_wp cm_ms (cm_Call cm_ms 30) (some (L, xs)) lawP lu_c12a (lu_st 587) J (fun _ _ => False) 80 (576, law_L i, [], M) := by
  show 1000 = 1000 ∧ 0 ≤ (i + 1).toInt ∧ (i + 1).toInt < (L : Int) ∧ cm_cs [] ≤ 8 ∧ ev_nar1 _ _ = true ∧ (_ → _) ∧ cm_Call cm_ms 30 106 [.ref 0, .int (xs (i + 1).toNatClampNeg)] M _
  refine ⟨rfl, (lu_ix hi (a := 1) (by decide) (by decide)).1, (lu_ix hi (a := 1) (by decide) (by decide)).2, by decide, by decide, fun _ => Or.inr rfl, cm_Call_up (lk_106 hM _) (Nat.le_refl _) (fun v M1 hv => ?_)⟩
  obtain ⟨⟨r, rfl⟩, hP⟩ := hv
  show (Value.int r).category = 1 ∧ J (587, law_L i, [], M1)
  exact ⟨rfl, hJ M1 hP⟩
set_option maxRecDepth 100000 in
theorem lh_12b (hi : lu_in L i) (hM : ab_ok hp hN M) (hJ : ∀ M', lu_P M M' → J (1722, law_L i, [], M')) : cm_wp cm_ms (cm_Call cm_ms 30) (some (L, xs)) lawP lu_c12b (lu_st 1722) J (fun _ _ => False) 80 (587, law_L i, [], M) := by
  show 1000 = 1000 ∧ 0 ≤ (i + 1).toInt ∧ (i + 1).toInt < (L : Int) ∧ cm_cs [] ≤ 8 ∧ ev_nar1 _ _ = true ∧ (_ → _) ∧ cm_Call cm_ms 30 232 [.ref 124, .int (xs (i + 1).toNatClampNeg)] M _
  refine ⟨rfl, (lu_ix hi (a := 1) (by decide) (by decide)).1, (lu_ix hi (a := 1) (by decide) (by decide)).2, by decide, by decide, fun _ => Or.inr rfl, cm_Call_up (lk_232 hM _) (Nat.le_refl _) (fun v M1 hv => ?_)⟩
  obtain ⟨⟨r, rfl⟩, hP⟩ := hv
  show (Value.int r).category = 1 ∧ 0 ≤ _ ∧ J (1722, law_L i, [], M1)
  exact ⟨rfl, (by decide : (0 : Int) ≤ 1722), hJ M1 hP⟩
set_option maxRecDepth 100000 in
theorem lh_13a (hi : lu_in L i) (hM : ab_ok hp hN M) (hJ : ∀ M', lu_P M M' → J (618, law_L i, [], M')) : cm_wp cm_ms (cm_Call cm_ms 30) (some (L, xs)) lawP lu_c13a (lu_st 618) J (fun _ _ => False) 80 (601, law_L i, [], M) := by
  show 1000 = 1000 ∧ 0 ≤ (i + 1).toInt ∧ (i + 1).toInt < (L : Int) ∧ 1000 = 1000 ∧ 0 ≤ (i + 2).toInt ∧ (i + 2).toInt < (L : Int) ∧ cm_cs [] ≤ 8 ∧ ev_nar1 _ _ = true ∧ (_ → _) ∧ cm_Call cm_ms 30 107 [.ref 0, .int (xs (i + 1).toNatClampNeg), .int (xs (i + 2).toNatClampNeg)] M _
  refine ⟨rfl, (lu_ix hi (a := 1) (by decide) (by decide)).1, (lu_ix hi (a := 1) (by decide) (by decide)).2, rfl, (lu_ix hi (a := 2) (by decide) (by decide)).1, (lu_ix hi (a := 2) (by decide) (by decide)).2, by decide, by decide, fun _ => Or.inr rfl, cm_Call_up (lk_107 hM _ _) (Nat.le_refl _) (fun v M1 hv => ?_)⟩
  obtain ⟨⟨r, rfl⟩, hP⟩ := hv
  show (Value.int r).category = 1 ∧ J (618, law_L i, [], M1)
  exact ⟨rfl, hJ M1 hP⟩
set_option maxRecDepth 100000 in
theorem lh_13b (hi : lu_in L i) (hM : ab_ok hp hN M) (hJ : ∀ M', lu_P M M' → J (1722, law_L i, [], M')) : cm_wp cm_ms (cm_Call cm_ms 30) (some (L, xs)) lawP lu_c13b (lu_st 1722) J (fun _ _ => False) 80 (618, law_L i, [], M) := by
  show 1000 = 1000 ∧ 0 ≤ (i + 1).toInt ∧ (i + 1).toInt < (L : Int) ∧ 1000 = 1000 ∧ 0 ≤ (i + 2).toInt ∧ (i + 2).toInt < (L : Int) ∧ cm_cs [] ≤ 8 ∧ ev_nar1 _ _ = true ∧ (_ → _) ∧ cm_Call cm_ms 30 234 [.ref 124, .int (xs (i + 1).toNatClampNeg), .int (xs (i + 2).toNatClampNeg)] M _
  refine ⟨rfl, (lu_ix hi (a := 1) (by decide) (by decide)).1, (lu_ix hi (a := 1) (by decide) (by decide)).2, rfl, (lu_ix hi (a := 2) (by decide) (by decide)).1, (lu_ix hi (a := 2) (by decide) (by decide)).2, by decide, by decide, fun _ => Or.inr rfl, cm_Call_up (lk_234 hM _ _) (Nat.le_refl _) (fun v M1 hv => ?_)⟩
  obtain ⟨⟨r, rfl⟩, hP⟩ := hv
  show (Value.int r).category = 1 ∧ 0 ≤ _ ∧ J (1722, law_L i, [], M1)
  exact ⟨rfl, (by decide : (0 : Int) ≤ 1722), hJ M1 hP⟩
set_option maxRecDepth 100000 in
theorem lh_14a (hi : lu_in L i) (hM : ab_ok hp hN M) (hJ : ∀ M', lu_P M M' → J (655, law_L i, [], M')) : cm_wp cm_ms (cm_Call cm_ms 30) (some (L, xs)) lawP lu_c14a (lu_st 655) J (fun _ _ => False) 80 (638, law_L i, [], M) := by
  show 1000 = 1000 ∧ 0 ≤ (i + 1).toInt ∧ (i + 1).toInt < (L : Int) ∧ 1000 = 1000 ∧ 0 ≤ (i + 2).toInt ∧ (i + 2).toInt < (L : Int) ∧ cm_cs [] ≤ 8 ∧ ev_nar1 _ _ = true ∧ (_ → _) ∧ cm_Call cm_ms 30 108 [.ref 0, .int (xs (i + 1).toNatClampNeg), .int (xs (i + 2).toNatClampNeg)] M _
  refine ⟨rfl, (lu_ix hi (a := 1) (by decide) (by decide)).1, (lu_ix hi (a := 1) (by decide) (by decide)).2, rfl, (lu_ix hi (a := 2) (by decide) (by decide)).1, (lu_ix hi (a := 2) (by decide) (by decide)).2, by decide, by decide, fun _ => Or.inr rfl, cm_Call_up (lk_108 hM _ _) (Nat.le_refl _) (fun v M1 hv => ?_)⟩
  obtain ⟨⟨r, rfl⟩, hP⟩ := hv
  show (Value.int r).category = 1 ∧ J (655, law_L i, [], M1)
  exact ⟨rfl, hJ M1 hP⟩
set_option maxRecDepth 100000 in
theorem lh_14b (hi : lu_in L i) (hM : ab_ok hp hN M) (hJ : ∀ M', lu_P M M' → J (1722, law_L i, [], M')) : cm_wp cm_ms (cm_Call cm_ms 30) (some (L, xs)) lawP lu_c14b (lu_st 1722) J (fun _ _ => False) 80 (655, law_L i, [], M) := by
  show 1000 = 1000 ∧ 0 ≤ (i + 1).toInt ∧ (i + 1).toInt < (L : Int) ∧ 1000 = 1000 ∧ 0 ≤ (i + 2).toInt ∧ (i + 2).toInt < (L : Int) ∧ cm_cs [] ≤ 8 ∧ ev_nar1 _ _ = true ∧ (_ → _) ∧ cm_Call cm_ms 30 235 [.ref 124, .int (xs (i + 1).toNatClampNeg), .int (xs (i + 2).toNatClampNeg)] M _
  refine ⟨rfl, (lu_ix hi (a := 1) (by decide) (by decide)).1, (lu_ix hi (a := 1) (by decide) (by decide)).2, rfl, (lu_ix hi (a := 2) (by decide) (by decide)).1, (lu_ix hi (a := 2) (by decide) (by decide)).2, by decide, by decide, fun _ => Or.inr rfl, cm_Call_up (lk_235 hM _ _) (Nat.le_refl _) (fun v M1 hv => ?_)⟩
  obtain ⟨⟨r, rfl⟩, hP⟩ := hv
  show (Value.int r).category = 1 ∧ 0 ≤ _ ∧ J (1722, law_L i, [], M1)
  exact ⟨rfl, (by decide : (0 : Int) ≤ 1722), hJ M1 hP⟩
set_option maxRecDepth 100000 in
theorem lh_15a (hi : lu_in L i) (hM : ab_ok hp hN M) (hJ : ∀ M', lu_P M M' → J (686, law_L i, [], M')) : cm_wp cm_ms (cm_Call cm_ms 30) (some (L, xs)) lawP lu_c15a (lu_st 686) J (fun _ _ => False) 80 (675, law_L i, [], M) := by
  show 1000 = 1000 ∧ 0 ≤ (i + 1).toInt ∧ (i + 1).toInt < (L : Int) ∧ cm_cs [] ≤ 8 ∧ ev_nar1 _ _ = true ∧ (_ → _) ∧ cm_Call cm_ms 30 109 [.ref 0, .int (xs (i + 1).toNatClampNeg)] M _
  refine ⟨rfl, (lu_ix hi (a := 1) (by decide) (by decide)).1, (lu_ix hi (a := 1) (by decide) (by decide)).2, by decide, by decide, fun _ => Or.inr rfl, cm_Call_up (lk_109 hM _) (Nat.le_refl _) (fun v M1 hv => ?_)⟩
  obtain ⟨⟨r, rfl⟩, hP⟩ := hv
  show (Value.int r).category = 1 ∧ J (686, law_L i, [], M1)
  exact ⟨rfl, hJ M1 hP⟩
set_option maxRecDepth 100000 in
theorem lh_15b (hi : lu_in L i) (hM : ab_ok hp hN M) (hJ : ∀ M', lu_P M M' → J (1722, law_L i, [], M')) : cm_wp cm_ms (cm_Call cm_ms 30) (some (L, xs)) lawP lu_c15b (lu_st 1722) J (fun _ _ => False) 80 (686, law_L i, [], M) := by
  show 1000 = 1000 ∧ 0 ≤ (i + 1).toInt ∧ (i + 1).toInt < (L : Int) ∧ cm_cs [] ≤ 8 ∧ ev_nar1 _ _ = true ∧ (_ → _) ∧ cm_Call cm_ms 30 237 [.ref 124, .int (xs (i + 1).toNatClampNeg)] M _
  refine ⟨rfl, (lu_ix hi (a := 1) (by decide) (by decide)).1, (lu_ix hi (a := 1) (by decide) (by decide)).2, by decide, by decide, fun _ => Or.inr rfl, cm_Call_up (lk_237 hM _) (Nat.le_refl _) (fun v M1 hv => ?_)⟩
  obtain ⟨⟨r, rfl⟩, hP⟩ := hv
  show (Value.int r).category = 1 ∧ 0 ≤ _ ∧ J (1722, law_L i, [], M1)
  exact ⟨rfl, (by decide : (0 : Int) ≤ 1722), hJ M1 hP⟩
end HALVES
section HALVES
variable {J : cm_S → Prop} {L : Nat} {xs : Nat → Int32} {i : Int32} {M : cm_M}
set_option maxRecDepth 100000 in
theorem lh_16a (hM : ab_ok hp hN M) (hJ : ∀ M', lu_P M M' → J (705, law_L i, [], M')) : cm_wp cm_ms (cm_Call cm_ms 30) (some (L, xs)) lawP lu_c16a (lu_st 705) J (fun _ _ => False) 80 (700, law_L i, [], M) := by
  show cm_cs [] ≤ 8 ∧ ev_nar1 _ _ = true ∧ (_ → _) ∧ cm_Call cm_ms 30 110 [.ref 0] M _
  refine ⟨by decide, by decide, fun _ => Or.inr rfl, cm_Call_up (lk_110 hM) (Nat.le_refl _) (fun v M1 hv => ?_)⟩
  obtain ⟨⟨r, rfl⟩, hP⟩ := hv
  show (Value.int r).category = 1 ∧ J (705, law_L i, [], M1)
  exact ⟨rfl, hJ M1 hP⟩
set_option maxRecDepth 100000 in
theorem lh_16b (hM : ab_ok hp hN M) (hJ : ∀ M', lu_P M M' → J (1722, law_L i, [], M')) : cm_wp cm_ms (cm_Call cm_ms 30) (some (L, xs)) lawP lu_c16b (lu_st 1722) J (fun _ _ => False) 80 (705, law_L i, [], M) := by
  show cm_cs [] ≤ 8 ∧ ev_nar1 _ _ = true ∧ (_ → _) ∧ cm_Call cm_ms 30 238 [.ref 124] M _
  refine ⟨by decide, by decide, fun _ => Or.inr rfl, cm_Call_up (lk_238 hM) (Nat.le_refl _) (fun v M1 hv => ?_)⟩
  obtain ⟨⟨r, rfl⟩, hP⟩ := hv
  show (Value.int r).category = 1 ∧ 0 ≤ _ ∧ J (1722, law_L i, [], M1)
  exact ⟨rfl, (by decide : (0 : Int) ≤ 1722), hJ M1 hP⟩
set_option maxRecDepth 100000 in
theorem lh_17a (hM : ab_ok hp hN M) (hJ : ∀ M', lu_P M M' → J (718, law_L i, [], M')) : cm_wp cm_ms (cm_Call cm_ms 30) (some (L, xs)) lawP lu_c17a (lu_st 718) J (fun _ _ => False) 80 (713, law_L i, [], M) := by
  show cm_cs [] ≤ 8 ∧ ev_nar1 _ _ = true ∧ (_ → _) ∧ cm_Call cm_ms 30 111 [.ref 0] M _
  refine ⟨by decide, by decide, fun _ => Or.inr rfl, cm_Call_up (lk_111 hM) (Nat.le_refl _) (fun v M1 hv => ?_)⟩
  obtain ⟨⟨r, rfl⟩, hP⟩ := hv
  show (Value.int r).category = 1 ∧ J (718, law_L i, [], M1)
  exact ⟨rfl, hJ M1 hP⟩
set_option maxRecDepth 100000 in
theorem lh_17b (hM : ab_ok hp hN M) (hJ : ∀ M', lu_P M M' → J (1722, law_L i, [], M')) : cm_wp cm_ms (cm_Call cm_ms 30) (some (L, xs)) lawP lu_c17b (lu_st 1722) J (fun _ _ => False) 80 (718, law_L i, [], M) := by
  show cm_cs [] ≤ 8 ∧ ev_nar1 _ _ = true ∧ (_ → _) ∧ cm_Call cm_ms 30 239 [.ref 124] M _
  refine ⟨by decide, by decide, fun _ => Or.inr rfl, cm_Call_up (lk_239 hM) (Nat.le_refl _) (fun v M1 hv => ?_)⟩
  obtain ⟨⟨r, rfl⟩, hP⟩ := hv
  show (Value.int r).category = 1 ∧ 0 ≤ _ ∧ J (1722, law_L i, [], M1)
  exact ⟨rfl, (by decide : (0 : Int) ≤ 1722), hJ M1 hP⟩
set_option maxRecDepth 100000 in
theorem lh_18a (hi : lu_in L i) (hM : ab_ok hp hN M) (hJ : ∀ M', lu_P M M' → J (743, law_L i, [], M')) : cm_wp cm_ms (cm_Call cm_ms 30) (some (L, xs)) lawP lu_c18a (lu_st 743) J (fun _ _ => False) 80 (726, law_L i, [], M) := by
  show 1000 = 1000 ∧ 0 ≤ (i + 1).toInt ∧ (i + 1).toInt < (L : Int) ∧ 1000 = 1000 ∧ 0 ≤ (i + 2).toInt ∧ (i + 2).toInt < (L : Int) ∧ cm_cs [] ≤ 8 ∧ ev_nar1 _ _ = true ∧ (_ → _) ∧ cm_Call cm_ms 30 114 [.ref 0, .int (xs (i + 1).toNatClampNeg), .int (xs (i + 2).toNatClampNeg)] M _
  refine ⟨rfl, (lu_ix hi (a := 1) (by decide) (by decide)).1, (lu_ix hi (a := 1) (by decide) (by decide)).2, rfl, (lu_ix hi (a := 2) (by decide) (by decide)).1, (lu_ix hi (a := 2) (by decide) (by decide)).2, by decide, by decide, fun _ => Or.inr rfl, cm_Call_up (lk_114 hM _ _) (Nat.le_refl _) (fun v M1 hv => ?_)⟩
  obtain ⟨⟨r, rfl⟩, hP⟩ := hv
  show (Value.int r).category = 1 ∧ J (743, law_L i, [], M1)
  exact ⟨rfl, hJ M1 hP⟩
set_option maxRecDepth 100000 in
theorem lh_18b (hi : lu_in L i) (hM : ab_ok hp hN M) (hJ : ∀ M', lu_P M M' → J (1722, law_L i, [], M')) : cm_wp cm_ms (cm_Call cm_ms 30) (some (L, xs)) lawP lu_c18b (lu_st 1722) J (fun _ _ => False) 80 (743, law_L i, [], M) := by
  show 1000 = 1000 ∧ 0 ≤ (i + 1).toInt ∧ (i + 1).toInt < (L : Int) ∧ 1000 = 1000 ∧ 0 ≤ (i + 2).toInt ∧ (i + 2).toInt < (L : Int) ∧ cm_cs [] ≤ 8 ∧ ev_nar1 _ _ = true ∧ (_ → _) ∧ cm_Call cm_ms 30 242 [.ref 124, .int (xs (i + 1).toNatClampNeg), .int (xs (i + 2).toNatClampNeg)] M _
  refine ⟨rfl, (lu_ix hi (a := 1) (by decide) (by decide)).1, (lu_ix hi (a := 1) (by decide) (by decide)).2, rfl, (lu_ix hi (a := 2) (by decide) (by decide)).1, (lu_ix hi (a := 2) (by decide) (by decide)).2, by decide, by decide, fun _ => Or.inr rfl, cm_Call_up (lk_242 hM _ _) (Nat.le_refl _) (fun v M1 hv => ?_)⟩
  obtain ⟨⟨r, rfl⟩, hP⟩ := hv
  show (Value.int r).category = 1 ∧ 0 ≤ _ ∧ J (1722, law_L i, [], M1)
  exact ⟨rfl, (by decide : (0 : Int) ≤ 1722), hJ M1 hP⟩
set_option maxRecDepth 100000 in
theorem lh_19a (hi : lu_in L i) (hM : ab_ok hp hN M) (hJ : ∀ M', lu_P M M' → J (774, law_L i, [], M')) : cm_wp cm_ms (cm_Call cm_ms 30) (some (L, xs)) lawP lu_c19a (lu_st 774) J (fun _ _ => False) 80 (763, law_L i, [], M) := by
  show 1000 = 1000 ∧ 0 ≤ (i + 1).toInt ∧ (i + 1).toInt < (L : Int) ∧ cm_cs [] ≤ 8 ∧ ev_nar1 _ _ = true ∧ (_ → _) ∧ cm_Call cm_ms 30 115 [.ref 0, .int (xs (i + 1).toNatClampNeg)] M _
  refine ⟨rfl, (lu_ix hi (a := 1) (by decide) (by decide)).1, (lu_ix hi (a := 1) (by decide) (by decide)).2, by decide, by decide, fun _ => Or.inr rfl, cm_Call_up (lk_115 hM _) (Nat.le_refl _) (fun v M1 hv => ?_)⟩
  obtain ⟨⟨r, rfl⟩, hP⟩ := hv
  show (Value.int r).category = 1 ∧ J (774, law_L i, [], M1)
  exact ⟨rfl, hJ M1 hP⟩
set_option maxRecDepth 100000 in
theorem lh_19b (hi : lu_in L i) (hM : ab_ok hp hN M) (hJ : ∀ M', lu_P M M' → J (1722, law_L i, [], M')) : cm_wp cm_ms (cm_Call cm_ms 30) (some (L, xs)) lawP lu_c19b (lu_st 1722) J (fun _ _ => False) 80 (774, law_L i, [], M) := by
  show 1000 = 1000 ∧ 0 ≤ (i + 1).toInt ∧ (i + 1).toInt < (L : Int) ∧ cm_cs [] ≤ 8 ∧ ev_nar1 _ _ = true ∧ (_ → _) ∧ cm_Call cm_ms 30 245 [.ref 124, .int (xs (i + 1).toNatClampNeg)] M _
  refine ⟨rfl, (lu_ix hi (a := 1) (by decide) (by decide)).1, (lu_ix hi (a := 1) (by decide) (by decide)).2, by decide, by decide, fun _ => Or.inr rfl, cm_Call_up (lk_245 hM _) (Nat.le_refl _) (fun v M1 hv => ?_)⟩
  obtain ⟨⟨r, rfl⟩, hP⟩ := hv
  show (Value.int r).category = 1 ∧ 0 ≤ _ ∧ J (1722, law_L i, [], M1)
  exact ⟨rfl, (by decide : (0 : Int) ≤ 1722), hJ M1 hP⟩
set_option maxRecDepth 100000 in
theorem lh_20a (hi : lu_in L i) (hM : ab_ok hp hN M) (hJ : ∀ M', lu_P M M' → J (799, law_L i, [], M')) : cm_wp cm_ms (cm_Call cm_ms 30) (some (L, xs)) lawP lu_c20a (lu_st 799) J (fun _ _ => False) 80 (788, law_L i, [], M) := by
  show 1000 = 1000 ∧ 0 ≤ (i + 1).toInt ∧ (i + 1).toInt < (L : Int) ∧ cm_cs [] ≤ 8 ∧ ev_nar1 _ _ = true ∧ (_ → _) ∧ cm_Call cm_ms 30 116 [.ref 0, .int (xs (i + 1).toNatClampNeg)] M _
  refine ⟨rfl, (lu_ix hi (a := 1) (by decide) (by decide)).1, (lu_ix hi (a := 1) (by decide) (by decide)).2, by decide, by decide, fun _ => Or.inr rfl, cm_Call_up (lk_116 hM _) (Nat.le_refl _) (fun v M1 hv => ?_)⟩
  obtain ⟨⟨r, rfl⟩, hP⟩ := hv
  show (Value.int r).category = 1 ∧ J (799, law_L i, [], M1)
  exact ⟨rfl, hJ M1 hP⟩
set_option maxRecDepth 100000 in
theorem lh_20b (hi : lu_in L i) (hM : ab_ok hp hN M) (hJ : ∀ M', lu_P M M' → J (1722, law_L i, [], M')) : cm_wp cm_ms (cm_Call cm_ms 30) (some (L, xs)) lawP lu_c20b (lu_st 1722) J (fun _ _ => False) 80 (799, law_L i, [], M) := by
  show 1000 = 1000 ∧ 0 ≤ (i + 1).toInt ∧ (i + 1).toInt < (L : Int) ∧ cm_cs [] ≤ 8 ∧ ev_nar1 _ _ = true ∧ (_ → _) ∧ cm_Call cm_ms 30 246 [.ref 124, .int (xs (i + 1).toNatClampNeg)] M _
  refine ⟨rfl, (lu_ix hi (a := 1) (by decide) (by decide)).1, (lu_ix hi (a := 1) (by decide) (by decide)).2, by decide, by decide, fun _ => Or.inr rfl, cm_Call_up (lk_246 hM _) (Nat.le_refl _) (fun v M1 hv => ?_)⟩
  obtain ⟨⟨r, rfl⟩, hP⟩ := hv
  show (Value.int r).category = 1 ∧ 0 ≤ _ ∧ J (1722, law_L i, [], M1)
  exact ⟨rfl, (by decide : (0 : Int) ≤ 1722), hJ M1 hP⟩
end HALVES
section HALVES
variable {J : cm_S → Prop} {L : Nat} {xs : Nat → Int32} {i : Int32} {M : cm_M}
set_option maxRecDepth 100000 in
theorem lh_21a (hi : lu_in L i) (hM : ab_ok hp hN M) (hJ : ∀ M', lu_P M M' → J (824, law_L i, [], M')) : cm_wp cm_ms (cm_Call cm_ms 30) (some (L, xs)) lawP lu_c21a (lu_st 824) J (fun _ _ => False) 80 (813, law_L i, [], M) := by
  show 1000 = 1000 ∧ 0 ≤ (i + 1).toInt ∧ (i + 1).toInt < (L : Int) ∧ cm_cs [] ≤ 8 ∧ ev_nar1 _ _ = true ∧ (_ → _) ∧ cm_Call cm_ms 30 117 [.ref 0, .int (xs (i + 1).toNatClampNeg)] M _
  refine ⟨rfl, (lu_ix hi (a := 1) (by decide) (by decide)).1, (lu_ix hi (a := 1) (by decide) (by decide)).2, by decide, by decide, fun _ => Or.inr rfl, cm_Call_up (lk_117 hM _) (Nat.le_refl _) (fun v M1 hv => ?_)⟩
  obtain ⟨⟨r, rfl⟩, hP⟩ := hv
  show (Value.int r).category = 1 ∧ J (824, law_L i, [], M1)
  exact ⟨rfl, hJ M1 hP⟩
set_option maxRecDepth 100000 in
theorem lh_21b (hi : lu_in L i) (hM : ab_ok hp hN M) (hJ : ∀ M', lu_P M M' → J (1722, law_L i, [], M')) : cm_wp cm_ms (cm_Call cm_ms 30) (some (L, xs)) lawP lu_c21b (lu_st 1722) J (fun _ _ => False) 80 (824, law_L i, [], M) := by
  show 1000 = 1000 ∧ 0 ≤ (i + 1).toInt ∧ (i + 1).toInt < (L : Int) ∧ cm_cs [] ≤ 8 ∧ ev_nar1 _ _ = true ∧ (_ → _) ∧ cm_Call cm_ms 30 247 [.ref 124, .int (xs (i + 1).toNatClampNeg)] M _
  refine ⟨rfl, (lu_ix hi (a := 1) (by decide) (by decide)).1, (lu_ix hi (a := 1) (by decide) (by decide)).2, by decide, by decide, fun _ => Or.inr rfl, cm_Call_up (lk_247 hM _) (Nat.le_refl _) (fun v M1 hv => ?_)⟩
  obtain ⟨⟨r, rfl⟩, hP⟩ := hv
  show (Value.int r).category = 1 ∧ 0 ≤ _ ∧ J (1722, law_L i, [], M1)
  exact ⟨rfl, (by decide : (0 : Int) ≤ 1722), hJ M1 hP⟩
set_option maxRecDepth 100000 in
theorem lh_22a (hi : lu_in L i) (hM : ab_ok hp hN M) (hJ : ∀ M', lu_P M M' → J (849, law_L i, [], M')) : cm_wp cm_ms (cm_Call cm_ms 30) (some (L, xs)) lawP lu_c22a (lu_st 849) J (fun _ _ => False) 80 (838, law_L i, [], M) := by
  show 1000 = 1000 ∧ 0 ≤ (i + 1).toInt ∧ (i + 1).toInt < (L : Int) ∧ cm_cs [] ≤ 8 ∧ ev_nar1 _ _ = true ∧ (_ → _) ∧ cm_Call cm_ms 30 118 [.ref 0, .int (xs (i + 1).toNatClampNeg)] M _
  refine ⟨rfl, (lu_ix hi (a := 1) (by decide) (by decide)).1, (lu_ix hi (a := 1) (by decide) (by decide)).2, by decide, by decide, fun _ => Or.inr rfl, cm_Call_up (lk_118 hM _) (Nat.le_refl _) (fun v M1 hv => ?_)⟩
  obtain ⟨⟨r, rfl⟩, hP⟩ := hv
  show (Value.int r).category = 1 ∧ J (849, law_L i, [], M1)
  exact ⟨rfl, hJ M1 hP⟩
set_option maxRecDepth 100000 in
theorem lh_22b (hi : lu_in L i) (hM : ab_ok hp hN M) (hJ : ∀ M', lu_P M M' → J (1722, law_L i, [], M')) : cm_wp cm_ms (cm_Call cm_ms 30) (some (L, xs)) lawP lu_c22b (lu_st 1722) J (fun _ _ => False) 80 (849, law_L i, [], M) := by
  show 1000 = 1000 ∧ 0 ≤ (i + 1).toInt ∧ (i + 1).toInt < (L : Int) ∧ cm_cs [] ≤ 8 ∧ ev_nar1 _ _ = true ∧ (_ → _) ∧ cm_Call cm_ms 30 248 [.ref 124, .int (xs (i + 1).toNatClampNeg)] M _
  refine ⟨rfl, (lu_ix hi (a := 1) (by decide) (by decide)).1, (lu_ix hi (a := 1) (by decide) (by decide)).2, by decide, by decide, fun _ => Or.inr rfl, cm_Call_up (lk_248 hM _) (Nat.le_refl _) (fun v M1 hv => ?_)⟩
  obtain ⟨⟨r, rfl⟩, hP⟩ := hv
  show (Value.int r).category = 1 ∧ 0 ≤ _ ∧ J (1722, law_L i, [], M1)
  exact ⟨rfl, (by decide : (0 : Int) ≤ 1722), hJ M1 hP⟩
set_option maxRecDepth 100000 in
theorem lh_23a (hi : lu_in L i) (hM : ab_ok hp hN M) (hJ : ∀ M', lu_P M M' → J (880, law_L i, [], M')) : cm_wp cm_ms (cm_Call cm_ms 30) (some (L, xs)) lawP lu_c23a (lu_st 880) J (fun _ _ => False) 80 (863, law_L i, [], M) := by
  show 1000 = 1000 ∧ 0 ≤ (i + 1).toInt ∧ (i + 1).toInt < (L : Int) ∧ 1000 = 1000 ∧ 0 ≤ (i + 2).toInt ∧ (i + 2).toInt < (L : Int) ∧ cm_cs [] ≤ 8 ∧ ev_nar1 _ _ = true ∧ (_ → _) ∧ cm_Call cm_ms 30 120 [.ref 0, .int (xs (i + 1).toNatClampNeg), .int (xs (i + 2).toNatClampNeg)] M _
  refine ⟨rfl, (lu_ix hi (a := 1) (by decide) (by decide)).1, (lu_ix hi (a := 1) (by decide) (by decide)).2, rfl, (lu_ix hi (a := 2) (by decide) (by decide)).1, (lu_ix hi (a := 2) (by decide) (by decide)).2, by decide, by decide, fun _ => Or.inr rfl, cm_Call_up (lk_120 hM _ _) (Nat.le_refl _) (fun v M1 hv => ?_)⟩
  obtain ⟨⟨r, rfl⟩, hP⟩ := hv
  show (Value.int r).category = 1 ∧ J (880, law_L i, [], M1)
  exact ⟨rfl, hJ M1 hP⟩
set_option maxRecDepth 100000 in
theorem lh_23b (hi : lu_in L i) (hM : ab_ok hp hN M) (hJ : ∀ M', lu_P M M' → J (1722, law_L i, [], M')) : cm_wp cm_ms (cm_Call cm_ms 30) (some (L, xs)) lawP lu_c23b (lu_st 1722) J (fun _ _ => False) 80 (880, law_L i, [], M) := by
  show 1000 = 1000 ∧ 0 ≤ (i + 1).toInt ∧ (i + 1).toInt < (L : Int) ∧ 1000 = 1000 ∧ 0 ≤ (i + 2).toInt ∧ (i + 2).toInt < (L : Int) ∧ cm_cs [] ≤ 8 ∧ ev_nar1 _ _ = true ∧ (_ → _) ∧ cm_Call cm_ms 30 250 [.ref 124, .int (xs (i + 1).toNatClampNeg), .int (xs (i + 2).toNatClampNeg)] M _
  refine ⟨rfl, (lu_ix hi (a := 1) (by decide) (by decide)).1, (lu_ix hi (a := 1) (by decide) (by decide)).2, rfl, (lu_ix hi (a := 2) (by decide) (by decide)).1, (lu_ix hi (a := 2) (by decide) (by decide)).2, by decide, by decide, fun _ => Or.inr rfl, cm_Call_up (lk_250 hM _ _) (Nat.le_refl _) (fun v M1 hv => ?_)⟩
  obtain ⟨⟨r, rfl⟩, hP⟩ := hv
  show (Value.int r).category = 1 ∧ 0 ≤ _ ∧ J (1722, law_L i, [], M1)
  exact ⟨rfl, (by decide : (0 : Int) ≤ 1722), hJ M1 hP⟩
set_option maxRecDepth 100000 in
theorem lh_24a (hi : lu_in L i) (hM : ab_ok hp hN M) (hJ : ∀ M', lu_P M M' → J (911, law_L i, [], M')) : cm_wp cm_ms (cm_Call cm_ms 30) (some (L, xs)) lawP lu_c24a (lu_st 911) J (fun _ _ => False) 80 (900, law_L i, [], M) := by
  show 1000 = 1000 ∧ 0 ≤ (i + 1).toInt ∧ (i + 1).toInt < (L : Int) ∧ cm_cs [] ≤ 8 ∧ ev_nar1 _ _ = true ∧ (_ → _) ∧ cm_Call cm_ms 30 121 [.ref 0, .int (xs (i + 1).toNatClampNeg)] M _
  refine ⟨rfl, (lu_ix hi (a := 1) (by decide) (by decide)).1, (lu_ix hi (a := 1) (by decide) (by decide)).2, by decide, by decide, fun _ => Or.inr rfl, cm_Call_up (lk_121 hM _) (Nat.le_refl _) (fun v M1 hv => ?_)⟩
  obtain ⟨⟨r, rfl⟩, hP⟩ := hv
  show (Value.int r).category = 1 ∧ J (911, law_L i, [], M1)
  exact ⟨rfl, hJ M1 hP⟩
set_option maxRecDepth 100000 in
theorem lh_24b (hi : lu_in L i) (hM : ab_ok hp hN M) (hJ : ∀ M', lu_P M M' → J (1722, law_L i, [], M')) : cm_wp cm_ms (cm_Call cm_ms 30) (some (L, xs)) lawP lu_c24b (lu_st 1722) J (fun _ _ => False) 80 (911, law_L i, [], M) := by
  show 1000 = 1000 ∧ 0 ≤ (i + 1).toInt ∧ (i + 1).toInt < (L : Int) ∧ cm_cs [] ≤ 8 ∧ ev_nar1 _ _ = true ∧ (_ → _) ∧ cm_Call cm_ms 30 251 [.ref 124, .int (xs (i + 1).toNatClampNeg)] M _
  refine ⟨rfl, (lu_ix hi (a := 1) (by decide) (by decide)).1, (lu_ix hi (a := 1) (by decide) (by decide)).2, by decide, by decide, fun _ => Or.inr rfl, cm_Call_up (lk_251 hM _) (Nat.le_refl _) (fun v M1 hv => ?_)⟩
  obtain ⟨⟨r, rfl⟩, hP⟩ := hv
  show (Value.int r).category = 1 ∧ 0 ≤ _ ∧ J (1722, law_L i, [], M1)
  exact ⟨rfl, (by decide : (0 : Int) ≤ 1722), hJ M1 hP⟩
set_option maxRecDepth 100000 in
theorem lh_25a (hi : lu_in L i) (hM : ab_ok hp hN M) (hJ : ∀ M', lu_P M M' → J (936, law_L i, [], M')) : cm_wp cm_ms (cm_Call cm_ms 30) (some (L, xs)) lawP lu_c25a (lu_st 936) J (fun _ _ => False) 80 (925, law_L i, [], M) := by
  show 1000 = 1000 ∧ 0 ≤ (i + 1).toInt ∧ (i + 1).toInt < (L : Int) ∧ cm_cs [] ≤ 8 ∧ ev_nar1 _ _ = true ∧ (_ → _) ∧ cm_Call cm_ms 30 122 [.ref 0, .int (xs (i + 1).toNatClampNeg)] M _
  refine ⟨rfl, (lu_ix hi (a := 1) (by decide) (by decide)).1, (lu_ix hi (a := 1) (by decide) (by decide)).2, by decide, by decide, fun _ => Or.inr rfl, cm_Call_up (lk_122 hM _) (Nat.le_refl _) (fun v M1 hv => ?_)⟩
  obtain ⟨⟨r, rfl⟩, hP⟩ := hv
  show (Value.int r).category = 1 ∧ J (936, law_L i, [], M1)
  exact ⟨rfl, hJ M1 hP⟩
set_option maxRecDepth 100000 in
theorem lh_25b (hi : lu_in L i) (hM : ab_ok hp hN M) (hJ : ∀ M', lu_P M M' → J (1722, law_L i, [], M')) : cm_wp cm_ms (cm_Call cm_ms 30) (some (L, xs)) lawP lu_c25b (lu_st 1722) J (fun _ _ => False) 80 (936, law_L i, [], M) := by
  show 1000 = 1000 ∧ 0 ≤ (i + 1).toInt ∧ (i + 1).toInt < (L : Int) ∧ cm_cs [] ≤ 8 ∧ ev_nar1 _ _ = true ∧ (_ → _) ∧ cm_Call cm_ms 30 252 [.ref 124, .int (xs (i + 1).toNatClampNeg)] M _
  refine ⟨rfl, (lu_ix hi (a := 1) (by decide) (by decide)).1, (lu_ix hi (a := 1) (by decide) (by decide)).2, by decide, by decide, fun _ => Or.inr rfl, cm_Call_up (lk_252 hM _) (Nat.le_refl _) (fun v M1 hv => ?_)⟩
  obtain ⟨⟨r, rfl⟩, hP⟩ := hv
  show (Value.int r).category = 1 ∧ 0 ≤ _ ∧ J (1722, law_L i, [], M1)
  exact ⟨rfl, (by decide : (0 : Int) ≤ 1722), hJ M1 hP⟩
end HALVES
section HALVES
variable {J : cm_S → Prop} {L : Nat} {xs : Nat → Int32} {i : Int32} {M : cm_M}
set_option maxRecDepth 100000 in
theorem lh_26a (hi : lu_in L i) (hM : ab_ok hp hN M) (hJ : ∀ M', lu_P M M' → J (961, law_L i, [], M')) : cm_wp cm_ms (cm_Call cm_ms 30) (some (L, xs)) lawP lu_c26a (lu_st 961) J (fun _ _ => False) 80 (950, law_L i, [], M) := by
  show 1000 = 1000 ∧ 0 ≤ (i + 1).toInt ∧ (i + 1).toInt < (L : Int) ∧ cm_cs [] ≤ 8 ∧ ev_nar1 _ _ = true ∧ (_ → _) ∧ cm_Call cm_ms 30 123 [.ref 0, .int (xs (i + 1).toNatClampNeg)] M _
  refine ⟨rfl, (lu_ix hi (a := 1) (by decide) (by decide)).1, (lu_ix hi (a := 1) (by decide) (by decide)).2, by decide, by decide, fun _ => Or.inr rfl, cm_Call_up (lk_123 hM _) (Nat.le_refl _) (fun v M1 hv => ?_)⟩
  obtain ⟨⟨r, rfl⟩, hP⟩ := hv
  show (Value.int r).category = 1 ∧ J (961, law_L i, [], M1)
  exact ⟨rfl, hJ M1 hP⟩
set_option maxRecDepth 100000 in
theorem lh_26b (hi : lu_in L i) (hM : ab_ok hp hN M) (hJ : ∀ M', lu_P M M' → J (1722, law_L i, [], M')) : cm_wp cm_ms (cm_Call cm_ms 30) (some (L, xs)) lawP lu_c26b (lu_st 1722) J (fun _ _ => False) 80 (961, law_L i, [], M) := by
  show 1000 = 1000 ∧ 0 ≤ (i + 1).toInt ∧ (i + 1).toInt < (L : Int) ∧ cm_cs [] ≤ 8 ∧ ev_nar1 _ _ = true ∧ (_ → _) ∧ cm_Call cm_ms 30 253 [.ref 124, .int (xs (i + 1).toNatClampNeg)] M _
  refine ⟨rfl, (lu_ix hi (a := 1) (by decide) (by decide)).1, (lu_ix hi (a := 1) (by decide) (by decide)).2, by decide, by decide, fun _ => Or.inr rfl, cm_Call_up (lk_253 hM _) (Nat.le_refl _) (fun v M1 hv => ?_)⟩
  obtain ⟨⟨r, rfl⟩, hP⟩ := hv
  show (Value.int r).category = 1 ∧ 0 ≤ _ ∧ J (1722, law_L i, [], M1)
  exact ⟨rfl, (by decide : (0 : Int) ≤ 1722), hJ M1 hP⟩
set_option maxRecDepth 100000 in
theorem lh_27a (hM : ab_ok hp hN M) (hJ : ∀ M', lu_P M M' → J (980, law_L i, [], M')) : cm_wp cm_ms (cm_Call cm_ms 30) (some (L, xs)) lawP lu_c27a (lu_st 980) J (fun _ _ => False) 80 (975, law_L i, [], M) := by
  show cm_cs [] ≤ 8 ∧ ev_nar1 _ _ = true ∧ (_ → _) ∧ cm_Call cm_ms 30 124 [.ref 0] M _
  refine ⟨by decide, by decide, fun _ => Or.inr rfl, cm_Call_up (lk_124 hM) (Nat.le_refl _) (fun v M1 hv => ?_)⟩
  obtain ⟨⟨r, rfl⟩, hP⟩ := hv
  show (Value.int r).category = 1 ∧ J (980, law_L i, [], M1)
  exact ⟨rfl, hJ M1 hP⟩
set_option maxRecDepth 100000 in
theorem lh_27b (hM : ab_ok hp hN M) (hJ : ∀ M', lu_P M M' → J (1722, law_L i, [], M')) : cm_wp cm_ms (cm_Call cm_ms 30) (some (L, xs)) lawP lu_c27b (lu_st 1722) J (fun _ _ => False) 80 (980, law_L i, [], M) := by
  show cm_cs [] ≤ 8 ∧ ev_nar1 _ _ = true ∧ (_ → _) ∧ cm_Call cm_ms 30 256 [.ref 124] M _
  refine ⟨by decide, by decide, fun _ => Or.inr rfl, cm_Call_up (lk_256 hM) (Nat.le_refl _) (fun v M1 hv => ?_)⟩
  obtain ⟨⟨r, rfl⟩, hP⟩ := hv
  show (Value.int r).category = 1 ∧ 0 ≤ _ ∧ J (1722, law_L i, [], M1)
  exact ⟨rfl, (by decide : (0 : Int) ≤ 1722), hJ M1 hP⟩
set_option maxRecDepth 100000 in
theorem lh_28a (hM : ab_ok hp hN M) (hJ : ∀ M', lu_P M M' → J (993, law_L i, [], M')) : cm_wp cm_ms (cm_Call cm_ms 30) (some (L, xs)) lawP lu_c28a (lu_st 993) J (fun _ _ => False) 80 (988, law_L i, [], M) := by
  show cm_cs [] ≤ 8 ∧ ev_nar1 _ _ = true ∧ (_ → _) ∧ cm_Call cm_ms 30 125 [.ref 0] M _
  refine ⟨by decide, by decide, fun _ => Or.inr rfl, cm_Call_up (lk_125 hM) (Nat.le_refl _) (fun v M1 hv => ?_)⟩
  obtain ⟨⟨r, rfl⟩, hP⟩ := hv
  show (Value.int r).category = 1 ∧ J (993, law_L i, [], M1)
  exact ⟨rfl, hJ M1 hP⟩
set_option maxRecDepth 100000 in
theorem lh_28b (hM : ab_ok hp hN M) (hJ : ∀ M', lu_P M M' → J (1722, law_L i, [], M')) : cm_wp cm_ms (cm_Call cm_ms 30) (some (L, xs)) lawP lu_c28b (lu_st 1722) J (fun _ _ => False) 80 (993, law_L i, [], M) := by
  show cm_cs [] ≤ 8 ∧ ev_nar1 _ _ = true ∧ (_ → _) ∧ cm_Call cm_ms 30 257 [.ref 124] M _
  refine ⟨by decide, by decide, fun _ => Or.inr rfl, cm_Call_up (lk_257 hM) (Nat.le_refl _) (fun v M1 hv => ?_)⟩
  obtain ⟨⟨r, rfl⟩, hP⟩ := hv
  show (Value.int r).category = 1 ∧ 0 ≤ _ ∧ J (1722, law_L i, [], M1)
  exact ⟨rfl, (by decide : (0 : Int) ≤ 1722), hJ M1 hP⟩
set_option maxRecDepth 100000 in
theorem lh_29a (hM : ab_ok hp hN M) (hJ : ∀ M', lu_P M M' → J (1006, law_L i, [], M')) : cm_wp cm_ms (cm_Call cm_ms 30) (some (L, xs)) lawP lu_c29a (lu_st 1006) J (fun _ _ => False) 80 (1001, law_L i, [], M) := by
  show cm_cs [] ≤ 8 ∧ ev_nar1 _ _ = true ∧ (_ → _) ∧ cm_Call cm_ms 30 126 [.ref 0] M _
  refine ⟨by decide, by decide, fun _ => Or.inr rfl, cm_Call_up (lk_126 hM) (Nat.le_refl _) (fun v M1 hv => ?_)⟩
  obtain ⟨⟨r, rfl⟩, hP⟩ := hv
  show (Value.int r).category = 1 ∧ J (1006, law_L i, [], M1)
  exact ⟨rfl, hJ M1 hP⟩
set_option maxRecDepth 100000 in
theorem lh_29b (hM : ab_ok hp hN M) (hJ : ∀ M', lu_P M M' → J (1722, law_L i, [], M')) : cm_wp cm_ms (cm_Call cm_ms 30) (some (L, xs)) lawP lu_c29b (lu_st 1722) J (fun _ _ => False) 80 (1006, law_L i, [], M) := by
  show cm_cs [] ≤ 8 ∧ ev_nar1 _ _ = true ∧ (_ → _) ∧ cm_Call cm_ms 30 258 [.ref 124] M _
  refine ⟨by decide, by decide, fun _ => Or.inr rfl, cm_Call_up (lk_258 hM) (Nat.le_refl _) (fun v M1 hv => ?_)⟩
  obtain ⟨⟨r, rfl⟩, hP⟩ := hv
  show (Value.int r).category = 1 ∧ 0 ≤ _ ∧ J (1722, law_L i, [], M1)
  exact ⟨rfl, (by decide : (0 : Int) ≤ 1722), hJ M1 hP⟩
set_option maxRecDepth 100000 in
theorem lh_30a (hi : lu_in L i) (hM : ab_ok hp hN M) (hJ : ∀ M', lu_P M M' → J (1031, law_L i, [], M')) : cm_wp cm_ms (cm_Call cm_ms 30) (some (L, xs)) lawP lu_c30a (lu_st 1031) J (fun _ _ => False) 80 (1014, law_L i, [], M) := by
  show 1000 = 1000 ∧ 0 ≤ (i + 1).toInt ∧ (i + 1).toInt < (L : Int) ∧ 1000 = 1000 ∧ 0 ≤ (i + 2).toInt ∧ (i + 2).toInt < (L : Int) ∧ cm_cs [] ≤ 8 ∧ ev_nar1 _ _ = true ∧ (_ → _) ∧ cm_Call cm_ms 30 128 [.ref 0, .int (xs (i + 1).toNatClampNeg), .int (xs (i + 2).toNatClampNeg)] M _
  refine ⟨rfl, (lu_ix hi (a := 1) (by decide) (by decide)).1, (lu_ix hi (a := 1) (by decide) (by decide)).2, rfl, (lu_ix hi (a := 2) (by decide) (by decide)).1, (lu_ix hi (a := 2) (by decide) (by decide)).2, by decide, by decide, fun _ => Or.inr rfl, cm_Call_up (lk_128 hM _ _) (Nat.le_refl _) (fun v M1 hv => ?_)⟩
  obtain ⟨⟨r, rfl⟩, hP⟩ := hv
  show (Value.int r).category = 1 ∧ J (1031, law_L i, [], M1)
  exact ⟨rfl, hJ M1 hP⟩
set_option maxRecDepth 100000 in
theorem lh_30b (hi : lu_in L i) (hM : ab_ok hp hN M) (hJ : ∀ M', lu_P M M' → J (1722, law_L i, [], M')) : cm_wp cm_ms (cm_Call cm_ms 30) (some (L, xs)) lawP lu_c30b (lu_st 1722) J (fun _ _ => False) 80 (1031, law_L i, [], M) := by
  show 1000 = 1000 ∧ 0 ≤ (i + 1).toInt ∧ (i + 1).toInt < (L : Int) ∧ 1000 = 1000 ∧ 0 ≤ (i + 2).toInt ∧ (i + 2).toInt < (L : Int) ∧ cm_cs [] ≤ 8 ∧ ev_nar1 _ _ = true ∧ (_ → _) ∧ cm_Call cm_ms 30 260 [.ref 124, .int (xs (i + 1).toNatClampNeg), .int (xs (i + 2).toNatClampNeg)] M _
  refine ⟨rfl, (lu_ix hi (a := 1) (by decide) (by decide)).1, (lu_ix hi (a := 1) (by decide) (by decide)).2, rfl, (lu_ix hi (a := 2) (by decide) (by decide)).1, (lu_ix hi (a := 2) (by decide) (by decide)).2, by decide, by decide, fun _ => Or.inr rfl, cm_Call_up (lk_260 hM _ _) (Nat.le_refl _) (fun v M1 hv => ?_)⟩
  obtain ⟨⟨r, rfl⟩, hP⟩ := hv
  show (Value.int r).category = 1 ∧ 0 ≤ _ ∧ J (1722, law_L i, [], M1)
  exact ⟨rfl, (by decide : (0 : Int) ≤ 1722), hJ M1 hP⟩
end HALVES
section HALVES
variable {J : cm_S → Prop} {L : Nat} {xs : Nat → Int32} {i : Int32} {M : cm_M}
set_option maxRecDepth 100000 in
theorem lh_31a (hM : ab_ok hp hN M) (hJ : ∀ M', lu_P M M' → J (1056, law_L i, [], M')) : cm_wp cm_ms (cm_Call cm_ms 30) (some (L, xs)) lawP lu_c31a (lu_st 1056) J (fun _ _ => False) 80 (1051, law_L i, [], M) := by
  show cm_cs [] ≤ 8 ∧ ev_nar1 _ _ = true ∧ (_ → _) ∧ cm_Call cm_ms 30 129 [.ref 0] M _
  refine ⟨by decide, by decide, fun _ => Or.inr rfl, cm_Call_up (lk_129 hM) (Nat.le_refl _) (fun v M1 hv => ?_)⟩
  obtain ⟨⟨r, rfl⟩, hP⟩ := hv
  show (Value.int r).category = 1 ∧ J (1056, law_L i, [], M1)
  exact ⟨rfl, hJ M1 hP⟩
set_option maxRecDepth 100000 in
theorem lh_31b (hM : ab_ok hp hN M) (hJ : ∀ M', lu_P M M' → J (1722, law_L i, [], M')) : cm_wp cm_ms (cm_Call cm_ms 30) (some (L, xs)) lawP lu_c31b (lu_st 1722) J (fun _ _ => False) 80 (1056, law_L i, [], M) := by
  show cm_cs [] ≤ 8 ∧ ev_nar1 _ _ = true ∧ (_ → _) ∧ cm_Call cm_ms 30 263 [.ref 124] M _
  refine ⟨by decide, by decide, fun _ => Or.inr rfl, cm_Call_up (lk_263 hM) (Nat.le_refl _) (fun v M1 hv => ?_)⟩
  obtain ⟨⟨r, rfl⟩, hP⟩ := hv
  show (Value.int r).category = 1 ∧ 0 ≤ _ ∧ J (1722, law_L i, [], M1)
  exact ⟨rfl, (by decide : (0 : Int) ≤ 1722), hJ M1 hP⟩
set_option maxRecDepth 100000 in
theorem lh_32a (hi : lu_in L i) (hM : ab_ok hp hN M) (hJ : ∀ M', lu_P M M' → J (1075, law_L i, [], M')) : cm_wp cm_ms (cm_Call cm_ms 30) (some (L, xs)) lawP lu_c32a (lu_st 1075) J (fun _ _ => False) 80 (1064, law_L i, [], M) := by
  show 1000 = 1000 ∧ 0 ≤ (i + 1).toInt ∧ (i + 1).toInt < (L : Int) ∧ cm_cs [] ≤ 8 ∧ ev_nar1 _ _ = true ∧ (_ → _) ∧ cm_Call cm_ms 30 130 [.ref 0, .int (xs (i + 1).toNatClampNeg)] M _
  refine ⟨rfl, (lu_ix hi (a := 1) (by decide) (by decide)).1, (lu_ix hi (a := 1) (by decide) (by decide)).2, by decide, by decide, fun _ => Or.inr rfl, cm_Call_up (lk_130 hM _) (Nat.le_refl _) (fun v M1 hv => ?_)⟩
  obtain ⟨⟨r, rfl⟩, hP⟩ := hv
  show (Value.int r).category = 1 ∧ J (1075, law_L i, [], M1)
  exact ⟨rfl, hJ M1 hP⟩
set_option maxRecDepth 100000 in
theorem lh_32b (hi : lu_in L i) (hM : ab_ok hp hN M) (hJ : ∀ M', lu_P M M' → J (1722, law_L i, [], M')) : cm_wp cm_ms (cm_Call cm_ms 30) (some (L, xs)) lawP lu_c32b (lu_st 1722) J (fun _ _ => False) 80 (1075, law_L i, [], M) := by
  show 1000 = 1000 ∧ 0 ≤ (i + 1).toInt ∧ (i + 1).toInt < (L : Int) ∧ cm_cs [] ≤ 8 ∧ ev_nar1 _ _ = true ∧ (_ → _) ∧ cm_Call cm_ms 30 264 [.ref 124, .int (xs (i + 1).toNatClampNeg)] M _
  refine ⟨rfl, (lu_ix hi (a := 1) (by decide) (by decide)).1, (lu_ix hi (a := 1) (by decide) (by decide)).2, by decide, by decide, fun _ => Or.inr rfl, cm_Call_up (lk_264 hM _) (Nat.le_refl _) (fun v M1 hv => ?_)⟩
  obtain ⟨⟨r, rfl⟩, hP⟩ := hv
  show (Value.int r).category = 1 ∧ 0 ≤ _ ∧ J (1722, law_L i, [], M1)
  exact ⟨rfl, (by decide : (0 : Int) ≤ 1722), hJ M1 hP⟩
set_option maxRecDepth 100000 in
theorem lh_33a (hM : ab_ok hp hN M) (hJ : ∀ M', lu_P M M' → J (1094, law_L i, [], M')) : cm_wp cm_ms (cm_Call cm_ms 30) (some (L, xs)) lawP lu_c33a (lu_st 1094) J (fun _ _ => False) 80 (1089, law_L i, [], M) := by
  show cm_cs [] ≤ 8 ∧ ev_nar1 _ _ = true ∧ (_ → _) ∧ cm_Call cm_ms 30 131 [.ref 0] M _
  refine ⟨by decide, by decide, fun _ => Or.inr rfl, cm_Call_up (lk_131 hM) (Nat.le_refl _) (fun v M1 hv => ?_)⟩
  obtain ⟨⟨r, rfl⟩, hP⟩ := hv
  show (Value.int r).category = 1 ∧ J (1094, law_L i, [], M1)
  exact ⟨rfl, hJ M1 hP⟩
set_option maxRecDepth 100000 in
theorem lh_33b (hM : ab_ok hp hN M) (hJ : ∀ M', lu_P M M' → J (1722, law_L i, [], M')) : cm_wp cm_ms (cm_Call cm_ms 30) (some (L, xs)) lawP lu_c33b (lu_st 1722) J (fun _ _ => False) 80 (1094, law_L i, [], M) := by
  show cm_cs [] ≤ 8 ∧ ev_nar1 _ _ = true ∧ (_ → _) ∧ cm_Call cm_ms 30 267 [.ref 124] M _
  refine ⟨by decide, by decide, fun _ => Or.inr rfl, cm_Call_up (lk_267 hM) (Nat.le_refl _) (fun v M1 hv => ?_)⟩
  obtain ⟨⟨r, rfl⟩, hP⟩ := hv
  show (Value.int r).category = 1 ∧ 0 ≤ _ ∧ J (1722, law_L i, [], M1)
  exact ⟨rfl, (by decide : (0 : Int) ≤ 1722), hJ M1 hP⟩
set_option maxRecDepth 100000 in
theorem lh_34a (hi : lu_in L i) (hM : ab_ok hp hN M) (hJ : ∀ M', lu_P M M' → J (1113, law_L i, [], M')) : cm_wp cm_ms (cm_Call cm_ms 30) (some (L, xs)) lawP lu_c34a (lu_st 1113) J (fun _ _ => False) 80 (1102, law_L i, [], M) := by
  show 1000 = 1000 ∧ 0 ≤ (i + 1).toInt ∧ (i + 1).toInt < (L : Int) ∧ cm_cs [] ≤ 8 ∧ ev_nar1 _ _ = true ∧ (_ → _) ∧ cm_Call cm_ms 30 132 [.ref 0, .int (xs (i + 1).toNatClampNeg)] M _
  refine ⟨rfl, (lu_ix hi (a := 1) (by decide) (by decide)).1, (lu_ix hi (a := 1) (by decide) (by decide)).2, by decide, by decide, fun _ => Or.inr rfl, cm_Call_up (lk_132 hM _) (Nat.le_refl _) (fun v M1 hv => ?_)⟩
  obtain ⟨⟨r, rfl⟩, hP⟩ := hv
  show (Value.int r).category = 1 ∧ J (1113, law_L i, [], M1)
  exact ⟨rfl, hJ M1 hP⟩
set_option maxRecDepth 100000 in
theorem lh_34b (hi : lu_in L i) (hM : ab_ok hp hN M) (hJ : ∀ M', lu_P M M' → J (1722, law_L i, [], M')) : cm_wp cm_ms (cm_Call cm_ms 30) (some (L, xs)) lawP lu_c34b (lu_st 1722) J (fun _ _ => False) 80 (1113, law_L i, [], M) := by
  show 1000 = 1000 ∧ 0 ≤ (i + 1).toInt ∧ (i + 1).toInt < (L : Int) ∧ cm_cs [] ≤ 8 ∧ ev_nar1 _ _ = true ∧ (_ → _) ∧ cm_Call cm_ms 30 268 [.ref 124, .int (xs (i + 1).toNatClampNeg)] M _
  refine ⟨rfl, (lu_ix hi (a := 1) (by decide) (by decide)).1, (lu_ix hi (a := 1) (by decide) (by decide)).2, by decide, by decide, fun _ => Or.inr rfl, cm_Call_up (lk_268 hM _) (Nat.le_refl _) (fun v M1 hv => ?_)⟩
  obtain ⟨⟨r, rfl⟩, hP⟩ := hv
  show (Value.int r).category = 1 ∧ 0 ≤ _ ∧ J (1722, law_L i, [], M1)
  exact ⟨rfl, (by decide : (0 : Int) ≤ 1722), hJ M1 hP⟩
set_option maxRecDepth 100000 in
theorem lh_35a (hM : ab_ok hp hN M) (hJ : ∀ M', lu_P M M' → J (1132, law_L i, [], M')) : cm_wp cm_ms (cm_Call cm_ms 30) (some (L, xs)) lawP lu_c35a (lu_st 1132) J (fun _ _ => False) 80 (1127, law_L i, [], M) := by
  show cm_cs [] ≤ 8 ∧ ev_nar1 _ _ = true ∧ (_ → _) ∧ cm_Call cm_ms 30 133 [.ref 0] M _
  refine ⟨by decide, by decide, fun _ => Or.inr rfl, cm_Call_up (lk_133 hM) (Nat.le_refl _) (fun v M1 hv => ?_)⟩
  obtain ⟨⟨r, rfl⟩, hP⟩ := hv
  show (Value.int r).category = 1 ∧ J (1132, law_L i, [], M1)
  exact ⟨rfl, hJ M1 hP⟩
set_option maxRecDepth 100000 in
theorem lh_35b (hM : ab_ok hp hN M) (hJ : ∀ M', lu_P M M' → J (1722, law_L i, [], M')) : cm_wp cm_ms (cm_Call cm_ms 30) (some (L, xs)) lawP lu_c35b (lu_st 1722) J (fun _ _ => False) 80 (1132, law_L i, [], M) := by
  show cm_cs [] ≤ 8 ∧ ev_nar1 _ _ = true ∧ (_ → _) ∧ cm_Call cm_ms 30 269 [.ref 124] M _
  refine ⟨by decide, by decide, fun _ => Or.inr rfl, cm_Call_up (lk_269 hM) (Nat.le_refl _) (fun v M1 hv => ?_)⟩
  obtain ⟨⟨r, rfl⟩, hP⟩ := hv
  show (Value.int r).category = 1 ∧ 0 ≤ _ ∧ J (1722, law_L i, [], M1)
  exact ⟨rfl, (by decide : (0 : Int) ≤ 1722), hJ M1 hP⟩
end HALVES
