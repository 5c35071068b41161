/-- a truth told by a number -/
noncomputable def cb (x : Int32) : Int32 := if x = 0 then 0 else 1
theorem cb_0 {x : Int32} (h : ev_cmp 0 x 0 = true) : cb x = 0 := if_pos (of_decide_eq_true h)
theorem cb_1 {x : Int32} (h : ev_cmp 0 x 0 = false) : cb x = 1 := if_neg (of_decide_eq_false h)
theorem cb_01 (x : Int32) : cb x = 0 ∨ cb x = 1 := by
  unfold cb
  split
  · exact Or.inl rfl
  · exact Or.inr rfl
set_option maxRecDepth 100000 in
theorem lh_42x {J : cm_S → Prop} {L : Nat} {xs : Nat → Int32} {i : Int32} {M : cm_M} (hi : lu_in L i) {C : cm_C} (hU : cm_CM C C) {K : cm_K} (hK : ∀ v M1, K v M1 → ∃ r, v = some (.long r)) (hC : C 144 [.ref 0, .int (xs (i + 1).toNatClampNeg), .int (cb (xs (i + 2).toNatClampNeg))] M K) (hJ : ∀ r M1, K (some (.long r)) M1 → J (1362, law_L i, [.long r], M1)) : cm_wp cm_ms C (some (L, xs)) lawP lu_c42f (lu_st 1362) J (fun _ _ => False) 40 (1338, law_L i, [], M) := by
  show 1000 = 1000 ∧ 0 ≤ (i + 1).toInt ∧ (i + 1).toInt < (L : Int) ∧ 1000 = 1000 ∧ 0 ≤ (i + 2).toInt ∧ (i + 2).toInt < (L : Int) ∧ 0 ≤ _ ∧ (ev_cmp 0 (xs (i + 2).toNatClampNeg) 0 = true → _) ∧ (ev_cmp 0 (xs (i + 2).toNatClampNeg) 0 = false → _)
  refine ⟨rfl, (lu_ix hi (a := 1) (by decide) (by decide)).1, (lu_ix hi (a := 1) (by decide) (by decide)).2, rfl, (lu_ix hi (a := 2) (by decide) (by decide)).1, (lu_ix hi (a := 2) (by decide) (by decide)).2, (by decide : (0 : Int) ≤ 1358), fun e2 => ?_, fun e2 => ?_⟩
  · show cm_cs [] ≤ 8 ∧ ev_nar1 _ _ = true ∧ (_ → _) ∧ C 144 [.ref 0, .int (xs (i + 1).toNatClampNeg), .int 0] M _
    rw [cb_0 e2] at hC
    refine ⟨by decide, by decide, fun _ => Or.inr rfl, hU _ _ _ _ _ (fun v M1 hv => ?_) hC⟩
    obtain ⟨r, rfl⟩ := hK _ _ hv
    show J (1362, law_L i, [.long r], M1)
    exact hJ r M1 hv
  · show 0 ≤ _ ∧ cm_cs [] ≤ 8 ∧ ev_nar1 _ _ = true ∧ (_ → _) ∧ C 144 [.ref 0, .int (xs (i + 1).toNatClampNeg), .int 1] M _
    rw [cb_1 e2] at hC
    refine ⟨(by decide : (0 : Int) ≤ 1359), by decide, by decide, fun _ => Or.inr rfl, hU _ _ _ _ _ (fun v M1 hv => ?_) hC⟩
    obtain ⟨r, rfl⟩ := hK _ _ hv
    show J (1362, law_L i, [.long r], M1)
    exact hJ r M1 hv
set_option maxRecDepth 100000 in
theorem lh_42y {J : cm_S → Prop} {L : Nat} {xs : Nat → Int32} {i : Int32} {M : cm_M} (hi : lu_in L i) {C : cm_C} (hU : cm_CM C C) {r : Int64} {K : cm_M → Prop} (hC : C 282 [.ref 124, .int (xs (i + 1).toNatClampNeg), .int (cb (xs (i + 2).toNatClampNeg))] M (fun v M1 => v = some (.long r) ∧ K M1)) (hJ : ∀ M1, K M1 → J (1723, law_L i, [], M1)) : cm_wp cm_ms C (some (L, xs)) lawP lu_c42f (lu_st 1723) J (fun _ _ => False) 40 (1362, law_L i, [.long r], M) := by
  show 1000 = 1000 ∧ 0 ≤ (i + 1).toInt ∧ (i + 1).toInt < (L : Int) ∧ 1000 = 1000 ∧ 0 ≤ (i + 2).toInt ∧ (i + 2).toInt < (L : Int) ∧ 0 ≤ _ ∧ (ev_cmp 0 (xs (i + 2).toNatClampNeg) 0 = true → _) ∧ (ev_cmp 0 (xs (i + 2).toNatClampNeg) 0 = false → _)
  refine ⟨rfl, (lu_ix hi (a := 1) (by decide) (by decide)).1, (lu_ix hi (a := 1) (by decide) (by decide)).2, rfl, (lu_ix hi (a := 2) (by decide) (by decide)).1, (lu_ix hi (a := 2) (by decide) (by decide)).2, (by decide : (0 : Int) ≤ 1382), fun e2 => ?_, fun e2 => ?_⟩
  · show cm_cs [.long r] ≤ 8 ∧ ev_nar1 _ _ = true ∧ (_ → _) ∧ C 282 [.ref 124, .int (xs (i + 1).toNatClampNeg), .int 0] M _
    rw [cb_0 e2] at hC
    refine ⟨(by show (2 : Nat) ≤ 8; decide), by decide, fun _ => Or.inr rfl, hU _ _ _ _ _ (fun v M1 hv => ?_) hC⟩
    obtain ⟨rfl, hv⟩ := hv
    show 0 ≤ _ ∧ (ev_cmp 0 (lg_cmp r r) 0 = true → J (1723, law_L i, [], M1)) ∧ (ev_cmp 0 (lg_cmp r r) 0 = false → _)
    refine ⟨(by decide : (0 : Int) ≤ 1723), fun _ => hJ M1 hv, fun h => ?_⟩
    exact absurd ((congrArg (fun z => ev_cmp 0 z 0) (show lg_cmp r r = 0 from by unfold lg_cmp; simp)).symm.trans h) (by decide)
  · show 0 ≤ _ ∧ cm_cs [.long r] ≤ 8 ∧ ev_nar1 _ _ = true ∧ (_ → _) ∧ C 282 [.ref 124, .int (xs (i + 1).toNatClampNeg), .int 1] M _
    rw [cb_1 e2] at hC
    refine ⟨(by decide : (0 : Int) ≤ 1383), (by show (2 : Nat) ≤ 8; decide), by decide, fun _ => Or.inr rfl, hU _ _ _ _ _ (fun v M1 hv => ?_) hC⟩
    obtain ⟨rfl, hv⟩ := hv
    show 0 ≤ _ ∧ (ev_cmp 0 (lg_cmp r r) 0 = true → J (1723, law_L i, [], M1)) ∧ (ev_cmp 0 (lg_cmp r r) 0 = false → _)
    refine ⟨(by decide : (0 : Int) ≤ 1723), fun _ => hJ M1 hv, fun h => ?_⟩
    exact absurd ((congrArg (fun z => ev_cmp 0 z 0) (show lg_cmp r r = 0 from by unfold lg_cmp; simp)).symm.trans h) (by decide)
theorem lh_42 {J : cm_S → Prop} {L : Nat} {xs : Nat → Int32} {i : Int32} {M : cm_M} (hi : lu_in L i) (hM : ab_ok hp hN M) (hT : LIS M) (hrun : ∀ (stops : List (Nat × List Nat)) (S : cm_S), cm_wp cm_ms (cm_Call cm_ms 30) (some (L, xs)) lawP lu_c42f stops J (fun _ _ => False) 40 S → J S) (hJ : ∀ M', ab_ok hp hN M' → LIS M' → J (1723, law_L i, [], M')) : J (1338, law_L i, [], M) := by
  refine hrun (lu_st 1362) _ (lh_42x hi (cm_Call_M cm_ms 30 30 (Nat.le_refl _)) ?_ (cmp_42 hM hT (xs (i + 1).toNatClampNeg) (cb (xs (i + 2).toNatClampNeg)) (cb_01 _)) (fun r M1 hv => ?_))
  · intro v M1 hv
    obtain ⟨r, rfl, -⟩ := hv
    exact ⟨r, rfl⟩
  · obtain ⟨r', e, -, hc⟩ := hv
    have e : Value.long r = Value.long r' := Option.some.inj e
    have e : r = r' := by injection e
    subst e
    exact hrun (lu_st 1723) _ (lh_42y hi (cm_Call_M cm_ms 30 30 (Nat.le_refl _)) hc (fun M2 k => hJ M2 k.1 k.2))
set_option maxRecDepth 100000 in
theorem lh_0 {J : cm_S → Prop} {L : Nat} {xs : Nat → Int32} {i : Int32} {M : cm_M} (hi : lu_in L i) (hM : ab_ok hp hN M) (hT : LIS M) (hrun : ∀ (stops : List (Nat × List Nat)) (S : cm_S), cm_wp cm_ms (cm_Call cm_ms 30) (some (L, xs)) lawP lu_c0f stops J (fun _ _ => False) 40 S → J S) (hJ : ∀ M', ab_ok hp hN M' → LIS M' → J (1723, law_L i, [], M')) : J (276, law_L i, [], M) := by
  refine hrun (lu_st 289) _ ?_
  show 1000 = 1000 ∧ 0 ≤ (i + 1).toInt ∧ (i + 1).toInt < (L : Int) ∧ 1000 = 1000 ∧ 0 ≤ (i + 2).toInt ∧ (i + 2).toInt < (L : Int) ∧ J (289, law_L i, [.int (xs (i + 2).toNatClampNeg), .int (xs (i + 1).toNatClampNeg), .ref 0], M)
  refine ⟨rfl, (lu_ix hi (a := 1) (by decide) (by decide)).1, (lu_ix hi (a := 1) (by decide) (by decide)).2, rfl, (lu_ix hi (a := 2) (by decide) (by decide)).1, (lu_ix hi (a := 2) (by decide) (by decide)).2, ?_⟩
  refine hrun (lu_st 301) _ ?_
  show 1000 = 1000 ∧ 0 ≤ (i + 3).toInt ∧ (i + 3).toInt < (L : Int) ∧ 1000 = 1000 ∧ 0 ≤ (i + 4).toInt ∧ (i + 4).toInt < (L : Int) ∧ J (301, law_L i, [.int (xs (i + 4).toNatClampNeg), .int (xs (i + 3).toNatClampNeg), .int (xs (i + 2).toNatClampNeg), .int (xs (i + 1).toNatClampNeg), .ref 0], M)
  refine ⟨rfl, (lu_ix hi (a := 3) (by decide) (by decide)).1, (lu_ix hi (a := 3) (by decide) (by decide)).2, rfl, (lu_ix hi (a := 4) (by decide) (by decide)).1, (lu_ix hi (a := 4) (by decide) (by decide)).2, ?_⟩
  refine hrun (lu_st 311) _ ?_
  show 1000 = 1000 ∧ 0 ≤ (i + 5).toInt ∧ (i + 5).toInt < (L : Int) ∧ cm_cs [] ≤ 8 ∧ ev_nar1 _ _ = true ∧ (_ → _) ∧ cm_Call cm_ms 30 93 [.ref 0, .int (xs (i + 1).toNatClampNeg), .int (xs (i + 2).toNatClampNeg), .int (xs (i + 3).toNatClampNeg), .int (xs (i + 4).toNatClampNeg), .int (xs (i + 5).toNatClampNeg)] M _
  refine ⟨rfl, (lu_ix hi (a := 5) (by decide) (by decide)).1, (lu_ix hi (a := 5) (by decide) (by decide)).2, by decide, by decide, fun _ => Or.inr rfl, cm_Call_up (hd_feedC hM _ _ _ _ _) (Nat.le_refl _) (fun v M1 hv => ?_)⟩
  obtain ⟨⟨r, rfl⟩, h1⟩ := hv
  show (Value.int r).category = 1 ∧ J (311, law_L i, [], M1)
  refine ⟨rfl, ?_⟩
  refine hrun (lu_st 324) _ ?_
  show 1000 = 1000 ∧ 0 ≤ (i + 1).toInt ∧ (i + 1).toInt < (L : Int) ∧ 1000 = 1000 ∧ 0 ≤ (i + 2).toInt ∧ (i + 2).toInt < (L : Int) ∧ J (324, law_L i, [.int (xs (i + 2).toNatClampNeg), .int (xs (i + 1).toNatClampNeg), .ref 124], M1)
  refine ⟨rfl, (lu_ix hi (a := 1) (by decide) (by decide)).1, (lu_ix hi (a := 1) (by decide) (by decide)).2, rfl, (lu_ix hi (a := 2) (by decide) (by decide)).1, (lu_ix hi (a := 2) (by decide) (by decide)).2, ?_⟩
  refine hrun (lu_st 336) _ ?_
  show 1000 = 1000 ∧ 0 ≤ (i + 3).toInt ∧ (i + 3).toInt < (L : Int) ∧ 1000 = 1000 ∧ 0 ≤ (i + 4).toInt ∧ (i + 4).toInt < (L : Int) ∧ J (336, law_L i, [.int (xs (i + 4).toNatClampNeg), .int (xs (i + 3).toNatClampNeg), .int (xs (i + 2).toNatClampNeg), .int (xs (i + 1).toNatClampNeg), .ref 124], M1)
  refine ⟨rfl, (lu_ix hi (a := 3) (by decide) (by decide)).1, (lu_ix hi (a := 3) (by decide) (by decide)).2, rfl, (lu_ix hi (a := 4) (by decide) (by decide)).1, (lu_ix hi (a := 4) (by decide) (by decide)).2, ?_⟩
  refine hrun (lu_st 1723) _ ?_
  show 1000 = 1000 ∧ 0 ≤ (i + 5).toInt ∧ (i + 5).toInt < (L : Int) ∧ cm_cs [] ≤ 8 ∧ ev_nar1 _ _ = true ∧ (_ → _) ∧ cm_Call cm_ms 30 172 [.ref 124, .int (xs (i + 1).toNatClampNeg), .int (xs (i + 2).toNatClampNeg), .int (xs (i + 3).toNatClampNeg), .int (xs (i + 4).toNatClampNeg), .int (xs (i + 5).toNatClampNeg)] M1 _
  refine ⟨rfl, (lu_ix hi (a := 5) (by decide) (by decide)).1, (lu_ix hi (a := 5) (by decide) (by decide)).2, by decide, by decide, fun _ => Or.inr rfl, cm_Call_up (hd_feedD h1.1 _ _ _ _ _) (Nat.le_refl _) (fun v M2 hv => ?_)⟩
  obtain ⟨⟨r2, rfl⟩, h2⟩ := hv
  show (Value.int r2).category = 1 ∧ 0 ≤ _ ∧ J (1723, law_L i, [], M2)
  exact ⟨rfl, (by decide : (0 : Int) ≤ 1723), hJ M2 h2.1 (feed_LIS hT h1 h2)⟩
noncomputable def in_I (M : cm_M) : Bool := hp.1.all (fun q => q.2.all (fun r => decide (r.2.1 ≤ (M.1 q.1 r.1).toInt) && decide ((M.1 q.1 r.1).toInt ≤ r.2.2)))
noncomputable def in_R (M : cm_M) : Bool := hp.2.1.all (fun q => q.2.all (fun r => match M.2.2 q.1 r.1 with
  | none => r.2.1
  | some c => r.2.2.contains c))
theorem in_ok {M : cm_M} (h1 : in_I M = true) (h2 : in_R M = true) (h3 : hN M) : ab_ok hp hN M := by
  refine ⟨fun c i => ?_, fun c i => ?_, h3⟩
  · unfold ab_hi ab_hl
    cases ha : ev_at hp.1 c with
    | none => exact ev_ful_in _
    | some l =>
      dsimp only
      cases hb : ev_at l i with
      | none => exact ev_ful_in _
      | some b =>
        have h4 := List.all_eq_true.mp (List.all_eq_true.mp h1 _ (ev_at_mem ha)) _ (ev_at_mem hb)
        simp only [Bool.and_eq_true, decide_eq_true_eq] at h4
        exact h4
  · unfold ab_hr
    cases ha : ev_at hp.2.1 c with
    | none => trivial
    | some l =>
      dsimp only
      cases hb : ev_at l i with
      | none => trivial
      | some b =>
        have h4 := List.all_eq_true.mp (List.all_eq_true.mp h2 _ (ev_at_mem ha)) _ (ev_at_mem hb)
        dsimp only at h4
        cases hc : M.2.2 c i with
        | none => rw [hc] at h4; exact h4
        | some q => rw [hc] at h4; exact List.contains_iff_mem.mp h4
set_option maxRecDepth 1000000 in
theorem in_1 : in_I (tc_M st_w) = true := by decide +kernel
set_option maxRecDepth 1000000 in
theorem in_2 : in_R (tc_M st_w) = true := by decide +kernel
set_option maxRecDepth 1000000 in
theorem in_3 : ∀ i, i < 16 → (tc_M st_w).1 4 i = 0 := by decide +kernel
set_option maxRecDepth 1000000 in
theorem in_4 : (tc_M st_w).1 124 6 = 0 ∧ (tc_M st_w).1 0 1 = (tc_M st_w).1 124 2 := by decide +kernel
set_option maxRecDepth 1000000 in
theorem in_5 : (tc_M st_w).1 0 1 = 0 ∧ (tc_M st_w).1 0 12 = (tc_M st_w).1 124 9 ∧ (tc_M st_w).2.2 0 3 = some 6 ∧ (tc_M st_w).2.2 0 4 = some 19 ∧ (tc_M st_w).1 6 3 = 0 ∧ (tc_M st_w).1 6 9 = 0 ∧ (tc_M st_w).1 6 15 = 0 ∧ (tc_M st_w).1 124 14 = 0 := by decide +kernel
theorem in_I5 : LI (tc_M st_w) := ⟨⟨in_4.2, fun j hj => by
  rw [in_5.1] at hj
  exact absurd hj (Nat.not_lt_zero j)⟩, in_5.2.1, 6, Or.inl rfl, in_5.2.2.1, in_5.2.2.2.1, Or.inl in_5.2.2.2.2⟩
set_option maxRecDepth 1000000 in
theorem in_5S : (∀ q, q < 3 → (tc_M st_w).1 34 q = (tc_M st_w).1 129 (6 + q)) ∧ (tc_M st_w).1 32 2 = (tc_M st_w).1 129 9 ∧ (tc_M st_w).1 32 3 = (tc_M st_w).1 129 10 ∧ (tc_M st_w).1 129 10 = 0 ∧ (tc_M st_w).1 38 2 = 0 ∧ (tc_M st_w).1 38 3 = 0 ∧ (tc_M st_w).1 124 20 = 0 ∧ (tc_M st_w).1 38 4 = 0 ∧ (tc_M st_w).1 124 21 = 0 := by decide +kernel
theorem in_I5S : LIS (tc_M st_w) := by
  obtain ⟨a1, a2, a3, a4, a5, a6, a7, a8, a9⟩ := in_5S
  exact ⟨in_I5, 6, 0, in_5.2.2.1, in_5.2.2.2.2.1, by omega, 0, 0, 0, ⟨fun m hm => absurd hm (Nat.not_lt_zero m), a1, a2, a3, 0, by omega, a4⟩, ⟨by omega, by omega, by omega⟩, ⟨a5, a6, a7, a8, a9⟩, fun i hi => absurd hi (Nat.not_lt_zero i), fun i hi => absurd hi (Nat.not_lt_zero i)⟩
theorem in_all : ab_ok hp hN (tc_M st_w) := in_ok in_1 in_2 ⟨fun i hi h => absurd (h.symm.trans (in_3 i hi)) (by decide), fun h => absurd (h.symm.trans in_4.1) (by decide)⟩
section LAW
variable {p : Program} {l : Launch} {e : Env} {s : State} {m : MethodId} {below : List Frame} {meth : Method} {c : Code} {b L : Nat} {xs : Nat → Int32} {D : va_G} {adr : Nat → Nat}
theorem law_Xt (X : cm_X p room_1 s m #[Value.ref b] c code 7 "BarberMinutesLaw" D (law_A s) adr 137 3193 (some (L, xs))) {t : Nat} (ht : t < 1000) : cm_X p room_1 s m #[Value.ref b] c code 7 "BarberMinutesLaw" D (law_A s) adr (137 + t) (3193 + 6 * t) (some (L, xs)) := by
  obtain ⟨hx, hb, hml, hown, hts, hK, hA, hN', hcC, hcS, hf, hlc, hscr⟩ := X
  have hroom : room_1.cells = 601024 ∧ room_1.slots = 7293034 := ⟨rfl, rfl⟩
  exact ⟨hx, hb, hml, hown, hts, hK, hA, hN', by rw [hroom.1]; omega, by rw [hroom.2]; omega, hf, hlc, hscr⟩
theorem law_run {t n : Nat} (X : cm_X p room_1 s m #[Value.ref b] c code 7 "BarberMinutesLaw" D (law_A s) adr (137 + t) (3193 + 6 * t) (some (L, xs))) {rows : List (Nat × ev_Row)} (hrows : ∀ q ∈ rows, cm_RowOK cm_ms lawP code q) {stops : List (Nat × List Nat)} {S : cm_S} (h : cm_wp cm_ms (cm_Call cm_ms 30) (some (L, xs)) lawP rows stops (law_G p l e s m below meth c b D adr t) (fun _ _ => False) n S) : law_G p l e s m below meth c b D adr t S :=
  cm_wp_ok (P := lawP) cm_ms_ok ⟨by decide, by decide⟩ X hrows (fun S h => h) (fun _ _ _ _ h => h.elim) n S (cm_wp_real cm_ms_ok h)
theorem law_wide {t : Nat} {S : cm_S} (h : law_G p l e s m below meth c b D adr (t + 1) S) : law_G p l e s m below meth c b D adr t S := fun ws H locs ls hR => W.widen (by omega) (by omega) (h ws H locs ls hR)
set_option maxRecDepth 100000 in
theorem law_end {t : Nat} (ht : t < 1000) (C0 : lw_At p s m meth c b L xs) (X : cm_X p room_1 s m #[Value.ref b] c code 7 "BarberMinutesLaw" D (law_A s) adr (137 + t) (3193 + 6 * t) (some (L, xs))) {Lo : List (Nat × Value)} {M : cm_M} : law_G p l e s m below meth c b D adr t (1729, Lo, [], M) := by
  obtain ⟨hx, hb, hr, hml, hown, hts, hX, hbl, hlocks, hgv⟩ := C0
  refine cm_wp_ok (P := lawP) (d := 30) cm_ms_ok ⟨by decide, by decide⟩ X lu_y_ok (stops := []) (J := fun _ => False) (Z := fun _ S => S.1 = 1730 ∧ S.2.2.1 = [.int 1]) (fun S h => h.elim) ?_ 5 _ ⟨rfl, rfl⟩
  intro r S hr1 h210 hZ
  obtain ⟨pc, L', st, M'⟩ := S
  obtain ⟨h1, h2⟩ := hZ
  dsimp only at h1 h2
  subst h1
  subst h2
  intro ws H locs ls ⟨hP, hD, hS, hW, hL⟩
  show W p l e room_1 s m _ below meth c H locs _ _ _ (F0 m 1730 ls [.int 1])
  refine va_forget (fun q hq => hS.2.2 q hq) ?_
  refine W.widen (k := 601024) (n := 7293034) (by omega) (by omega) ?_
  exact lw_ret hx hb hr hlocks (by decide +kernel)
theorem law_stop {stops : List (Nat × List Nat)} {J k : cm_S → Prop} {pc : Nat} {i : Int32} {st : List Value} {M : cm_M} (h : ev_at stops pc = some [4, 3, 2, 1, 0]) (hJ : J (pc, law_L i, st, M)) : cm_stop stops J k (pc, law_L i, st, M) := by
  unfold cm_stop
  dsimp only
  rw [h]
  exact hJ
noncomputable def law_offs : List Int := [236, 309, 334, 347, 360, 397, 434, 459, 472, 485, 498, 511, 536, 561, 598, 635, 660, 673, 686, 723, 748, 773, 798, 823, 860, 885, 910, 935, 948, 961, 974, 1011, 1024, 1049, 1062, 1087, 1100, 1113, 1126, 1139, 1248, 1273, 1298, 1352, 1405, 1454, 1503, 1528, 1541, 1566, 1579, 1592, 1617, 1645, 1670]
noncomputable def law_tg : List Nat := 1723 :: law_offs.map (fun o => (40 + o).toNat)
noncomputable def law_sts : List (Nat × List Nat) := (1729, [4, 3, 2, 1, 0]) :: law_tg.map (fun pc => (pc, [4, 3, 2, 1, 0]))
set_option maxRecDepth 100000 in
theorem law_tg_ok : ∀ o ∈ law_offs, ev_at law_sts (40 + o).toNat = some [4, 3, 2, 1, 0] ∧ (40 + o).toNat ∈ law_tg := by decide +kernel
theorem law_le {i : Int32} (hL : L ≤ 3072) (h : ev_cmp 4 i (Int32.ofNat L - 6) = false) : i.toInt + 6 ≤ (L : Int) := by
  have h1 := tw_g0 h
  have h2 : (Int32.ofNat L).toInt = (L : Int) := by rw [Int32.toInt_ofNat_of_lt (by omega)]
  have h6 : (6 : Int32).toInt = 6 := by decide
  rw [Int32.toInt_sub, h2, h6, ev_bm (by omega) (by omega)] at h1
  omega
set_option maxRecDepth 100000 in
theorem law_head {t : Nat} (X : cm_X p room_1 s m #[Value.ref b] c code 7 "BarberMinutesLaw" D (law_A s) adr (137 + t) (3193 + 6 * t) (some (L, xs))) (hL : L ≤ 3072) {i : Int32} (h0 : 0 ≤ i.toInt) {M : cm_M} (hend : law_G p l e s m below meth c b D adr t (1729, law_L i, [], M)) (hcase : i.toInt + 6 ≤ (L : Int) → ∀ pc ∈ law_tg, law_G p l e s m below meth c b D adr t (pc, law_L i, [], M)) : law_G p l e s m below meth c b D adr t (23, law_L i, [], M) := by
  refine law_run (n := 30) X lu_h_ok (stops := law_sts) ?_
  show 0 ≤ _ ∧ (ev_cmp 4 i (Int32.ofNat L - 6) = true → law_G p l e s m below meth c b D adr t (1729, law_L i, [], M)) ∧ (ev_cmp 4 i (Int32.ofNat L - 6) = false → 1000 = 1000 ∧ 0 ≤ i.toInt ∧ i.toInt < (L : Int) ∧ _ = _ ∧ 0 ≤ _ ∧ _ = true ∧ (_ → _) ∧ (∀ (j : Nat) (o : Int), law_offs[j]? = some o → _ → _))
  refine ⟨(by decide : (0 : Int) ≤ 1729), fun _ => hend, fun hc => ?_⟩
  have h6 := law_le hL hc
  refine ⟨rfl, h0, by omega, (by decide : (54 : Int) - 0 + 1 = (law_offs.length : Int)), (by decide : (0 : Int) ≤ 1723), (by decide : law_offs.all (fun o => decide (0 ≤ (40 : Int) + o)) = true), fun _ => ?_, fun j o ho _ => ?_⟩
  · show law_G p l e s m below meth c b D adr t (1723, law_L i, [], M)
    exact hcase h6 1723 List.mem_cons_self
  · obtain ⟨g1, g2⟩ := law_tg_ok o (List.mem_of_getElem? ho)
    show cm_stop law_sts _ _ ((40 + o).toNat, law_L i, [], M)
    exact law_stop g1 (hcase h6 _ g2)
set_option maxRecDepth 100000 in
theorem law_next {t : Nat} (X : cm_X p room_1 s m #[Value.ref b] c code 7 "BarberMinutesLaw" D (law_A s) adr (137 + t) (3193 + 6 * t) (some (L, xs))) {i : Int32} {M : cm_M} (h : law_G p l e s m below meth c b D adr t (23, law_L (i + 6), [], M)) : law_G p l e s m below meth c b D adr t (1723, law_L i, [], M) := by
  refine law_run (n := 5) X lu_z_ok (stops := lu_st 23) ?_
  show 4 < 7 ∧ 0 ≤ _ ∧ law_G p l e s m below meth c b D adr t (23, law_L (i + 6), [], M)
  exact ⟨by decide, (by decide : (0 : Int) ≤ 23), h⟩
set_option maxRecDepth 100000 in
/-- led's call, the class's half -/
theorem lh_52a {J : cm_S → Prop} {i : Int32} {M : cm_M} (hi : lu_in L i) (hJ : J (1665, law_L i, [.ref 136, .int (xs (i + 1).toNatClampNeg), .ref 0], M)) : cm_wp cm_ms (cm_Call cm_ms 30) (some (L, xs)) lawP lu_c52a (lu_st 1665) J (fun _ _ => False) 80 (1657, law_L i, [], M) := by
  show 1000 = 1000 ∧ 0 ≤ (i + 1).toInt ∧ (i + 1).toInt < (L : Int) ∧ J (1665, law_L i, [.ref 136, .int (xs (i + 1).toNatClampNeg), .ref 0], M)
  exact ⟨rfl, (lu_ix hi (a := 1) (by decide) (by decide)).1, (lu_ix hi (a := 1) (by decide) (by decide)).2, hJ⟩
set_option maxRecDepth 100000 in
theorem lh_52b {J : cm_S → Prop} {i r : Int32} {M : cm_M} (hi : lu_in L i) (hM : ab_ok hp hN M) (hJ : ∀ M', lu_P M M' → J (1723, law_L i, [], M')) : cm_wp cm_ms (cm_Call cm_ms 30) (some (L, xs)) lawP lu_c52b (lu_st 1723) J (fun _ _ => False) 80 (1668, law_L i, [.int r], M) := by
  show 5 < 7 ∧ 1000 = 1000 ∧ 0 ≤ (i + 1).toInt ∧ (i + 1).toInt < (L : Int) ∧ cm_cs [] ≤ 8 ∧ ev_nar1 _ _ = true ∧ (_ → _) ∧ cm_Call cm_ms 30 294 [.ref 124, .int (xs (i + 1).toNatClampNeg)] M _
  refine ⟨by decide, rfl, (lu_ix hi (a := 1) (by decide) (by decide)).1, (lu_ix hi (a := 1) (by decide) (by decide)).2, by decide, by decide, fun _ => Or.inr rfl, cm_Call_up (lk_294 hM _) (Nat.le_refl _) (fun v M1 hv => ?_)⟩
  obtain ⟨⟨r2, rfl⟩, hP⟩ := hv
  show 6 < 7 ∧ 0 ≤ _ ∧ J (1723, law_L i, [], M1)
  exact ⟨by decide, (by decide : (0 : Int) ≤ 1723), hJ M1 hP⟩
set_option maxRecDepth 100000 in
set_option maxHeartbeats 4000000 in
/-- every case goes on to the next call -/
theorem law_cases {t : Nat} (ht : t + 1 < 1000) (hl0 : l.stackTraces = false) (C0 : lw_At p s m meth c b L xs) (X : cm_X p room_1 s m #[Value.ref b] c code 7 "BarberMinutesLaw" D (law_A s) adr (137 + t) (3193 + 6 * t) (some (L, xs))) (X1 : cm_X p room_1 s m #[Value.ref b] c code 7 "BarberMinutesLaw" D (law_A s) adr (137 + (t + 1)) (3193 + 6 * (t + 1)) (some (L, xs))) {i : Int32} (hi : lu_in L i) {M : cm_M} (hM : ab_ok hp hN M) (hT : LIS M)
    (hk : ∀ M', ab_ok hp hN M' → LIS M' → law_G p l e s m below meth c b D adr (t + 1) (1723, law_L i, [], M')) : ∀ pc ∈ law_tg, law_G p l e s m below meth c b D adr t (pc, law_L i, [], M) := by
  have fin : ∀ {M1 M2 : cm_M}, lu_P M M1 → lu_P M1 M2 → law_G p l e s m below meth c b D adr (t + 1) (1723, law_L i, [], M2) := fun h1 h2 => hk _ h2.1 (LIS_P (LIS_P hT h1) h2)
  intro pc hpc
  have hpc : pc ∈ ([1723, 276, 349, 374, 387, 400, 437, 474, 499, 512, 525, 538, 551, 576, 601, 638, 675, 700, 713, 726, 763, 788, 813, 838, 863, 900, 925, 950, 975, 988, 1001, 1014, 1051, 1064, 1089, 1102, 1127, 1140, 1153, 1166, 1179, 1288, 1313, 1338, 1392, 1445, 1494, 1543, 1568, 1581, 1606, 1619, 1632, 1657, 1685, 1710] : List Nat) := hpc
  simp only [List.mem_cons, List.not_mem_nil, or_false] at hpc
  rcases hpc with rfl | rfl | rfl | rfl | rfl | rfl | rfl | rfl | rfl | rfl | rfl | rfl | rfl | rfl | rfl | rfl | rfl | rfl | rfl | rfl | rfl | rfl | rfl | rfl | rfl | rfl | rfl | rfl | rfl | rfl | rfl | rfl | rfl | rfl | rfl | rfl | rfl | rfl | rfl | rfl | rfl | rfl | rfl | rfl | rfl | rfl | rfl | rfl | rfl | rfl | rfl | rfl | rfl | rfl | rfl | rfl
  · exact law_wide (hk M hM hT)
  · exact law_wide (lh_0 hi hM hT (fun stops S h => law_run X1 lu_c0f_ok h) hk)
  · exact law_wide (law_run X1 lu_c1a_ok (lh_1a hi (T := tdS 191 [.ref 124, .int (xs (i + 1).toNatClampNeg)]) (dropS (townS hM hT _)) (fun M1 h1 => law_run X1 lu_c1b_ok (lh_1b hi (T := fun M' => ab_ok hp hN M' ∧ LIS M') h1.2 (fun M2 h2 => hk M2 h2.1 h2.2)))))
  · exact law_wide (law_run X1 lu_c2a_ok (lh_2a hM (fun M1 h1 => law_run X1 lu_c2b_ok (lh_2b h1.1 (fun M2 h2 => fin h1 h2)))))
  · exact law_wide (law_run X1 lu_c3a_ok (lh_3a hM (fun M1 h1 => law_run X1 lu_c3b_ok (lh_3b h1.1 (fun M2 h2 => fin h1 h2)))))
  · exact law_wide (law_run X1 lu_c4a_ok (lh_4a hi hM (fun M1 h1 => law_run X1 lu_c4b_ok (lh_4b hi h1.1 (fun M2 h2 => fin h1 h2)))))
  · exact law_wide (law_run X1 lu_c5a_ok (lh_5a hi hM (fun M1 h1 => law_run X1 lu_c5b_ok (lh_5b hi h1.1 (fun M2 h2 => fin h1 h2)))))
  · exact law_wide (law_run X1 lu_c6a_ok (lh_6a hi hM (fun M1 h1 => law_run X1 lu_c6b_ok (lh_6b hi h1.1 (fun M2 h2 => fin h1 h2)))))
  · exact law_wide (law_run X1 lu_c7a_ok (lh_7a hM (fun M1 h1 => law_run X1 lu_c7b_ok (lh_7b h1.1 (fun M2 h2 => fin h1 h2)))))
  · exact law_wide (law_run X1 lu_c8a_ok (lh_8a hM (fun M1 h1 => law_run X1 lu_c8b_ok (lh_8b h1.1 (fun M2 h2 => fin h1 h2)))))
  · exact law_wide (law_run X1 lu_c9a_ok (lh_9a hM (fun M1 h1 => law_run X1 lu_c9b_ok (lh_9b h1.1 (fun M2 h2 => fin h1 h2)))))
  · exact law_wide (law_run X1 lu_c10a_ok (lh_10a hM (fun M1 h1 => law_run X1 lu_c10b_ok (lh_10b h1.1 (fun M2 h2 => fin h1 h2)))))
  · exact law_wide (law_run X1 lu_c11a_ok (lh_11a hi hM (fun M1 h1 => law_run X1 lu_c11b_ok (lh_11b hi h1.1 (fun M2 h2 => fin h1 h2)))))
  · exact law_wide (law_run X1 lu_c12a_ok (lh_12a hi hM (fun M1 h1 => law_run X1 lu_c12b_ok (lh_12b hi h1.1 (fun M2 h2 => fin h1 h2)))))
  · exact law_wide (law_run X1 lu_c13a_ok (lh_13a hi hM (fun M1 h1 => law_run X1 lu_c13b_ok (lh_13b hi h1.1 (fun M2 h2 => fin h1 h2)))))
  · exact law_wide (law_run X1 lu_c14a_ok (lh_14a hi hM (fun M1 h1 => law_run X1 lu_c14b_ok (lh_14b hi h1.1 (fun M2 h2 => fin h1 h2)))))
  · exact law_wide (law_run X1 lu_c15a_ok (lh_15a hi hM (fun M1 h1 => law_run X1 lu_c15b_ok (lh_15b hi h1.1 (fun M2 h2 => fin h1 h2)))))
  · exact law_wide (law_run X1 lu_c16a_ok (lh_16a hM (fun M1 h1 => law_run X1 lu_c16b_ok (lh_16b h1.1 (fun M2 h2 => fin h1 h2)))))
  · exact law_wide (law_run X1 lu_c17a_ok (lh_17a hM (fun M1 h1 => law_run X1 lu_c17b_ok (lh_17b h1.1 (fun M2 h2 => fin h1 h2)))))
  · exact law_wide (law_run X1 lu_c18a_ok (lh_18a hi hM (fun M1 h1 => law_run X1 lu_c18b_ok (lh_18b hi h1.1 (fun M2 h2 => fin h1 h2)))))
  · exact law_wide (law_run X1 lu_c19a_ok (lh_19a hi hM (fun M1 h1 => law_run X1 lu_c19b_ok (lh_19b hi h1.1 (fun M2 h2 => fin h1 h2)))))
  · exact law_wide (law_run X1 lu_c20a_ok (lh_20a hi hM (fun M1 h1 => law_run X1 lu_c20b_ok (lh_20b hi h1.1 (fun M2 h2 => fin h1 h2)))))
  · exact law_wide (law_run X1 lu_c21a_ok (lh_21a hi hM (fun M1 h1 => law_run X1 lu_c21b_ok (lh_21b hi h1.1 (fun M2 h2 => fin h1 h2)))))
  · exact law_wide (law_run X1 lu_c22a_ok (lh_22a hi hM (fun M1 h1 => law_run X1 lu_c22b_ok (lh_22b hi h1.1 (fun M2 h2 => fin h1 h2)))))
  · exact law_wide (law_run X1 lu_c23a_ok (lh_23a hi hM (fun M1 h1 => law_run X1 lu_c23b_ok (lh_23b hi h1.1 (fun M2 h2 => fin h1 h2)))))
  · exact law_wide (law_run X1 lu_c24a_ok (lh_24a hi hM (fun M1 h1 => law_run X1 lu_c24b_ok (lh_24b hi h1.1 (fun M2 h2 => fin h1 h2)))))
  · exact law_wide (law_run X1 lu_c25a_ok (lh_25a hi hM (fun M1 h1 => law_run X1 lu_c25b_ok (lh_25b hi h1.1 (fun M2 h2 => fin h1 h2)))))
  · exact law_wide (law_run X1 lu_c26a_ok (lh_26a hi hM (fun M1 h1 => law_run X1 lu_c26b_ok (lh_26b hi h1.1 (fun M2 h2 => fin h1 h2)))))
  · exact law_wide (law_run X1 lu_c27a_ok (lh_27a hM (fun M1 h1 => law_run X1 lu_c27b_ok (lh_27b h1.1 (fun M2 h2 => fin h1 h2)))))
  · exact law_wide (law_run X1 lu_c28a_ok (lh_28a hM (fun M1 h1 => law_run X1 lu_c28b_ok (lh_28b h1.1 (fun M2 h2 => fin h1 h2)))))
  · exact law_wide (law_run X1 lu_c29a_ok (lh_29a hM (fun M1 h1 => law_run X1 lu_c29b_ok (lh_29b h1.1 (fun M2 h2 => fin h1 h2)))))
  · exact law_wide (law_run X1 lu_c30a_ok (lh_30a hi hM (fun M1 h1 => law_run X1 lu_c30b_ok (lh_30b hi h1.1 (fun M2 h2 => fin h1 h2)))))
  · exact law_wide (law_run X1 lu_c31a_ok (lh_31a hM (fun M1 h1 => law_run X1 lu_c31b_ok (lh_31b h1.1 (fun M2 h2 => fin h1 h2)))))
  · exact law_wide (law_run X1 lu_c32a_ok (lh_32a hi hM (fun M1 h1 => law_run X1 lu_c32b_ok (lh_32b hi h1.1 (fun M2 h2 => fin h1 h2)))))
  · exact law_wide (law_run X1 lu_c33a_ok (lh_33a hM (fun M1 h1 => law_run X1 lu_c33b_ok (lh_33b h1.1 (fun M2 h2 => fin h1 h2)))))
  · exact law_wide (law_run X1 lu_c34a_ok (lh_34a hi hM (fun M1 h1 => law_run X1 lu_c34b_ok (lh_34b hi h1.1 (fun M2 h2 => fin h1 h2)))))
  · exact law_wide (law_run X1 lu_c35a_ok (lh_35a hM (fun M1 h1 => law_run X1 lu_c35b_ok (lh_35b h1.1 (fun M2 h2 => fin h1 h2)))))
  · exact law_wide (law_run X1 lu_c36a_ok (lh_36a hM (fun M1 h1 => law_run X1 lu_c36b_ok (lh_36b h1.1 (fun M2 h2 => fin h1 h2)))))
  · exact law_wide (law_run X1 lu_c37a_ok (lh_37a hM (fun M1 h1 => law_run X1 lu_c37b_ok (lh_37b h1.1 (fun M2 h2 => fin h1 h2)))))
  · exact law_wide (law_run X1 lu_c38a_ok (lh_38a hM (fun M1 h1 => law_run X1 lu_c38b_ok (lh_38b h1.1 (fun M2 h2 => fin h1 h2)))))
  · exact law_wide (law_run X1 lu_c39a_ok (lh_39a hi (cm_Call_M cm_ms 30 30 (Nat.le_refl _)) (fun x0 x1 x2 x3 a1 a2 a3 => lk_138 hM x0 x1 x2 x3 a1 a2 a3) (fun M1 h1 => law_run X1 lu_c39b_ok (lh_39b hi (cm_Call_M cm_ms 30 30 (Nat.le_refl _)) (fun x0 x1 x2 x3 a1 a2 a3 => lk_276 h1.1 x0 x1 x2 x3 a1 a2 a3) (fun M2 h2 => fin h1 h2)))))
  · exact law_wide (law_run X1 lu_c40a_ok (lh_40a hi hM (fun M1 h1 => law_run X1 lu_c40b_ok (lh_40b hi h1.1 (fun M2 h2 => fin h1 h2)))))
  · exact law_wide (law_run X1 lu_c41a_ok (lh_41a hi hM (fun M1 h1 => law_run X1 lu_c41b_ok (lh_41b hi h1.1 (fun M2 h2 => fin h1 h2)))))
  · exact law_wide (lh_42 hi hM hT (fun stops S h => law_run X1 lu_c42f_ok h) hk)
  · exact law_wide (law_run X1 lu_c43a_ok (lh_43a hi hM (fun M1 h1 => law_run X1 lu_c43b_ok (lh_43b hi h1.1 (fun M2 h2 => fin h1 h2)))))
  · exact law_wide (law_run X1 lu_c44a_ok (lh_44a hi hM (fun M1 h1 => law_run X1 lu_c44b_ok (lh_44b hi h1.1 (fun M2 h2 => fin h1 h2)))))
  · exact law_wide (law_run X1 lu_c45a_ok (lh_45a hi hM (fun M1 h1 => law_run X1 lu_c45b_ok (lh_45b hi h1.1 (fun M2 h2 => fin h1 h2)))))
  · exact law_wide (law_run X1 lu_c46a_ok (lh_46a hi (T := tdS 288 [.ref 124, .int (xs (i + 1).toNatClampNeg)]) (dropS (act_46 hM hT _)) (fun M1 h1 => law_run X1 lu_c46b_ok (lh_46b hi (T := fun M9 => ab_ok hp hN M9 ∧ LIS M9) h1.2 (fun M2 h2 => hk M2 h2.1 h2.2)))))
  · exact law_wide (law_run X1 lu_c47a_ok (lh_47a (T := tdS 289 [.ref 124]) (dropS (act_47 hM hT)) (fun M1 h1 => law_run X1 lu_c47b_ok (lh_47b (T := fun M9 => ab_ok hp hN M9 ∧ LIS M9) h1.2 (fun M2 h2 => hk M2 h2.1 h2.2)))))
  · exact law_wide (law_run X1 lu_c48a_ok (lh_48a hi (T := tdS 290 [.ref 124, .int (xs (i + 1).toNatClampNeg)]) (dropS (act_48 hM hT _)) (fun M1 h1 => law_run X1 lu_c48b_ok (lh_48b hi (T := fun M9 => ab_ok hp hN M9 ∧ LIS M9) h1.2 (fun M2 h2 => hk M2 h2.1 h2.2)))))
  · exact law_wide (law_run X1 lu_c49a_ok (lh_49a (T := tdS 291 [.ref 124]) (dropS (act_49 hM hT)) (fun M1 h1 => law_run X1 lu_c49b_ok (lh_49b (T := fun M9 => ab_ok hp hN M9 ∧ LIS M9) h1.2 (fun M2 h2 => hk M2 h2.1 h2.2)))))
  · exact law_wide (law_run X1 lu_c50a_ok (lh_50a (T := tdS 292 [.ref 124]) (dropS (act_50 hM hT)) (fun M1 h1 => law_run X1 lu_c50b_ok (lh_50b (T := fun M9 => ab_ok hp hN M9 ∧ LIS M9) h1.2 (fun M2 h2 => hk M2 h2.1 h2.2)))))
  · exact law_wide (law_run X1 lu_c51a_ok (lh_51a hi (T := tdS 293 [.ref 124, .int (xs (i + 1).toNatClampNeg)]) (dropS (act_51 hM hT _)) (fun M1 h1 => law_run X1 lu_c51b_ok (lh_51b hi (T := fun M9 => ab_ok hp hN M9 ∧ LIS M9) h1.2 (fun M2 h2 => hk M2 h2.1 h2.2)))))
  · exact law_run X lu_c52a_ok (lh_52a hi (led_law hl0 C0 (by omega) X hM (fun r M1 h1 => law_run X1 lu_c52b_ok (lh_52b hi h1.1 (fun M2 h2 => fin h1 h2)))))
  · exact law_wide (law_run X1 lu_c53a_ok (lh_53a hi hM (fun M1 h1 => law_run X1 lu_c53b_ok (lh_53b hi h1.1 (fun M2 h2 => fin h1 h2)))))
  · exact law_wide (law_run X1 lu_c54a_ok (lh_54a hM (fun M1 h1 => law_run X1 lu_c54b_ok (lh_54b h1.1 (fun M2 h2 => fin h1 h2)))))
theorem law_loop (hl0 : l.stackTraces = false) (hL : L ≤ 3072) (C0 : lw_At p s m meth c b L xs) (X : cm_X p room_1 s m #[Value.ref b] c code 7 "BarberMinutesLaw" D (law_A s) adr 137 3193 (some (L, xs))) : ∀ (f t : Nat) (i : Int32) (M : cm_M), i.toInt = 6 * (t : Int) → t ≤ 512 → L ≤ 6 * t + f → ab_ok hp hN M → LIS M → law_G p l e s m below meth c b D adr t (23, law_L i, [], M) := by
  intro f
  induction f with
  | zero =>
    intro t i M hi ht hf hM hT
    have Xt := law_Xt X (t := t) (by omega)
    exact law_head Xt hL (by omega) (law_end (by omega) C0 Xt) (fun h6 => by omega)
  | succ f ih =>
    intro t i M hi ht hf hM hT
    have Xt := law_Xt X (t := t) (by omega)
    refine law_head Xt hL (by omega) (law_end (by omega) C0 Xt) (fun h6 => ?_)
    have X1 := law_Xt X (t := t + 1) (by omega)
    refine law_cases (by omega) hl0 C0 Xt X1 ⟨by omega, h6, hL⟩ hM hT (fun M' h1 h2 => law_next X1 (ih (t + 1) (i + 6) M' ?_ (by omega) (by omega) h1 h2))
    have e6 : (6 : Int32).toInt = 6 := by decide
    rw [Int32.toInt_add, e6, ev_bm (by omega) (by omega)]
    omega
end LAW
set_option maxRecDepth 1000000 in
theorem st_K_full : ∀ r ∈ st_K, r = ((-2147483648 : Int), (2147483647 : Int)) := by decide +kernel
set_option maxHeartbeats 4000000 in
set_option maxRecDepth 100000 in
theorem whole_start {p : Program} {e : Env} {s : State} {m : MethodId} {below : List Frame} {meth : Method} {c : Code} (l : Launch) (hl0 : l.stackTraces = false) {b L : Nat} {xs : Nat → Int32} (hL : L ≤ 3072) (C0 : lw_At p s m meth c b L xs) : W p l e room_1 s m #[Value.ref b] below meth c s.heap [] 0 0 (lw_Z below #[Value.ref b] s) (entryFrame m ([Value.ref b] : List Value).toArray 7) := by
  obtain ⟨D, X, hX0, hXe⟩ := law_facts C0
  have hl := lv_entry ([Value.ref b]) (n := 7) (Nat.le_of_ble_eq_true rfl)
  rw [lg_entry_eq]
  refine ev_run_ok (P := law_P 0) (g0 := law_g X) ev_ms_ok (ev_exec_ok ev_ms_ok 12) ⟨by decide, by decide⟩ hXe law_a_ok 2000 _ _ run_a (fun o ho => ?_) (law_g X) [] s.heap [] _ [] (ev_le_rf _) ⟨(fun k q h => by cases h), ⟨(fun i j p q h => by cases h), (fun k q h => by cases h)⟩, va_S.rf, ⟨rfl, rfl, (fun k c q h => by cases h)⟩, ⟨rfl, (fun k r x h1 h2 => ?_)⟩, ⟨hl.1, hl.2.1, (fun q hq => ?_)⟩, trivial⟩
  · cases List.mem_singleton.mp ho
    exact tc_start C0 hX0 hXe (fun adr Xc => law_loop hl0 hL C0 Xc L 0 0 (tc_M st_w) (by decide) (by decide) (by omega) in_all in_I5S)
  · have := st_K_full r (List.mem_of_getElem? h1)
    subst this
    exact ⟨ev_lo x, ev_hi x⟩
  · cases List.mem_singleton.mp hq
    refine ⟨.ref b, ?_, hl.2.2 (0, .ref b) List.mem_cons_self⟩
    show some (Value.ref (X 0)) = _
    rw [hX0]
