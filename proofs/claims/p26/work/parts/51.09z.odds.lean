noncomputable def od_inl : List (Nat × ev_MI) := [(164, mr_164), (165, mr_165), (167, mr_167), (206, mr_206)]
theorem od_in : ∀ q ∈ od_inl, cm_ms[q.1]? = some q.2 := List.forall_mem_cons.mpr ⟨rfl, List.forall_mem_cons.mpr ⟨rfl, List.forall_mem_cons.mpr ⟨rfl, List.forall_mem_cons.mpr ⟨rfl, fun _ h => nomatch h⟩⟩⟩⟩
noncomputable def od_ct : ab_Ct := (282, [(1, 0, [124]), (3, 0, []), (3, 1, [])], [((-2147483648), 2147483647, 0, (0, 0, []), (0, 0, [])), (0, 1, 0, (0, 0, []), (0, 0, []))], [], [(124, [0, 11, 31, 32, 33]), (132, [])], [([(6, 0, [])], [((-2147483648), 2147483647, 0, (0, 0, []), (0, 0, [])), (0, 1, 0, (0, 0, []), (0, 0, []))], [])])
noncomputable def od_T : ab_Tm := ((19, [(0, (1, 0, [124])), (1, (3, 2, [])), (2, (3, 1, []))], [], [((-2147483648), 2147483647, 0, (0, 0, []), (0, 0, [])), (0, 1, 0, (0, 0, []), (0, 0, [])), (0, 4, 0, (0, 0, []), (0, 0, []))], []), [])
set_option maxRecDepth 1000000 in
theorem od_chk : ab_chk1 cm_ms hp [] od_inl 2 200 od_ct mr_282 [od_T] none (0, ab_args 0 od_ct.2.1, [], od_ct.2.2.1, od_ct.2.2.2.1) = true := by decide +kernel
theorem hd_od {d : Nat} (hd : 1 ≤ d) (hG : ab_CT cm_ms hp hN d tc_go) (hY : ab_CT cm_ms hp hN d tc_yes) (hE : ab_CT cm_ms hp hN d tc_en) : ab_CT cm_ms hp hN (d + 4) od_ct := by
  intro ρ vs M gs gk gok gca
  refine cm_Call_of cm_ms_ok (k := 282) (mi := mr_282) rfl (by rw [ab_cs_ok gs]; decide) ?_
  refine ab_chk1_ok (us := []) (inl := od_inl) (hin := od_in) (d := d + 1) (dd := 2) (n := 200) (c := od_ct) (tms := [od_T]) (mu := none) (e := []) cm_ms_ok cm_ms_rc hNP (fun _ h => absurd h List.not_mem_nil) rfl gk.1.symm od_chk ⟨rfl, by rw [ab_nil]; exact ab_args_ok 0 gs, trivial, by rw [ab_nil]; exact gk, gok, ab_fr_rf _ _, by rw [ab_nil]; exact gca⟩ (fun T hT eT C' hG' _ => ?_) (fun m hm => by cases hm)
  have hT := List.mem_singleton.mp hT
  subst hT
  obtain ⟨g1, g2, g3, g4, g5⟩ := hG'
  obtain ⟨pc, CL, sc, M'⟩ := C'
  dsimp only at g1 g2 g3 g4 g5
  have g1 : pc = 19 := g1
  subst g1
  have hsc := ab_s_nil g3
  subst hsc
  obtain ⟨v0, l0, c0, hc0, rfl⟩ := g2 (0, (1, 0, [124])) List.mem_cons_self
  obtain ⟨v1, l1, x1, hx1, rfl⟩ := g2 (1, (3, 2, [])) (List.mem_cons_of_mem _ List.mem_cons_self)
  obtain ⟨v2, l2, x2, hx2, rfl⟩ := g2 (2, (3, 1, [])) (List.mem_cons_of_mem _ (List.mem_cons_of_mem _ List.mem_cons_self))
  have hc0 := List.mem_singleton.mp hc0
  subst hc0
  have hb := (g4.2 2 _ x1 rfl hx1).1
  obtain ⟨b1, b2⟩ := hb
  dsimp only at b1 b2
  refine ts_sub (L' := [(0, .ref 124), (1, .int x1), (2, .int x2)]) ?_ (fun q hq => ?_)
  rotate_left
  · simp only [List.mem_cons, List.not_mem_nil, or_false] at hq
    rcases hq with rfl | rfl | rfl
    · exact l0
    · exact l1
    · exact l2
  refine cm_At_run cm_ms_ok (k := 282) rfl (stops := []) (J := fun _ => False) (fun S hS => hS.elim) (n := 30) ?_
  show cm_cs [] ≤ 8 ∧ ev_nar1 _ _ = true ∧ (_ → _) ∧ cm_Call cm_ms (d + 1 + 2) 281 [.ref 124, .int x1] M' _
  refine ⟨by decide, by decide, fun _ => Or.inr rfl, cm_Call_up (hd_shaves hd hG hY hE g5.1 b1 b2) (by omega) (fun v M2 hv => ?_)⟩
  obtain ⟨rfl, q1, q2, q3⟩ := hv
  show (cm_kind 124).1 = _ ∧ _ < _ ∧ (cm_kind 124).1 = _ ∧ _ < _ ∧ cm_cs [] ≤ 8 ∧ ev_nar1 _ _ = true ∧ (_ → _) ∧ cm_Call cm_ms (d + 1 + 2) 171 [.long (M2.2.1 124 32), .long (M2.2.1 124 31), .int x2] M2 _
  refine ⟨by decide, by decide, by decide, by decide, by decide, by decide, fun h => absurd h (by decide), cm_Call_up (hd_lowest M2 _ _ x2 q3) (by omega) (fun v M3 hv => ?_)⟩
  obtain ⟨⟨x, rfl⟩, rfl⟩ := hv
  show ab_Post hp hN M od_ct.2.2.2.2.1 ρ od_ct.2.2.2.2.2 (some (.long x)) M3
  refine ⟨_, List.mem_singleton.mpr rfl, [], ⟨⟨x, rfl⟩, trivial⟩, by rw [ab_nil]; exact gk, q1, fun c i hc => ?_, fun q hq => nomatch hq⟩
  obtain ⟨a1, a2, a3⟩ := g5.2.1 c i hc
  obtain ⟨f1, f2, f3⟩ := q2 c i (ab_mds_ok (by decide) hc)
  exact ⟨f1.trans a1, f2.trans a2, f3.trans a3⟩
noncomputable def me_ct : ab_Ct := (283, [(1, 0, [124]), (3, 0, []), (3, 1, [])], [((-2147483648), 2147483647, 0, (0, 0, []), (0, 0, [])), (0, 1, 0, (0, 0, []), (0, 0, []))], [], [(124, [0, 11, 31, 32, 33]), (132, [])], [([(6, 0, [])], [((-2147483648), 2147483647, 0, (0, 0, []), (0, 0, [])), (0, 1, 0, (0, 0, []), (0, 0, []))], [])])
noncomputable def me_T : ab_Tm := ((19, [(0, (1, 0, [124])), (1, (3, 2, [])), (2, (3, 1, []))], [], [((-2147483648), 2147483647, 0, (0, 0, []), (0, 0, [])), (0, 1, 0, (0, 0, []), (0, 0, [])), (0, 4, 0, (0, 0, []), (0, 0, []))], []), [])
set_option maxRecDepth 1000000 in
theorem me_chk : ab_chk1 cm_ms hp [] od_inl 2 200 me_ct mr_283 [me_T] none (0, ab_args 0 me_ct.2.1, [], me_ct.2.2.1, me_ct.2.2.2.1) = true := by decide +kernel
theorem hd_me {d : Nat} (hd : 1 ≤ d) (hG : ab_CT cm_ms hp hN d tc_go) (hY : ab_CT cm_ms hp hN d tc_yes) (hE : ab_CT cm_ms hp hN d tc_en) : ab_CT cm_ms hp hN (d + 4) me_ct := by
  intro ρ vs M gs gk gok gca
  refine cm_Call_of cm_ms_ok (k := 283) (mi := mr_283) rfl (by rw [ab_cs_ok gs]; decide) ?_
  refine ab_chk1_ok (us := []) (inl := od_inl) (hin := od_in) (d := d + 1) (dd := 2) (n := 200) (c := me_ct) (tms := [me_T]) (mu := none) (e := []) cm_ms_ok cm_ms_rc hNP (fun _ h => absurd h List.not_mem_nil) rfl gk.1.symm me_chk ⟨rfl, by rw [ab_nil]; exact ab_args_ok 0 gs, trivial, by rw [ab_nil]; exact gk, gok, ab_fr_rf _ _, by rw [ab_nil]; exact gca⟩ (fun T hT eT C' hG' _ => ?_) (fun m hm => by cases hm)
  have hT := List.mem_singleton.mp hT
  subst hT
  obtain ⟨g1, g2, g3, g4, g5⟩ := hG'
  obtain ⟨pc, CL, sc, M'⟩ := C'
  dsimp only at g1 g2 g3 g4 g5
  have g1 : pc = 19 := g1
  subst g1
  have hsc := ab_s_nil g3
  subst hsc
  obtain ⟨v0, l0, c0, hc0, rfl⟩ := g2 (0, (1, 0, [124])) List.mem_cons_self
  obtain ⟨v1, l1, x1, hx1, rfl⟩ := g2 (1, (3, 2, [])) (List.mem_cons_of_mem _ List.mem_cons_self)
  obtain ⟨v2, l2, x2, hx2, rfl⟩ := g2 (2, (3, 1, [])) (List.mem_cons_of_mem _ (List.mem_cons_of_mem _ List.mem_cons_self))
  have hc0 := List.mem_singleton.mp hc0
  subst hc0
  have hb := (g4.2 2 _ x1 rfl hx1).1
  obtain ⟨b1, b2⟩ := hb
  dsimp only at b1 b2
  refine ts_sub (L' := [(0, .ref 124), (1, .int x1), (2, .int x2)]) ?_ (fun q hq => ?_)
  rotate_left
  · simp only [List.mem_cons, List.not_mem_nil, or_false] at hq
    rcases hq with rfl | rfl | rfl
    · exact l0
    · exact l1
    · exact l2
  refine cm_At_run cm_ms_ok (k := 283) rfl (stops := []) (J := fun _ => False) (fun S hS => hS.elim) (n := 30) ?_
  show cm_cs [] ≤ 8 ∧ ev_nar1 _ _ = true ∧ (_ → _) ∧ cm_Call cm_ms (d + 1 + 2) 281 [.ref 124, .int x1] M' _
  refine ⟨by decide, by decide, fun _ => Or.inr rfl, cm_Call_up (hd_shaves hd hG hY hE g5.1 b1 b2) (by omega) (fun v M2 hv => ?_)⟩
  obtain ⟨rfl, q1, q2, q3⟩ := hv
  show (cm_kind 124).1 = _ ∧ _ < _ ∧ (cm_kind 124).1 = _ ∧ _ < _ ∧ cm_cs [] ≤ 8 ∧ ev_nar1 _ _ = true ∧ (_ → _) ∧ cm_Call cm_ms (d + 1 + 2) 171 [.long (M2.2.1 124 33), .long (M2.2.1 124 31), .int x2] M2 _
  refine ⟨by decide, by decide, by decide, by decide, by decide, by decide, fun h => absurd h (by decide), cm_Call_up (hd_lowest M2 _ _ x2 q3) (by omega) (fun v M3 hv => ?_)⟩
  obtain ⟨⟨x, rfl⟩, rfl⟩ := hv
  show ab_Post hp hN M me_ct.2.2.2.2.1 ρ me_ct.2.2.2.2.2 (some (.long x)) M3
  refine ⟨_, List.mem_singleton.mpr rfl, [], ⟨⟨x, rfl⟩, trivial⟩, by rw [ab_nil]; exact gk, q1, fun c i hc => ?_, fun q hq => nomatch hq⟩
  obtain ⟨a1, a2, a3⟩ := g5.2.1 c i hc
  obtain ⟨f1, f2, f3⟩ := q2 c i (ab_mds_ok (by decide) hc)
  exact ⟨f1.trans a1, f2.trans a2, f3.trans a3⟩
