/-- the class's object and its minutes, told -/
noncomputable def gb (T T' : Nat) (C : cm_M) : cm_M := (C.1, C.2.1, fun c i => if c = 0 then (if i = 0 then some 1 else if i = 2 then some 2 else if i = 3 then some T' else if i = 4 then some T else if i = 5 then some 32 else if i = 7 then some 38 else C.2.2 0 i) else if c = 32 then (if i = 0 then some 33 else if i = 1 then some 34 else C.2.2 32 i) else C.2.2 c i)
noncomputable abbrev rg_K (T T' N : Nat) (C : cm_M) : cm_K := fun v M' => ∃ X E, Ex T N (rd0 T (Int32.ofNat N) (gb T T' C)) X ∧ E.1 = (fin T X).1 ∧ M' = fr T (gb T T' E) ∧ v = some (.int (E.1 2 9))
theorem rg_of {T T' N : Nat} {C : cm_M} (hT : 6 ≤ T) {v : Option Value} {M' : cm_M} (h : rd_K T N (rd0 T (Int32.ofNat N) (gb T T' C)) v M') : rg_K T T' N C v M' := by
  obtain ⟨X, hX, hR, hM, hv⟩ := h
  have hr : (fin T X).2.2 = (fr T (gb T T' C)).2.2 := (PG_fin (T := T) (N := N)).2.1.trans (PG_Ex hT hX).2.1
  have eZ : fin T X = fr T (gb T T' ((fin T X).1, (fin T X).2.1, C.2.2)) := Prod.ext rfl (Prod.ext rfl hr)
  refine ⟨X, ((fin T X).1, (fin T X).2.1, C.2.2), hX, rfl, ?_, hv⟩
  rw [hM]
  exact (congrArg (fr T) eZ).trans (fr_fr T _)
noncomputable def bs (T h : Nat) (M : cm_M) : cm_M := (M.1, M.2.1, fun c i => if c = T ∧ i = 5 then some h else if c = 32 ∧ i = 0 then some 33 else if c = 32 ∧ i = 1 then some 34 else M.2.2 c i)
theorem bs_eq {T h : Nat} {M : cm_M} (h1 : M.2.2 T 5 = some h) (h2 : M.2.2 32 0 = some 33) (h3 : M.2.2 32 1 = some 34) : bs T h M = M := by
  refine Prod.ext rfl (Prod.ext rfl (funext fun c => funext fun i => ?_))
  show (if c = T ∧ i = 5 then some h else if c = 32 ∧ i = 0 then some 33 else if c = 32 ∧ i = 1 then some 34 else M.2.2 c i) = M.2.2 c i
  by_cases q1 : c = T ∧ i = 5
  · rw [if_pos q1, q1.1, q1.2, h1]
  · rw [if_neg q1]
    by_cases q2 : c = 32 ∧ i = 0
    · rw [if_pos q2, q2.1, q2.2, h2]
    · rw [if_neg q2]
      by_cases q3 : c = 32 ∧ i = 1
      · rw [if_pos q3, q3.1, q3.2, h3]
      · rw [if_neg q3]
noncomputable def bgF (h : Nat) (M : cm_M) : cm_M := cm_wi (cm_wi (cm_wi (cm_wi (cm_wi (cm_cp M h 0 33 0 6) 34 0 0) 34 1 0) 34 2 0) 32 2 0) 32 3 0
theorem f_forget (M : cm_M) : cm_Lc cm_ms 38 [.ref 38] M (fun v M' => v = none ∧ M' = cm_wi (cm_wi M 38 3 0) 38 4 0) := by
  refine lb_st0 (mi := mr_38) rfl 20 ?_
  exact ⟨rfl, rfl⟩
theorem f_granted (x : Int32) (M : cm_M) : cm_Lc cm_ms 159 [.ref 0, .int x] M (fun v M' => v = some (.int x) ∧ M' = cm_wi M 0 14 0) := by
  refine lb_st0 (mi := mr_159) rfl 20 ?_
  exact ⟨rfl, rfl⟩
theorem f_refused (x : Int32) (M : cm_M) : cm_Lc cm_ms 157 [.ref 0, .int x] M (fun v M' => v = some (.int (-1)) ∧ M' = cm_wi M 0 14 x) := by
  refine lb_st0 (mi := mr_157) rfl 20 ?_
  exact ⟨rfl, rfl⟩
theorem f_place (M : cm_M) : cm_Lc cm_ms 65 [.ref 2] M (fun v M' => v = some (.int (M.1 2 4)) ∧ M' = M) := by
  refine lb_st0 (mi := mr_65) rfl 20 ?_
  exact ⟨rfl, rfl⟩
set_option maxRecDepth 100000 in
set_option maxHeartbeats 4000000 in
theorem f_begin60 (M : cm_M) : cm_Lc cm_ms 22 [.ref 32, .ref 6] (bs 6 8 M) (fun v M' => v = none ∧ M' = bgF 8 (bs 6 8 M)) := by
  refine lb_st0 (mi := mr_22) rfl 120 ?_
  show (ev_cmp 3 (0 : Int32) 3 = true → _) ∧ (ev_cmp 3 (0 : Int32) 3 = false → _)
  refine ⟨fun q => absurd q (by decide), fun _ => ?_⟩
  show (ev_cmp 3 (1 : Int32) 3 = true → _) ∧ (ev_cmp 3 (1 : Int32) 3 = false → _)
  refine ⟨fun q => absurd q (by decide), fun _ => ?_⟩
  show (ev_cmp 3 (2 : Int32) 3 = true → _) ∧ (ev_cmp 3 (2 : Int32) 3 = false → _)
  refine ⟨fun q => absurd q (by decide), fun _ => ?_⟩
  show (ev_cmp 3 (3 : Int32) 3 = true → _) ∧ (ev_cmp 3 (3 : Int32) 3 = false → _)
  refine ⟨fun _ => ?_, fun q => absurd q (by decide)⟩
  exact ⟨rfl, rfl⟩
theorem f_begin6 {M : cm_M} (h1 : M.2.2 6 5 = some 8) (h2 : M.2.2 32 0 = some 33) (h3 : M.2.2 32 1 = some 34) : cm_Lc cm_ms 22 [.ref 32, .ref 6] M (fun v M' => v = none ∧ M' = bgF 8 M) := by
  have q := f_begin60 M
  rw [bs_eq h1 h2 h3] at q
  exact q
noncomputable def ct_B6 (T' : Nat) (E M' : cm_M) : Prop := M' = cm_wi (cm_wi (cm_wi (fr 6 (gb 6 T' E)) 0 12 (E.1 2 9)) 0 13 (E.1 2 4)) 0 14 4
noncomputable def ct_G6 (T' : Nat) (E M' : cm_M) : Prop := M' = cm_wi (cm_wi (cm_wi (bgF 8 (cm_wr (cm_wr (cm_wi (fr 6 (gb 6 T' E)) 0 12 (E.1 2 9)) 0 4 (some T')) 0 3 (some 6))) 38 3 0) 38 4 0) 0 14 0
noncomputable abbrev ct_K6 (T' N : Nat) (C : cm_M) : cm_K := fun v M' => ∃ X E, Ex 6 N (rd0 6 (Int32.ofNat N) (gb 6 T' (cm_wi C 0 1 0))) X ∧ E.1 = (fin 6 X).1 ∧ ((fin 6 X).1 2 9 ≠ 0 → v = some (.int (-1)) ∧ ct_B6 T' E M') ∧ ((fin 6 X).1 2 9 = 0 → v = some (.int ((fin 6 X).1 6 3)) ∧ ct_G6 T' E M')
set_option maxRecDepth 100000 in
set_option maxHeartbeats 4000000 in
theorem c_town6 {T' N : Nat} {C : cm_M} (hN : N ≤ 900) (ht : (N : Int) ≤ (C.1 0 1).toInt) : cm_Lc cm_ms 95 [.ref 0, .int (Int32.ofNat N)] (fb (gb 6 T' C)) (ct_K6 T' N C) := by
  refine lb_st0 (mi := mr_95) rfl 120 ?_
  show (ev_cmp 2 (Int32.ofNat N) 0 = true → _) ∧ (ev_cmp 2 (Int32.ofNat N) 0 = false → _)
  refine ⟨fun h1 => ?_, fun h1 => ?_⟩
  · have g := fn_lt h1
    rw [fn_toInt (by omega), show (0 : Int32).toInt = 0 from by decide] at g
    omega
  · show (ev_cmp 5 (Int32.ofNat N) (C.1 0 1) = true → _) ∧ (ev_cmp 5 (Int32.ofNat N) (C.1 0 1) = false → _)
    refine ⟨fun h2 => ?_, fun h2 => ?_⟩
    · show ∃ R, cm_Lc cm_ms 64 [.ref 2, .ref 1, .int (Int32.ofNat N), .ref 6] (cm_wi (fb (gb 6 T' C)) 0 1 0) R ∧ ∀ v M', R v M' → _
      refine ⟨_, cm_Lc_im (f_read6 (N := N) (C := gb 6 T' (cm_wi C 0 1 0)) hN) (fun v M' q => rg_of (by decide) q), ?_⟩
      rintro v M' ⟨X, E, hX, hE, rfl, rfl⟩
      show (ev_cmp 0 (E.1 2 9) 0 = true → _) ∧ (ev_cmp 0 (E.1 2 9) 0 = false → _)
      refine ⟨fun h3 => ?_, fun h3 => ?_⟩
      · have z := fn_eq0 h3
        show ∃ R, cm_Lc cm_ms 22 [.ref 32, .ref 6] (cm_wr (cm_wr (cm_wi (fr 6 (gb 6 T' E)) 0 12 (E.1 2 9)) 0 4 (some T')) 0 3 (some 6)) R ∧ ∀ v M', R v M' → _
        refine ⟨_, f_begin6 rfl rfl rfl, ?_⟩
        rintro v M' ⟨rfl, rfl⟩
        show ∃ R, cm_Lc cm_ms 38 [.ref 38] (bgF 8 (cm_wr (cm_wr (cm_wi (fr 6 (gb 6 T' E)) 0 12 (E.1 2 9)) 0 4 (some T')) 0 3 (some 6))) R ∧ ∀ v M', R v M' → _
        refine ⟨_, f_forget _, ?_⟩
        rintro v M' ⟨rfl, rfl⟩
        show ∃ R, cm_Lc cm_ms 159 [.ref 0, .int ((cm_wi (cm_wi (bgF 8 (cm_wr (cm_wr (cm_wi (fr 6 (gb 6 T' E)) 0 12 (E.1 2 9)) 0 4 (some T')) 0 3 (some 6))) 38 3 0) 38 4 0).1 6 3)] (cm_wi (cm_wi (bgF 8 (cm_wr (cm_wr (cm_wi (fr 6 (gb 6 T' E)) 0 12 (E.1 2 9)) 0 4 (some T')) 0 3 (some 6))) 38 3 0) 38 4 0) R ∧ ∀ v M', R v M' → _
        refine ⟨_, f_granted _ _, ?_⟩
        rintro v M' ⟨rfl, rfl⟩
        show ct_K6 T' N C (some (.int ((cm_wi (cm_wi (bgF 8 (cm_wr (cm_wr (cm_wi (fr 6 (gb 6 T' E)) 0 12 (E.1 2 9)) 0 4 (some T')) 0 3 (some 6))) 38 3 0) 38 4 0).1 6 3))) (cm_wi (cm_wi (cm_wi (bgF 8 (cm_wr (cm_wr (cm_wi (fr 6 (gb 6 T' E)) 0 12 (E.1 2 9)) 0 4 (some T')) 0 3 (some 6))) 38 3 0) 38 4 0) 0 14 0)
        exact ⟨X, E, hX, hE, fun q => absurd (by rw [← hE]; exact z) q, fun _ => ⟨by rw [← hE]; try rfl, rfl⟩⟩
      · have z := fn_ne0 h3
        show ∃ R, cm_Lc cm_ms 65 [.ref 2] (cm_wi (fr 6 (gb 6 T' E)) 0 12 (E.1 2 9)) R ∧ ∀ v M', R v M' → _
        refine ⟨_, f_place _, ?_⟩
        rintro v M' ⟨rfl, rfl⟩
        show ∃ R, cm_Lc cm_ms 157 [.ref 0, .int 4] (cm_wi (cm_wi (fr 6 (gb 6 T' E)) 0 12 (E.1 2 9)) 0 13 (E.1 2 4)) R ∧ ∀ v M', R v M' → _
        refine ⟨_, f_refused 4 _, ?_⟩
        rintro v M' ⟨rfl, rfl⟩
        show ct_K6 T' N C (some (.int (-1))) (cm_wi (cm_wi (cm_wi (fr 6 (gb 6 T' E)) 0 12 (E.1 2 9)) 0 13 (E.1 2 4)) 0 14 4)
        exact ⟨X, E, hX, hE, fun _ => ⟨rfl, rfl⟩, fun q => absurd (by rw [hE]; exact q) z⟩
    · have g := fn_nle h2
      rw [fn_toInt (by omega)] at g
      omega
set_option maxRecDepth 100000 in
set_option maxHeartbeats 4000000 in
theorem f_begin190 (M : cm_M) : cm_Lc cm_ms 22 [.ref 32, .ref 19] (bs 19 21 M) (fun v M' => v = none ∧ M' = bgF 21 (bs 19 21 M)) := by
  refine lb_st0 (mi := mr_22) rfl 120 ?_
  show (ev_cmp 3 (0 : Int32) 3 = true → _) ∧ (ev_cmp 3 (0 : Int32) 3 = false → _)
  refine ⟨fun q => absurd q (by decide), fun _ => ?_⟩
  show (ev_cmp 3 (1 : Int32) 3 = true → _) ∧ (ev_cmp 3 (1 : Int32) 3 = false → _)
  refine ⟨fun q => absurd q (by decide), fun _ => ?_⟩
  show (ev_cmp 3 (2 : Int32) 3 = true → _) ∧ (ev_cmp 3 (2 : Int32) 3 = false → _)
  refine ⟨fun q => absurd q (by decide), fun _ => ?_⟩
  show (ev_cmp 3 (3 : Int32) 3 = true → _) ∧ (ev_cmp 3 (3 : Int32) 3 = false → _)
  refine ⟨fun _ => ?_, fun q => absurd q (by decide)⟩
  exact ⟨rfl, rfl⟩
theorem f_begin19 {M : cm_M} (h1 : M.2.2 19 5 = some 21) (h2 : M.2.2 32 0 = some 33) (h3 : M.2.2 32 1 = some 34) : cm_Lc cm_ms 22 [.ref 32, .ref 19] M (fun v M' => v = none ∧ M' = bgF 21 M) := by
  have q := f_begin190 M
  rw [bs_eq h1 h2 h3] at q
  exact q
noncomputable def ct_B19 (T' : Nat) (E M' : cm_M) : Prop := M' = cm_wi (cm_wi (cm_wi (fr 19 (gb 19 T' E)) 0 12 (E.1 2 9)) 0 13 (E.1 2 4)) 0 14 4
noncomputable def ct_G19 (T' : Nat) (E M' : cm_M) : Prop := M' = cm_wi (cm_wi (cm_wi (bgF 21 (cm_wr (cm_wr (cm_wi (fr 19 (gb 19 T' E)) 0 12 (E.1 2 9)) 0 4 (some T')) 0 3 (some 19))) 38 3 0) 38 4 0) 0 14 0
noncomputable abbrev ct_K19 (T' N : Nat) (C : cm_M) : cm_K := fun v M' => ∃ X E, Ex 19 N (rd0 19 (Int32.ofNat N) (gb 19 T' (cm_wi C 0 1 0))) X ∧ E.1 = (fin 19 X).1 ∧ ((fin 19 X).1 2 9 ≠ 0 → v = some (.int (-1)) ∧ ct_B19 T' E M') ∧ ((fin 19 X).1 2 9 = 0 → v = some (.int ((fin 19 X).1 19 3)) ∧ ct_G19 T' E M')
set_option maxRecDepth 100000 in
set_option maxHeartbeats 4000000 in
theorem c_town19 {T' N : Nat} {C : cm_M} (hN : N ≤ 900) (ht : (N : Int) ≤ (C.1 0 1).toInt) : cm_Lc cm_ms 95 [.ref 0, .int (Int32.ofNat N)] (fb (gb 19 T' C)) (ct_K19 T' N C) := by
  refine lb_st0 (mi := mr_95) rfl 120 ?_
  show (ev_cmp 2 (Int32.ofNat N) 0 = true → _) ∧ (ev_cmp 2 (Int32.ofNat N) 0 = false → _)
  refine ⟨fun h1 => ?_, fun h1 => ?_⟩
  · have g := fn_lt h1
    rw [fn_toInt (by omega), show (0 : Int32).toInt = 0 from by decide] at g
    omega
  · show (ev_cmp 5 (Int32.ofNat N) (C.1 0 1) = true → _) ∧ (ev_cmp 5 (Int32.ofNat N) (C.1 0 1) = false → _)
    refine ⟨fun h2 => ?_, fun h2 => ?_⟩
    · show ∃ R, cm_Lc cm_ms 64 [.ref 2, .ref 1, .int (Int32.ofNat N), .ref 19] (cm_wi (fb (gb 19 T' C)) 0 1 0) R ∧ ∀ v M', R v M' → _
      refine ⟨_, cm_Lc_im (f_read19 (N := N) (C := gb 19 T' (cm_wi C 0 1 0)) hN) (fun v M' q => rg_of (by decide) q), ?_⟩
      rintro v M' ⟨X, E, hX, hE, rfl, rfl⟩
      show (ev_cmp 0 (E.1 2 9) 0 = true → _) ∧ (ev_cmp 0 (E.1 2 9) 0 = false → _)
      refine ⟨fun h3 => ?_, fun h3 => ?_⟩
      · have z := fn_eq0 h3
        show ∃ R, cm_Lc cm_ms 22 [.ref 32, .ref 19] (cm_wr (cm_wr (cm_wi (fr 19 (gb 19 T' E)) 0 12 (E.1 2 9)) 0 4 (some T')) 0 3 (some 19)) R ∧ ∀ v M', R v M' → _
        refine ⟨_, f_begin19 rfl rfl rfl, ?_⟩
        rintro v M' ⟨rfl, rfl⟩
        show ∃ R, cm_Lc cm_ms 38 [.ref 38] (bgF 21 (cm_wr (cm_wr (cm_wi (fr 19 (gb 19 T' E)) 0 12 (E.1 2 9)) 0 4 (some T')) 0 3 (some 19))) R ∧ ∀ v M', R v M' → _
        refine ⟨_, f_forget _, ?_⟩
        rintro v M' ⟨rfl, rfl⟩
        show ∃ R, cm_Lc cm_ms 159 [.ref 0, .int ((cm_wi (cm_wi (bgF 21 (cm_wr (cm_wr (cm_wi (fr 19 (gb 19 T' E)) 0 12 (E.1 2 9)) 0 4 (some T')) 0 3 (some 19))) 38 3 0) 38 4 0).1 19 3)] (cm_wi (cm_wi (bgF 21 (cm_wr (cm_wr (cm_wi (fr 19 (gb 19 T' E)) 0 12 (E.1 2 9)) 0 4 (some T')) 0 3 (some 19))) 38 3 0) 38 4 0) R ∧ ∀ v M', R v M' → _
        refine ⟨_, f_granted _ _, ?_⟩
        rintro v M' ⟨rfl, rfl⟩
        show ct_K19 T' N C (some (.int ((cm_wi (cm_wi (bgF 21 (cm_wr (cm_wr (cm_wi (fr 19 (gb 19 T' E)) 0 12 (E.1 2 9)) 0 4 (some T')) 0 3 (some 19))) 38 3 0) 38 4 0).1 19 3))) (cm_wi (cm_wi (cm_wi (bgF 21 (cm_wr (cm_wr (cm_wi (fr 19 (gb 19 T' E)) 0 12 (E.1 2 9)) 0 4 (some T')) 0 3 (some 19))) 38 3 0) 38 4 0) 0 14 0)
        exact ⟨X, E, hX, hE, fun q => absurd (by rw [← hE]; exact z) q, fun _ => ⟨by rw [← hE]; try rfl, rfl⟩⟩
      · have z := fn_ne0 h3
        show ∃ R, cm_Lc cm_ms 65 [.ref 2] (cm_wi (fr 19 (gb 19 T' E)) 0 12 (E.1 2 9)) R ∧ ∀ v M', R v M' → _
        refine ⟨_, f_place _, ?_⟩
        rintro v M' ⟨rfl, rfl⟩
        show ∃ R, cm_Lc cm_ms 157 [.ref 0, .int 4] (cm_wi (cm_wi (fr 19 (gb 19 T' E)) 0 12 (E.1 2 9)) 0 13 (E.1 2 4)) R ∧ ∀ v M', R v M' → _
        refine ⟨_, f_refused 4 _, ?_⟩
        rintro v M' ⟨rfl, rfl⟩
        show ct_K19 T' N C (some (.int (-1))) (cm_wi (cm_wi (cm_wi (fr 19 (gb 19 T' E)) 0 12 (E.1 2 9)) 0 13 (E.1 2 4)) 0 14 4)
        exact ⟨X, E, hX, hE, fun _ => ⟨rfl, rfl⟩, fun q => absurd (by rw [hE]; exact q) z⟩
    · have g := fn_nle h2
      rw [fn_toInt (by omega)] at g
      omega
theorem c_town2 {n : Int32} {M : cm_M} (hn : ¬ (0 ≤ n.toInt ∧ n.toInt ≤ (M.1 0 1).toInt)) : cm_Lc cm_ms 95 [.ref 0, .int n] M (fun v M' => v = some (.int (-1)) ∧ M' = cm_wi M 0 14 2) := by
  refine lb_of (mi := mr_95) rfl [(12, [0])] (fun S => S = (12, [(0, .ref 0)], [], M)) 20 (fun S hS => ?_) 20 ?_
  · subst hS
    show ∃ R, cm_Lc cm_ms 157 [.ref 0, .int 2] M R ∧ ∀ v M', R v M' → _
    refine ⟨_, f_refused 2 M, ?_⟩
    rintro v M' ⟨rfl, rfl⟩
    exact ⟨rfl, rfl⟩
  · show (ev_cmp 2 n 0 = true → _) ∧ (ev_cmp 2 n 0 = false → (ev_cmp 5 n (M.1 0 1) = true → _) ∧ (ev_cmp 5 n (M.1 0 1) = false → _))
    refine ⟨fun _ => rfl, fun q1 => ⟨fun q2 => ?_, fun _ => rfl⟩⟩
    have g1 := fn_nlt q1
    have g2 := fn_le q2
    have z0 : (0 : Int32).toInt = 0 := by decide
    exact absurd ⟨by omega, g2⟩ hn
