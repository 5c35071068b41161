noncomputable abbrev led_E : String := "java/util/NoSuchElementException"
noncomputable abbrev led_yx : MethodName := ⟨"BarberMinutes", "led", "(I)I"⟩
noncomputable abbrev led_yL : MethodName := ⟨"BarberMinutesLaw", "led", "(LBarberMinutes;I[J)I"⟩
noncomputable abbrev led_cx : ByteArray := prog_1_method_64_code
noncomputable abbrev led_cL : ByteArray := method_3_code
noncomputable def led_isC (w : Cond) : Bool := match w with
  | .castable _ _ => true
  | .declares _ => true
  | _ => false
/-- which class can stand for which, which method is declared: by the classes alone -/
noncomputable def led_Ca (U : State) : Prop := ∀ w ∈ lw_tbl, led_isC w = true → w.before #[] U = true
theorem led_Ca_moved {u U : State} (hvm : u.vm.Alike U.vm) (h : led_Ca u) : led_Ca U := fun w hw hc => by
  have h1 := h w hw hc
  unfold led_isC at hc
  split at hc
  · exact va_tabs (u := u.setVm U.vm) rfl rfl (by rw [Cond.castable_setVm hvm]; exact h1)
  · exact va_tabs (u := u.setVm U.vm) rfl rfl (by rw [Cond.declares_setVm hvm]; exact h1)
  · cases hc
theorem led_Ca_use {U : State} {args : Array Value} (h : led_Ca U) {w : Cond} (hw : w ∈ lw_tbl) (hc : led_isC w = true) : w.before args U = true := by
  have h1 := h w hw hc
  unfold led_isC at hc
  split at hc
  · exact va_tabs rfl rfl h1
  · exact va_tabs rfl rfl h1
  · cases hc
set_option maxRecDepth 1000000 in
theorem led_at0 : (vx_at0 "BarberMinutes" 369 led_E ["java/lang/RuntimeException", "java/lang/Exception"]).all (fun w => decide (w ∈ lw_tbl) && (goodWord w || led_isC w)) = true := by decide +kernel
theorem led_at {w : Cond} (hw : w ∈ vx_at0 "BarberMinutes" 369 led_E ["java/lang/RuntimeException", "java/lang/Exception"]) : w ∈ lw_good ∨ (w ∈ lw_tbl ∧ led_isC w = true) := by
  have h1 := List.all_eq_true.mp led_at0 w hw
  simp only [Bool.and_eq_true, Bool.or_eq_true, decide_eq_true_eq] at h1
  obtain ⟨h2, h3 | h3⟩ := h1
  · exact Or.inl (List.mem_filter.mpr ⟨h2, h3⟩)
  · exact Or.inr ⟨h2, h3⟩
set_option maxRecDepth 1000000 in
theorem led_w1 : Cond.classLink "BarberMinutes" 367 led_E ∈ lw_good := lw_good_at 1236 (lw_at_ok (by decide +kernel)) (by decide +kernel)
set_option maxRecDepth 1000000 in
theorem led_w2 : Cond.initialized led_E ∈ lw_good := lw_good_at 136 (lw_at_ok (by decide +kernel)) (by decide +kernel)
set_option maxRecDepth 1000000 in
theorem led_w3 : Cond.code led_yx led_cx 4 (some .int) ∈ lw_good := lw_good_at 1235 (lw_at_ok (by decide +kernel)) (by decide +kernel)
set_option maxRecDepth 1000000 in
theorem led_w4 : Cond.codeWith led_yL led_cL 4 (some .int) [(0, 9, 12, 13)] ∈ lw_good := lw_good_at 1230 (lw_at_ok (by decide +kernel)) (by decide +kernel)
set_option maxRecDepth 1000000 in
theorem led_w5 : Cond.methodLink "BarberMinutesLaw" 7 led_yx ∈ lw_good := lw_good_at 1232 (lw_at_ok (by decide +kernel)) (by decide +kernel)
set_option maxRecDepth 1000000 in
theorem led_w6 : Cond.instanceMethod led_yx ∈ lw_good := lw_good_at 1233 (lw_at_ok (by decide +kernel)) (by decide +kernel)
set_option maxRecDepth 1000000 in
theorem led_w7 : Cond.selects "BarberMinutes" led_yx led_yx ∈ lw_good := lw_good_at 1234 (lw_at_ok (by decide +kernel)) (by decide +kernel)
set_option maxRecDepth 1000000 in
theorem led_w8 : Cond.initialized "BarberMinutes" ∈ lw_good := lw_good_at 116 (lw_at_ok (by decide +kernel)) (by decide +kernel)
set_option maxRecDepth 1000000 in
theorem led_w9 : Cond.classLink "BarberMinutesLaw" 13 led_E ∈ lw_good := lw_good_at 1231 (lw_at_ok (by decide +kernel)) (by decide +kernel)
set_option maxRecDepth 1000000 in
theorem led_w10 : Cond.castable led_E led_E ∈ lw_tbl := List.mem_of_getElem? (lw_at_ok (j := 1238) (by decide +kernel))
set_option maxRecDepth 1000000 in
theorem led_w11 : Cond.static led_yL ∈ lw_good := lw_good_at 1229 (lw_at_ok (by decide +kernel)) (by decide +kernel)
set_option maxRecDepth 1000000 in
theorem led_w12 : Cond.initialized "BarberMinutesLaw" ∈ lw_good := lw_good_at 115 (lw_at_ok (by decide +kernel)) (by decide +kernel)
set_option maxRecDepth 1000000 in
theorem led_w13 : Cond.methodLink "BarberMinutesLaw" 235 led_yL ∈ lw_good := lw_good_at 1228 (lw_at_ok (by decide +kernel)) (by decide +kernel)
set_option maxRecDepth 1000000 in
theorem led_w14 : Cond.laysStatic Bundle.tN "UNASSIGNED_STACK" Bundle.steD ∈ lw_tbl := List.mem_of_getElem? (lw_at_ok (j := 1263) (by decide +kernel))
set_option maxRecDepth 1000000 in
theorem led_w15 : Cond.laysStatic Bundle.tN "SUPPRESSED_SENTINEL" Bundle.listD ∈ lw_tbl := List.mem_of_getElem? (lw_at_ok (j := 1265) (by decide +kernel))
set_option maxRecDepth 1000000 in
theorem led_w16 : Cond.initialized Bundle.tN ∈ lw_tbl := List.mem_of_getElem? (lw_at_ok (j := 133) (by decide +kernel))
set_option maxRecDepth 1000000 in
theorem led_w17 : Cond.isRef (.static Bundle.tN "UNASSIGNED_STACK" Bundle.steD) ∈ law_flat := List.mem_of_getElem? (i := 17) (by decide +kernel)
set_option maxRecDepth 1000000 in
theorem led_w18 : Cond.isRef (.static Bundle.tN "SUPPRESSED_SENTINEL" Bundle.listD) ∈ law_flat := List.mem_of_getElem? (i := 18) (by decide +kernel)
/-- the two statics that a throw reads -/
noncomputable def led_Th (A : Nat → Prop) (U : State) (H : Heap) : Prop := led_Ca U ∧ vx_Zq Bundle.tN "UNASSIGNED_STACK" Bundle.steD A U H ∧ vx_Zq Bundle.tN "SUPPRESSED_SENTINEL" Bundle.listD A U H
theorem led_Th_call {A B : Nat → Prop} {s U : State} {H : Heap} {locs : List Loc} (hW : s.WarmedH U.vm) (hU : U.heap = H) (hS : va_S A s.heap H locs) (hAB : ∀ q, B q → A q) (h : led_Th A s s.heap) : led_Th B U U.heap := by
  rw [hU]
  exact ⟨led_Ca_moved hW.alike h.1, ((h.2.1.kept hS.2.1).narrow hAB).moved hW.alike, ((h.2.2.kept hS.2.1).narrow hAB).moved hW.alike⟩
theorem led_start {p : Program} {s : State} {m : MethodId} {meth : Method} {c : Code} {b L : Nat} {xs : Nat → Int32} (C0 : lw_At p s m meth c b L xs) : led_Th (law_A s) s s.heap := by
  obtain ⟨hx, hb, hr, hml, hown, hts, hX, hbl, hlocks, hgv⟩ := C0
  have hfl : ∀ w ∈ law_flat, w.before #[Value.ref b] s = true := flat_of_before _ hgv
  have hA : ∀ a : Nat, a < s.heap.size → ¬ law_A s a := fun a h => Nat.not_le.mpr h
  have hc0 : led_Ca s := by
    intro w hw hc
    have h1 := hts w hw
    unfold led_isC at hc
    split at hc
    · exact va_tabs rfl rfl h1
    · exact va_tabs rfl rfl h1
    · cases hc
  exact ⟨hc0, vx_Zqof (hts _ led_w14) (hts _ led_w16) (hfl _ led_w17) hA, vx_Zqof (hts _ led_w15) (hts _ led_w16) (hfl _ led_w18) hA⟩
noncomputable def led_Pb (D : va_G) (adr : Nat → Nat) (ws : va_W) (sz : Nat) (M : cm_M) (U : State) : Prop := cm_Pb D adr ws sz M U ∧ led_Th (va_A ws sz) U U.heap
theorem led_blind {D : va_G} {adr : Nat → Nat} {ws : va_W} {sz : Nat} {M : cm_M} {asc : List Value} : FrameBlind (va_Pc asc (led_Pb D adr ws sz M)) := fun a U gf mk q => by
  obtain ⟨q0, q1, q2⟩ := q
  exact ⟨q0, (cm_Pb_blind a U gf mk ⟨q0, q1⟩).2, ⟨led_Ca_moved (u := U) (U := U.calling gf mk a) (Vm.Alike.refl U.vm) q2.1, q2.2.1.moved (u := U) (U := U.calling gf mk a) (Vm.Alike.refl U.vm), q2.2.2.moved (u := U) (U := U.calling gf mk a) (Vm.Alike.refl U.vm)⟩⟩
noncomputable abbrev lx_P : ev_P := (0, 0, false, "BarberMinutes", 4, 0)
noncomputable def lx_rows : List (Nat × ev_Row) := [(0, 0, 0, 0, 0, []), (1, 11, 2, 0, 0, []), (2, 0, 0, 0, 0, []), (3, 11, 3, 0, 0, []), (4, 5, 3, 0, 0, []), (5, 9, 0, 0, 0, []), (6, 49, 8, 3, 23, []), (9, 49, 7, 9, 182, []), (12, 38, 30, 0, 0, []), (15, 9, 0, 0, 0, []), (16, 49, 8, 5, 33, []), (19, 5, 3, 0, 0, []), (20, 200, 33, 159, 1, [2]), (23, 41, 13, 0, 0, []), (26, 5, 2, 0, 0, []), (27, 5, 1, 0, 0, []), (28, 36, 5, 0, 0, []), (31, 5, 3, 0, 0, []), (32, 210, 0, 0, 0, []), (33, 34, 2, 1, 0, []), (36, 34, 3, 1, 0, []), (39, 47, (-35), 0, 0, [])]
set_option maxRecDepth 1000000 in
theorem lx_rows_ok : ∀ q ∈ lx_rows, cm_RowOK cm_ms lx_P led_cx q := cm_chkAll_ok (ps := [[], [], [], [], [], [], [445], [240], [], [], [447], [], [769, 770, 771, 119], [], [], [], [], [], [], [], [], []]) (by decide +kernel)
noncomputable abbrev lx_st : List (Nat × List Nat) := [(4, [0, 1, 2, 3]), (42, [0])]
/-- led's end: the motion -/
noncomputable def lx_Z (M0 : cm_M) (i : Int32) (mo : Nat) (op : Nat) (S : cm_S) : Prop := S.1 = 32 ∧ ∃ j, ldF (M0.1 32 2) i mo 0 0 = some j ∧ S.2.2.1 = [.int (Int32.ofNat j)] ∧ S.2.2.2 = M0
/-- two references told -/
noncomputable def lxm (T : Nat) (M : cm_M) : cm_M := (M.1, M.2.1, fun c i => if c = 0 then (if i = 3 then some T else if i = 5 then some 32 else M.2.2 0 i) else M.2.2 c i)
theorem lxm_eq {T : Nat} {M : cm_M} (h3 : M.2.2 0 3 = some T) (h5 : M.2.2 0 5 = some 32) : lxm T M = M := by
  refine Prod.ext rfl (Prod.ext rfl (funext fun c => funext fun i => ?_))
  show (if c = 0 then (if i = 3 then some T else if i = 5 then some 32 else M.2.2 0 i) else M.2.2 c i) = M.2.2 c i
  by_cases c0 : c = 0
  · subst c0
    rw [if_pos rfl]
    by_cases i3 : i = 3
    · rw [if_pos i3, i3, h3]
    · rw [if_neg i3]
      by_cases i5 : i = 5
      · rw [if_pos i5, i5, h5]
      · rw [if_neg i5]
  · rw [if_neg c0]
set_option maxRecDepth 100000 in
theorem lx_was (M : cm_M) (k : Nat) : cm_Call cm_ms (2 + 1) 33 [.ref 32, .int (Int32.ofNat k)] M (fun v M' => M' = M ∧ v = some (.int (bi (hb (M.1 32 2) k)))) := by
  refine cm_Call_of cm_ms_ok (k := 33) (mi := mr_33) rfl (Nat.le_of_ble_eq_true rfl) ?_
  refine cm_At_run cm_ms_ok (k := 33) rfl (stops := []) (J := fun _ => False) (fun S hS => hS.elim) (n := 30) ?_
  show (cm_kind 32).1 = _ ∧ _ < _ ∧ 0 ≤ _ ∧ (ev_cmp 0 ((M.1 32 2 >>> (Int32.ofNat k &&& 31)) &&& 1) 0 = true → ((0 : Int32) = 0 ∨ (0 : Int32) = 1) ∧ (fun v M' => M' = M ∧ v = some (Value.int (bi (hb (M.1 32 2) k)))) (some (Value.int 0)) M) ∧ (ev_cmp 0 ((M.1 32 2 >>> (Int32.ofNat k &&& 31)) &&& 1) 0 = false → 0 ≤ _ ∧ ((1 : Int32) = 0 ∨ (1 : Int32) = 1) ∧ (fun v M' => M' = M ∧ v = some (Value.int (bi (hb (M.1 32 2) k)))) (some (Value.int 1)) M)
  refine ⟨by decide, by decide, (by decide : (0 : Int) ≤ 15), fun h => ⟨Or.inl rfl, rfl, ?_⟩, fun h => ⟨(by decide : (0 : Int) ≤ 16), Or.inr rfl, rfl, ?_⟩⟩
  · rw [hb_0 (fn_eq0 h)]
    rfl
  · rw [hb_1 (fn_ne0 h)]
    rfl
set_option maxRecDepth 100000 in
theorem lx_6 {G : cm_S → Prop} {M : cm_M} {i : Int32} {mo : Nat} (h9 : M.1 6 9 = Int32.ofNat mo) (hmo : mo ≤ 5) (hrun : ∀ S, cm_wp cm_ms (cm_Call cm_ms (2 + 1)) none lx_P lx_rows lx_st G (lx_Z (lxm 6 M) i mo) 100 S → G S) (h42 : ldF (M.1 32 2) i mo 0 0 = none → G (42, [(0, .ref 0)], [], lxm 6 M)) : ∀ (n k : Nat) (b : Int32), n + k = mo → ldF (M.1 32 2) i n k b = ldF (M.1 32 2) i mo 0 0 → G (4, [(0, .ref 0), (1, .int i), (2, .int b), (3, .int (Int32.ofNat k))], [], lxm 6 M) := by
  intro n
  induction n with
  | zero =>
    intro k b hn hl
    refine hrun _ ?_
    show (cm_kind 0).1 = _ ∧ _ < _ ∧ (cm_kind 6).1 = _ ∧ _ < _ ∧ 0 ≤ _ ∧ (ev_cmp 3 (Int32.ofNat k) (M.1 6 9) = true → G (42, [(0, .ref 0)], [], lxm 6 M)) ∧ (ev_cmp 3 (Int32.ofNat k) (M.1 6 9) = false → _)
    refine ⟨by decide, by decide, by decide, by decide, (by decide : (0 : Int) ≤ 42), fun _ => h42 hl.symm, fun h => ?_⟩
    have g := fn_nge h
    rw [h9, fn_toInt (by omega), fn_toInt (by omega)] at g
    omega
  | succ n ih =>
    intro k b hn hl
    refine hrun _ ?_
    show (cm_kind 0).1 = _ ∧ _ < _ ∧ (cm_kind 6).1 = _ ∧ _ < _ ∧ 0 ≤ _ ∧ (ev_cmp 3 (Int32.ofNat k) (M.1 6 9) = true → _) ∧ (ev_cmp 3 (Int32.ofNat k) (M.1 6 9) = false → (cm_kind 0).1 = _ ∧ _ < _ ∧ cm_cs [] ≤ 8 ∧ ev_nar1 _ _ = true ∧ (_ → _) ∧ cm_Call cm_ms (2 + 1) 33 [.ref 32, .int (Int32.ofNat k)] (lxm 6 M) _)
    refine ⟨by decide, by decide, by decide, by decide, (by decide : (0 : Int) ≤ 42), fun h => ?_, fun h => ⟨by decide, by decide, by decide, by decide, fun _ => Or.inr rfl, cm_Call_up (lx_was _ k) (Nat.le_refl _) (fun v M2 hv => ?_)⟩⟩
    · have g := fn_ge h
      rw [h9, fn_toInt (by omega), fn_toInt (by omega)] at g
      omega
    · obtain ⟨rfl, rfl⟩ := hv
      show 0 ≤ _ ∧ (ev_cmp 0 (bi (hb (M.1 32 2) k)) 0 = true → 3 < 4 ∧ 0 ≤ _ ∧ G (4, [(0, .ref 0), (1, .int i), (2, .int b), (3, .int (Int32.ofNat k + 1))], [], lxm 6 M)) ∧ (ev_cmp 0 (bi (hb (M.1 32 2) k)) 0 = false → 0 ≤ _ ∧ (ev_cmp 1 b i = true → 2 < 4 ∧ 3 < 4 ∧ 0 ≤ _ ∧ G (4, [(0, .ref 0), (1, .int i), (2, .int (b + 1)), (3, .int (Int32.ofNat k + 1))], [], lxm 6 M)) ∧ (ev_cmp 1 b i = false → lx_Z (lxm 6 M) i mo 210 (32, _, [.int (Int32.ofNat k)], lxm 6 M)))
      refine ⟨(by decide : (0 : Int) ≤ 36), fun h1 => ⟨by decide, (by decide : (0 : Int) ≤ 4), ?_⟩, fun h1 => ⟨(by decide : (0 : Int) ≤ 33), fun h2 => ⟨by decide, by decide, (by decide : (0 : Int) ≤ 4), ?_⟩, fun h2 => ?_⟩⟩
      · rw [ofn_s1]
        exact ih (k + 1) b (by omega) ((ldF_n (bi_0 h1)).symm.trans hl)
      · rw [ofn_s1]
        exact ih (k + 1) (b + 1) (by omega) ((ldF_s (bi_1 h1) (fn_ne h2)).symm.trans hl)
      · exact ⟨rfl, k, hl.symm.trans (ldF_y (bi_1 h1) (fn_eq h2)), rfl, rfl⟩
set_option maxRecDepth 100000 in
theorem lx_19 {G : cm_S → Prop} {M : cm_M} {i : Int32} {mo : Nat} (h9 : M.1 19 9 = Int32.ofNat mo) (hmo : mo ≤ 5) (hrun : ∀ S, cm_wp cm_ms (cm_Call cm_ms (2 + 1)) none lx_P lx_rows lx_st G (lx_Z (lxm 19 M) i mo) 100 S → G S) (h42 : ldF (M.1 32 2) i mo 0 0 = none → G (42, [(0, .ref 0)], [], lxm 19 M)) : ∀ (n k : Nat) (b : Int32), n + k = mo → ldF (M.1 32 2) i n k b = ldF (M.1 32 2) i mo 0 0 → G (4, [(0, .ref 0), (1, .int i), (2, .int b), (3, .int (Int32.ofNat k))], [], lxm 19 M) := by
  intro n
  induction n with
  | zero =>
    intro k b hn hl
    refine hrun _ ?_
    show (cm_kind 0).1 = _ ∧ _ < _ ∧ (cm_kind 19).1 = _ ∧ _ < _ ∧ 0 ≤ _ ∧ (ev_cmp 3 (Int32.ofNat k) (M.1 19 9) = true → G (42, [(0, .ref 0)], [], lxm 19 M)) ∧ (ev_cmp 3 (Int32.ofNat k) (M.1 19 9) = false → _)
    refine ⟨by decide, by decide, by decide, by decide, (by decide : (0 : Int) ≤ 42), fun _ => h42 hl.symm, fun h => ?_⟩
    have g := fn_nge h
    rw [h9, fn_toInt (by omega), fn_toInt (by omega)] at g
    omega
  | succ n ih =>
    intro k b hn hl
    refine hrun _ ?_
    show (cm_kind 0).1 = _ ∧ _ < _ ∧ (cm_kind 19).1 = _ ∧ _ < _ ∧ 0 ≤ _ ∧ (ev_cmp 3 (Int32.ofNat k) (M.1 19 9) = true → _) ∧ (ev_cmp 3 (Int32.ofNat k) (M.1 19 9) = false → (cm_kind 0).1 = _ ∧ _ < _ ∧ cm_cs [] ≤ 8 ∧ ev_nar1 _ _ = true ∧ (_ → _) ∧ cm_Call cm_ms (2 + 1) 33 [.ref 32, .int (Int32.ofNat k)] (lxm 19 M) _)
    refine ⟨by decide, by decide, by decide, by decide, (by decide : (0 : Int) ≤ 42), fun h => ?_, fun h => ⟨by decide, by decide, by decide, by decide, fun _ => Or.inr rfl, cm_Call_up (lx_was _ k) (Nat.le_refl _) (fun v M2 hv => ?_)⟩⟩
    · have g := fn_ge h
      rw [h9, fn_toInt (by omega), fn_toInt (by omega)] at g
      omega
    · obtain ⟨rfl, rfl⟩ := hv
      show 0 ≤ _ ∧ (ev_cmp 0 (bi (hb (M.1 32 2) k)) 0 = true → 3 < 4 ∧ 0 ≤ _ ∧ G (4, [(0, .ref 0), (1, .int i), (2, .int b), (3, .int (Int32.ofNat k + 1))], [], lxm 19 M)) ∧ (ev_cmp 0 (bi (hb (M.1 32 2) k)) 0 = false → 0 ≤ _ ∧ (ev_cmp 1 b i = true → 2 < 4 ∧ 3 < 4 ∧ 0 ≤ _ ∧ G (4, [(0, .ref 0), (1, .int i), (2, .int (b + 1)), (3, .int (Int32.ofNat k + 1))], [], lxm 19 M)) ∧ (ev_cmp 1 b i = false → lx_Z (lxm 19 M) i mo 210 (32, _, [.int (Int32.ofNat k)], lxm 19 M)))
      refine ⟨(by decide : (0 : Int) ≤ 36), fun h1 => ⟨by decide, (by decide : (0 : Int) ≤ 4), ?_⟩, fun h1 => ⟨(by decide : (0 : Int) ≤ 33), fun h2 => ⟨by decide, by decide, (by decide : (0 : Int) ≤ 4), ?_⟩, fun h2 => ?_⟩⟩
      · rw [ofn_s1]
        exact ih (k + 1) b (by omega) ((ldF_n (bi_0 h1)).symm.trans hl)
      · rw [ofn_s1]
        exact ih (k + 1) (b + 1) (by omega) ((ldF_s (bi_1 h1) (fn_ne h2)).symm.trans hl)
      · exact ⟨rfl, k, hl.symm.trans (ldF_y (bi_1 h1) (fn_eq h2)), rfl, rfl⟩
/-- what led's call needs -/
noncomputable def lxH (T' : Nat) (M : cm_M) (mo : Nat) : Prop := (T' = 6 ∨ T' = 19) ∧ M.2.2 0 3 = some T' ∧ M.2.2 0 5 = some 32 ∧ M.1 T' 9 = Int32.ofNat mo ∧ mo ≤ 5
theorem lx_loop {G : cm_S → Prop} {M : cm_M} {i : Int32} {T' mo : Nat} (hH : lxH T' M mo) (hrun : ∀ S, cm_wp cm_ms (cm_Call cm_ms (2 + 1)) none lx_P lx_rows lx_st G (lx_Z M i mo) 100 S → G S) (h42 : ldF (M.1 32 2) i mo 0 0 = none → G (42, [(0, .ref 0)], [], M)) : G (4, [(0, .ref 0), (1, .int i), (2, .int 0), (3, .int (Int32.ofNat 0))], [], M) := by
  obtain ⟨hT, h3, h5, h9, hmo⟩ := hH
  rcases hT with rfl | rfl
  · have e := lxm_eq h3 h5
    have q := lx_6 (G := G) (M := M) (i := i) h9 hmo (by rw [e]; exact hrun) (by rw [e]; exact h42) mo 0 0 (by omega) rfl
    rw [e] at q
    exact q
  · have e := lxm_eq h3 h5
    have q := lx_19 (G := G) (M := M) (i := i) h9 hmo (by rw [e]; exact hrun) (by rw [e]; exact h42) mo 0 0 (by omega) rfl
    rw [e] at q
    exact q
noncomputable def lxQ (M : cm_M) (v : Int32) (mo : Nat) (r : Int32) (M' : cm_M) : Prop := M' = M ∧ ∃ j, ldF (M.1 32 2) v mo 0 0 = some j ∧ r = Int32.ofNat j
noncomputable def lxN (M : cm_M) (v : Int32) (mo : Nat) (M' : cm_M) : Prop := M' = M ∧ ldF (M.1 32 2) v mo 0 0 = none
/-- the law's own led: 0 and the motion in its row, or 1 -/
noncomputable def llQ (M : cm_M) (v : Int32) (mo : Nat) (r : Int32) (M' : cm_M) : Prop := (∃ j, ldF (M.1 32 2) v mo 0 0 = some j ∧ r = 0 ∧ M' = cm_wl M 136 0 (Int32.ofNat j).toInt64) ∨ (ldF (M.1 32 2) v mo 0 0 = none ∧ r = 1 ∧ M' = M)
noncomputable def led_B (D : va_G) (adr : Nat → Nat) (A : Nat → Prop) (u : cm_M × va_W) (t : State) : Prop := va_P D vwCl u.2 t.heap ∧ va_D A u.2 ∧ cm_w t adr u.1 u.2
noncomputable def led_BX (D : va_G) (adr : Nat → Nat) (A : Nat → Prop) (E : String) (u : cm_M × va_W) (t : State) : Prop := E = led_E ∧ led_B D adr A u t
noncomputable abbrev led_Qc (D : va_G) (adr : Nat → Nat) (Pq : Int32 → cm_M → Prop) (A : Nat → Prop) : Array Value → State → Outcome → State → Prop := va_Qi (fun (r : Int32) (u : cm_M × va_W) => Pq r u.1) (led_B D adr A) A
noncomputable abbrev led_XC (D : va_G) (adr : Nat → Nat) (Px : cm_M → Prop) (A : Nat → Prop) : String → State → State → Prop := vx_X (fun u : cm_M × va_W => Px u.1) (led_BX D adr A) A
set_option maxHeartbeats 4000000 in
set_option maxRecDepth 100000 in
/-- BarberMinutes.led: it answers, or it throws -/
theorem led_x (l : Launch) (hl0 : l.stackTraces = false) (D : va_G) (adr : Nat → Nat) (ws : va_W) (sz : Nat) (M : cm_M) (hM : ab_ok hp hN M) (v : Int32) {T' mo : Nat} (hH : lxH T' M mo) :
    vx_Met l led_yx (Cond.code led_yx led_cx 4 (some .int) :: lw_good) (ev_rm 20 1 6) (va_Pc [.ref (adr 0), .int v] (led_Pb D adr ws sz M)) (led_Qc D adr (lxQ M v mo) (va_A ws sz)) (led_XC D adr (lxN M v mo) (va_A ws sz)) 1 6 (va_A ws sz) := by
  refine vx_ofW (cc := led_cx) (maxL := 4) (ret := some .int) (by decide) rfl ?_
  intro p e s m args below meth c s₁ B hml hno hv
  obtain ⟨rfl, ⟨hsz, hP, hK, hD0, hW, hN'⟩, hTh⟩ := hv
  subst hsz
  have hD : va_D (va_A ws s.heap.size) ws := hD0.self (sz := s.heap.size)
  have hts : ∀ w ∈ lw_good, w.before ([.ref (adr 0), .int v] : List Value).toArray s = true := fun w hw => atoms_spec (ws := Cond.code led_yx led_cx 4 (some .int) :: lw_good) B.pre w (List.mem_cons_of_mem _ hw)
  have hA : ∀ q : Nat, s.heap.size ≤ q → va_A ws s.heap.size q := fun q h => Or.inr h
  have hown : s.vm.findClass "BarberMinutes" = some m.cls := findClass_of_methodNamed B.named
  have X : cm_X p (ev_rm 20 1 6) s m ([.ref (adr 0), .int v] : List Value).toArray c led_cx 4 "BarberMinutes" D (va_A ws s.heap.size) adr 0 0 none :=
    ⟨B.exec, B.bytes, hml, hown, hts, hK, hA, hN', by decide, by decide, by decide, by decide, trivial⟩
  have hl := lv_entry ([.ref (adr 0), .int v]) (n := 4) (Nat.le_of_ble_eq_true rfl)
  rw [lg_entry_eq]
  have hret : ∀ (r : ev_Row) (S : cm_S), ev_at lx_rows S.1 = some r → 210 ≤ r.1 → lx_Z M v mo r.1 S → cm_Go p l e (ev_rm 20 1 6) s m ([.ref (adr 0), .int v] : List Value).toArray below meth c (vx_MQ below (led_Qc D adr (lxQ M v mo) (va_A ws s.heap.size)) (led_XC D adr (lxN M v mo) (va_A ws s.heap.size)) ([.ref (adr 0), .int v] : List Value).toArray s 1 6 (va_A ws s.heap.size)) 4 D (va_A ws s.heap.size) adr 0 0 S := by
    intro r S hr h210 hZ
    obtain ⟨pc, L, st, M'⟩ := S
    obtain ⟨e32, x, hj, hst, k1⟩ := hZ
    dsimp only at e32 hst k1
    subst e32
    subst hst
    subst k1
    intro ws' H locs ls ⟨hP', hD', hS', hW', hL'⟩
    show W p l e (ev_rm 20 1 6) s m _ below meth c H locs 0 0 _ (F0 m 32 ls [.int (Int32.ofNat x)])
    exact W.widen (k := 1) (n := 6) (by decide) (by decide) (vx_ret (W.iret (v := Int32.ofNat x) B.exec B.bytes B.returns (fun t ht hWm => ⟨⟨Int32.ofNat x, (M', ws'), rfl, ⟨rfl, x, hj, rfl⟩, by rw [ht]; exact hP', hD', cm_w_moved hWm.alike hW'⟩, hS'.F ht⟩) hS'.2.2 (by decide +kernel) B.notSynchronized))
  have hrun : ∀ S, cm_wp cm_ms (cm_Call cm_ms (2 + 1)) none lx_P lx_rows lx_st (cm_Go p l e (ev_rm 20 1 6) s m ([.ref (adr 0), .int v] : List Value).toArray below meth c (vx_MQ below (led_Qc D adr (lxQ M v mo) (va_A ws s.heap.size)) (led_XC D adr (lxN M v mo) (va_A ws s.heap.size)) ([.ref (adr 0), .int v] : List Value).toArray s 1 6 (va_A ws s.heap.size)) 4 D (va_A ws s.heap.size) adr 0 0) (lx_Z M v mo) 100 S → cm_Go p l e (ev_rm 20 1 6) s m ([.ref (adr 0), .int v] : List Value).toArray below meth c (vx_MQ below (led_Qc D adr (lxQ M v mo) (va_A ws s.heap.size)) (led_XC D adr (lxN M v mo) (va_A ws s.heap.size)) ([.ref (adr 0), .int v] : List Value).toArray s 1 6 (va_A ws s.heap.size)) 4 D (va_A ws s.heap.size) adr 0 0 S :=
    fun S h => cm_wp_ok (P := lx_P) cm_ms_ok ⟨by decide, by decide⟩ X lx_rows_ok (fun S h => h) hret 100 S (cm_wp_real cm_ms_ok h)
  have h42 : ldF (M.1 32 2) v mo 0 0 = none → cm_Go p l e (ev_rm 20 1 6) s m ([.ref (adr 0), .int v] : List Value).toArray below meth c (vx_MQ below (led_Qc D adr (lxQ M v mo) (va_A ws s.heap.size)) (led_XC D adr (lxN M v mo) (va_A ws s.heap.size)) ([.ref (adr 0), .int v] : List Value).toArray s 1 6 (va_A ws s.heap.size)) 4 D (va_A ws s.heap.size) adr 0 0 (42, [(0, .ref 0)], [], M) := by
    intro hN0 ws' H locs ls ⟨hP', hD', hS', hW', hL'⟩
    show W p l e (ev_rm 20 1 6) s m _ below meth c H locs 0 0 _ (F0 m 42 ls [])
    exact vx_throw0 (own := "BarberMinutes") (cls := led_E) (names := ["java/lang/RuntimeException", "java/lang/Exception"]) (ik := 367) (ic := 369) (A := va_A ws s.heap.size) B.exec B.bytes hl0 hown (by decide) (by decide) (hts _ led_w1) (hts _ led_w2) (fun w hw => by
        rcases led_at hw with h | ⟨h, h'⟩
        · exact hts w h
        · exact led_Ca_use hTh.1 h h')
      (fun w hw => by
        rcases List.mem_cons.mp hw with rfl | hw
        · rfl
        · rcases List.mem_cons.mp hw with rfl | hw
          · rfl
          · rcases led_at hw with h | ⟨-, h⟩
            · simp [vx_ot, (List.mem_filter.mp h).2]
            · unfold led_isC at h
              split at h
              · rfl
              · rfl
              · cases h)
      hTh.2.1 hTh.2.2 hS' (hL'.1.trans hml.symm) (by decide +kernel) (by decide +kernel) (by decide +kernel) (by decide +kernel) (fun x hx => (hno x hx).elim) (by decide) (by decide) (by decide) (by decide) B.notSynchronized
      (fun t hvm hz hq => ⟨(M, ws'), ⟨rfl, hN0⟩, ⟨rfl, hP'.kept (fun k q hk => hq q.1 (hP' k q hk).lt), hD', cm_w_moved hvm hW'⟩, Nat.le_trans hS'.1 hz, fun q h1 h2 => (hq q (Nat.lt_of_lt_of_le h1 hS'.1)).trans (hS'.2.1 q h1 h2)⟩)
      hS'.2.2 (by decide) (by decide)
  have hgo := cm_wp_ok (P := lx_P) (l := l) (e := e) (below := below) (Q := vx_MQ below (led_Qc D adr (lxQ M v mo) (va_A ws s.heap.size)) (led_XC D adr (lxN M v mo) (va_A ws s.heap.size)) ([.ref (adr 0), .int v] : List Value).toArray s 1 6 (va_A ws s.heap.size)) (d := 2 + 1) (meth := meth) cm_ms_ok ⟨by decide, by decide⟩ X lx_rows_ok (stops := lx_st) (J := cm_Go p l e (ev_rm 20 1 6) s m ([.ref (adr 0), .int v] : List Value).toArray below meth c (vx_MQ below (led_Qc D adr (lxQ M v mo) (va_A ws s.heap.size)) (led_XC D adr (lxN M v mo) (va_A ws s.heap.size)) ([.ref (adr 0), .int v] : List Value).toArray s 1 6 (va_A ws s.heap.size)) 4 D (va_A ws s.heap.size) adr 0 0) (Z := lx_Z M v mo) (fun S h => h) hret 10 (0, [(0, .ref 0), (1, .int v)], [], M) (by
      show 2 < 4 ∧ 3 < 4 ∧ _
      refine ⟨by decide, by decide, ?_⟩
      exact lx_loop hH hrun h42)
  refine hgo ws s.heap [] _ ⟨hP, hD, va_S.rf, hW, hl.1, hl.2.1, fun q hq => ?_⟩
  simp only [List.map_cons, List.map_nil, List.mem_cons, List.not_mem_nil, or_false] at hq
  rcases hq with rfl | rfl
  · exact hl.2.2 (0, .ref (adr 0)) List.mem_cons_self
  · exact hl.2.2 (1, .int v) (List.mem_cons_of_mem _ List.mem_cons_self)
set_option maxRecDepth 1000000 in
theorem led_d4 : decode led_cL 4 = .ok (.invokevirtual 7, 3) := by decide +kernel
theorem led_met {l : Launch} {y : MethodName} {ws : List Cond} {rm : Room} {Pc : Array Value → State → Prop} {Qc : Array Value → State → Outcome → State → Prop} {mc ms : Nat} {free : Addr → Prop} (h : vx_Met l y ws rm Pc Qc (fun _ _ _ => False) mc ms free) : Met l y ws rm Pc Qc mc ms free :=
  MetFree.mono h (fun _ _ h => h) (fun _ _ _ _ _ h => h) (fun a s o t _ hq => by
    rcases hq with hq | ⟨q, -, E, ce, L, hf, -⟩
    · exact hq
    · exact hf.elim)
noncomputable abbrev ll_P : ev_P := (0, 0, false, "BarberMinutesLaw", 4, 0)
noncomputable def ll_rows : List (Nat × ev_Row) := [(7, 29, 0, 0, 0, []), (8, 90, 0, 0, 0, []), (9, 47, 6, 0, 0, []), (15, 0, 0, 0, 0, []), (16, 210, 0, 0, 0, [])]
set_option maxRecDepth 1000000 in
theorem ll_rows_ok : ∀ q ∈ ll_rows, cm_RowOK cm_ms ll_P led_cL q := cm_chkAll_ok (ps := [[], [], [], [], []]) (by decide +kernel)
noncomputable def ll_Z (M0 : cm_M) (r : Int32) (op : Nat) (S : cm_S) : Prop := S.1 = 16 ∧ S.2.2.1 = [.int 0] ∧ S.2.2.2 = cm_wl M0 136 0 r.toInt64
theorem ll_wp {J : cm_S → Prop} {M : cm_M} (r : Int32) {L : List (Nat × Value)} : cm_wp cm_ms (cm_Call cm_ms 1) none ll_P ll_rows [] J (ll_Z M r) 10 (7, L, [.int r, .int 0, .ref 136], M) := by
  show (cm_kind 136).1 = 100 + 2 ∧ 0 ≤ (0 : Int32).toInt ∧ (0 : Int32).toInt < ((cm_kind 136).2 : Int) ∧ 0 ≤ _ ∧ ll_Z M r 210 (16, L, [.int 0], cm_wl M 136 (0 : Int32).toNatClampNeg r.toInt64)
  exact ⟨by decide, by decide, by decide, (by decide : (0 : Int) ≤ 15), rfl, rfl, rfl⟩
set_option maxHeartbeats 4000000 in
set_option maxRecDepth 100000 in
theorem led_L (l : Launch) (hl0 : l.stackTraces = false) (D : va_G) (adr : Nat → Nat) (ws : va_W) (sz : Nat) (M : cm_M) (hM : ab_ok hp hN M) (v : Int32) {T' mo : Nat} (hH : lxH T' M mo) :
    Met l led_yL (Cond.codeWith led_yL led_cL 4 (some .int) [(0, 9, 12, 13)] :: lw_good) (ev_rm 21 1 6) (va_Pc [.ref (adr 0), .int v, .ref (adr 136)] (led_Pb D adr ws sz M)) (led_Qc D adr (llQ M v mo) (va_A ws sz)) 1 6 (va_A ws sz) := by
  refine led_met (vx_ofWH (cc := led_cL) (maxL := 4) (ret := some .int) (hh := [(0, 9, 12, 13)]) (by decide) rfl ?_)
  intro p e s m args below meth c s₁ B hml hv
  obtain ⟨rfl, ⟨hsz, hP, hK, hD0, hW, hN'⟩, hTh⟩ := hv
  subst hsz
  have hx := B.exec
  have hb := B.bytes
  have hr := B.returns
  have hD : va_D (va_A ws s.heap.size) ws := hD0.self (sz := s.heap.size)
  have hall := atoms_spec (ws := Cond.codeWith led_yL led_cL 4 (some .int) [(0, 9, 12, 13)] :: lw_good) B.pre
  have hts : ∀ w ∈ lw_good, w.before ([.ref (adr 0), .int v, .ref (adr 136)] : List Value).toArray s = true := fun w hw => hall w (List.mem_cons_of_mem _ hw)
  have htab : c.exceptionTable.toList = tableOf [(0, 9, 12, 13)] := vx_table (x := led_yL) B (hall _ List.mem_cons_self)
  have hA : ∀ q : Nat, s.heap.size ≤ q → va_A ws s.heap.size q := fun q h => Or.inr h
  have hown : s.vm.findClass "BarberMinutesLaw" = some m.cls := findClass_of_methodNamed B.named
  have hl := lv_entry ([.ref (adr 0), .int v, .ref (adr 136)]) (n := 4) (Nat.le_of_ble_eq_true rfl)
  rw [lg_entry_eq]
  generalize (lg_sl ([.ref (adr 0), .int v, .ref (adr 136)]) ++ List.replicate (4 - (lg_sl ([.ref (adr 0), .int v, .ref (adr 136)])).length) Slot.unset).toArray = ls at hl ⊢
  have hl : lv_has ls 4 [(0, .ref (adr 0)), (1, .int v), (2, .ref (adr 136))] := hl
  refine lv_aload_n hx hb (k := 2) (by decide +kernel) rfl (lv_at hl 2 rfl) ?_
  refine lv_iconst (v := 0) hx hb (n := 0) (by decide +kernel) rfl ?_
  refine lv_aload_n hx hb (k := 0) (by decide +kernel) rfl (lv_at hl 0 rfl) ?_
  refine lv_iload_n hx hb (k := 1) (by decide +kernel) rfl (lv_at hl 1 rfl) ?_
  obtain ⟨fs, hcl, -, -⟩ := cm_obj hW (show cm_kind 0 = (8, 15) from by decide) (by decide)
  have hG : GoodIn lw_good (wsV "BarberMinutesLaw" 7 "BarberMinutes" led_yx (Cond.code led_yx led_cx 4 (some .int) :: lw_good)) := lw_good_good (fun w h => by
    unfold wsV at h
    rcases List.mem_append.mp h with h | h
    · simp only [List.mem_cons, List.not_mem_nil, or_false] at h
      rcases h with rfl | rfl | rfl | rfl
      · exact led_w5
      · exact led_w6
      · exact led_w7
      · exact led_w8
    · rcases List.mem_cons.mp h with rfl | h
      · exact led_w3
      · exact h)
  refine vx_calli (vx_runV (As := [.int v]) (rest := [.int 0, .ref (adr 136)]) ⟨hx, hb, hml, hown, hts⟩ (led_x l hl0 D adr ws s.heap.size M hM v hH) (cwV 1 hts hG rfl rfl rfl (by decide +kernel) ⟨by decide, by decide⟩)
    ⟨led_blind, va_recv hK hP (ci := 8) (q := (RX8, TX8, 15)) rfl hcl, fun U hU hWm => ⟨rfl, ⟨by rw [hU], by rw [hU]; exact hP, va_K.moved hWm.alike hK, hD0, cm_w_moved hWm.alike hW, cm_N_call hWm hU va_S.rf (fun _ h => h) hN'⟩, led_Th_call hWm hU va_S.rf (fun _ h => h) hTh⟩⟩
    rfl rfl hl.1 rfl (lv_room (Nat.le_of_ble_eq_true rfl)) led_d4 ⟨by decide, by decide⟩) va_S.rf (fun q _ h => h) (fun q h => h) (fun q _ h => h) ?_ ?_
  · intro E ce q9 u t H1 locs1 ht hvm hpx hbx hz hk hS1 hcell hcv hcl2
    obtain ⟨rfl, hP1, hD1, hw1⟩ := hbx
    rw [ht] at hP1
    refine led_catch (name := led_E) hown ⟨0, 9, 12, 13⟩ [] (by rw [htab]; rfl) (by decide) (by decide) (hts _ led_w9) (led_Ca_use hTh.1 led_w10 rfl) hcell hcv hcl2 ?_
    refine lv_astore_n (i := 3) (lv' := [(3, .ref q9), (0, .ref (adr 0)), (1, .int v), (2, .ref (adr 136))]) hx hb (k := 3) (by decide +kernel) rfl hl (by decide) rfl (fun ls hl => ?_)
    refine lv_iconst (v := 1) hx hb (n := 1) (by decide +kernel) rfl ?_
    refine vx_ret (W.iret (v := 1) hx hb hr (fun t2 ht2 hWm => ⟨⟨1, u, rfl, Or.inr ⟨hpx.2, rfl, hpx.1⟩, by rw [ht2]; exact hP1, hD1, cm_w_moved (hvm.symm.trans hWm.alike) hw1⟩, hS1.F ht2⟩) hS1.2.2 (by decide +kernel) B.notSynchronized)
  · intro r u t H1 locs1 ht hvm hlu hB hz hk hS1
    obtain ⟨hP1, hD1, hw1⟩ := hB
    rw [ht] at hP1
    obtain ⟨M', ws'⟩ := u
    dsimp only at hP1 hD1 hw1 hlu
    obtain ⟨e1, j, hj, e2⟩ := hlu
    subst M'
    subst e2
    have X : cm_X p (ev_rm 21 1 6) s m ([.ref (adr 0), .int v, .ref (adr 136)] : List Value).toArray c led_cL 4 "BarberMinutesLaw" D (va_A ws s.heap.size) adr 1 6 none :=
      ⟨hx, hb, hml, hown, hts, hK, hA, hN', by decide, by decide, by decide, by decide, trivial⟩
    refine cm_wp_ok (P := ll_P) (d := 1) cm_ms_ok ⟨by decide, by decide⟩ X ll_rows_ok (stops := []) (J := fun _ => False) (Z := ll_Z M (Int32.ofNat j)) (fun S h => h.elim) ?_ 10 (7, [(0, .ref 0), (1, .int v), (2, .ref 136)], [.int (Int32.ofNat j), .int 0, .ref 136], M) (cm_wp_real cm_ms_ok (ll_wp (Int32.ofNat j))) ws' H1 locs1 ls ⟨hP1, hD1, hS1, cm_w_moved hvm.symm hw1, hl⟩
    intro r2 S hr2 h210 hZ
    obtain ⟨pc, L, st, M2⟩ := S
    obtain ⟨e16, hst, k1⟩ := hZ
    dsimp only at e16 hst k1
    subst e16
    subst hst
    intro ws2 H2 locs2 ls2 ⟨hP2, hD2, hS2, hW2, hL2⟩
    show W p l e (ev_rm 21 1 6) s m _ below meth c H2 locs2 1 6 _ (F0 m 16 ls2 [.int 0])
    exact vx_ret (W.iret (v := 0) hx hb hr (fun t2 ht2 hWm => ⟨⟨0, (M2, ws2), rfl, Or.inl ⟨j, hj, rfl, k1⟩, by rw [ht2]; exact hP2, hD2, cm_w_moved hWm.alike hW2⟩, hS2.F ht2⟩) hS2.2.2 (by decide +kernel) B.notSynchronized)
set_option maxRecDepth 1000000 in
theorem led_d : decode code 1664 = .ok (.invokestatic 235, 3) := by decide +kernel
/-- the law's goal from a state, when t calls have been made -/
noncomputable abbrev law_G (p : Program) (l : Launch) (e : Env) (s : State) (m : MethodId) (below : List Frame) (meth : Method) (c : Code) (b : Nat) (D : va_G) (adr : Nat → Nat) (t : Nat) : cm_S → Prop := cm_Go p l e room_1 s m #[Value.ref b] below meth c (lw_Z below #[Value.ref b] s) 7 D (law_A s) adr (137 + t) (3193 + 6 * t)
set_option maxHeartbeats 4000000 in
set_option maxRecDepth 100000 in
/-- the law at its call of led -/
theorem led_law {p : Program} {l : Launch} {e : Env} {s : State} {m : MethodId} {below : List Frame} {meth : Method} {c : Code} {b L : Nat} {xs : Nat → Int32} {D : va_G} {adr : Nat → Nat} {t : Nat} (hl0 : l.stackTraces = false) (C0 : lw_At p s m meth c b L xs) (ht : t < 1000)
    (X : cm_X p room_1 s m #[Value.ref b] c code 7 "BarberMinutesLaw" D (law_A s) adr (137 + t) (3193 + 6 * t) (some (L, xs))) {Lo : List (Nat × Value)} {M : cm_M} (hM : ab_ok hp hN M) {v : Int32} {T' mo : Nat} (hH : lxH T' M mo) (hk : ∀ (r : Int32) (M' : cm_M), llQ M v mo r M' → law_G p l e s m below meth c b D adr (t + 1) (1667, Lo, [.int r], M')) : law_G p l e s m below meth c b D adr t (1664, Lo, [.ref 136, .int v, .ref 0], M) := by
  intro ws H locs ls hR
  obtain ⟨hx, hb, hml, hown, hts, hK, hA, hN', hcC, hcS, hf, hlc, hscr⟩ := X
  obtain ⟨hP, hD, hS, hW, hL⟩ := hR
  have hfree : ∀ q, va_A ws H.size q → law_A s q := by
    intro q h
    rcases h with ⟨k, e, h⟩ | h
    · exact hD.2 k (q, e) h
    · exact hA q (Nat.le_trans hS.1 h)
  have hG : GoodIn lw_good (va_wsS "BarberMinutesLaw" 235 led_yL (Cond.codeWith led_yL led_cL 4 (some .int) [(0, 9, 12, 13)] :: lw_good)) := lw_good_good (fun w h => by
    unfold va_wsS at h
    rcases List.mem_append.mp h with h | h
    · simp only [List.mem_cons, List.not_mem_nil, or_false] at h
      rcases h with rfl | rfl | rfl
      · exact led_w13
      · exact led_w11
      · exact led_w12
    · rcases List.mem_cons.mp h with rfl | h
      · exact led_w4
      · exact h)
  have hroom : room_1.cells = 601024 ∧ room_1.slots = 7293034 := ⟨rfl, rfl⟩
  refine va_calli (vx_runSW (As := [.ref (adr 0), .int v, .ref (adr 136)]) (rest := []) ⟨hx, hb, hml, hown, hts⟩ (led_L l hl0 D adr ws H.size M hM v hH) (vx_cwSW 3 hts hG rfl rfl rfl (by decide +kernel) ⟨by decide, by decide⟩)
    ⟨led_blind, fun U hU hWm => ⟨rfl, ⟨by rw [hU], by rw [hU]; exact hP, va_K.moved hWm.alike hK, hD.weaken (fun _ _ _ _ => trivial), cm_w_moved hWm.alike hW, cm_N_call hWm hU hS hfree hN'⟩, led_Th_call hWm hU hS hfree (led_start C0)⟩⟩
    rfl rfl hL.1 rfl (lv_room (Nat.le_of_ble_eq_true rfl)) led_d ⟨by rw [hroom.1]; omega, by rw [hroom.2]; omega⟩) hS (fun q _ h => hfree q h) hfree (fun r u t2 H1 locs1 ht2 hvm hlu hB hz hkk hS1 => ?_)
  obtain ⟨hP1, hD1, hw1⟩ := hB
  rw [ht2] at hP1
  exact hk r u.1 hlu u.2 H1 locs1 ls ⟨hP1, hD1.weaken (fun _ _ _ h => hfree _ h), hS1, cm_w_moved hvm.symm hw1, hL⟩
