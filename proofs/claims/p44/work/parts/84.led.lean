noncomputable abbrev led_E : String := "java/util/NoSuchElementException"
noncomputable abbrev led_yx : MethodName := ⟨"BarberMinutes", "led", "(I)I"⟩
noncomputable abbrev led_yL : MethodName := ⟨"BarberMinutesLaw", "led", "(LBarberMinutes;I[J)I"⟩
noncomputable abbrev led_cx : ByteArray := prog_1_method_64_code
noncomputable abbrev led_cL : ByteArray := method_3_code
noncomputable def led_isC (w : Cond) : Bool := match w with
  | .castable _ _ => true
  | .declares _ => true
  | _ => false
/-- which class can stand for which, which method is declared: by the classes alone -/
noncomputable def led_Ca (U : State) : Prop := ∀ w ∈ lw_tbl, led_isC w = true → w.before #[] U = true
theorem led_Ca_moved {u U : State} (hvm : u.vm.Alike U.vm) (h : led_Ca u) : led_Ca U := fun w hw hc => by
  have h1 := h w hw hc
  unfold led_isC at hc
  split at hc
  · exact va_tabs (u := u.setVm U.vm) rfl rfl (by rw [Cond.castable_setVm hvm]; exact h1)
  · exact va_tabs (u := u.setVm U.vm) rfl rfl (by rw [Cond.declares_setVm hvm]; exact h1)
  · cases hc
theorem led_Ca_use {U : State} {args : Array Value} (h : led_Ca U) {w : Cond} (hw : w ∈ lw_tbl) (hc : led_isC w = true) : w.before args U = true := by
  have h1 := h w hw hc
  unfold led_isC at hc
  split at hc
  · exact va_tabs rfl rfl h1
  · exact va_tabs rfl rfl h1
  · cases hc
set_option maxRecDepth 1000000 in
theorem led_at0 : (vx_at0 "BarberMinutes" 369 led_E ["java/lang/RuntimeException", "java/lang/Exception"]).all (fun w => decide (w ∈ lw_tbl) && (goodWord w || led_isC w)) = true := by decide +kernel
theorem led_at {w : Cond} (hw : w ∈ vx_at0 "BarberMinutes" 369 led_E ["java/lang/RuntimeException", "java/lang/Exception"]) : w ∈ lw_good ∨ (w ∈ lw_tbl ∧ led_isC w = true) := by
  have h1 := List.all_eq_true.mp led_at0 w hw
  simp only [Bool.and_eq_true, Bool.or_eq_true, decide_eq_true_eq] at h1
  obtain ⟨h2, h3 | h3⟩ := h1
  · exact Or.inl (List.mem_filter.mpr ⟨h2, h3⟩)
  · exact Or.inr ⟨h2, h3⟩
set_option maxRecDepth 1000000 in
theorem led_w1 : Cond.classLink "BarberMinutes" 367 led_E ∈ lw_good := lw_good_at 1236 (lw_at_ok (by decide +kernel)) (by decide +kernel)
set_option maxRecDepth 1000000 in
theorem led_w2 : Cond.initialized led_E ∈ lw_good := lw_good_at 136 (lw_at_ok (by decide +kernel)) (by decide +kernel)
set_option maxRecDepth 1000000 in
theorem led_w3 : Cond.code led_yx led_cx 4 (some .int) ∈ lw_good := lw_good_at 1235 (lw_at_ok (by decide +kernel)) (by decide +kernel)
set_option maxRecDepth 1000000 in
theorem led_w4 : Cond.codeWith led_yL led_cL 4 (some .int) [(0, 9, 12, 13)] ∈ lw_good := lw_good_at 1230 (lw_at_ok (by decide +kernel)) (by decide +kernel)
set_option maxRecDepth 1000000 in
theorem led_w5 : Cond.methodLink "BarberMinutesLaw" 7 led_yx ∈ lw_good := lw_good_at 1232 (lw_at_ok (by decide +kernel)) (by decide +kernel)
set_option maxRecDepth 1000000 in
theorem led_w6 : Cond.instanceMethod led_yx ∈ lw_good := lw_good_at 1233 (lw_at_ok (by decide +kernel)) (by decide +kernel)
set_option maxRecDepth 1000000 in
theorem led_w7 : Cond.selects "BarberMinutes" led_yx led_yx ∈ lw_good := lw_good_at 1234 (lw_at_ok (by decide +kernel)) (by decide +kernel)
set_option maxRecDepth 1000000 in
theorem led_w8 : Cond.initialized "BarberMinutes" ∈ lw_good := lw_good_at 116 (lw_at_ok (by decide +kernel)) (by decide +kernel)
set_option maxRecDepth 1000000 in
theorem led_w9 : Cond.classLink "BarberMinutesLaw" 13 led_E ∈ lw_good := lw_good_at 1231 (lw_at_ok (by decide +kernel)) (by decide +kernel)
set_option maxRecDepth 1000000 in
theorem led_w10 : Cond.castable led_E led_E ∈ lw_tbl := List.mem_of_getElem? (lw_at_ok (j := 1238) (by decide +kernel))
set_option maxRecDepth 1000000 in
theorem led_w11 : Cond.static led_yL ∈ lw_good := lw_good_at 1229 (lw_at_ok (by decide +kernel)) (by decide +kernel)
set_option maxRecDepth 1000000 in
theorem led_w12 : Cond.initialized "BarberMinutesLaw" ∈ lw_good := lw_good_at 115 (lw_at_ok (by decide +kernel)) (by decide +kernel)
set_option maxRecDepth 1000000 in
theorem led_w13 : Cond.methodLink "BarberMinutesLaw" 235 led_yL ∈ lw_good := lw_good_at 1228 (lw_at_ok (by decide +kernel)) (by decide +kernel)
set_option maxRecDepth 1000000 in
theorem led_w14 : Cond.laysStatic Bundle.tN "UNASSIGNED_STACK" Bundle.steD ∈ lw_tbl := List.mem_of_getElem? (lw_at_ok (j := 1263) (by decide +kernel))
set_option maxRecDepth 1000000 in
theorem led_w15 : Cond.laysStatic Bundle.tN "SUPPRESSED_SENTINEL" Bundle.listD ∈ lw_tbl := List.mem_of_getElem? (lw_at_ok (j := 1265) (by decide +kernel))
set_option maxRecDepth 1000000 in
theorem led_w16 : Cond.initialized Bundle.tN ∈ lw_tbl := List.mem_of_getElem? (lw_at_ok (j := 133) (by decide +kernel))
set_option maxRecDepth 1000000 in
theorem led_w17 : Cond.isRef (.static Bundle.tN "UNASSIGNED_STACK" Bundle.steD) ∈ law_flat := List.mem_of_getElem? (i := 17) (by decide +kernel)
set_option maxRecDepth 1000000 in
theorem led_w18 : Cond.isRef (.static Bundle.tN "SUPPRESSED_SENTINEL" Bundle.listD) ∈ law_flat := List.mem_of_getElem? (i := 18) (by decide +kernel)
/-- the two statics that a throw reads -/
noncomputable def led_Th (A : Nat → Prop) (U : State) (H : Heap) : Prop := led_Ca U ∧ vx_Zq Bundle.tN "UNASSIGNED_STACK" Bundle.steD A U H ∧ vx_Zq Bundle.tN "SUPPRESSED_SENTINEL" Bundle.listD A U H
theorem led_Th_call {A B : Nat → Prop} {s U : State} {H : Heap} {locs : List Loc} (hW : s.WarmedH U.vm) (hU : U.heap = H) (hS : va_S A s.heap H locs) (hAB : ∀ q, B q → A q) (h : led_Th A s s.heap) : led_Th B U U.heap := by
  rw [hU]
  exact ⟨led_Ca_moved hW.alike h.1, ((h.2.1.kept hS.2.1).narrow hAB).moved hW.alike, ((h.2.2.kept hS.2.1).narrow hAB).moved hW.alike⟩
theorem led_start {p : Program} {s : State} {m : MethodId} {meth : Method} {c : Code} {b L : Nat} {xs : Nat → Int32} (C0 : lw_At p s m meth c b L xs) : led_Th (law_A s) s s.heap := by
  obtain ⟨hx, hb, hr, hml, hown, hts, hX, hbl, hlocks, hgv⟩ := C0
  have hfl : ∀ w ∈ law_flat, w.before #[Value.ref b] s = true := flat_of_before _ hgv
  have hA : ∀ a : Nat, a < s.heap.size → ¬ law_A s a := fun a h => Nat.not_le.mpr h
  have hc0 : led_Ca s := by
    intro w hw hc
    have h1 := hts w hw
    unfold led_isC at hc
    split at hc
    · exact va_tabs rfl rfl h1
    · exact va_tabs rfl rfl h1
    · cases hc
  exact ⟨hc0, vx_Zqof (hts _ led_w14) (hts _ led_w16) (hfl _ led_w17) hA, vx_Zqof (hts _ led_w15) (hts _ led_w16) (hfl _ led_w18) hA⟩
noncomputable def led_Pb (D : va_G) (adr : Nat → Nat) (ws : va_W) (sz : Nat) (M : cm_M) (U : State) : Prop := cm_Pb D adr ws sz M U ∧ led_Th (va_A ws sz) U U.heap
theorem led_blind {D : va_G} {adr : Nat → Nat} {ws : va_W} {sz : Nat} {M : cm_M} {asc : List Value} : FrameBlind (va_Pc asc (led_Pb D adr ws sz M)) := fun a U gf mk q => by
  obtain ⟨q0, q1, q2⟩ := q
  exact ⟨q0, (cm_Pb_blind a U gf mk ⟨q0, q1⟩).2, ⟨led_Ca_moved (u := U) (U := U.calling gf mk a) (Vm.Alike.refl U.vm) q2.1, q2.2.1.moved (u := U) (U := U.calling gf mk a) (Vm.Alike.refl U.vm), q2.2.2.moved (u := U) (U := U.calling gf mk a) (Vm.Alike.refl U.vm)⟩⟩
noncomputable abbrev lx_P : ev_P := (0, 0, false, "BarberMinutes", 4, 0)
noncomputable def lx_rows : List (Nat × ev_Row) := [(0, 0, 0, 0, 0, []), (1, 11, 2, 0, 0, []), (2, 0, 0, 0, 0, []), (3, 11, 3, 0, 0, []), (4, 5, 3, 0, 0, []), (5, 9, 0, 0, 0, []), (6, 49, 8, 3, 23, []), (9, 49, 7, 9, 182, []), (12, 38, 30, 0, 0, []), (15, 9, 0, 0, 0, []), (16, 49, 8, 5, 33, []), (19, 5, 3, 0, 0, []), (20, 200, 33, 159, 1, [2]), (23, 41, 13, 0, 0, []), (26, 5, 2, 0, 0, []), (27, 5, 1, 0, 0, []), (28, 36, 5, 0, 0, []), (31, 5, 3, 0, 0, []), (32, 210, 0, 0, 0, []), (33, 34, 2, 1, 0, []), (36, 34, 3, 1, 0, []), (39, 47, (-35), 0, 0, [])]
set_option maxRecDepth 1000000 in
theorem lx_rows_ok : ∀ q ∈ lx_rows, cm_RowOK cm_ms lx_P led_cx q := cm_chkAll_ok (ps := [[], [], [], [], [], [], [445], [240], [], [], [447], [], [769, 770, 771, 119], [], [], [], [], [], [], [], [], []]) (by decide +kernel)
set_option maxRecDepth 1000000 in
theorem lx_rc : ∀ q ∈ lx_rows, ab_RC cm_ms q := fun q hq => ab_rc1_ok (List.all_eq_true.mp (by decide +kernel : lx_rows.all (ab_rc1 cm_ms) = true) q hq)
noncomputable def lx_F : ab_Ke := ((-2147483648), 2147483647, 0, (0, 0, []), (0, 0, []))
noncomputable def lx_S : ab_S := (4, [(0, (1, 0, [0])), (1, (3, 0, [])), (2, (3, 1, [])), (3, (3, 2, []))], [], [lx_F, lx_F, (0, 5, 0, (0, 0, []), (0, 0, []))], [])
noncomputable def lx_q (a b : Nat) (f : Bool × ab_S) : Bool := decide (f.1 = true) && (decide (f.2.1 = 4) && (decide (f.2.2.1 = [(0, (1, 0, [0])), (1, (3, 0, [])), (2, (3, (a : Int), [])), (3, (3, (b : Int), []))]) && (decide (f.2.2.2.1 = []) && (decide ((f.2.2.2.2.1[b]?).map (fun r => r.2.2) = some (1, (3, ((2 : Nat) : Int), []), (0, 1, []))) && decide ((f.2.2.2.2.1[2]?).map (fun r => r.2.1) = some 4)))))
noncomputable def lx_e (f : Bool × ab_S) : Bool := decide (f.1 = true) && (decide (f.2.1 = 42) && (decide (f.2.2.1 = [(0, (1, 0, [0]))]) && decide (f.2.2.2.1 = [])))
noncomputable def lx_r (f : Bool × ab_S) : Bool := decide (f.1 = false) && (decide (f.2.1 = 32) && decide (f.2.2.2.1 = [(3, 2, [])]))
noncomputable def lx_p (f : Bool × ab_S) : Bool := lx_q 1 7 f || (lx_q 7 8 f || (lx_e f || lx_r f))
noncomputable abbrev lx_st : List (Nat × List Nat) := [(4, [0, 1, 2, 3]), (42, [0])]
set_option maxRecDepth 1000000 in
theorem lx_chk : (ab_run (ab_cl cm_ms hp [] [] [(33, mr_33)] 1) hp [] lx_P lx_rows lx_st 100 lx_S).any (fun fs => fs.all lx_p) = true := by decide +kernel
noncomputable def lx_Z (M0 : cm_M) (op : Nat) (S : cm_S) : Prop := S.1 = 32 ∧ ∃ x : Int32, S.2.2.1 = [.int x] ∧ ab_ok hp hN S.2.2.2 ∧ ab_fr [] M0 S.2.2.2
theorem lx_sub {J : cm_S → Prop} (hs : ∀ pc L L' st M, J (pc, L', st, M) → (∀ q ∈ L', q ∈ L) → J (pc, L, st, M)) {pc : Nat} {L : List (Nat × Value)} {st : List Value} {M : cm_M} : ∀ L', J (pc, L', st, M) → (∀ q ∈ L', cm_look L q.1 = some q.2) → J (pc, L, st, M) := fun L' h hq => hs pc L L' st M h (fun q h1 => cm_look_mem (hq q h1))
theorem lx_turn {G : cm_S → Prop} (hs : ∀ pc L L' st M, G (pc, L', st, M) → (∀ q ∈ L', q ∈ L) → G (pc, L, st, M)) {M0 : cm_M} (hrun : ∀ S, cm_wp cm_ms (cm_Call cm_ms (2 + 1)) none lx_P lx_rows lx_st G (lx_Z M0) 100 S → G S) (h42 : ∀ M, ab_ok hp hN M → ab_fr [] M0 M → G (42, [(0, .ref 0)], [], M)) {i a k : Int32} {M : cm_M} (hM : ab_ok hp hN M) (hfr : ab_fr [] M0 M) (hk0 : 0 ≤ k.toInt) (hk1 : k.toInt ≤ 5)
    (IH : ∀ (a' : Int32) (M' : cm_M), ab_ok hp hN M' → ab_fr [] M0 M' → k.toInt ≤ 4 → G (4, [(0, .ref 0), (1, .int i), (2, .int a'), (3, .int (k + 1))], [], M')) : G (4, [(0, .ref 0), (1, .int i), (2, .int a), (3, .int k)], [], M) := by
  refine hrun _ ?_
  obtain ⟨fs, hfs, hall⟩ := ts_any lx_chk
  have hG : ab_G hp hN M [] [i, a, k] lx_S (4, [(0, .ref 0), (1, .int i), (2, .int a), (3, .int k)], [], M) := by
    refine ⟨rfl, ?_, trivial, lk_k ⟨lu_f i, lu_f a, ⟨rfl, hk0, hk1⟩, trivial⟩, hM, ab_fr_rf _ _, fun q hq => nomatch hq⟩
    intro q hq
    simp only [lx_S, List.mem_cons, List.not_mem_nil, or_false] at hq
    rcases hq with rfl | rfl | rfl | rfl
    · exact ⟨_, rfl, 0, List.mem_singleton.mpr rfl, rfl⟩
    · exact ⟨_, rfl, i, rfl, rfl⟩
    · exact ⟨_, rfl, a, rfl, rfl⟩
    · exact ⟨_, rfl, k, rfl, rfl⟩
  refine ab_run_ok (M0 := M) hNP (ab_cl_ok cm_ms_ok cm_ms_rc (inl := [(33, mr_33)]) (List.forall_mem_cons.mpr ⟨rfl, fun _ h => nomatch h⟩) hNP (fun _ h => absurd h List.not_mem_nil) 1) lx_rc 100 _ fs _ [i, a, k] hfs hG (fun f hf ext C' hG' => ?_)
  have h1 := List.all_eq_true.mp hall f hf
  obtain ⟨g1, g2, g3, g4, g5⟩ := hG'
  obtain ⟨pc, CL, sc, M'⟩ := C'
  dsimp only at g1 g2 g3 g4 g5
  have hfr' : ab_fr [] M0 M' := fun c i hc => by
    obtain ⟨a1, a2, a3⟩ := hfr c i hc
    obtain ⟨b1, b2, b3⟩ := g5.2.1 c i hc
    exact ⟨b1.trans a1, b2.trans a2, b3.trans a3⟩
  have back : ∀ (a0 b0 : Nat), lx_q a0 b0 f = true → a0 < 100 → (f.1 = true → G (pc, CL, sc, M')) ∧ (f.1 = false → ∀ r, ev_at lx_rows pc = some r → 210 ≤ r.1 → lx_Z M0 r.1 (pc, CL, sc, M')) := by
    intro a0 b0 hq _
    simp only [lx_q, Bool.and_eq_true, decide_eq_true_eq] at hq
    obtain ⟨q1, q2, q3, q4, q5, q6⟩ := hq
    refine ⟨fun _ => ?_, fun h0 => by rw [q1] at h0; cases h0⟩
    rw [q2] at g1
    subst g1
    rw [q4] at g3
    have hsc := ab_s_nil g3
    subst hsc
    rw [q3] at g2
    obtain ⟨v0, l0, c0, hc0, rfl⟩ := g2 (0, (1, 0, [0])) List.mem_cons_self
    obtain ⟨v1, l1, x1, hx1, rfl⟩ := g2 (1, (3, 0, [])) (List.mem_cons_of_mem _ List.mem_cons_self)
    obtain ⟨v2, l2, x2, hx2, rfl⟩ := g2 (2, (3, (a0 : Int), [])) (List.mem_cons_of_mem _ (List.mem_cons_of_mem _ List.mem_cons_self))
    obtain ⟨v3, l3, x3, hx3, rfl⟩ := g2 (3, (3, (b0 : Int), [])) (List.mem_cons_of_mem _ (List.mem_cons_of_mem _ (List.mem_cons_of_mem _ List.mem_cons_self)))
    have hc0 := List.mem_singleton.mp hc0
    subst hc0
    have e1 : some i = some x1 := hx1
    cases e1
    have hx3 : ([i, a, k] ++ ext)[(b0 : Int).toNat]? = some x3 := hx3
    rw [Int.toNat_natCast] at hx3
    obtain ⟨y, hy, rfl⟩ := hd_sum g4 q5 hx3
    have hy : some k = some y := hy
    cases hy
    have hk4 : k.toInt ≤ 4 := by
      cases hr : f.2.2.2.2.1[2]? with
      | none => rw [hr] at q6; cases q6
      | some r =>
        rw [hr] at q6
        have e : r.2.1 = 4 := Option.some.inj q6
        have this : k.toInt ≤ r.2.1 := (g4.2 2 r k hr rfl).1.2
        rw [e] at this
        exact this
    refine lx_sub hs _ (IH x2 M' g5.1 hfr' hk4) (fun q hq => ?_)
    simp only [List.mem_cons, List.not_mem_nil, or_false] at hq
    rcases hq with rfl | rfl | rfl | rfl
    · exact l0
    · exact l1
    · exact l2
    · exact l3
  unfold lx_p at h1
  rw [Bool.or_eq_true, Bool.or_eq_true, Bool.or_eq_true] at h1
  rcases h1 with h1 | h1 | h1 | h1
  · exact back 1 7 h1 (by decide)
  · exact back 7 8 h1 (by decide)
  · simp only [lx_e, Bool.and_eq_true, decide_eq_true_eq] at h1
    obtain ⟨q1, q2, q3, q4⟩ := h1
    refine ⟨fun _ => ?_, fun h0 => by rw [q1] at h0; cases h0⟩
    rw [q2] at g1
    subst g1
    rw [q4] at g3
    have hsc := ab_s_nil g3
    subst hsc
    rw [q3] at g2
    obtain ⟨v0, l0, c0, hc0, rfl⟩ := g2 (0, (1, 0, [0])) List.mem_cons_self
    have hc0 := List.mem_singleton.mp hc0
    subst hc0
    refine lx_sub hs _ (h42 M' g5.1 hfr') (fun q hq => ?_)
    have hq := List.mem_singleton.mp hq
    subst hq
    exact l0
  · simp only [lx_r, Bool.and_eq_true, decide_eq_true_eq] at h1
    obtain ⟨q1, q2, q3⟩ := h1
    refine ⟨fun h0 => (by rw [q1] at h0; cases h0), fun _ r hr h210 => ?_⟩
    rw [q3] at g3
    rw [q2] at g1
    cases sc with
    | nil => exact g3.elim
    | cons v sc =>
      obtain ⟨g31, g32⟩ : ab_v ([i, a, k] ++ ext) (3, 2, []) v ∧ ab_s ([i, a, k] ++ ext) [] sc := g3
      obtain ⟨x, -, rfl⟩ : ∃ x, ([i, a, k] ++ ext)[(2 : Int).toNat]? = some x ∧ v = .int x := g31
      have hsc := ab_s_nil g32
      subst hsc
      exact ⟨g1, x, rfl, g5.1, hfr'⟩
theorem lx_loop {G : cm_S → Prop} (hs : ∀ pc L L' st M, G (pc, L', st, M) → (∀ q ∈ L', q ∈ L) → G (pc, L, st, M)) {M0 : cm_M} (hrun : ∀ S, cm_wp cm_ms (cm_Call cm_ms (2 + 1)) none lx_P lx_rows lx_st G (lx_Z M0) 100 S → G S) (h42 : ∀ M, ab_ok hp hN M → ab_fr [] M0 M → G (42, [(0, .ref 0)], [], M)) {i : Int32} : ∀ (j : Nat) (a k : Int32) (M : cm_M), ab_ok hp hN M → ab_fr [] M0 M → 0 ≤ k.toInt → k.toInt + (j : Int) = 5 → G (4, [(0, .ref 0), (1, .int i), (2, .int a), (3, .int k)], [], M) := by
  intro j
  induction j with
  | zero => intro a k M hM hfr h0 h5; exact lx_turn hs hrun h42 hM hfr h0 (by omega) (fun a' M' _ _ h4 => by omega)
  | succ j ih =>
    intro a k M hM hfr h0 h5
    refine lx_turn hs hrun h42 hM hfr h0 (by omega) (fun a' M' k1 k2 h4 => ih a' (k + 1) M' k1 k2 ?_ ?_)
    · rw [hd_inc (by omega)]; omega
    · rw [hd_inc (by omega)]; omega
noncomputable def led_B (D : va_G) (adr : Nat → Nat) (A : Nat → Prop) (u : cm_M × va_W) (t : State) : Prop := va_P D vwCl u.2 t.heap ∧ va_D A u.2 ∧ cm_w t adr u.1 u.2
noncomputable def led_BX (D : va_G) (adr : Nat → Nat) (A : Nat → Prop) (E : String) (u : cm_M × va_W) (t : State) : Prop := E = led_E ∧ led_B D adr A u t
theorem led_fr {M M' : cm_M} (h : ab_ok hp hN M') (hf : ab_fr [] M M') : lu_P M M' := ⟨h, fun c i _ => ⟨(hf c i rfl).1, (hf c i rfl).2.2⟩⟩
noncomputable abbrev led_Qc (D : va_G) (adr : Nat → Nat) (M : cm_M) (A : Nat → Prop) : Array Value → State → Outcome → State → Prop := va_Qi (fun (_ : Int32) (u : cm_M × va_W) => lu_P M u.1) (led_B D adr A) A
noncomputable abbrev led_XC (D : va_G) (adr : Nat → Nat) (M : cm_M) (A : Nat → Prop) : String → State → State → Prop := vx_X (fun u : cm_M × va_W => lu_P M u.1) (led_BX D adr A) A
set_option maxHeartbeats 4000000 in
set_option maxRecDepth 100000 in
/-- BarberMinutes.led: it answers, or it throws -/
theorem led_x (l : Launch) (hl0 : l.stackTraces = false) (D : va_G) (adr : Nat → Nat) (ws : va_W) (sz : Nat) (M : cm_M) (hM : ab_ok hp hN M) (v : Int32) :
    vx_Met l led_yx (Cond.code led_yx led_cx 4 (some .int) :: lw_good) (ev_rm 20 1 6) (va_Pc [.ref (adr 0), .int v] (led_Pb D adr ws sz M)) (led_Qc D adr M (va_A ws sz)) (led_XC D adr M (va_A ws sz)) 1 6 (va_A ws sz) := by
  refine vx_ofW (cc := led_cx) (maxL := 4) (ret := some .int) (by decide) rfl ?_
  intro p e s m args below meth c s₁ B hml hno hv
  obtain ⟨rfl, ⟨hsz, hP, hK, hD0, hW, hN'⟩, hTh⟩ := hv
  subst hsz
  have hD : va_D (va_A ws s.heap.size) ws := hD0.self (sz := s.heap.size)
  have hts : ∀ w ∈ lw_good, w.before ([.ref (adr 0), .int v] : List Value).toArray s = true := fun w hw => atoms_spec (ws := Cond.code led_yx led_cx 4 (some .int) :: lw_good) B.pre w (List.mem_cons_of_mem _ hw)
  have hA : ∀ q : Nat, s.heap.size ≤ q → va_A ws s.heap.size q := fun q h => Or.inr h
  have hown : s.vm.findClass "BarberMinutes" = some m.cls := findClass_of_methodNamed B.named
  have X : cm_X p (ev_rm 20 1 6) s m ([.ref (adr 0), .int v] : List Value).toArray c led_cx 4 "BarberMinutes" D (va_A ws s.heap.size) adr 0 0 none :=
    ⟨B.exec, B.bytes, hml, hown, hts, hK, hA, hN', by decide, by decide, by decide, by decide, trivial⟩
  have hl := lv_entry ([.ref (adr 0), .int v]) (n := 4) (Nat.le_of_ble_eq_true rfl)
  rw [lg_entry_eq]
  have hret : ∀ (r : ev_Row) (S : cm_S), ev_at lx_rows S.1 = some r → 210 ≤ r.1 → lx_Z M r.1 S → cm_Go p l e (ev_rm 20 1 6) s m ([.ref (adr 0), .int v] : List Value).toArray below meth c (vx_MQ below (led_Qc D adr M (va_A ws s.heap.size)) (led_XC D adr M (va_A ws s.heap.size)) ([.ref (adr 0), .int v] : List Value).toArray s 1 6 (va_A ws s.heap.size)) 4 D (va_A ws s.heap.size) adr 0 0 S := by
    intro r S hr h210 hZ
    obtain ⟨pc, L, st, M'⟩ := S
    obtain ⟨e32, x, hst, k1, k2⟩ := hZ
    dsimp only at e32 hst k1 k2
    subst e32
    subst hst
    intro ws' H locs ls ⟨hP', hD', hS', hW', hL'⟩
    show W p l e (ev_rm 20 1 6) s m _ below meth c H locs 0 0 _ (F0 m 32 ls [.int x])
    exact W.widen (k := 1) (n := 6) (by decide) (by decide) (vx_ret (W.iret (v := x) B.exec B.bytes B.returns (fun t ht hWm => ⟨⟨x, (M', ws'), rfl, led_fr k1 k2, by rw [ht]; exact hP', hD', cm_w_moved hWm.alike hW'⟩, hS'.F ht⟩) hS'.2.2 (by decide +kernel) B.notSynchronized))
  have hrun : ∀ S, cm_wp cm_ms (cm_Call cm_ms (2 + 1)) none lx_P lx_rows lx_st (cm_Go p l e (ev_rm 20 1 6) s m ([.ref (adr 0), .int v] : List Value).toArray below meth c (vx_MQ below (led_Qc D adr M (va_A ws s.heap.size)) (led_XC D adr M (va_A ws s.heap.size)) ([.ref (adr 0), .int v] : List Value).toArray s 1 6 (va_A ws s.heap.size)) 4 D (va_A ws s.heap.size) adr 0 0) (lx_Z M) 100 S → cm_Go p l e (ev_rm 20 1 6) s m ([.ref (adr 0), .int v] : List Value).toArray below meth c (vx_MQ below (led_Qc D adr M (va_A ws s.heap.size)) (led_XC D adr M (va_A ws s.heap.size)) ([.ref (adr 0), .int v] : List Value).toArray s 1 6 (va_A ws s.heap.size)) 4 D (va_A ws s.heap.size) adr 0 0 S :=
    fun S h => cm_wp_ok (P := lx_P) cm_ms_ok ⟨by decide, by decide⟩ X lx_rows_ok (fun S h => h) hret 100 S (cm_wp_real cm_ms_ok h)
  have h42 : ∀ M', ab_ok hp hN M' → ab_fr [] M M' → cm_Go p l e (ev_rm 20 1 6) s m ([.ref (adr 0), .int v] : List Value).toArray below meth c (vx_MQ below (led_Qc D adr M (va_A ws s.heap.size)) (led_XC D adr M (va_A ws s.heap.size)) ([.ref (adr 0), .int v] : List Value).toArray s 1 6 (va_A ws s.heap.size)) 4 D (va_A ws s.heap.size) adr 0 0 (42, [(0, .ref 0)], [], M') := by
    intro M' k1 k2 ws' H locs ls ⟨hP', hD', hS', hW', hL'⟩
    show W p l e (ev_rm 20 1 6) s m _ below meth c H locs 0 0 _ (F0 m 42 ls [])
    exact vx_throw0 (own := "BarberMinutes") (cls := led_E) (names := ["java/lang/RuntimeException", "java/lang/Exception"]) (ik := 367) (ic := 369) (A := va_A ws s.heap.size) B.exec B.bytes hl0 hown (by decide) (by decide) (hts _ led_w1) (hts _ led_w2) (fun w hw => by
        rcases led_at hw with h | ⟨h, h'⟩
        · exact hts w h
        · exact led_Ca_use hTh.1 h h')
      (fun w hw => by
        rcases List.mem_cons.mp hw with rfl | hw
        · rfl
        · rcases List.mem_cons.mp hw with rfl | hw
          · rfl
          · rcases led_at hw with h | ⟨-, h⟩
            · simp [vx_ot, (List.mem_filter.mp h).2]
            · unfold led_isC at h
              split at h
              · rfl
              · rfl
              · cases h)
      hTh.2.1 hTh.2.2 hS' (hL'.1.trans hml.symm) (by decide +kernel) (by decide +kernel) (by decide +kernel) (by decide +kernel) (fun x hx => (hno x hx).elim) (by decide) (by decide) (by decide) (by decide) B.notSynchronized
      (fun t hvm hz hq => ⟨(M', ws'), led_fr k1 k2, ⟨rfl, hP'.kept (fun k q hk => hq q.1 (hP' k q hk).lt), hD', cm_w_moved hvm hW'⟩, Nat.le_trans hS'.1 hz, fun q h1 h2 => (hq q (Nat.lt_of_lt_of_le h1 hS'.1)).trans (hS'.2.1 q h1 h2)⟩)
      hS'.2.2 (by decide) (by decide)
  have hgo := cm_wp_ok (P := lx_P) (l := l) (e := e) (below := below) (Q := vx_MQ below (led_Qc D adr M (va_A ws s.heap.size)) (led_XC D adr M (va_A ws s.heap.size)) ([.ref (adr 0), .int v] : List Value).toArray s 1 6 (va_A ws s.heap.size)) (d := 2 + 1) (meth := meth) cm_ms_ok ⟨by decide, by decide⟩ X lx_rows_ok (stops := lx_st) (J := cm_Go p l e (ev_rm 20 1 6) s m ([.ref (adr 0), .int v] : List Value).toArray below meth c (vx_MQ below (led_Qc D adr M (va_A ws s.heap.size)) (led_XC D adr M (va_A ws s.heap.size)) ([.ref (adr 0), .int v] : List Value).toArray s 1 6 (va_A ws s.heap.size)) 4 D (va_A ws s.heap.size) adr 0 0) (Z := lx_Z M) (fun S h => h) hret 10 (0, [(0, .ref 0), (1, .int v)], [], M) (by
      show 2 < 4 ∧ 3 < 4 ∧ _
      refine ⟨by decide, by decide, ?_⟩
      exact lx_loop (fun pc L L' st M h hq => cm_Go_sub h hq) hrun h42 5 0 0 M hM (ab_fr_rf _ _) (by decide) (by decide))
  refine hgo ws s.heap [] _ ⟨hP, hD, va_S.rf, hW, hl.1, hl.2.1, fun q hq => ?_⟩
  simp only [List.map_cons, List.map_nil, List.mem_cons, List.not_mem_nil, or_false] at hq
  rcases hq with rfl | rfl
  · exact hl.2.2 (0, .ref (adr 0)) List.mem_cons_self
  · exact hl.2.2 (1, .int v) (List.mem_cons_of_mem _ List.mem_cons_self)
set_option maxRecDepth 1000000 in
theorem led_d4 : decode led_cL 4 = .ok (.invokevirtual 7, 3) := by decide +kernel
theorem led_met {l : Launch} {y : MethodName} {ws : List Cond} {rm : Room} {Pc : Array Value → State → Prop} {Qc : Array Value → State → Outcome → State → Prop} {mc ms : Nat} {free : Addr → Prop} (h : vx_Met l y ws rm Pc Qc (fun _ _ _ => False) mc ms free) : Met l y ws rm Pc Qc mc ms free :=
  MetFree.mono h (fun _ _ h => h) (fun _ _ _ _ _ h => h) (fun a s o t _ hq => by
    rcases hq with hq | ⟨q, -, E, ce, L, hf, -⟩
    · exact hq
    · exact hf.elim)
noncomputable abbrev ll_P : ev_P := (0, 0, false, "BarberMinutesLaw", 4, 0)
noncomputable def ll_rows : List (Nat × ev_Row) := [(7, 29, 0, 0, 0, []), (8, 90, 0, 0, 0, []), (9, 47, 6, 0, 0, []), (15, 0, 0, 0, 0, []), (16, 210, 0, 0, 0, [])]
set_option maxRecDepth 1000000 in
theorem ll_rows_ok : ∀ q ∈ ll_rows, cm_RowOK cm_ms ll_P led_cL q := cm_chkAll_ok (ps := [[], [], [], [], []]) (by decide +kernel)
noncomputable def ll_Z (M0 : cm_M) (op : Nat) (S : cm_S) : Prop := S.1 = 16 ∧ S.2.2.1 = [.int 0] ∧ lu_P M0 S.2.2.2
theorem ll_wl {M M' : cm_M} (h : lu_P M M') (c i : Nat) (x : Int64) : lu_P M (cm_wl M' c i x) := ⟨⟨h.1.1, h.1.2.1, h.1.2.2⟩, h.2⟩
theorem ll_wp {J : cm_S → Prop} {M M' : cm_M} (h : lu_P M M') (r : Int32) {L : List (Nat × Value)} : cm_wp cm_ms (cm_Call cm_ms 1) none ll_P ll_rows [] J (ll_Z M) 10 (7, L, [.int r, .int 0, .ref 136], M') := by
  show (cm_kind 136).1 = 100 + 2 ∧ 0 ≤ (0 : Int32).toInt ∧ (0 : Int32).toInt < ((cm_kind 136).2 : Int) ∧ 0 ≤ _ ∧ ll_Z M 210 (16, L, [.int 0], cm_wl M' 136 (0 : Int32).toNatClampNeg r.toInt64)
  exact ⟨by decide, by decide, by decide, (by decide : (0 : Int) ≤ 15), rfl, rfl, ll_wl h _ _ _⟩
set_option maxHeartbeats 4000000 in
set_option maxRecDepth 100000 in
theorem led_L (l : Launch) (hl0 : l.stackTraces = false) (D : va_G) (adr : Nat → Nat) (ws : va_W) (sz : Nat) (M : cm_M) (hM : ab_ok hp hN M) (v : Int32) :
    Met l led_yL (Cond.codeWith led_yL led_cL 4 (some .int) [(0, 9, 12, 13)] :: lw_good) (ev_rm 21 1 6) (va_Pc [.ref (adr 0), .int v, .ref (adr 136)] (led_Pb D adr ws sz M)) (led_Qc D adr M (va_A ws sz)) 1 6 (va_A ws sz) := by
  refine led_met (vx_ofWH (cc := led_cL) (maxL := 4) (ret := some .int) (hh := [(0, 9, 12, 13)]) (by decide) rfl ?_)
  intro p e s m args below meth c s₁ B hml hv
  obtain ⟨rfl, ⟨hsz, hP, hK, hD0, hW, hN'⟩, hTh⟩ := hv
  subst hsz
  have hx := B.exec
  have hb := B.bytes
  have hr := B.returns
  have hD : va_D (va_A ws s.heap.size) ws := hD0.self (sz := s.heap.size)
  have hall := atoms_spec (ws := Cond.codeWith led_yL led_cL 4 (some .int) [(0, 9, 12, 13)] :: lw_good) B.pre
  have hts : ∀ w ∈ lw_good, w.before ([.ref (adr 0), .int v, .ref (adr 136)] : List Value).toArray s = true := fun w hw => hall w (List.mem_cons_of_mem _ hw)
  have htab : c.exceptionTable.toList = tableOf [(0, 9, 12, 13)] := vx_table (x := led_yL) B (hall _ List.mem_cons_self)
  have hA : ∀ q : Nat, s.heap.size ≤ q → va_A ws s.heap.size q := fun q h => Or.inr h
  have hown : s.vm.findClass "BarberMinutesLaw" = some m.cls := findClass_of_methodNamed B.named
  have hl := lv_entry ([.ref (adr 0), .int v, .ref (adr 136)]) (n := 4) (Nat.le_of_ble_eq_true rfl)
  rw [lg_entry_eq]
  generalize (lg_sl ([.ref (adr 0), .int v, .ref (adr 136)]) ++ List.replicate (4 - (lg_sl ([.ref (adr 0), .int v, .ref (adr 136)])).length) Slot.unset).toArray = ls at hl ⊢
  have hl : lv_has ls 4 [(0, .ref (adr 0)), (1, .int v), (2, .ref (adr 136))] := hl
  refine lv_aload_n hx hb (k := 2) (by decide +kernel) rfl (lv_at hl 2 rfl) ?_
  refine lv_iconst (v := 0) hx hb (n := 0) (by decide +kernel) rfl ?_
  refine lv_aload_n hx hb (k := 0) (by decide +kernel) rfl (lv_at hl 0 rfl) ?_
  refine lv_iload_n hx hb (k := 1) (by decide +kernel) rfl (lv_at hl 1 rfl) ?_
  obtain ⟨fs, hcl, -, -⟩ := cm_obj hW (show cm_kind 0 = (8, 15) from by decide) (by decide)
  have hG : GoodIn lw_good (wsV "BarberMinutesLaw" 7 "BarberMinutes" led_yx (Cond.code led_yx led_cx 4 (some .int) :: lw_good)) := lw_good_good (fun w h => by
    unfold wsV at h
    rcases List.mem_append.mp h with h | h
    · simp only [List.mem_cons, List.not_mem_nil, or_false] at h
      rcases h with rfl | rfl | rfl | rfl
      · exact led_w5
      · exact led_w6
      · exact led_w7
      · exact led_w8
    · rcases List.mem_cons.mp h with rfl | h
      · exact led_w3
      · exact h)
  refine vx_calli (vx_runV (As := [.int v]) (rest := [.int 0, .ref (adr 136)]) ⟨hx, hb, hml, hown, hts⟩ (led_x l hl0 D adr ws s.heap.size M hM v) (cwV 1 hts hG rfl rfl rfl (by decide +kernel) ⟨by decide, by decide⟩)
    ⟨led_blind, va_recv hK hP (ci := 8) (q := (RX8, TX8, 15)) rfl hcl, fun U hU hWm => ⟨rfl, ⟨by rw [hU], by rw [hU]; exact hP, va_K.moved hWm.alike hK, hD0, cm_w_moved hWm.alike hW, cm_N_call hWm hU va_S.rf (fun _ h => h) hN'⟩, led_Th_call hWm hU va_S.rf (fun _ h => h) hTh⟩⟩
    rfl rfl hl.1 rfl (lv_room (Nat.le_of_ble_eq_true rfl)) led_d4 ⟨by decide, by decide⟩) va_S.rf (fun q _ h => h) (fun q h => h) (fun q _ h => h) ?_ ?_
  · intro E ce q9 u t H1 locs1 ht hvm hpx hbx hz hk hS1 hcell hcv hcl2
    obtain ⟨rfl, hP1, hD1, hw1⟩ := hbx
    rw [ht] at hP1
    refine led_catch (name := led_E) hown ⟨0, 9, 12, 13⟩ [] (by rw [htab]; rfl) (by decide) (by decide) (hts _ led_w9) (led_Ca_use hTh.1 led_w10 rfl) hcell hcv hcl2 ?_
    refine lv_astore_n (i := 3) (lv' := [(3, .ref q9), (0, .ref (adr 0)), (1, .int v), (2, .ref (adr 136))]) hx hb (k := 3) (by decide +kernel) rfl hl (by decide) rfl (fun ls hl => ?_)
    refine lv_iconst (v := 1) hx hb (n := 1) (by decide +kernel) rfl ?_
    refine vx_ret (W.iret (v := 1) hx hb hr (fun t2 ht2 hWm => ⟨⟨1, u, rfl, hpx, by rw [ht2]; exact hP1, hD1, cm_w_moved (hvm.symm.trans hWm.alike) hw1⟩, hS1.F ht2⟩) hS1.2.2 (by decide +kernel) B.notSynchronized)
  · intro r u t H1 locs1 ht hvm hlu hB hz hk hS1
    obtain ⟨hP1, hD1, hw1⟩ := hB
    rw [ht] at hP1
    obtain ⟨M', ws'⟩ := u
    dsimp only at hP1 hD1 hw1 hlu
    have X : cm_X p (ev_rm 21 1 6) s m ([.ref (adr 0), .int v, .ref (adr 136)] : List Value).toArray c led_cL 4 "BarberMinutesLaw" D (va_A ws s.heap.size) adr 1 6 none :=
      ⟨hx, hb, hml, hown, hts, hK, hA, hN', by decide, by decide, by decide, by decide, trivial⟩
    refine cm_wp_ok (P := ll_P) (d := 1) cm_ms_ok ⟨by decide, by decide⟩ X ll_rows_ok (stops := []) (J := fun _ => False) (Z := ll_Z M) (fun S h => h.elim) ?_ 10 (7, [(0, .ref 0), (1, .int v), (2, .ref 136)], [.int r, .int 0, .ref 136], M') (cm_wp_real cm_ms_ok (ll_wp hlu r)) ws' H1 locs1 ls ⟨hP1, hD1, hS1, cm_w_moved hvm.symm hw1, hl⟩
    intro r2 S hr2 h210 hZ
    obtain ⟨pc, L, st, M2⟩ := S
    obtain ⟨e16, hst, k1⟩ := hZ
    dsimp only at e16 hst k1
    subst e16
    subst hst
    intro ws2 H2 locs2 ls2 ⟨hP2, hD2, hS2, hW2, hL2⟩
    show W p l e (ev_rm 21 1 6) s m _ below meth c H2 locs2 1 6 _ (F0 m 16 ls2 [.int 0])
    exact vx_ret (W.iret (v := 0) hx hb hr (fun t2 ht2 hWm => ⟨⟨0, (M2, ws2), rfl, k1, by rw [ht2]; exact hP2, hD2, cm_w_moved hWm.alike hW2⟩, hS2.F ht2⟩) hS2.2.2 (by decide +kernel) B.notSynchronized)
set_option maxRecDepth 1000000 in
theorem led_d : decode code 1665 = .ok (.invokestatic 235, 3) := by decide +kernel
/-- the law's goal from a state, when t calls have been made -/
noncomputable abbrev law_G (p : Program) (l : Launch) (e : Env) (s : State) (m : MethodId) (below : List Frame) (meth : Method) (c : Code) (b : Nat) (D : va_G) (adr : Nat → Nat) (t : Nat) : cm_S → Prop := cm_Go p l e room_1 s m #[Value.ref b] below meth c (lw_Z below #[Value.ref b] s) 7 D (law_A s) adr (137 + t) (3193 + 6 * t)
set_option maxHeartbeats 4000000 in
set_option maxRecDepth 100000 in
/-- the law at its call of led -/
theorem led_law {p : Program} {l : Launch} {e : Env} {s : State} {m : MethodId} {below : List Frame} {meth : Method} {c : Code} {b L : Nat} {xs : Nat → Int32} {D : va_G} {adr : Nat → Nat} {t : Nat} (hl0 : l.stackTraces = false) (C0 : lw_At p s m meth c b L xs) (ht : t < 1000)
    (X : cm_X p room_1 s m #[Value.ref b] c code 7 "BarberMinutesLaw" D (law_A s) adr (137 + t) (3193 + 6 * t) (some (L, xs))) {Lo : List (Nat × Value)} {M : cm_M} (hM : ab_ok hp hN M) {v : Int32} (hk : ∀ (r : Int32) (M' : cm_M), lu_P M M' → law_G p l e s m below meth c b D adr (t + 1) (1668, Lo, [.int r], M')) : law_G p l e s m below meth c b D adr t (1665, Lo, [.ref 136, .int v, .ref 0], M) := by
  intro ws H locs ls hR
  obtain ⟨hx, hb, hml, hown, hts, hK, hA, hN', hcC, hcS, hf, hlc, hscr⟩ := X
  obtain ⟨hP, hD, hS, hW, hL⟩ := hR
  have hfree : ∀ q, va_A ws H.size q → law_A s q := by
    intro q h
    rcases h with ⟨k, e, h⟩ | h
    · exact hD.2 k (q, e) h
    · exact hA q (Nat.le_trans hS.1 h)
  have hG : GoodIn lw_good (va_wsS "BarberMinutesLaw" 235 led_yL (Cond.codeWith led_yL led_cL 4 (some .int) [(0, 9, 12, 13)] :: lw_good)) := lw_good_good (fun w h => by
    unfold va_wsS at h
    rcases List.mem_append.mp h with h | h
    · simp only [List.mem_cons, List.not_mem_nil, or_false] at h
      rcases h with rfl | rfl | rfl
      · exact led_w13
      · exact led_w11
      · exact led_w12
    · rcases List.mem_cons.mp h with rfl | h
      · exact led_w4
      · exact h)
  have hroom : room_1.cells = 601024 ∧ room_1.slots = 7293034 := ⟨rfl, rfl⟩
  refine va_calli (vx_runSW (As := [.ref (adr 0), .int v, .ref (adr 136)]) (rest := []) ⟨hx, hb, hml, hown, hts⟩ (led_L l hl0 D adr ws H.size M hM v) (vx_cwSW 3 hts hG rfl rfl rfl (by decide +kernel) ⟨by decide, by decide⟩)
    ⟨led_blind, fun U hU hWm => ⟨rfl, ⟨by rw [hU], by rw [hU]; exact hP, va_K.moved hWm.alike hK, hD.weaken (fun _ _ _ _ => trivial), cm_w_moved hWm.alike hW, cm_N_call hWm hU hS hfree hN'⟩, led_Th_call hWm hU hS hfree (led_start C0)⟩⟩
    rfl rfl hL.1 rfl (lv_room (Nat.le_of_ble_eq_true rfl)) led_d ⟨by rw [hroom.1]; omega, by rw [hroom.2]; omega⟩) hS (fun q _ h => hfree q h) hfree (fun r u t2 H1 locs1 ht2 hvm hlu hB hz hkk hS1 => ?_)
  obtain ⟨hP1, hD1, hw1⟩ := hB
  rw [ht2] at hP1
  exact hk r u.1 hlu u.2 H1 locs1 ls ⟨hP1, hD1.weaken (fun _ _ _ h => hfree _ h), hS1, cm_w_moved hvm.symm hw1, hL⟩
