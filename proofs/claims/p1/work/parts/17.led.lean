/-! led: the one call that throws, and the law's catching of it -/
abbrev led_E : String := "java/util/NoSuchElementException"
abbrev led_yx : MethodName := ⟨"BarberMinutes", "led", "(I)I"⟩
abbrev led_yL : MethodName := ⟨"BarberMinutesLaw", "led", "(LBarberMinutes;I[J)I"⟩
abbrev led_cx : ByteArray := prog_1_method_64_code
abbrev led_cL : ByteArray := method_3_code
def led_K : ev_K := [(-2147483648, 2147483647), (-2147483648, 2147483647), (-2147483648, 2147483647), (-2147483648, 2147483647), (-2147483648, 2147483647), (-2147483648, 2147483647), (52, 52)]
def led_rows : List (Nat × ev_Row) := [(0, 0, 0, 0, 0, []), (1, 11, 2, 0, 0, []), (2, 0, 0, 0, 0, []), (3, 11, 3, 0, 0, []), (4, 5, 3, 0, 0, []), (5, 9, 0, 0, 0, []), (6, 49, 8, 3, 23, []), (9, 49, 7, 9, 182, []), (12, 38, 30, 0, 0, [])]
set_option maxRecDepth 1000000 in
theorem led_rows_ok : ∀ q ∈ led_rows, ev_RowOK ev_ms (1, 6, false, "BarberMinutes", 4, 0) led_cx q := ev_chkAll_ok (ps := [([], 0), ([], 0), ([], 0), ([], 0), ([], 0), ([], 0), ([445], 0), ([240], 0), ([], 0)]) (by decide +kernel)
def led_42 : ev_S := (42, [(3, (0, 0)), (2, (0, 0)), (0, (1, 0)), (1, (3, 1))], [], st_w, led_K, 0, 0)
set_option maxRecDepth 1000000 in
theorem led_run : ev_run ev_ms (ev_exec ev_ms 0) (1, 6, false, "BarberMinutes", 4, 0) led_rows [42] 100 (0, ev_args 0 [(1, 0), (3, 1)], [], st_w, led_K, 0, 0) = some [led_42] := ev_eqO_ok (by decide +kernel)
def led_isC (w : Cond) : Bool := match w with
  | .castable _ _ => true
  | .declares _ => true
  | _ => false
/-- which class can stand for which, which method is declared: by the classes alone -/
def led_Ca (U : State) : Prop := ∀ w ∈ lw_tbl, led_isC w = true → w.before #[] U = true
theorem led_Ca_moved {u U : State} (hvm : u.vm.Alike U.vm) (h : led_Ca u) : led_Ca U := fun w hw hc => by
  have h1 := h w hw hc
  unfold led_isC at hc
  split at hc
  · exact va_tabs (u := u.setVm U.vm) rfl rfl (by rw [Cond.castable_setVm hvm]; exact h1)
  · exact va_tabs (u := u.setVm U.vm) rfl rfl (by rw [Cond.declares_setVm hvm]; exact h1)
  · cases hc
theorem led_Ca_use {U : State} {args : Array Value} (h : led_Ca U) {w : Cond} (hw : w ∈ lw_tbl) (hc : led_isC w = true) : w.before args U = true := by
  have h1 := h w hw hc
  unfold led_isC at hc
  split at hc
  · exact va_tabs rfl rfl h1
  · exact va_tabs rfl rfl h1
  · cases hc
set_option maxRecDepth 1000000 in
theorem led_at0 : (vx_at0 "BarberMinutes" 369 led_E ["java/lang/RuntimeException", "java/lang/Exception"]).all (fun w => decide (w ∈ lw_tbl) && (goodWord w || led_isC w)) = true := by decide +kernel
theorem led_at {w : Cond} (hw : w ∈ vx_at0 "BarberMinutes" 369 led_E ["java/lang/RuntimeException", "java/lang/Exception"]) : w ∈ lw_good ∨ (w ∈ lw_tbl ∧ led_isC w = true) := by
  have h1 := List.all_eq_true.mp led_at0 w hw
  simp only [Bool.and_eq_true, Bool.or_eq_true, decide_eq_true_eq] at h1
  obtain ⟨h2, h3 | h3⟩ := h1
  · exact Or.inl (List.mem_filter.mpr ⟨h2, h3⟩)
  · exact Or.inr ⟨h2, h3⟩
set_option maxRecDepth 1000000 in
theorem led_w1 : Cond.classLink "BarberMinutes" 367 led_E ∈ lw_good := lw_good_at 1236 (by decide +kernel) (by decide +kernel)
set_option maxRecDepth 1000000 in
theorem led_w2 : Cond.initialized led_E ∈ lw_good := lw_good_at 136 (by decide +kernel) (by decide +kernel)
set_option maxRecDepth 1000000 in
theorem led_w3 : Cond.code led_yx led_cx 4 (some .int) ∈ lw_good := lw_good_at 1235 (by decide +kernel) (by decide +kernel)
set_option maxRecDepth 1000000 in
theorem led_w4 : Cond.codeWith led_yL led_cL 4 (some .int) [(0, 9, 12, 13)] ∈ lw_good := lw_good_at 1230 (by decide +kernel) (by decide +kernel)
set_option maxRecDepth 1000000 in
theorem led_w5 : Cond.methodLink "BarberMinutesLaw" 7 led_yx ∈ lw_good := lw_good_at 1232 (by decide +kernel) (by decide +kernel)
set_option maxRecDepth 1000000 in
theorem led_w6 : Cond.instanceMethod led_yx ∈ lw_good := lw_good_at 1233 (by decide +kernel) (by decide +kernel)
set_option maxRecDepth 1000000 in
theorem led_w7 : Cond.selects "BarberMinutes" led_yx led_yx ∈ lw_good := lw_good_at 1234 (by decide +kernel) (by decide +kernel)
set_option maxRecDepth 1000000 in
theorem led_w8 : Cond.initialized "BarberMinutes" ∈ lw_good := lw_good_at 116 (by decide +kernel) (by decide +kernel)
set_option maxRecDepth 1000000 in
theorem led_w9 : Cond.classLink "BarberMinutesLaw" 13 led_E ∈ lw_good := lw_good_at 1231 (by decide +kernel) (by decide +kernel)
set_option maxRecDepth 1000000 in
theorem led_w10 : Cond.castable led_E led_E ∈ lw_tbl := List.mem_of_getElem? (i := 1238) (by decide +kernel)
set_option maxRecDepth 1000000 in
theorem led_w11 : Cond.static led_yL ∈ lw_good := lw_good_at 1229 (by decide +kernel) (by decide +kernel)
set_option maxRecDepth 1000000 in
theorem led_w12 : Cond.initialized "BarberMinutesLaw" ∈ lw_good := lw_good_at 115 (by decide +kernel) (by decide +kernel)
set_option maxRecDepth 1000000 in
theorem led_w13 : Cond.methodLink "BarberMinutesLaw" 235 led_yL ∈ lw_good := lw_good_at 1228 (by decide +kernel) (by decide +kernel)
set_option maxRecDepth 1000000 in
theorem led_w14 : Cond.laysStatic Bundle.tN "UNASSIGNED_STACK" Bundle.steD ∈ lw_tbl := List.mem_of_getElem? (i := 1263) (by decide +kernel)
set_option maxRecDepth 1000000 in
theorem led_w15 : Cond.laysStatic Bundle.tN "SUPPRESSED_SENTINEL" Bundle.listD ∈ lw_tbl := List.mem_of_getElem? (i := 1265) (by decide +kernel)
set_option maxRecDepth 1000000 in
theorem led_w16 : Cond.initialized Bundle.tN ∈ lw_tbl := List.mem_of_getElem? (i := 133) (by decide +kernel)
set_option maxRecDepth 1000000 in
theorem led_w17 : Cond.isRef (.static Bundle.tN "UNASSIGNED_STACK" Bundle.steD) ∈ law_flat := List.mem_of_getElem? (i := 17) (by decide +kernel)
set_option maxRecDepth 1000000 in
theorem led_w18 : Cond.isRef (.static Bundle.tN "SUPPRESSED_SENTINEL" Bundle.listD) ∈ law_flat := List.mem_of_getElem? (i := 18) (by decide +kernel)
/-- the two statics that a throw reads -/
def led_Th (A : Nat → Prop) (U : State) (H : Heap) : Prop := led_Ca U ∧ vx_Zq Bundle.tN "UNASSIGNED_STACK" Bundle.steD A U H ∧ vx_Zq Bundle.tN "SUPPRESSED_SENTINEL" Bundle.listD A U H
theorem led_Th_call {A B : Nat → Prop} {s U : State} {H : Heap} {locs : List Loc} (hW : s.WarmedH U.vm) (hU : U.heap = H) (hS : va_S A s.heap H locs) (hAB : ∀ q, B q → A q) (h : led_Th A s s.heap) : led_Th B U U.heap := by
  rw [hU]
  exact ⟨led_Ca_moved hW.alike h.1, ((h.2.1.kept hS.2.1).narrow hAB).moved hW.alike, ((h.2.2.kept hS.2.1).narrow hAB).moved hW.alike⟩
theorem led_start {p : Program} {s : State} {m : MethodId} {meth : Method} {c : Code} {b L : Nat} {xs : Nat → Int32} (C0 : lw_At p s m meth c b L xs) : led_Th (law_A s) s s.heap := by
  obtain ⟨hx, hb, hr, hml, hown, hts, hX, hbl, hlocks, hgv⟩ := C0
  have hfl : ∀ w ∈ law_flat, w.before #[Value.ref b] s = true := flat_of_before _ hgv
  have hA : ∀ a : Nat, a < s.heap.size → ¬ law_A s a := fun a h => Nat.not_le.mpr h
  have hc0 : led_Ca s := by
    intro w hw hc
    have h1 := hts w hw
    unfold led_isC at hc
    split at hc
    · exact va_tabs rfl rfl h1
    · exact va_tabs rfl rfl h1
    · cases hc
  exact ⟨hc0, vx_Zqof (hts _ led_w14) (hts _ led_w16) (hfl _ led_w17) hA, vx_Zqof (hts _ led_w15) (hts _ led_w16) (hfl _ led_w18) hA⟩
def led_Pb (D : va_G) (g : ev_G) (ws : va_W) (sz : Nat) (U : State) : Prop := ev_Pb D g ws sz st_w U ∧ led_Th (va_A ws sz) U U.heap
theorem led_blind {D : va_G} {g : ev_G} {ws : va_W} {sz : Nat} {asc : List Value} : FrameBlind (va_Pc asc (led_Pb D g ws sz)) := fun a U gf mk q => by
  obtain ⟨q0, q1, q2⟩ := q
  exact ⟨q0, (ev_Pb_blind a U gf mk ⟨q0, q1⟩).2, ⟨led_Ca_moved (u := U) (U := U.calling gf mk a) (Vm.Alike.refl U.vm) q2.1, q2.2.1.moved (u := U) (U := U.calling gf mk a) (Vm.Alike.refl U.vm), q2.2.2.moved (u := U) (U := U.calling gf mk a) (Vm.Alike.refl U.vm)⟩⟩
def led_px (g : ev_G) (u : ev_G × va_W) : Prop := ev_le g u.1 ∧ ev_b led_K u.1.2.2
def led_BX (D : va_G) (A : Nat → Prop) (E : String) (u : ev_G × va_W) (t : State) : Prop := E = led_E ∧ va_P D vwCl u.2 t.heap ∧ va_D A u.2 ∧ ev_w t u.1 st_w u.2
set_option maxHeartbeats 4000000 in
set_option maxRecDepth 100000 in
/-- BarberMinutes.led of an object without a town: it throws -/
theorem led_x (l : Launch) (hl0 : l.stackTraces = false) (D : va_G) (g : ev_G) (ws : va_W) (sz : Nat) (asc : List Value) (hs : ev_s g [(1, 0), (3, 1)] asc) (hB : ev_b led_K g.2.2) :
    vx_Met l led_yx (Cond.code led_yx led_cx 4 (some .int) :: lw_good) (ev_rm 7 1 6) (va_Pc asc (led_Pb D g ws sz)) (va_Qi (fun (_ : Int32) (_ : Unit) => False) (fun _ _ => True) (va_A ws sz)) (vx_X (led_px g) (led_BX D (va_A ws sz)) (va_A ws sz)) 1 6 (va_A ws sz) := by
  refine vx_ofW (cc := led_cx) (maxL := 4) (ret := some .int) (by decide) rfl ?_
  intro p e s m args below meth c s₁ B hml hno hv
  obtain ⟨rfl, ⟨hsz, hP, hK, hD0, hW, hN⟩, hTh⟩ := hv
  subst hsz
  have hD : va_D (va_A ws s.heap.size) ws := hD0.self (sz := s.heap.size)
  have hts : ∀ w ∈ lw_good, w.before asc.toArray s = true := fun w hw => atoms_spec (ws := Cond.code led_yx led_cx 4 (some .int) :: lw_good) B.pre w (List.mem_cons_of_mem _ hw)
  have hA : ∀ q : Nat, s.heap.size ≤ q → va_A ws s.heap.size q := fun q h => Or.inr h
  have hown : s.vm.findClass "BarberMinutes" = some m.cls := findClass_of_methodNamed B.named
  have X : ev_X p (ev_rm 7 1 6) s m asc.toArray meth c led_cx 4 "BarberMinutes" false D (va_A ws s.heap.size) 1 6 g 0 :=
    ⟨B.exec, B.bytes, hml, hown, hts, hK, hA, hN, (fun h => by cases h), rfl, rfl, by decide, by decide, (fun L h => by cases h)⟩
  have hlen : (lg_sl asc).length ≤ 4 := by rw [ev_sl_len hs]; decide
  have hl := lv_entry asc (n := 4) hlen
  rw [lg_entry_eq]
  refine ev_run_ok (P := (1, 6, false, "BarberMinutes", 4, 0)) ev_ms_ok (ev_exec_ok ev_ms_ok 0) ⟨by decide, by decide⟩ X led_rows_ok 100 _ _ led_run (fun o ho => ?_) g ws s.heap [] _ [] (ev_le_rf g) ⟨hP, hD, va_S.rf, hW, hB, ⟨hl.1, hl.2.1, fun q hq => ?_⟩, trivial⟩
  · cases List.mem_singleton.mp ho
    intro g' ws' H locs ls sc hle ⟨hP', hD', hS', hW', hB', hL', hs'⟩
    cases ev_s_nil hs'
    exact vx_throw0 (own := "BarberMinutes") (cls := led_E) (names := ["java/lang/RuntimeException", "java/lang/Exception"]) (ik := 367) (ic := 369) (A := va_A ws s.heap.size) B.exec B.bytes hl0 hown (by decide) (by decide) (hts _ led_w1) (hts _ led_w2) (fun w hw => by
        rcases led_at hw with h | ⟨h, h'⟩
        · exact hts w h
        · exact led_Ca_use hTh.1 h h')
      (fun w hw => by
        rcases List.mem_cons.mp hw with rfl | hw
        · rfl
        · rcases List.mem_cons.mp hw with rfl | hw
          · rfl
          · rcases led_at hw with h | ⟨-, h⟩
            · simp [vx_ot, (List.mem_filter.mp h).2]
            · unfold led_isC at h
              split at h
              · rfl
              · rfl
              · cases h)
      hTh.2.1 hTh.2.2 hS' (hL'.1.trans hml.symm) (by decide +kernel) (by decide +kernel) (by decide +kernel) (by decide +kernel) (fun x hx => (hno x hx).elim) (by decide) (by decide) (by decide) (by decide) B.notSynchronized
      (fun t hvm hz hq => ⟨(g', ws'), ⟨hle, hB'⟩, ⟨rfl, hP'.kept (fun k q hk => hq q.1 (hP' k q hk).lt), hD', ev_w_moved hvm hW'⟩, Nat.le_trans hS'.1 hz, fun q h1 h2 => (hq q (Nat.lt_of_lt_of_le h1 hS'.1)).trans (hS'.2.1 q h1 h2)⟩)
      hS'.2.2 (by decide) (by decide)
  · obtain ⟨v, h1, h2⟩ := ev_args_ok 0 hs q hq
    exact ⟨v, h1, hl.2.2 _ h2⟩
set_option maxRecDepth 1000000 in
theorem led_d4 : decode led_cL 4 = .ok (.invokevirtual 7, 3) := by decide +kernel
theorem led_met {l : Launch} {y : MethodName} {ws : List Cond} {rm : Room} {Pc : Array Value → State → Prop} {Qc : Array Value → State → Outcome → State → Prop} {mc ms : Nat} {free : Addr → Prop} (h : vx_Met l y ws rm Pc Qc (fun _ _ _ => False) mc ms free) : Met l y ws rm Pc Qc mc ms free :=
  MetFree.mono h (fun _ _ h => h) (fun _ _ _ _ _ h => h) (fun a s o t _ hq => by
    rcases hq with hq | ⟨q, -, E, ce, L, hf, -⟩
    · exact hq
    · exact hf.elim)
set_option maxHeartbeats 4000000 in
set_option maxRecDepth 100000 in
/-- the law's own led: it catches, and answers 1 -/
theorem led_L (l : Launch) (hl0 : l.stackTraces = false) (D : va_G) (g : ev_G) (ws : va_W) (sz : Nat) (ax : Nat) (v : Int32) (ao : Nat) (hx0 : ev_v g (1, 0) = some (.ref ax)) (hv0 : ev_v g (3, 1) = some (.int v)) (hB : ev_b led_K g.2.2) :
    Met l led_yL (Cond.codeWith led_yL led_cL 4 (some .int) [(0, 9, 12, 13)] :: lw_good) (ev_rm 8 1 6) (va_Pc [.ref ax, .int v, .ref ao] (led_Pb D g ws sz)) (ev_Q D g (va_A ws sz) [(some (0, 1), st_w, led_K)]) 1 6 (va_A ws sz) := by
  refine led_met (vx_ofWH (cc := led_cL) (maxL := 4) (ret := some .int) (hh := [(0, 9, 12, 13)]) (by decide) rfl ?_)
  intro p e s m args below meth c s₁ B hml hv
  obtain ⟨rfl, ⟨hsz, hP, hK, hD0, hW, hN⟩, hTh⟩ := hv
  subst hsz
  have hx := B.exec
  have hb := B.bytes
  have hr := B.returns
  have hD : va_D (va_A ws s.heap.size) ws := hD0.self (sz := s.heap.size)
  have hall := atoms_spec (ws := Cond.codeWith led_yL led_cL 4 (some .int) [(0, 9, 12, 13)] :: lw_good) B.pre
  have hts : ∀ w ∈ lw_good, w.before ([.ref ax, .int v, .ref ao] : List Value).toArray s = true := fun w hw => hall w (List.mem_cons_of_mem _ hw)
  have htab : c.exceptionTable.toList = tableOf [(0, 9, 12, 13)] := vx_table (x := led_yL) B (hall _ List.mem_cons_self)
  have hA : ∀ q : Nat, s.heap.size ≤ q → va_A ws s.heap.size q := fun q h => Or.inr h
  have hown : s.vm.findClass "BarberMinutesLaw" = some m.cls := findClass_of_methodNamed B.named
  have hl := lv_entry ([.ref ax, .int v, .ref ao]) (n := 4) (Nat.le_of_ble_eq_true rfl)
  rw [lg_entry_eq]
  generalize (lg_sl ([.ref ax, .int v, .ref ao]) ++ List.replicate (4 - (lg_sl ([.ref ax, .int v, .ref ao])).length) Slot.unset).toArray = ls at hl ⊢
  have hl : lv_has ls 4 [(0, .ref ax), (1, .int v), (2, .ref ao)] := hl
  refine lv_aload_n hx hb (k := 2) (by decide +kernel) rfl (lv_at hl 2 rfl) ?_
  refine lv_iconst (v := 0) hx hb (n := 0) (by decide +kernel) rfl ?_
  refine lv_aload_n hx hb (k := 0) (by decide +kernel) rfl (lv_at hl 0 rfl) ?_
  refine lv_iload_n hx hb (k := 1) (by decide +kernel) rfl (lv_at hl 1 rfl) ?_
  have hcl : ∃ fs : List Value, ws[0]? = some (ax, .inr (8, fs)) := by
    obtain ⟨ad, x0, e1, e2, e3⟩ := ev_ref1 (a := (1, 0)) (cl := st_w.getD 0 (0, [])) hW rfl hx0 rfl
    cases e1
    cases x0 with
    | inl z =>
      obtain ⟨tt, b1, b2, -⟩ := e3
      exact absurd b2 (by show ¬ (8 : Nat) = 100 + tt; omega)
    | inr o =>
      obtain ⟨ci, fs⟩ := o
      have b1 : (8 : Nat) = ci := e3.1
      subst b1
      exact ⟨fs, e2⟩
  obtain ⟨fs, hcl⟩ := hcl
  have hG : GoodIn lw_good (wsV "BarberMinutesLaw" 7 "BarberMinutes" led_yx (Cond.code led_yx led_cx 4 (some .int) :: lw_good)) := lw_good_good (fun w h => by
    unfold wsV at h
    rcases List.mem_append.mp h with h | h
    · simp only [List.mem_cons, List.not_mem_nil, or_false] at h
      rcases h with rfl | rfl | rfl | rfl
      · exact led_w5
      · exact led_w6
      · exact led_w7
      · exact led_w8
    · rcases List.mem_cons.mp h with rfl | h
      · exact led_w3
      · exact h)
  refine vx_calli (vx_runV (As := [.int v]) (rest := [.int 0, .ref ao]) ⟨hx, hb, hml, hown, hts⟩ (led_x l hl0 D g ws s.heap.size [.ref ax, .int v] ⟨hx0, hv0, trivial⟩ hB) (cwV 1 hts hG rfl rfl rfl (by decide +kernel) ⟨by decide, by decide⟩)
    ⟨led_blind, va_recv hK hP (ci := 8) (q := (RX8, TX8, 15)) rfl hcl, fun U hU hWm => ⟨rfl, ⟨by rw [hU], by rw [hU]; exact hP, va_K.moved hWm.alike hK, hD0, ev_w_moved hWm.alike hW, ev_N_call hWm hU va_S.rf (fun _ h => h) hN⟩, led_Th_call hWm hU va_S.rf (fun _ h => h) hTh⟩⟩
    rfl rfl hl.1 rfl (lv_room (Nat.le_of_ble_eq_true rfl)) led_d4 ⟨by decide, by decide⟩) va_S.rf (fun q _ h => h) (fun q h => h) (fun q _ h => h) ?_ ?_
  · intro E ce q9 u t H1 locs1 ht hvm hpx hbx hz hk hS1 hcell hcv hcl2
    obtain ⟨hle, hB'⟩ := hpx
    obtain ⟨rfl, hP1, hD1, hw1⟩ := hbx
    rw [ht] at hP1
    refine led_catch (name := led_E) hown ⟨0, 9, 12, 13⟩ [] (by rw [htab]; rfl) (by decide) (by decide) (hts _ led_w9) (led_Ca_use hTh.1 led_w10 rfl) hcell hcv hcl2 ?_
    refine lv_astore_n (i := 3) (lv' := [(3, .ref q9), (0, .ref ax), (1, .int v), (2, .ref ao)]) hx hb (k := 3) (by decide +kernel) rfl hl (by decide) rfl (fun ls hl => ?_)
    refine lv_iconst (v := 1) hx hb (n := 1) (by decide +kernel) rfl ?_
    refine vx_ret (W.iret (v := 1) hx hb hr (fun t2 ht2 hWm => ⟨⟨(some (0, 1), st_w, led_K), u.1, u.2, some (.int 1), List.mem_singleton.mpr rfl, rfl, rfl, hle, by rw [ht2]; exact hP1, hD1, ev_w_moved (hvm.symm.trans hWm.alike) hw1, hB'⟩, hS1.F ht2⟩) hS1.2.2 (by decide +kernel) B.notSynchronized)
  · intro r u t H1 locs1 _ _ hf
    exact hf.elim
def led_S : ev_S := (1666, [(4, (0, 0)), (3, (1, 136)), (2, (1, 124)), (1, (1, 0)), (0, (5, 0))], [(1, 136), (3, 1), (1, 0)], st_w, led_K, 137, 3193)
def led_N : ev_S := (1669, [(4, (0, 0)), (3, (1, 136)), (2, (1, 124)), (1, (1, 0)), (0, (5, 0))], [(0, 1)], st_w, led_K, 137 + 1, 3193 + 6)
set_option maxRecDepth 1000000 in
theorem led_d : decode code 1666 = .ok (.invokestatic 235, 3) := by decide +kernel
set_option maxHeartbeats 4000000 in
set_option maxRecDepth 100000 in
/-- the law at its call of led -/
theorem led_law {p : Program} {l : Launch} {e : Env} {s : State} {m : MethodId} {below : List Frame} {meth : Method} {c : Code} {b L : Nat} {xs : Nat → Int32} {Q : State → Prop} {D : va_G} {g0 : ev_G} {Ls : Nat} (hl0 : l.stackTraces = false) (C0 : lw_At p s m meth c b L xs)
    (X : ev_X p room_1 s m #[Value.ref b] meth c code 7 "BarberMinutesLaw" false D (law_A s) 600002 7302232 g0 Ls) (hk : ev_Go p l e room_1 s m #[Value.ref b] below meth c Q 7 D (law_A s) g0 led_N) : ev_Go p l e room_1 s m #[Value.ref b] below meth c Q 7 D (law_A s) g0 led_S := by
  intro g ws H locs ls sc hle hR
  obtain ⟨hx, hb, hml, hown, hts, hK, hA, hN, hini, hcC, hcS, hf, hlc, hscr⟩ := X
  obtain ⟨hP, hD, hS, hW, hB, hL, hs⟩ := hR
  obtain ⟨vo, sc1, rfl, hvo, hs1⟩ := ev_s_cons hs
  obtain ⟨vv, sc2, rfl, hvv, hs2⟩ := ev_s_cons hs1
  obtain ⟨vx, sc3, rfl, hvx, hs3⟩ := ev_s_cons hs2
  cases ev_s_nil hs3
  obtain ⟨ao, rfl⟩ := ev_vR rfl hvo
  obtain ⟨v, rfl⟩ := ev_vI rfl hvv
  obtain ⟨ax, rfl⟩ := ev_vR rfl hvx
  have hfree : ∀ q, va_A ws H.size q → law_A s q := by
    intro q h
    rcases h with ⟨k, e, h⟩ | h
    · exact hD.2 k (q, e) h
    · exact hA q (Nat.le_trans hS.1 h)
  have hG : GoodIn lw_good (va_wsS "BarberMinutesLaw" 235 led_yL (Cond.codeWith led_yL led_cL 4 (some .int) [(0, 9, 12, 13)] :: lw_good)) := lw_good_good (fun w h => by
    unfold va_wsS at h
    rcases List.mem_append.mp h with h | h
    · simp only [List.mem_cons, List.not_mem_nil, or_false] at h
      rcases h with rfl | rfl | rfl
      · exact led_w13
      · exact led_w11
      · exact led_w12
    · rcases List.mem_cons.mp h with rfl | h
      · exact led_w4
      · exact h)
  refine ev_callW (vx_runSW (As := [.ref ax, .int v, .ref ao]) (rest := []) ⟨hx, hb, hml, hown, hts⟩ (led_L l hl0 D g ws H.size ax v ao hvx hvv hB) (vx_cwSW 3 hts hG rfl rfl rfl (by decide +kernel) ⟨by decide, by decide⟩)
    ⟨led_blind, fun U hU hWm => ⟨rfl, ⟨by rw [hU], by rw [hU]; exact hP, va_K.moved hWm.alike hK, hD.weaken (fun _ _ _ _ => trivial), ev_w_moved hWm.alike hW, by rw [hle.2.1]; exact ev_N_call hWm hU hS hfree hN⟩, led_Th_call hWm hU hS hfree (led_start C0)⟩⟩
    rfl rfl hL.1 rfl (lv_room (Nat.le_of_ble_eq_true rfl)) led_d ⟨by rw [hcC]; decide, by rw [hcS]; decide⟩) hS (fun q h => hfree q h) hfree (fun o g' ws' rv t H1 locs1 ho ht hvm hrv hle' hP1 hD1 hw1 hb1 hS1 => ?_)
  cases List.mem_singleton.mp ho
  cases rv with
  | none => exact hrv.elim
  | some rv =>
    exact hk g' ws' H1 locs1 ls _ (ev_le_tr hle hle') ⟨hP1, hD1.weaken (fun _ _ _ h => hfree _ h), hS1, ev_w_moved hvm.symm hw1, hb1, ev_l_le hle' hL, hrv, trivial⟩
