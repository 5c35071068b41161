/-! THE LAW -/
set_option maxRecDepth 1000000 in
theorem run_led : ev_run ev_ms (ev_exec ev_ms 12) (law_P 7) law_b [1666] 100 law_c52 = some [led_S] := ev_eqO_ok (by decide +kernel)
set_option maxRecDepth 1000000 in
theorem run_ledN : law_all law_b (ev_run ev_ms (ev_exec ev_ms 12) (law_P 7) law_b [] 1000 led_N) = true := by decide +kernel
section LAW
variable {p : Program} {l : Launch} {e : Env} {s : State} {m : MethodId} {below : List Frame} {meth : Method} {c : Code} {b L : Nat} {xs : Nat → Int32} {D : va_G} {g0 : ev_G}
theorem law_fin {rows : List (Nat × ev_Row)} {P : ev_P} (C0 : lw_At p s m meth c b L xs) (hrows : ∀ q ∈ rows, ev_RowOK ev_ms P code q) {S : ev_S} (h : law_ok rows S = true) : ev_Go p l e room_1 s m #[Value.ref b] below meth c (lw_Z below #[Value.ref b] s) 7 D (law_A s) g0 S := by
  obtain ⟨hx, hb, hr, hml, hown, hts, hX, hbl, hlocks, hgv⟩ := C0
  obtain ⟨pc, L, st, w, K, ce, sl⟩ := S
  intro g ws H locs ls sc hle ⟨hP, hD, hS, hW, hB, hL, hs⟩
  unfold law_ok at h
  simp only [Bool.and_eq_true, decide_eq_true_eq] at h
  obtain ⟨h1, h2, h3, h4⟩ := h
  split at h1
  · rename_i r hr1
    obtain ⟨⟨i, n, cs, hi, hd, -⟩, -⟩ := hrows _ (ev_at_mem hr1)
    have e1 : r.1 = 210 := beq_iff_eq.mp h1
    have hi : some ((.ireturn : Instr), (1 : Nat), ([] : List Cond)) = some (i, n, cs) := by simpa [ev_rowI, e1] using hi
    cases hi
    subst h2
    obtain ⟨v, sc', rfl, hv, hs2⟩ := ev_s_cons hs
    cases ev_s_nil hs2
    have hv : Value.int 1 = v := Option.some.inj hv
    subst hv
    refine va_forget (fun q hq => hS.2.2 q hq) ?_
    refine W.widen (k := 600002) (n := 7302232) h3 h4 ?_
    exact lw_ret hx hb hr hlocks hd
  · cases h1
theorem law_from {P : ev_P} {rows : List (Nat × ev_Row)} {stops : List Nat} {n : Nat} {S : ev_S} (hnl : P.2.2.2.2.1 = 7) (C0 : lw_At p s m meth c b L xs) (X : ev_X p room_1 s m #[Value.ref b] meth c code P.2.2.2.2.1 P.2.2.2.1 P.2.2.1 D (law_A s) P.1 P.2.1 g0 P.2.2.2.2.2) (hrows : ∀ q ∈ rows, ev_RowOK ev_ms P code q)
    (h : law_all rows (ev_run ev_ms (ev_exec ev_ms 12) P rows stops n S) = true) : ev_Go p l e room_1 s m #[Value.ref b] below meth c (lw_Z below #[Value.ref b] s) 7 D (law_A s) g0 S := by
  obtain ⟨fs, h1, h2⟩ := law_all_ok h
  have := ev_run_ok (l := l) (e := e) (below := below) (Q := lw_Z below #[Value.ref b] s) ev_ms_ok (ev_exec_ok ev_ms_ok 12) ⟨by decide, by decide⟩ X hrows n S fs h1 (fun o ho => by rw [hnl]; exact law_fin C0 hrows (h2 o ho))
  rw [hnl] at this
  exact this
theorem law_talk (C0 : lw_At p s m meth c b L xs) (X7 : ev_X p room_1 s m #[Value.ref b] meth c code 7 "BarberMinutesLaw" false D (law_A s) 600002 7302232 g0 7) : ev_Go p l e room_1 s m #[Value.ref b] below meth c (lw_Z below #[Value.ref b] s) 7 D (law_A s) g0 law_c39 := by
  refine ev_run_ok (P := law_P 7) ev_ms_ok (ev_exec_ok ev_ms_ok 12) ⟨by decide, by decide⟩ X7 law_b_ok 200 _ _ run_t (fun o ho => ?_)
  simp only [List.mem_cons, List.not_mem_nil, or_false] at ho
  rcases ho with rfl | rfl | rfl | rfl | rfl | rfl | rfl | rfl
  · refine ev_run_ok (P := law_P 7) ev_ms_ok (ev_exec_ok ev_ms_ok 12) ⟨by decide, by decide⟩ X7 law_b_ok 200 _ _ run_t0 (fun o ho => ?_)
    simp only [List.mem_cons, List.not_mem_nil, or_false] at ho
    rcases ho with rfl | rfl | rfl
    · exact law_from (P := law_P 7) rfl C0 X7 law_b_ok run_u0_0
    · exact law_from (P := law_P 7) rfl C0 X7 law_b_ok run_u0_1
    · exact law_from (P := law_P 7) rfl C0 X7 law_b_ok run_u0_2
  · refine ev_run_ok (P := law_P 7) ev_ms_ok (ev_exec_ok ev_ms_ok 12) ⟨by decide, by decide⟩ X7 law_b_ok 200 _ _ run_t1 (fun o ho => ?_)
    simp only [List.mem_cons, List.not_mem_nil, or_false] at ho
    rcases ho with rfl | rfl | rfl
    · exact law_from (P := law_P 7) rfl C0 X7 law_b_ok run_u1_0
    · exact law_from (P := law_P 7) rfl C0 X7 law_b_ok run_u1_1
    · exact law_from (P := law_P 7) rfl C0 X7 law_b_ok run_u1_2
  · refine ev_run_ok (P := law_P 7) ev_ms_ok (ev_exec_ok ev_ms_ok 12) ⟨by decide, by decide⟩ X7 law_b_ok 200 _ _ run_t2 (fun o ho => ?_)
    simp only [List.mem_cons, List.not_mem_nil, or_false] at ho
    rcases ho with rfl | rfl | rfl
    · exact law_from (P := law_P 7) rfl C0 X7 law_b_ok run_u2_0
    · exact law_from (P := law_P 7) rfl C0 X7 law_b_ok run_u2_1
    · exact law_from (P := law_P 7) rfl C0 X7 law_b_ok run_u2_2
  · refine ev_run_ok (P := law_P 7) ev_ms_ok (ev_exec_ok ev_ms_ok 12) ⟨by decide, by decide⟩ X7 law_b_ok 200 _ _ run_t3 (fun o ho => ?_)
    simp only [List.mem_cons, List.not_mem_nil, or_false] at ho
    rcases ho with rfl | rfl | rfl
    · exact law_from (P := law_P 7) rfl C0 X7 law_b_ok run_u3_0
    · exact law_from (P := law_P 7) rfl C0 X7 law_b_ok run_u3_1
    · exact law_from (P := law_P 7) rfl C0 X7 law_b_ok run_u3_2
  · refine ev_run_ok (P := law_P 7) ev_ms_ok (ev_exec_ok ev_ms_ok 12) ⟨by decide, by decide⟩ X7 law_b_ok 200 _ _ run_t4 (fun o ho => ?_)
    simp only [List.mem_cons, List.not_mem_nil, or_false] at ho
    rcases ho with rfl | rfl | rfl
    · exact law_from (P := law_P 7) rfl C0 X7 law_b_ok run_u4_0
    · exact law_from (P := law_P 7) rfl C0 X7 law_b_ok run_u4_1
    · exact law_from (P := law_P 7) rfl C0 X7 law_b_ok run_u4_2
  · refine ev_run_ok (P := law_P 7) ev_ms_ok (ev_exec_ok ev_ms_ok 12) ⟨by decide, by decide⟩ X7 law_b_ok 200 _ _ run_t5 (fun o ho => ?_)
    simp only [List.mem_cons, List.not_mem_nil, or_false] at ho
    rcases ho with rfl | rfl | rfl
    · exact law_from (P := law_P 7) rfl C0 X7 law_b_ok run_u5_0
    · exact law_from (P := law_P 7) rfl C0 X7 law_b_ok run_u5_1
    · exact law_from (P := law_P 7) rfl C0 X7 law_b_ok run_u5_2
  · refine ev_run_ok (P := law_P 7) ev_ms_ok (ev_exec_ok ev_ms_ok 12) ⟨by decide, by decide⟩ X7 law_b_ok 200 _ _ run_t6 (fun o ho => ?_)
    simp only [List.mem_cons, List.not_mem_nil, or_false] at ho
    rcases ho with rfl | rfl | rfl
    · exact law_from (P := law_P 7) rfl C0 X7 law_b_ok run_u6_0
    · exact law_from (P := law_P 7) rfl C0 X7 law_b_ok run_u6_1
    · exact law_from (P := law_P 7) rfl C0 X7 law_b_ok run_u6_2
  · refine ev_run_ok (P := law_P 7) ev_ms_ok (ev_exec_ok ev_ms_ok 12) ⟨by decide, by decide⟩ X7 law_b_ok 200 _ _ run_t7 (fun o ho => ?_)
    simp only [List.mem_cons, List.not_mem_nil, or_false] at ho
    rcases ho with rfl | rfl | rfl
    · exact law_from (P := law_P 7) rfl C0 X7 law_b_ok run_u7_0
    · exact law_from (P := law_P 7) rfl C0 X7 law_b_ok run_u7_1
    · exact law_from (P := law_P 7) rfl C0 X7 law_b_ok run_u7_2
end LAW
set_option maxRecDepth 1000000 in
theorem st_K_full : ∀ r ∈ st_K, r = ((-2147483648 : Int), (2147483647 : Int)) := by decide +kernel
set_option maxHeartbeats 4000000 in
set_option maxRecDepth 100000 in
theorem whole_start {p : Program} {e : Env} {s : State} {m : MethodId} {below : List Frame} {meth : Method} {c : Code} (l : Launch) (hl0 : l.stackTraces = false) {b L : Nat} {xs : Nat → Int32} (hL : L ≤ 6) (C0 : lw_At p s m meth c b L xs) : W p l e room_1 s m #[Value.ref b] below meth c s.heap [] 0 0 (lw_Z below #[Value.ref b] s) (entryFrame m ([Value.ref b] : List Value).toArray 7) := by
  obtain ⟨D, X, hX0, hXs⟩ := law_facts hL C0
  have hl := lv_entry ([Value.ref b]) (n := 7) (Nat.le_of_ble_eq_true rfl)
  rw [lg_entry_eq]
  refine ev_run_ok (P := law_P 0) (g0 := law_g X xs) ev_ms_ok (ev_exec_ok ev_ms_ok 12) ⟨by decide, by decide⟩ (hXs 0 (Or.inl rfl)) law_a_ok 2000 _ _ run_a (fun o ho => ?_) (law_g X xs) [] s.heap [] _ [] (ev_le_rf _) ⟨(fun k q h => by cases h), ⟨(fun i j p q h => by cases h), (fun k q h => by cases h)⟩, va_S.rf, ⟨rfl, rfl, (fun k c q h => by cases h)⟩, ⟨rfl, (fun k r x h1 h2 => ?_)⟩, ⟨hl.1, hl.2.1, (fun q hq => ?_)⟩, trivial⟩
  · cases List.mem_singleton.mp ho
    by_cases h6 : L = 6
    · subst h6
      have X7 : ev_X p room_1 s m #[Value.ref b] meth c code 7 "BarberMinutesLaw" false D (law_A s) 600002 7302232 (law_g X xs) 7 := hXs 7 (Or.inr rfl)
      refine ev_run_ok (P := law_P 7) ev_ms_ok (ev_exec_ok ev_ms_ok 12) ⟨by decide, by decide⟩ X7 law_b_ok 100 _ _ run_b (fun o ho => ?_)
      simp only [List.mem_cons, List.not_mem_nil, or_false] at ho
      rcases ho with rfl | rfl | rfl | rfl | rfl | rfl | rfl | rfl | rfl | rfl | rfl | rfl | rfl | rfl | rfl | rfl | rfl | rfl | rfl | rfl | rfl | rfl | rfl | rfl | rfl | rfl | rfl | rfl | rfl | rfl | rfl | rfl | rfl | rfl | rfl | rfl | rfl | rfl | rfl | rfl | rfl | rfl | rfl | rfl | rfl | rfl | rfl | rfl | rfl | rfl | rfl | rfl | rfl | rfl | rfl | rfl | rfl
      · exact law_from (P := law_P 7) rfl C0 X7 law_b_ok run_c0
      · exact law_from (P := law_P 7) rfl C0 X7 law_b_ok run_c1
      · exact law_from (P := law_P 7) rfl C0 X7 law_b_ok run_c2
      · exact law_from (P := law_P 7) rfl C0 X7 law_b_ok run_c3
      · exact law_from (P := law_P 7) rfl C0 X7 law_b_ok run_c4
      · exact law_from (P := law_P 7) rfl C0 X7 law_b_ok run_c5
      · exact law_from (P := law_P 7) rfl C0 X7 law_b_ok run_c6
      · exact law_from (P := law_P 7) rfl C0 X7 law_b_ok run_c7
      · exact law_from (P := law_P 7) rfl C0 X7 law_b_ok run_c8
      · exact law_from (P := law_P 7) rfl C0 X7 law_b_ok run_c9
      · exact law_from (P := law_P 7) rfl C0 X7 law_b_ok run_c10
      · exact law_from (P := law_P 7) rfl C0 X7 law_b_ok run_c11
      · exact law_from (P := law_P 7) rfl C0 X7 law_b_ok run_c12
      · exact law_from (P := law_P 7) rfl C0 X7 law_b_ok run_c13
      · exact law_from (P := law_P 7) rfl C0 X7 law_b_ok run_c14
      · exact law_from (P := law_P 7) rfl C0 X7 law_b_ok run_c15
      · exact law_from (P := law_P 7) rfl C0 X7 law_b_ok run_c16
      · exact law_from (P := law_P 7) rfl C0 X7 law_b_ok run_c17
      · exact law_from (P := law_P 7) rfl C0 X7 law_b_ok run_c18
      · exact law_from (P := law_P 7) rfl C0 X7 law_b_ok run_c19
      · exact law_from (P := law_P 7) rfl C0 X7 law_b_ok run_c20
      · exact law_from (P := law_P 7) rfl C0 X7 law_b_ok run_c21
      · exact law_from (P := law_P 7) rfl C0 X7 law_b_ok run_c22
      · exact law_from (P := law_P 7) rfl C0 X7 law_b_ok run_c23
      · exact law_from (P := law_P 7) rfl C0 X7 law_b_ok run_c24
      · exact law_from (P := law_P 7) rfl C0 X7 law_b_ok run_c25
      · exact law_from (P := law_P 7) rfl C0 X7 law_b_ok run_c26
      · exact law_from (P := law_P 7) rfl C0 X7 law_b_ok run_c27
      · exact law_from (P := law_P 7) rfl C0 X7 law_b_ok run_c28
      · exact law_from (P := law_P 7) rfl C0 X7 law_b_ok run_c29
      · exact law_from (P := law_P 7) rfl C0 X7 law_b_ok run_c30
      · exact law_from (P := law_P 7) rfl C0 X7 law_b_ok run_c31
      · exact law_from (P := law_P 7) rfl C0 X7 law_b_ok run_c32
      · exact law_from (P := law_P 7) rfl C0 X7 law_b_ok run_c33
      · exact law_from (P := law_P 7) rfl C0 X7 law_b_ok run_c34
      · exact law_from (P := law_P 7) rfl C0 X7 law_b_ok run_c35
      · exact law_from (P := law_P 7) rfl C0 X7 law_b_ok run_c36
      · exact law_from (P := law_P 7) rfl C0 X7 law_b_ok run_c37
      · exact law_from (P := law_P 7) rfl C0 X7 law_b_ok run_c38
      · exact law_talk C0 X7
      · exact law_from (P := law_P 7) rfl C0 X7 law_b_ok run_c40
      · exact law_from (P := law_P 7) rfl C0 X7 law_b_ok run_c41
      · exact law_from (P := law_P 7) rfl C0 X7 law_b_ok run_c42
      · exact law_from (P := law_P 7) rfl C0 X7 law_b_ok run_c43
      · exact law_from (P := law_P 7) rfl C0 X7 law_b_ok run_c44
      · exact law_from (P := law_P 7) rfl C0 X7 law_b_ok run_c45
      · exact law_from (P := law_P 7) rfl C0 X7 law_b_ok run_c46
      · exact law_from (P := law_P 7) rfl C0 X7 law_b_ok run_c47
      · exact law_from (P := law_P 7) rfl C0 X7 law_b_ok run_c48
      · exact law_from (P := law_P 7) rfl C0 X7 law_b_ok run_c49
      · exact law_from (P := law_P 7) rfl C0 X7 law_b_ok run_c50
      · exact law_from (P := law_P 7) rfl C0 X7 law_b_ok run_c51
      · exact ev_run_ok (P := law_P 7) ev_ms_ok (ev_exec_ok ev_ms_ok 12) ⟨by decide, by decide⟩ X7 law_b_ok 100 _ _ run_led (fun o ho => by cases List.mem_singleton.mp ho; exact led_law hl0 C0 X7 (law_from (P := law_P 7) rfl C0 X7 law_b_ok run_ledN))
      · exact law_from (P := law_P 7) rfl C0 X7 law_b_ok run_c53
      · exact law_from (P := law_P 7) rfl C0 X7 law_b_ok run_c54
      · exact law_from (P := law_P 7) rfl C0 X7 law_b_ok run_c55
      · exact law_from (P := law_P 7) rfl C0 X7 law_b_ok run_c56
    · have h7 : L = 0 ∨ L = 1 ∨ L = 2 ∨ L = 3 ∨ L = 4 ∨ L = 5 := by omega
      rcases h7 with rfl | rfl | rfl | rfl | rfl | rfl
      · exact law_from (P := law_P 1) rfl C0 (hXs 1 (Or.inr rfl)) (law_h_ok 1 (by decide)) run_h0
      · exact law_from (P := law_P 2) rfl C0 (hXs 2 (Or.inr rfl)) (law_h_ok 2 (by decide)) run_h1
      · exact law_from (P := law_P 3) rfl C0 (hXs 3 (Or.inr rfl)) (law_h_ok 3 (by decide)) run_h2
      · exact law_from (P := law_P 4) rfl C0 (hXs 4 (Or.inr rfl)) (law_h_ok 4 (by decide)) run_h3
      · exact law_from (P := law_P 5) rfl C0 (hXs 5 (Or.inr rfl)) (law_h_ok 5 (by decide)) run_h4
      · exact law_from (P := law_P 6) rfl C0 (hXs 6 (Or.inr rfl)) (law_h_ok 6 (by decide)) run_h5
  · have := st_K_full r (List.mem_of_getElem? h1)
    subst this
    exact ⟨ev_lo x, ev_hi x⟩
  · cases List.mem_singleton.mp hq
    refine ⟨.ref b, ?_, hl.2.2 (0, .ref b) List.mem_cons_self⟩
    show some (Value.ref (X 0)) = _
    rw [hX0]
-- ===== YOUR PART ENDS =====
set_option maxHeartbeats 4000000 in
theorem lw_walk (l : Launch) (hl0 : l.stackTraces = false) (b : Addr) (xs : List Int32) : MetFree l x (headSpec (Jvm.Cond.code x code maxLocals ret :: tables_1) room_1) (lw_P b xs) (fun _ _ _ _ _ => True) lw_Q := by
  refine MetFree.of_bodyS (code := code) (maxLocals := maxLocals) (ret := ret) (by decide) ?_ ?_
  · intro args s m h hn
    obtain ⟨meth, c, h1, h2, h3, h4, h5, h6, -, -⟩ := Cond.code_spec hn (atoms_spec (ws := Jvm.Cond.code x code maxLocals ret :: tables_1) h _ List.mem_cons_self)
    exact ⟨meth, c, h1, h2, h3, h4, h5, h6⟩
  · intro p e s m args below meth c s₁ B hml0 hP _
    obtain ⟨rfl, hx, hbd, hgv⟩ := hP
    obtain ⟨scr, harrAt, hlist, hof, hsmall⟩ := hx
    obtain ⟨hcb, hkn, -, -⟩ := State.arrayAt?_spec harrAt
    have hown : s.vm.findClass R_law = some m.cls := findClass_of_methodNamed B.named
    have hts0 : ∀ c ∈ (Jvm.Cond.code x code maxLocals ret :: tables_1), c.before #[Value.ref b] s = true := atoms_spec (ws := Jvm.Cond.code x code maxLocals ret :: tables_1) B.pre
    have hts : ∀ w ∈ lw_tbl, w.before #[Value.ref b] s = true := k2_hts_sels lw_privs (fun w hw => hts0 w (List.mem_cons_of_mem _ hw)) lw_privs_ok
    have hml : c.maxLocals = 7 := B.maxLocals_eq (hts0 _ List.mem_cons_self)
    have X₀ : Stand p l e room_1 s m #[Value.ref b] below meth c s₁ [] 0 0 := Stand.of_body B
    have hh0 : s₁.heap = s.heap := by rw [B.state]; rfl
    have hsz : scr.slots.size = xs.length := by rw [← Array.length_toList, hlist, List.length_map]
    have hval : ∀ j : Nat, j < xs.length → scr.slots[j]? = some (.int (xs.getD j 0)) := fun j hj => by
      rw [← Array.getElem?_toList, hlist]
      simp [hj]
    have hbl : b < s.heap.size := (Array.getElem?_eq_some_iff.mp hcb).1
    have hX : va_X b xs.length (fun j => xs.getD j 0) s s.heap := ⟨scr, hcb, hof, hkn, hsz, hval⟩
    have K : W p l e room_1 s m #[Value.ref b] below meth c s₁.heap [] 0 0 (lw_Z below #[Value.ref b] s) (entryFrame m ([Value.ref b] : List Value).toArray 7) := by
      rw [hh0]
      exact whole_start l hl0 hbd ⟨B.exec, B.bytes, B.returns, hml, hown, hts, hX, hbl, B.notSynchronized, hgv⟩
    obtain ⟨t, a1, o, b1, b2, b3⟩ := K s₁ rfl X₀
    exact ⟨t, o, a1, b1, b2, b3⟩
theorem lw_pre_spec {args : Array Value} {s : State} (h : (Jvm.Cond.and given_1 narrow_1).before args s = true) (hr : rest_1_c.before args s = true) : ∃ (b : Addr) (xs : List Int32), lw_P b xs args s := by
  have hs := flat_of_before _ h
  have hq := flat_of_before _ hr
  have hc : (Cond.count 1).before args s = true := hs _ (by decide +kernel)
  have harr : (Cond.arrayOf (.arg 0) .int).before args s = true := hs _ (by decide +kernel)
  have hle : (Cond.le (.length (.arg 0)) (.int 6)).before args s = true := hs _ (by decide +kernel)
  have hlen : (Cond.isInt (.length (.arg 0))).before args s = true := hq _ (by decide +kernel)
  have hall : (Cond.all (.arg 0) (.isInt (.elem (.arg 0) (.index 0)))).before args s = true := hq _ (by decide +kernel)
  obtain ⟨b, xs, hb, hx⟩ := State.ints_of_pre rfl harr hlen hall
  have hsm : xs.length < 2 ^ 31 := hx.choose_spec.2.2.2
  have hev : (Term.length (.arg 0)).eval args s none [] s = some (.int xs.length.toInt32) := hx.length_eval hb
  have hv := Cond.le_ints hev (show (Term.int 6).eval args s none [] s = some (.int 6) from rfl)
  have hd : xs.length.toInt32 ≤ 6 := by
    simpa [Cond.before, Cond.holds, hv] using hle
  have hN : xs.length ≤ 6 := (Int32.ofNat_le_ofNat hsm (by decide)).mp (show Int32.ofNat xs.length ≤ Int32.ofNat 6 from hd)
  exact ⟨b, xs, Cond.one_arg hc (show args[0]? = some (.ref b) from hb), hx, hN, h⟩
theorem lw_comes (l : Launch) (hl0 : l.stackTraces = false) : Comes l x (Jvm.Cond.code x code maxLocals ret :: tables_1) room_1 (fun tb e args s => Calls_1 tb e args s ∧ rest_1 tb e args s ∧ Pre_1 tb e args s)
    (fun _ _ args s o t => lw_Q args s o t) := by
  intro p e ha hc hk s m args below hf hfit hheap happ hpre
  obtain ⟨b, xs, hP⟩ := lw_pre_spec hpre.2.2 hpre.2.1
  obtain ⟨k, o, h1, h2, h3, hQ⟩ := lw_walk l hl0 b xs p e ha hc hk s m args below hf ((Spec.applies_iff_loose hf).mp happ).1 hP trivial
  exact ⟨k, o, h1, h2, h3, hQ⟩
theorem lw_frame {s t : State} {o : Outcome} {args : Array Value} (h : Framed s o t [] 600002 7302232) :
    Framed s o t (fieldLocs frame_1_writes args s ++ arrayLocs frame_1_arrays args s ++ staticLocs frame_1_statics s) 600002 7302232 := h
theorem lw_limb (L : Cond) (hL : ∀ (args : Array Value) (s t : State), L.after args s (.returned (some (.int 1))) t = true) :
    ArmFor flags0 classFile x code maxLocals ret World_1 tables_1 room_1 Calls_1 rest_1 Pre_1
      (fun tb e a s o t => postC L tb e a s o t ∧ Framed s o t (fieldLocs frame_1_writes a s ++ arrayLocs frame_1_arrays a s ++ staticLocs frame_1_statics s) 600002 7302232) := by
  intro l hfl _ _ p e ha hc hk s m args below hf hfit hheap happ hpre
  have hl0 : l.stackTraces = false := by
    unfold Launch.stackTraces
    rw [hfl]
    decide +kernel
  obtain ⟨k, o, h1, h2, h3, rfl, hF⟩ := lw_comes l hl0 p e ha hc hk s m args below hf hfit hheap happ hpre
  exact ⟨k, _, h1, h2, h3, hL args s _, lw_frame hF⟩
theorem i_vc : Claimed_1_1 ∧ Claimed_1_2 := ⟨lw_limb limb_1_1 (fun args s t => by simp [limb_1_1, Cond.after, Cond.holds, Cond.value]), lw_limb limb_1_2 (fun args s t => Cond.after_iff.mpr (by
  first | (rw [show limb_1_2 = Cond.eq .result (.int 1) from rfl, Cond.eq_ints (x := 1) (y := 1) rfl rfl]; simp; done) | (simp [limb_1_2, Cond.value, Term.eval]; done)))⟩

