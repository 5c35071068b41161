/-! THE LAW'S START -/
def law_flat : List Cond := flatC (Jvm.Cond.and given_1 narrow_1)
/-- what the Statement gives of a text constant -/
def law_sc (r : String × Nat × String × List Int32) : List Cond :=
  [.exactly (.string r.1 r.2.1) "java/lang/String", .eq (.field (.string r.1 r.2.1) "java/lang/String" "coder" "B") (.int 0), .arrayOf (.field (.string r.1 r.2.1) "java/lang/String" "value" "[B") .byte, .eq (.length (.field (.string r.1 r.2.1) "java/lang/String" "value" "[B")) (.int (Int32.ofNat r.2.2.2.length))]
  ++ (List.range r.2.2.2.length).map (fun j => .eq (.elem (.field (.string r.1 r.2.1) "java/lang/String" "value" "[B") (.int (Int32.ofNat j))) (.int (r.2.2.2.getD j 0)))
set_option maxRecDepth 1000000 in
theorem law_sc_eq : ev_strs.flatMap law_sc = ([29, 30, 31, 32, 33, 34, 35, 36, 37, 38, 39, 40, 41, 42, 43, 44, 45, 46, 47, 48, 49, 50, 51, 52, 53, 54, 55, 56, 57, 58, 59, 60, 61, 62, 63, 64, 65, 66, 67, 68, 69, 70, 71, 72, 73, 74, 75, 76, 77, 78, 79, 80, 81, 82, 83, 84, 85, 86, 87, 88, 89, 90, 91, 92, 93, 94, 95, 96, 97, 98, 99, 100, 101, 102, 103, 104, 105, 106, 107, 108, 109, 110, 111, 112, 113, 114, 115, 116, 117, 118, 119, 120, 121, 122, 123, 124, 125, 126, 127, 128, 129, 130, 131, 132, 133, 134, 135, 136, 137, 138, 139, 140, 141, 142, 143, 144, 145, 146, 147, 148, 149, 150, 151, 152, 153, 154, 155, 156, 157, 158, 159, 160, 161, 162, 163, 164, 165, 166, 167, 168, 169, 170, 171, 172, 173, 174, 175, 176, 177, 178, 179, 180, 181, 182, 183, 184, 185, 186, 187, 188, 189, 190, 191, 192, 193, 194, 195, 196, 197, 198, 199, 200, 201, 202, 203, 204, 205, 206, 207, 208, 209, 211, 212, 213, 214, 215, 216, 217, 218, 219, 221, 222, 223, 224, 225, 226, 227, 228, 230, 231, 232, 233, 234, 235, 236, 237, 238, 240, 241, 242, 243, 244, 245, 246, 248, 249, 250, 251, 252, 253, 254, 255, 256, 257, 259, 260, 261, 262, 263, 264, 265, 266, 267, 268, 269, 271, 272, 273, 274, 275, 276, 277, 278, 279, 280, 282, 283, 284, 285, 286, 287, 288, 289, 290, 291, 292, 294, 295, 296, 297, 298, 299, 300, 301, 302, 304, 305, 306, 307, 308, 309, 310, 311, 313, 314, 315, 316, 317, 318, 319, 320, 322, 323, 324, 325, 326, 327, 328, 329, 331, 332, 333, 334, 335, 336, 337, 338, 340, 341, 342, 343, 344, 345, 346, 347, 349, 350, 351, 352, 353, 354, 355, 356, 357, 359, 360, 361, 362, 363, 364, 365, 366, 368, 369, 370, 371, 372, 373, 374, 375, 376, 378, 379, 380, 381, 382, 383, 384, 385, 386, 388, 389, 390, 391, 392, 393] : List Nat).filterMap (fun i => law_flat[i]?) := by decide +kernel
theorem law_sc_in {r : String × Nat × String × List Int32} (hr : r ∈ ev_strs) {w : Cond} (hw : w ∈ law_sc r) : w ∈ law_flat := by
  have h : w ∈ ev_strs.flatMap law_sc := List.mem_flatMap.mpr ⟨r, hr, hw⟩
  rw [law_sc_eq] at h
  obtain ⟨i, -, hi⟩ := List.mem_filterMap.mp h
  exact List.mem_of_getElem? hi
set_option maxRecDepth 1000000 in
theorem law_sr_eq : ev_strs.map (fun r => Cond.stringRef r.1 r.2.1 r.2.2.1) = ([549, 550, 551, 552, 553, 554, 555, 556, 638, 647, 648, 665, 666, 667, 668, 669, 678, 679, 680, 705, 1446, 1461, 1478, 1479, 1480, 1501, 1502, 1503, 1504, 1505, 1506, 1515, 1516, 1517, 1518, 1519, 1524, 1525, 1526, 1558] : List Nat).filterMap (fun i => lw_tbl[i]?) := by decide +kernel
theorem law_sr_in {r : String × Nat × String × List Int32} (hr : r ∈ ev_strs) : Cond.stringRef r.1 r.2.1 r.2.2.1 ∈ lw_tbl := by
  have h : Cond.stringRef r.1 r.2.1 r.2.2.1 ∈ ev_strs.map (fun r => Cond.stringRef r.1 r.2.1 r.2.2.1) := List.mem_map.mpr ⟨r, hr, rfl⟩
  rw [law_sr_eq] at h
  obtain ⟨i, -, hi⟩ := List.mem_filterMap.mp h
  exact List.mem_of_getElem? hi
set_option maxRecDepth 1000000 in
theorem law_in0 : Cond.instantiable RX0 5 ∈ lw_tbl := List.mem_of_getElem? (i := 359) (by decide +kernel)
set_option maxRecDepth 1000000 in
theorem law_in1 : Cond.instantiable RX1 3 ∈ lw_tbl := List.mem_of_getElem? (i := 424) (by decide +kernel)
set_option maxRecDepth 1000000 in
theorem law_in2 : Cond.instantiable RX2 4 ∈ lw_tbl := List.mem_of_getElem? (i := 307) (by decide +kernel)
set_option maxRecDepth 1000000 in
theorem law_in3 : Cond.instantiable RX3 5 ∈ lw_tbl := List.mem_of_getElem? (i := 332) (by decide +kernel)
set_option maxRecDepth 1000000 in
theorem law_in4 : Cond.instantiable RX4 14 ∈ lw_tbl := List.mem_of_getElem? (i := 146) (by decide +kernel)
set_option maxRecDepth 1000000 in
theorem law_in5 : Cond.instantiable RX5 3 ∈ lw_tbl := List.mem_of_getElem? (i := 404) (by decide +kernel)
set_option maxRecDepth 1000000 in
theorem law_in6 : Cond.instantiable RX6 3 ∈ lw_tbl := List.mem_of_getElem? (i := 386) (by decide +kernel)
set_option maxRecDepth 1000000 in
theorem law_in7 : Cond.instantiable RX7 19 ∈ lw_tbl := List.mem_of_getElem? (i := 198) (by decide +kernel)
set_option maxRecDepth 1000000 in
theorem law_in8 : Cond.instantiable RX8 15 ∈ lw_tbl := List.mem_of_getElem? (i := 138) (by decide +kernel)
set_option maxRecDepth 1000000 in
theorem law_in9 : Cond.instantiable RX9 35 ∈ lw_tbl := List.mem_of_getElem? (i := 1298) (by decide +kernel)
theorem law_inst : ∀ (ci : Nat) (r : vw_C), vwCl[ci]? = some r → Cond.instantiable r.1 r.2.2 ∈ lw_tbl
  | 0, r, h => by cases h; exact law_in0
  | 1, r, h => by cases h; exact law_in1
  | 2, r, h => by cases h; exact law_in2
  | 3, r, h => by cases h; exact law_in3
  | 4, r, h => by cases h; exact law_in4
  | 5, r, h => by cases h; exact law_in5
  | 6, r, h => by cases h; exact law_in6
  | 7, r, h => by cases h; exact law_in7
  | 8, r, h => by cases h; exact law_in8
  | 9, r, h => by cases h; exact law_in9
  | n + 10, r, h => by cases h
set_option maxRecDepth 1000000 in
theorem law_ao : Cond.arrayOver (.object "BarberMinutes$Minutes") ∈ lw_tbl := List.mem_of_getElem? (i := 338) (by decide +kernel)
set_option maxRecDepth 1000000 in
theorem law_z1 : Cond.laysStatic "java/lang/String" "COMPACT_STRINGS" "Z" ∈ lw_tbl := List.mem_of_getElem? (i := 570) (by decide +kernel)
set_option maxRecDepth 1000000 in
theorem law_z2 : Cond.initialized "java/lang/String" ∈ lw_tbl := List.mem_of_getElem? (i := 127) (by decide +kernel)
set_option maxRecDepth 1000000 in
theorem law_z3 : Cond.eq (.static "java/lang/String" "COMPACT_STRINGS" "Z") (.int 1) ∈ law_flat := List.mem_of_getElem? (i := 4) (by decide +kernel)
set_option maxRecDepth 1000000 in
theorem law_z4 : Cond.laysStatic "jdk/internal/util/Preconditions" "SIOOBE_FORMATTER" "Ljava/util/function/BiFunction;" ∈ lw_tbl := List.mem_of_getElem? (i := 586) (by decide +kernel)
set_option maxRecDepth 1000000 in
theorem law_z5 : Cond.initialized "jdk/internal/util/Preconditions" ∈ lw_tbl := List.mem_of_getElem? (i := 129) (by decide +kernel)
set_option maxRecDepth 1000000 in
theorem law_z6 : Cond.isRef (.static "jdk/internal/util/Preconditions" "SIOOBE_FORMATTER" "Ljava/util/function/BiFunction;") ∈ law_flat := List.mem_of_getElem? (i := 5) (by decide +kernel)
/-! THE CLAIM OUT OF ONE WALK OF THE LAW'S BODY. Your part is whole_start (and what it stands on); all else here is the same for every law, but numbers. -/
def R_law : String := "BarberMinutesLaw"
def lw_P (b : Addr) (xs : List Int32) (args : Array Value) (s : State) : Prop := args = #[.ref b] ∧ s.IntsAt b xs ∧ xs.length ≤ 3072 ∧ (Jvm.Cond.and given_1 narrow_1).before args s = true
def lw_Q (_ : Array Value) (s : State) (o : Outcome) (t : State) : Prop := o = .returned (some (.int 1)) ∧ Framed s o t [] 601024 7293034
def lw_Z (below : List Frame) (a : Array Value) (s : State) : State → Prop := fun t => ∃ o, t.status = .running ∧ Ended t below o ∧ lw_Q a s o t
/-- the law's own end, with 1 on the stack, nothing written that was there before, its room as the claim has it -/
theorem lw_ret {p : Program} {l : Launch} {e : Env} {s : State} {m : MethodId} {below : List Frame} {meth : Method} {c : Code} {b : Nat} (hx : p.tables.exec = Jvm.exec) (hb : c.code = code) (hr : meth.sig.returnType = ret) (hlocks : meth.locks = false) {pc : Nat} {H : Heap} {ls : Array Slot} (hdg : decode code pc = .ok (.ireturn, 1)) : W p l e room_1 s m #[Value.ref b] below meth c H [] 601024 7293034 (lw_Z below #[Value.ref b] s) (F0 m pc ls [.int 1]) := by
  intro T hT X
  obtain ⟨fs, hret, hrun, hended, hW, hframe⟩ := X.leave (v := some (.int 1)) (hlocks := hlocks) (fun h => by rw [hr] at h; cases h)
  have hmeth' : T.vm.method? m = some meth := X.method'
  refine ⟨T.setFrames fs, ?_, .returned (some (.int 1)), hrun, hended, rfl, ⟨_, rfl⟩, hW, hframe⟩
  jvm_step X.here [X.here.top, hx, hb, hdg, hmeth', hr, ret, narrow_b1]
  (try refine ⟨rfl, ?_⟩); (try refine ⟨rfl, ?_⟩)
  first | (intro acts; rw [hret _ acts rfl rfl rfl]) | rw [hret _ _ rfl rfl rfl]
  exact Steps.refl _
/-- what holds at the law's entry: the machine, the code, the tables' words (any of lw_tbl by 'hts w (by decide +kernel)'), the script of L ints xs at the cell b, what the Statement gives of the start (any of its parts by flat_of_before) -/
def lw_At (p : Program) (s : State) (m : MethodId) (meth : Method) (c : Code) (b L : Nat) (xs : Nat → Int32) : Prop :=
  p.tables.exec = Jvm.exec ∧ c.code = code ∧ meth.sig.returnType = ret ∧ c.maxLocals = 7 ∧ s.vm.findClass R_law = some m.cls ∧ (∀ w ∈ lw_tbl, w.before #[Value.ref b] s = true) ∧ va_X b L xs s s.heap ∧ b < s.heap.size ∧ meth.locks = false ∧ (Jvm.Cond.and given_1 narrow_1).before #[Value.ref b] s = true
/-- the law's own cells are the new ones -/
abbrev law_A (s : State) : Nat → Prop := fun q : Nat => s.heap.size ≤ q
/-- the picture's names at the law's start: the script is X 0, the texts and their bytes behind it (six numbers that are not used) -/
def law_g (X : Nat → Nat) : ev_G := ([], X, (List.range 6).map (fun _ => Value.int 0))
theorem law_facts {p : Program} {s : State} {m : MethodId} {meth : Method} {c : Code} {b L : Nat} {xs : Nat → Int32} (C0 : lw_At p s m meth c b L xs) :
    ∃ (D : va_G) (X : Nat → Nat), X 0 = b ∧ ev_X p room_1 s m #[Value.ref b] meth c code 7 "BarberMinutesLaw" false D (law_A s) 601024 7293034 (law_g X) 0 := by
  obtain ⟨hx, hb, hr, hml, hown, hts, hX, hbl, hlocks, hgv⟩ := C0
  have hfl : ∀ w ∈ law_flat, w.before #[Value.ref b] s = true := flat_of_before _ hgv
  have hA : ∀ a : Nat, a < s.heap.size → ¬ law_A s a := fun a h => Nat.not_le.mpr h
  have hcl : ∀ ci : Nat, ∃ q : ClassId × (Nat → Nat), ∀ r : vw_C, vwCl[ci]? = some r → u_Kn s r.1 r.2.1 r.2.2 q.1 q.2 := by
    intro ci
    cases hz : vwCl[ci]? with
    | none => exact ⟨(0, fun _ => 0), fun r h => by cases h⟩
    | some r =>
      obtain ⟨ty, hty⟩ : ∃ ty, ev_tyl[ci]? = some ty := ⟨_, List.getElem?_eq_getElem (show ci < ev_tyl.length from (List.getElem?_eq_some_iff.mp hz).1)⟩
      obtain ⟨cC, iS, hk⟩ := u_known (N := r.2.2) (fun w h => hts w (lw_good_in h)) (ev_cls ci r ty hz hty).1 (hts _ (law_inst ci r hz))
      exact ⟨(cC, iS), fun r' h => by cases h; exact hk⟩
  obtain ⟨dq, hdq⟩ := Classical.axiomOfChoice hcl
  have hst : ∀ k : Nat, ∃ q : Nat × Nat, ∀ r : String × Nat × String × List Int32, ev_strs[k]? = some r → (Term.string r.1 r.2.1).eval #[Value.ref b] s none [] s = some (.ref q.1) ∧ va_O "java/lang/String" q.1 (law_A s) s s.heap ∧ va_OF "java/lang/String" "coder" "B" (.int 0) q.1 (law_A s) s s.heap ∧ va_OF "java/lang/String" "value" "[B" (.ref q.2) q.1 (law_A s) s s.heap ∧ va_T .byte q.2 r.2.2.2.length (fun j => .int (r.2.2.2.getD j 0)) (law_A s) s s.heap := by
    intro k
    cases hz : ev_strs[k]? with
    | none => exact ⟨(0, 0), fun r h => by cases h⟩
    | some r =>
      have hr := List.mem_of_getElem? hz
      have hlen : r.2.2.2.length < 2 ^ 31 := by
        have : ∀ r ∈ ev_strs, r.2.2.2.length < 2 ^ 31 := by decide +kernel
        exact this r hr
      have w1 := hfl _ (law_sc_in hr (w := .exactly (.string r.1 r.2.1) "java/lang/String") (by simp [law_sc]))
      have w2 := hfl _ (law_sc_in hr (w := .eq (.field (.string r.1 r.2.1) "java/lang/String" "coder" "B") (.int 0)) (by simp [law_sc]))
      have w3 := hfl _ (law_sc_in hr (w := .arrayOf (.field (.string r.1 r.2.1) "java/lang/String" "value" "[B") .byte) (by simp [law_sc]))
      have w4 := hfl _ (law_sc_in hr (w := .eq (.length (.field (.string r.1 r.2.1) "java/lang/String" "value" "[B")) (.int (Int32.ofNat r.2.2.2.length))) (by simp [law_sc]))
      have w5 : ∀ j : Nat, j < r.2.2.2.length → (Cond.eq (.elem (.field (.string r.1 r.2.1) "java/lang/String" "value" "[B") (.int (Int32.ofNat j))) (.int (r.2.2.2.getD j 0))).before #[Value.ref b] s = true := fun j hj => hfl _ (law_sc_in hr (List.mem_append_right _ (List.mem_map.mpr ⟨j, List.mem_range.mpr hj, rfl⟩)))
      obtain ⟨a, cc, cA, kA, q1, q2, q3, q4, q5, q6, -⟩ := Cond.exactly_spec (args := #[Value.ref b]) (first := s) (o := none) (s := s) (idx := []) (t := .string r.1 r.2.1) (cls := "java/lang/String") w1
      obtain ⟨t, ht, hT⟩ := va_Tof (f := fun j => .int (r.2.2.2.getD j 0)) (A := law_A s) hlen w3 (va_eqt w4) (fun j hj => va_eqt (w5 j hj)) hA
      refine ⟨(a, t), fun r' h => ?_⟩
      cases h
      exact ⟨q1, ⟨cA, q3, q5, by rw [q6]; exact q2, hA a (Array.getElem?_eq_some_iff.mp q3).1⟩, vk_OFof q1 (va_eqt w2) hA, vk_OFof q1 ht hA, hT⟩
  obtain ⟨ad, had⟩ := Classical.axiomOfChoice hst
  obtain ⟨X, hX0, hX1, hX2⟩ : ∃ X : Nat → Nat, X 0 = b ∧ (∀ k : Nat, X (1 + 2 * k) = (ad k).1) ∧ ∀ k : Nat, X (2 + 2 * k) = (ad k).2 := by
    refine ⟨fun j => if j = 0 then b else if j % 2 = 1 then (ad (j / 2)).1 else (ad (j / 2 - 1)).2, by simp, fun k => ?_, fun k => ?_⟩
    · dsimp only
      rw [if_neg (by omega), if_pos (by omega), show (1 + 2 * k) / 2 = k by omega]
    · dsimp only
      rw [if_neg (by omega), if_neg (by omega), show (2 + 2 * k) / 2 - 1 = k by omega]
  refine ⟨(fun ci => (dq ci).1, fun ci => (dq ci).2), X, hX0, ⟨hx, hb, hml, hown, fun w h => hts w (lw_good_in h), ⟨fun ci q h => hdq ci q h, fun k q h => by cases h⟩, fun q h => h, ⟨⟨fun w hw => va_Nw.of (ev_N_on hw) (hts w (List.mem_filter.mp hw).1), va_AO.of (hts _ law_ao)⟩, fun k r hr => ?_, fun k r hr => ?_, ?_, ?_⟩, fun h => (by cases h), rfl, rfl, by decide, by decide, fun L' h => by cases h⟩⟩
  · show vk_R r.1 r.2.1 r.2.2.1 (X (1 + 2 * k)) s
    rw [hX1]
    exact vk_R.of (hts _ (law_sr_in (List.mem_of_getElem? hr))) (had k r hr).1
  · show va_O "java/lang/String" (X (1 + 2 * k)) _ _ _ ∧ va_OF "java/lang/String" "coder" "B" (.int 0) (X (1 + 2 * k)) _ _ _ ∧ va_OF "java/lang/String" "value" "[B" (.ref (X (2 + 2 * k))) (X (1 + 2 * k)) _ _ _ ∧ va_T .byte (X (2 + 2 * k)) r.2.2.2.length (fun j => .int (r.2.2.2.getD j 0)) _ _ _
    rw [hX1, hX2]
    exact (had k r hr).2
  · exact va_Zof (hts _ law_z1) (hts _ law_z2) (va_eqi (hfl _ law_z3)) hA
  · exact va_Zqof (hts _ law_z4) (hts _ law_z5) (hfl _ law_z6) hA
set_option maxRecDepth 1000000 in
theorem law_t1 : Cond.laysStatic "BarberMinutes" "TENS" "[I" ∈ lw_tbl := List.mem_of_getElem? (i := 900) (by decide +kernel)
set_option maxRecDepth 1000000 in
theorem law_t2 : Cond.initialized "BarberMinutes" ∈ lw_tbl := List.mem_of_getElem? (i := 116) (by decide +kernel)
set_option maxRecDepth 1000000 in
theorem law_t3 : Cond.arrayOf (.static "BarberMinutes" "TENS" "[I") .int ∈ law_flat := List.mem_of_getElem? (i := 10) (by decide +kernel)
set_option maxRecDepth 1000000 in
theorem law_t4 : Cond.eq (.length (.static "BarberMinutes" "TENS" "[I")) (.int 5) ∈ law_flat := List.mem_of_getElem? (i := 11) (by decide +kernel)
set_option maxRecDepth 1000000 in
theorem law_t50 : Cond.eq (.elem (.static "BarberMinutes" "TENS" "[I") (.int 0)) (.int 1) ∈ law_flat := List.mem_of_getElem? (i := 12) (by decide +kernel)
set_option maxRecDepth 1000000 in
theorem law_t51 : Cond.eq (.elem (.static "BarberMinutes" "TENS" "[I") (.int 1)) (.int 10) ∈ law_flat := List.mem_of_getElem? (i := 13) (by decide +kernel)
set_option maxRecDepth 1000000 in
theorem law_t52 : Cond.eq (.elem (.static "BarberMinutes" "TENS" "[I") (.int 2)) (.int 100) ∈ law_flat := List.mem_of_getElem? (i := 14) (by decide +kernel)
set_option maxRecDepth 1000000 in
theorem law_t53 : Cond.eq (.elem (.static "BarberMinutes" "TENS" "[I") (.int 3)) (.int 1000) ∈ law_flat := List.mem_of_getElem? (i := 15) (by decide +kernel)
set_option maxRecDepth 1000000 in
theorem law_t54 : Cond.eq (.elem (.static "BarberMinutes" "TENS" "[I") (.int 4)) (.int 10000) ∈ law_flat := List.mem_of_getElem? (i := 16) (by decide +kernel)
