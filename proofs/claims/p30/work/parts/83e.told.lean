/-! BOTH SIDES ANSWER ALIKE: what is told of a town -/
theorem tw_r {M : cm_M} (h : ab_ok hp hN M) {T' f o : Nat} (hT : T' = 6 ∨ T' = 19) (hf : (f, o) ∈ [(4, 1), (5, 2), (6, 3), (7, 4), (8, 5), (10, 6), (11, 7), (12, 8), (13, 9), (14, 10), (16, 11), (17, 12)]) : M.2.2 T' f = some (T' + o) := by
  have k : ∀ T', (T' = 6 ∨ T' = 19) → ∀ q ∈ [(4, 1), (5, 2), (6, 3), (7, 4), (8, 5), (10, 6), (11, 7), (12, 8), (13, 9), (14, 10), (16, 11), (17, 12)], ab_hr hp T' q.1 = some (false, [T' + q.2]) := by
    intro T' hT
    rcases hT with rfl | rfl <;> decide +kernel
  exact okr h (k T' hT (f, o) hf)
theorem md_15 {M : cm_M} (h : ab_ok hp hN M) : M.2.2 124 15 = some 127 := okr h (by decide +kernel)
theorem LI_all {M : cm_M} (h : LI M) : ∃ T' a me mo ch, (T' = 6 ∨ T' = 19) ∧ M.2.2 0 3 = some T' ∧ M.1 124 14 = bi a ∧ decide (M.1 T' 3 = 0) = !a ∧ (me ≤ 6 ∧ mo ≤ 5 ∧ ch ≤ 5) ∧ (M.1 T' 3 = Int32.ofNat me ∧ M.1 T' 9 = Int32.ofNat mo ∧ M.1 T' 15 = Int32.ofNat ch) ∧ (a = false → me = 0 ∧ mo = 0 ∧ ch = 0) ∧ (a = true → 0 < me ∧ DR me mo ch 1 (DA T' M) (M.1 127)) := by
  obtain ⟨-, -, T', h1, h2, -, h3⟩ := h
  rcases h3 with ⟨b1, b2, b3, b4⟩ | ⟨b1, me, mo, ch, c1, c2, c3, c4, hd⟩
  · exact ⟨T', false, 0, 0, 0, h1, h2, b4, decide_eq_true b1, ⟨by omega, by omega, by omega⟩, ⟨b1, b2, b3⟩, fun _ => ⟨rfl, rfl, rfl⟩, fun q => nomatch q⟩
  · refine ⟨T', true, me, mo, ch, h1, h2, b1, decide_eq_false (fun q => ?_), ⟨c2, c3, c4⟩, ⟨hd.2.1.1, hd.2.1.2.2.1, hd.2.1.2.2.2.2.1⟩, (fun q => nomatch q), fun _ => ⟨c1, hd⟩⟩
    have e : M.1 T' 3 = Int32.ofNat me := hd.2.1.1
    rw [q] at e
    have := ofn_inj (a := 0) (b := me) (by omega) (by omega) e
    omega
theorem LI_127 {M M1 : cm_M} (h : lu_P M M1) : M1.1 127 = M.1 127 := funext fun j => (h.2 127 j rfl).1
/-- the quarrels of the told town -/
theorem DR_qu {T' me mo ch : Nat} {M : cm_M} (h6 : me ≤ 6) (h : DR me mo ch 1 (DA T' M) (M.1 127)) : ∃ qu q, QU me (M.1 (T' + 5)) qu ∧ QU me (fun m => M.1 127 (55 + m)) qu ∧ M.1 127 7 = Int32.ofNat q ∧ su qu me = 2 * q ∧ ∀ m, m < me → qu m < 2 ^ me := by
  obtain ⟨-, -, c, -, -, ⟨ag, am, qu, f1, f2, f3, f4, f5, f6, q, f7, f8, f9⟩, -⟩ := h
  refine ⟨qu, q, fun m hm => ?_, fun m hm => ?_, f7, ?_, fun m hm => ?_⟩
  · exact ⟨((c m hm).2.2.2.2).trans (f1 m (by omega)).2.2.2, (f1 m (by omega)).2.2.1⟩
  · exact ⟨(f1 m (by omega)).2.2.2, (f1 m (by omega)).2.2.1⟩
  · rw [← f8]
    exact (su_zz (fun j hj => (f2 j hj).2) h6).symm
  · have t : ∀ me, me < 7 → ∀ a, a < 64 → (∀ o, o < 6 → me ≤ o → a / 2 ^ o % 2 = 0) → a < 2 ^ me := by decide +kernel
    refine t me (by omega) (qu m) (f1 m (by omega)).2.2.1 (fun o ho hmo => ?_)
    rw [(f9 m (by omega) o ho).1, (f2 o hmo).2, Nat.zero_div]
theorem cmp_27 {M : cm_M} (hM : ab_ok hp hN M) (hL : LI M) : cm_Call cm_ms 30 124 [.ref 0] M (cmp_P 256 [.ref 124]) := by
  obtain ⟨T', a, me, mo, ch, t1, t2, t3, t4, t5, t6, t7, t8⟩ := LI_all hL
  cases a with
  | false =>
    refine cmp_gen hL (lk_124 hM) (fun _ h => lk_256 h) (c_parting t2 (tw_r hM t1 (by decide)) t6.1 t5.1 t4 (fun q => nomatch q) (qu := fun _ => 0) (fun m hm => by have := (t7 rfl).1; omega)) (fun M1 h1 h2 => ?_)
    exact m_parting (me := me) (qu := fun _ => 0) (((h2.2 124 14 rfl).1).trans t3) (md_15 h2.1) (fun q => nomatch q) t5.1
  | true =>
    obtain ⟨qu, q, u1, u2, u3, u4, u5⟩ := DR_qu t5.1 (t8 rfl).2
    refine cmp_gen hL (lk_124 hM) (fun _ h => lk_256 h) (c_parting t2 (tw_r hM t1 (by decide)) t6.1 t5.1 t4 (fun _ => (t8 rfl).1) u1) (fun M1 h1 h2 => ?_)
    have e := LI_127 h2
    exact m_parting (me := me) (qu := qu) (((h2.2 124 14 rfl).1).trans t3) (md_15 h2.1) (fun _ => by
      rw [e]
      exact ⟨(t8 rfl).2.2.1.2.1, (t8 rfl).1, u2⟩) t5.1
theorem cmp_28 {M : cm_M} (hM : ab_ok hp hN M) (hL : LI M) : cm_Call cm_ms 30 125 [.ref 0] M (cmp_P 257 [.ref 124]) := by
  obtain ⟨T', a, me, mo, ch, t1, t2, t3, t4, t5, t6, t7, t8⟩ := LI_all hL
  cases a with
  | false =>
    refine cmp_gen hL (lk_125 hM) (fun _ h => lk_257 h) (c_left (q := 0) t1 t2 (tw_r hM t1 (by decide)) t6.1 t5.1 t4 (fun q => nomatch q) (qu := fun _ => 0) (fun m hm => by have := (t7 rfl).1; omega) (by rw [(t7 rfl).1]; rfl)) (fun M1 h1 h2 => ?_)
    exact m_left (me := me) (q := 0) (qu := fun _ => 0) (((h2.2 124 14 rfl).1).trans t3) (md_15 h2.1) (fun q => nomatch q) t5.1
  | true =>
    obtain ⟨qu, q, u1, u2, u3, u4, u5⟩ := DR_qu t5.1 (t8 rfl).2
    refine cmp_gen hL (lk_125 hM) (fun _ h => lk_257 h) (c_left t1 t2 (tw_r hM t1 (by decide)) t6.1 t5.1 t4 (fun _ => (t8 rfl).1) u1 u4) (fun M1 h1 h2 => ?_)
    have e := LI_127 h2
    exact m_left (me := me) (qu := qu) (q := q) (((h2.2 124 14 rfl).1).trans t3) (md_15 h2.1) (fun _ => by
      rw [e]
      exact ⟨(t8 rfl).2.2.1.2.1, (t8 rfl).1, u2, u3⟩) t5.1
theorem cmp_29 {M : cm_M} (hM : ab_ok hp hN M) (hL : LI M) : cm_Call cm_ms 30 126 [.ref 0] M (cmp_P 258 [.ref 124]) := by
  obtain ⟨T', a, me, mo, ch, t1, t2, t3, t4, t5, t6, t7, t8⟩ := LI_all hL
  cases a with
  | false =>
    refine cmp_gen hL (lk_126 hM) (fun _ h => lk_258 h) (c_peace t2 (tw_r hM t1 (by decide)) t6.1 t5.1 t4 (qu := fun _ => 0) (fun m hm => by have := (t7 rfl).1; omega)) (fun M1 h1 h2 => ?_)
    exact m_peace (me := me) (qu := fun _ => 0) (((h2.2 124 14 rfl).1).trans t3) (md_15 h2.1) (fun q => nomatch q) t5.1
  | true =>
    obtain ⟨qu, q, u1, u2, u3, u4, u5⟩ := DR_qu t5.1 (t8 rfl).2
    have c := c_peace t2 (tw_r hM t1 (by decide)) t6.1 t5.1 t4 u1
    rw [pe_end t5.1 u5] at c
    refine cmp_gen hL (lk_126 hM) (fun _ h => lk_258 h) c (fun M1 h1 h2 => ?_)
    have e := LI_127 h2
    exact m_peace (me := me) (qu := qu) (((h2.2 124 14 rfl).1).trans t3) (md_15 h2.1) (fun _ => by
      rw [e]
      exact ⟨(t8 rfl).2.2.1.2.1, u2⟩) t5.1
theorem ix61 {k : Nat} (h : k < 100) : ((61 : Int32) + Int32.ofNat k).toNatClampNeg = 61 + k := by
  rw [show (61 : Int32) = Int32.ofNat 61 from rfl, ← Int32.ofNat_add, fn_nat (by omega)]
theorem cmp_30 {M : cm_M} (hM : ab_ok hp hN M) (hL : LI M) (c o : Int32) : cm_Call cm_ms 30 128 [.ref 0, .int c, .int o] M (cmp_P 260 [.ref 124, .int c, .int o]) := by
  obtain ⟨T', a, me, mo, ch, t1, t2, t3, t4, t5, t6, t7, t8⟩ := LI_all hL
  refine cmp_gen hL (lk_128 hM c o) (fun _ h => lk_260 h c o) (c_apart t2 (tw_r hM t1 (by decide)) c o) (fun M1 h1 h2 => ?_)
  have q := m_apart (((h2.2 124 14 rfl).1).trans t3) (md_15 h2.1) c o
  have e : apM M1 a c o = apF M T' c o := by
    unfold apM apF
    rw [t6.2.2, LI_127 h2]
    cases a with
    | false =>
      have := (t7 rfl).2.2
      subst this
      rw [show outB c (Int32.ofNat 0) = true from out_0 c]
      rfl
    | true =>
      have hd := (t8 rfl).2
      rw [hd.2.1.2.2.2.2.2, out_in (by omega), out_in (by omega)]
      cases hc : outB c (Int32.ofNat ch) with
      | true => rfl
      | false =>
        cases ho : outB o (Int32.ofNat ch) with
        | true => rfl
        | false =>
          obtain ⟨i, hi, rfl⟩ := out_nat (by omega) hc
          obtain ⟨j, hj, rfl⟩ := out_nat (by omega) ho
          have x1 := hd.2.2.2.2.1 i hi
          have x2 := hd.2.2.2.2.1 j hj
          have x1 : M.1 (T' + 11) i = M.1 127 (61 + i) := x1
          have x2 : M.1 (T' + 11) j = M.1 127 (61 + j) := x2
          rw [if_pos (show (true && !false && (true && !false)) = true from rfl), if_neg (show ¬ (false || false) = true by decide), ix61 (by omega), ix61 (by omega), fn_nat (by omega), fn_nat (by omega), x1, x2, way_eq]
  rw [e] at q
  exact q
theorem cmp_11 {M : cm_M} (hM : ab_ok hp hN M) (hL : LI M) (x : Int32) : cm_Call cm_ms 30 105 [.ref 0, .int x] M (cmp_P 230 [.ref 124, .int x]) := by
  obtain ⟨T', a, me, mo, ch, t1, t2, t3, t4, t5, t6, t7, t8⟩ := LI_all hL
  refine cmp_gen hL (lk_105 hM x) (fun _ h => lk_230 h x) (c_behind t2 (tw_r hM t1 (by decide)) t6.2.1 t5.2.1 x) (fun M1 h1 h2 => ?_)
  have e127 := LI_127 h2
  have q := m_behind (mo := mo) (((h2.2 124 14 rfl).1).trans t3) (md_15 h2.1) (fun q => by rw [e127]; exact (t8 q).2.2.1.2.2.2.1) t5.2.1 x
  have e : bhM M1 mo a x = bhC M T' mo x := by
    unfold bhM bhC
    rw [e127]
    cases a with
    | false =>
      have := (t7 rfl).2.1
      subst this
      rw [show outB x (Int32.ofNat 0) = true from out_0 x]
      rfl
    | true =>
      have hd := (t8 rfl).2
      rw [out_in (by omega)]
      cases hc : outB x (Int32.ofNat mo) with
      | true => rfl
      | false =>
        obtain ⟨k, hk, rfl⟩ := out_nat (by omega) hc
        rw [if_pos (show (true && !false) = true from rfl), if_neg (show ¬ false = true by decide), fn_nat (by omega)]
        congr 1
        exact bhF_cg _ (fun o ho => ((hd.2.2.2.1 o (by omega)).2.2.2).symm)
  rw [e] at q
  exact q
