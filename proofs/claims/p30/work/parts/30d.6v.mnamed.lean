/-! THE TWO READERS: names that were told -/
def sb_n (s : Int32) : Nat := if s = 1 then 0 else if s = 2 then 6 else 11
def nsl (so nu : Int32) : Nat := sb_n so + nu.toNatClampNeg
/-- what a name may be of -/
def nmv (me mo ch : Nat) (so nu : Int32) : Prop := (so = 1 ∧ ∃ a, a < me ∧ nu = Int32.ofNat a) ∨ (so = 2 ∧ ∃ a, a < mo ∧ nu = Int32.ofNat a) ∨ (so = 6 ∧ ∃ a, a < ch ∧ nu = Int32.ofNat a)
/-- the names of the class and the slots of the reference -/
def NR (nam me mo ch : Nat) (nw : Nat → Int64) (so nu : Nat → Int32) (F : Nat → Int32) : Prop :=
  (∀ i, i < nam → nmv me mo ch (so i) (nu i) ∧ ∃ ns, 0 < ns ∧ F (69 + nsl (so i) (nu i)) = Int32.ofNat ns ∧ wrep (nw i) (fun k => F (85 + 8 * nsl (so i) (nu i) + k)) ns) ∧
  (∀ n, n < 16 → F (69 + n) ≠ 0 → ∃ i, i < nam ∧ nsl (so i) (nu i) = n) ∧
  (∀ i j, i < nam → j < nam → nw i = nw j → i = j)
theorem nmv_up {me mo ch me' mo' ch' : Nat} {so nu : Int32} (h : nmv me mo ch so nu) (h1 : me ≤ me') (h2 : mo ≤ mo') (h3 : ch ≤ ch') : nmv me' mo' ch' so nu := by
  rcases h with ⟨a, b, c, d⟩ | ⟨a, b, c, d⟩ | ⟨a, b, c, d⟩
  · exact Or.inl ⟨a, b, by omega, d⟩
  · exact Or.inr (Or.inl ⟨a, b, by omega, d⟩)
  · exact Or.inr (Or.inr ⟨a, b, by omega, d⟩)
theorem nsl_1 {a : Nat} (h : a < 100) : nsl 1 (Int32.ofNat a) = a := by
  unfold nsl sb_n
  rw [if_pos rfl, fn_nat (by omega), Nat.zero_add]
theorem nsl_2 {a : Nat} (h : a < 100) : nsl 2 (Int32.ofNat a) = 6 + a := by
  unfold nsl sb_n
  rw [if_neg (by decide), if_pos rfl, fn_nat (by omega)]
theorem nsl_6 {a : Nat} (h : a < 100) : nsl 6 (Int32.ofNat a) = 11 + a := by
  unfold nsl sb_n
  rw [if_neg (by decide), if_neg (by decide), fn_nat (by omega)]
theorem nsl_16 {me mo ch : Nat} {so nu : Int32} (h : nmv me mo ch so nu) (h1 : me ≤ 6) (h2 : mo ≤ 5) (h3 : ch ≤ 5) : nsl so nu < 16 := by
  rcases h with ⟨rfl, b, c, rfl⟩ | ⟨rfl, b, c, rfl⟩ | ⟨rfl, b, c, rfl⟩
  · rw [nsl_1 (by omega)]; omega
  · rw [nsl_2 (by omega)]; omega
  · rw [nsl_6 (by omega)]; omega
theorem nm_sp {C : cm_M} (hk : C.1 2 3 = 1) : ∀ (f i : Nat), (nm_f C f i = -1 ∧ ∀ j, i ≤ j → j < i + f → C.2.1 3 j ≠ C.2.1 2 6) ∨ (∃ j, i ≤ j ∧ j < i + f ∧ nm_f C f i = Int32.ofNat j ∧ C.2.1 3 j = C.2.1 2 6)
  | 0, i => Or.inl ⟨rfl, fun j a b => by omega⟩
  | f + 1, i => by
    unfold nm_f
    by_cases h : C.2.1 3 i = C.2.1 2 6
    · rw [if_pos ⟨hk, h⟩]
      exact Or.inr ⟨i, Nat.le_refl _, by omega, rfl, h⟩
    · rw [if_neg (fun q => h q.2)]
      rcases nm_sp hk f (i + 1) with ⟨a, b⟩ | ⟨j, a, b, c, d⟩
      · refine Or.inl ⟨a, fun j q1 q2 => ?_⟩
        rcases Nat.lt_or_ge i j with hh | hh
        · exact b j hh (by omega)
        · have : j = i := by omega
          rw [this]
          exact h
      · exact Or.inr ⟨j, by omega, by omega, c, d⟩
theorem of_m1 {a : Nat} (h : a < 1000) : Int32.ofNat a ≠ -1 := by
  intro q
  have := congrArg Int32.toInt q
  rw [fn_toInt (by omega)] at this
  have e : (-1 : Int32).toInt = -1 := by decide
  omega
theorem wr_ns {N : Nat} {C D : cm_M} (h : Rq N C D) (hk : C.1 2 3 = 1) : ∃ ns : Nat, 0 < ns ∧ ns ≤ 8 ∧ D.1 124 8 = Int32.ofNat ns ∧ wrep (C.2.1 2 6) (D.1 126) ns := by
  rcases h.1.2.2.2.2.2 with ⟨a, b⟩ | ⟨a, b, ns, c1, c2, c3⟩ | ⟨a, b, c⟩ | ⟨a, b⟩ | ⟨a, b⟩
  · rw [a] at hk; exact absurd hk (by decide)
  · exact ⟨ns, c1, c3.1, c2, c3⟩
  · rw [a] at hk; exact absurd hk (by decide)
  · rw [a] at hk; exact absurd hk (by decide)
  · rw [a] at hk; exact absurd hk (by decide)
/-- what is found on one side is found on the other -/
theorem NF {nam me mo ch ns : Nat} {C D : cm_M} (hk : C.1 2 3 = 1) (hnn : C.1 2 10 = Int32.ofNat nam) (h16 : nam ≤ 16) (h1 : me ≤ 6) (h2 : mo ≤ 5) (h3 : ch ≤ 5) (hN : NR nam me mo ch (C.2.1 3) (C.1 4) (C.1 5) (D.1 128)) (hpos : 0 < ns) (hns : ns ≤ 8) (hw : wrep (C.2.1 2 6) (D.1 126) ns) {x : Int32} (hx : (some (Value.int x) = some (.int (-1)) ∧ ∀ n, n < 16 → ¬ sl (D.1 128) (D.1 126) ns n) ∨ (∃ n, n < 16 ∧ some (Value.int x) = some (.int (Int32.ofNat n)) ∧ sl (D.1 128) (D.1 126) ns n)) : (x = -1 ∧ cF_name C = -1) ∨ (∃ i, i < nam ∧ cF_name C = Int32.ofNat i ∧ nmv me mo ch (C.1 4 i) (C.1 5 i) ∧ x = Int32.ofNat (nsl (C.1 4 i) (C.1 5 i))) := by
  obtain ⟨n1, n2, n3⟩ := hN
  have hnm : cF_name C = nm_f C nam 0 := by
    unfold cF_name
    rw [hnn, fn_nat (by omega)]
  rw [hnm]
  rcases hx with ⟨hx, hs⟩ | ⟨n, n16, hx, hs⟩
  · cases hx
    refine Or.inl ⟨rfl, ?_⟩
    rcases nm_sp hk nam 0 with ⟨a, b⟩ | ⟨j, a, b, c, d⟩
    · exact a
    · exfalso
      obtain ⟨p1, ns', p2, p3, p4⟩ := n1 j (by omega)
      have hsl := nsl_16 p1 h1 h2 h3
      rw [d] at p4
      have hh := (wrep_eq p4 hw).mp rfl
      refine hs _ hsl ⟨?_, fun k hk => hh.2 k (by omega)⟩
      rw [p3, hh.1]
  · cases hx
    refine Or.inr ?_
    have hnz : D.1 128 (69 + n) ≠ 0 := by
      rw [hs.1]
      intro q
      have := ofn_inj (a := ns) (b := 0) (by omega) (by omega) q
      omega
    obtain ⟨i, hi, hin⟩ := n2 n n16 hnz
    obtain ⟨p1, ns', p2, p3, p4⟩ := n1 i hi
    rw [hin] at p3 p4
    have hl8 := p4.1
    have e1 : ns' = ns := ofn_inj (by omega) (by omega) (p3.symm.trans hs.1)
    have hWi : C.2.1 3 i = C.2.1 2 6 := (wrep_eq p4 hw).mpr ⟨e1, fun k hk => hs.2 k (by omega)⟩
    rcases nm_sp hk nam 0 with ⟨a, b⟩ | ⟨j, a, b, c, d⟩
    · exact absurd hWi (b i (by omega) (by omega))
    · have : j = i := n3 j i (by omega) hi (d.trans hWi.symm)
      subst this
      exact ⟨j, hi, c, p1, by rw [hin]⟩
/-- the class's names at the start of a look -/
abbrev NC (nam me mo ch : Nat) (C : cm_M) (F : Nat → Int32) : Prop := C.1 2 10 = Int32.ofNat nam ∧ nam ≤ 16 ∧ me ≤ 6 ∧ mo ≤ 5 ∧ ch ≤ 5 ∧ NR nam me mo ch (C.2.1 3) (C.1 4) (C.1 5) F
theorem told_id {so : Int32} {C : cm_M} (h : C.1 2 9 ≠ 0) : cF_told so C = C := by
  unfold cF_told
  split
  · split
    · exact cF_fail_id h
    · rfl
  · exact cF_fail_id h
theorem told_nm {so : Int32} {C : cm_M} (h : ¬ (C.1 2 3 = 1 ∧ cF_line C = -1)) : cF_told so C = cF_fail 1 C := by
  unfold cF_told
  rw [if_neg h]
theorem told_no {so : Int32} {C : cm_M} (h : C.1 2 3 = 1 ∧ cF_line C = -1) (h2 : cF_name C = -1 ∨ C.1 4 (cF_name C).toNatClampNeg ≠ so) : cF_told so C = cF_fail 2 C := by
  unfold cF_told
  rw [if_pos h, if_pos h2]
theorem told_ok {so : Int32} {C : cm_M} (h : C.1 2 3 = 1 ∧ cF_line C = -1) (h2 : ¬ (cF_name C = -1 ∨ C.1 4 (cF_name C).toNatClampNeg ≠ so)) : cF_told so C = C := by
  unfold cF_told
  rw [if_pos h, if_neg h2]
/-- within the bounds of a sort -/
theorem nin {me mo ch : Nat} {so nu sx lo hi : Int32} (h1 : me ≤ 6) (h2 : mo ≤ 5) (h3 : ch ≤ 5) (hs : (sx = 1 ∧ lo = 0 ∧ hi = 5) ∨ (sx = 2 ∧ lo = 6 ∧ hi = 10)) (hv : nmv me mo ch so nu) : ((decide (lo ≤ Int32.ofNat (nsl so nu)) && decide (Int32.ofNat (nsl so nu) ≤ hi)) = true ↔ so = sx) ∧ (so = sx → Int32.ofNat (nsl so nu) - lo = nu) := by
  have z : ∀ a : Nat, a < 20 → ∀ b : Nat, b < 20 → ((Int32.ofNat a ≤ Int32.ofNat b) ↔ a ≤ b) := fun a ha b hb => by
    rw [Int32.le_iff_toInt_le, fn_toInt (by omega), fn_toInt (by omega)]
    omega
  rw [Bool.and_eq_true, decide_eq_true_iff, decide_eq_true_iff]
  rcases hs with ⟨rfl, rfl, rfl⟩ | ⟨rfl, rfl, rfl⟩
  · have y0 : (0 : Int32) = Int32.ofNat 0 := rfl
    have y5 : (5 : Int32) = Int32.ofNat 5 := rfl
    rcases hv with ⟨rfl, b, c, rfl⟩ | ⟨rfl, b, c, rfl⟩ | ⟨rfl, b, c, rfl⟩
    · rw [nsl_1 (by omega), y0, y5, z _ (by omega) _ (by omega), z _ (by omega) _ (by omega)]
      refine ⟨⟨fun _ => rfl, fun _ => ⟨by omega, by omega⟩⟩, fun _ => ?_⟩
      rw [← y0, Int32.sub_zero]
    · rw [nsl_2 (by omega), y0, y5, z _ (by omega) _ (by omega), z _ (by omega) _ (by omega)]
      refine ⟨⟨fun q => by omega, fun q => absurd q (by decide)⟩, fun q => absurd q (by decide)⟩
    · rw [nsl_6 (by omega), y0, y5, z _ (by omega) _ (by omega), z _ (by omega) _ (by omega)]
      refine ⟨⟨fun q => by omega, fun q => absurd q (by decide)⟩, fun q => absurd q (by decide)⟩
  · have y0 : (6 : Int32) = Int32.ofNat 6 := rfl
    have y5 : (10 : Int32) = Int32.ofNat 10 := rfl
    rcases hv with ⟨rfl, b, c, rfl⟩ | ⟨rfl, b, c, rfl⟩ | ⟨rfl, b, c, rfl⟩
    · rw [nsl_1 (by omega), y0, y5, z _ (by omega) _ (by omega), z _ (by omega) _ (by omega)]
      refine ⟨⟨fun q => by omega, fun q => absurd q (by decide)⟩, fun q => absurd q (by decide)⟩
    · rw [nsl_2 (by omega), y0, y5, z _ (by omega) _ (by omega), z _ (by omega) _ (by omega)]
      refine ⟨⟨fun _ => rfl, fun _ => ⟨by omega, by omega⟩⟩, fun _ => ?_⟩
      rw [Int32.ofNat_add, Int32.add_comm, Int32.add_sub_cancel]
    · rw [nsl_6 (by omega), y0, y5, z _ (by omega) _ (by omega), z _ (by omega) _ (by omega)]
      refine ⟨⟨fun q => by omega, fun q => absurd q (by decide)⟩, fun q => absurd q (by decide)⟩
theorem nin0 {sx lo hi : Int32} (hs : (sx = 1 ∧ lo = 0 ∧ hi = 5) ∨ (sx = 2 ∧ lo = 6 ∧ hi = 10)) : (decide (lo ≤ (-1 : Int32)) && decide ((-1 : Int32) ≤ hi)) = false := by
  rcases hs with ⟨rfl, rfl, rfl⟩ | ⟨rfl, rfl, rfl⟩
  · decide
  · decide
abbrev md_R (N : Nat) (sx : Int32) (C D : cm_M) : cm_K := fun v M' => ∃ x, v = some (.int x) ∧ ∃ D', M' = fm D' ∧ Rq N (cF_told sx C) D' ∧ D'.1 128 = D.1 128 ∧ ((cF_told sx C).1 2 9 = 0 → x = cF_toldV sx C)
set_option maxRecDepth 100000 in
set_option maxHeartbeats 4000000 in
theorem m_named {N nam me mo ch : Nat} {sx lo hi : Int32} (hs : (sx = 1 ∧ lo = 0 ∧ hi = 5) ∨ (sx = 2 ∧ lo = 6 ∧ hi = 10)) {C D : cm_M} (h : Rq N C D) (hc : C.1 2 9 = 0 → NC nam me mo ch C (D.1 128)) : cm_Lc cm_ms 184 [.ref 124, .int lo, .int hi] (fm D) (md_R N sx C D) := by
  refine lb_st0 (mi := mr_184) rfl 60 ?_
  show (ev_cmp 0 (D.1 124 13) 0 = true → _) ∧ (ev_cmp 0 (D.1 124 13) 0 = false → _)
  refine ⟨fun h1 => ?_, fun h1 => ?_⟩
  · have z1 : C.1 2 9 = 0 := fl_0 h.2 (fn_eq0 h1)
    show ∃ R, cm_Lc cm_ms 181 [.ref 124] (fm D) R ∧ ∀ v M', R v M' → _
    refine ⟨_, m_mustName h z1, ?_⟩
    rintro v M' ⟨rfl, D1, rfl, r1, f1⟩
    show (ev_cmp 0 (D1.1 124 13) 0 = true → _) ∧ (ev_cmp 0 (D1.1 124 13) 0 = false → _)
    refine ⟨fun h2 => ?_, fun h2 => ?_⟩
    · have z2 : (cF_nm C).1 2 9 = 0 := fl_0 r1.2 (fn_eq0 h2)
      have q1 : C.1 2 3 = 1 ∧ cF_line C = -1 := by
        by_cases q : C.1 2 3 = 1 ∧ cF_line C = -1
        · exact q
        · exfalso
          unfold cF_nm at z2
          rw [if_neg q] at z2
          exact cF_fail_9n (by decide) z2
      have q2 : cF_nm C = C := by
        unfold cF_nm
        rw [if_pos q1]
      rw [q2] at r1
      obtain ⟨ns, s1, s2, s3, s4⟩ := wr_ns r1 q1.1
      obtain ⟨c1, c2, c3, c4, c5, c6⟩ := hc z1
      show ∃ R, cm_Lc cm_ms 182 [.ref 124] (fm D1) R ∧ ∀ v M', R v M' → _
      refine ⟨_, m_find s3 s2 s1, ?_⟩
      rintro v M' ⟨rfl, hx⟩
      have hv : ∃ x, v = some (.int x) ∧ ((x = -1 ∧ cF_name C = -1) ∨ (∃ i, i < nam ∧ cF_name C = Int32.ofNat i ∧ nmv me mo ch (C.1 4 i) (C.1 5 i) ∧ x = Int32.ofNat (nsl (C.1 4 i) (C.1 5 i)))) := by
        rw [← f1] at c6
        rcases hx with ⟨rfl, q⟩ | ⟨n, q3, rfl, q4⟩
        · exact ⟨_, rfl, NF q1.1 c1 c2 c3 c4 c5 c6 s1 s2 s4 (Or.inl ⟨rfl, q⟩)⟩
        · exact ⟨_, rfl, NF q1.1 c1 c2 c3 c4 c5 c6 s1 s2 s4 (Or.inr ⟨n, q3, rfl, q4⟩)⟩
      clear hx
      obtain ⟨x, rfl, hx⟩ := hv
      show ∃ R, cm_Lc cm_ms 167 [.int x, .int lo, .int hi] (fm D1) R ∧ ∀ v M', R v M' → _
      refine ⟨_, m_in x lo hi _, ?_⟩
      rintro v M' ⟨rfl, rfl⟩
      show (ev_cmp 1 (bi (decide (lo ≤ x) && decide (x ≤ hi))) 0 = true → _) ∧ (ev_cmp 1 (bi (decide (lo ≤ x) && decide (x ≤ hi))) 0 = false → _)
      refine ⟨fun h3 => ?_, fun h3 => ?_⟩
      · have w3 : (decide (lo ≤ x) && decide (x ≤ hi)) = true := bi_n1 h3
        show (ev_cmp 0 (D1.1 124 13) 0 = true → _) ∧ (ev_cmp 0 (D1.1 124 13) 0 = false → _)
        refine ⟨fun h4 => ?_, fun h4 => ?_⟩
        · have z4 : C.1 2 9 = 0 := fl_0 r1.2 (fn_eq0 h4)
          show md_R N sx C D (some (.int (x - lo))) (fm D1)
          have q3 : ¬ (cF_name C = -1 ∨ C.1 4 (cF_name C).toNatClampNeg ≠ sx) ∧ x - lo = C.1 5 (cF_name C).toNatClampNeg := by
            rcases hx with ⟨rfl, q⟩ | ⟨i, i1, i2, i3, rfl⟩
            · rw [nin0 hs] at w3
              cases w3
            · have e := (nin c3 c4 c5 hs i3).1.mp w3
              rw [i2, fn_nat (by omega)]
              refine ⟨?_, (nin c3 c4 c5 hs i3).2 e⟩
              rintro (q | q)
              · exact of_m1 (by omega) q
              · exact q e
          refine ⟨_, rfl, D1, rfl, ?_, f1, fun _ => ?_⟩
          · rw [told_ok q1 q3.1]
            exact r1
          · unfold cF_toldV
            rw [told_ok q1 q3.1, if_neg (fun q => q.elim (fun q => q z1) (fun q => q3.1 (Or.inl q)))]
            exact q3.2
        · have z4 : C.1 2 9 ≠ 0 := fl_1 r1.2 (fn_ne0 h4)
          show md_R N sx C D (some (.int 0)) (fm D1)
          exact absurd z1 z4
      · have w3 : (decide (lo ≤ x) && decide (x ≤ hi)) = false := bi_n0 h3
        show ∃ R, cm_Lc cm_ms 177 [.ref 124, .int 2, .int (D1.1 124 4)] (fm D1) R ∧ ∀ v M', R v M' → _
        refine ⟨_, m_wrong r1 (x := 2) (by decide), ?_⟩
        rintro v M' ⟨rfl, D2, rfl, r2, f2⟩
        show (ev_cmp 0 (D2.1 124 13) 0 = true → _) ∧ (ev_cmp 0 (D2.1 124 13) 0 = false → _)
        refine ⟨fun h5 => ?_, fun h5 => ?_⟩
        · have z5 : (cF_fail 2 C).1 2 9 = 0 := fl_0 r2.2 (fn_eq0 h5)
          show md_R N sx C D (some (.int (x - lo))) (fm D2)
          exact absurd z5 (cF_fail_9n (by decide))
        · have z5 : (cF_fail 2 C).1 2 9 ≠ 0 := fl_1 r2.2 (fn_ne0 h5)
          show md_R N sx C D (some (.int 0)) (fm D2)
          have q3 : cF_name C = -1 ∨ C.1 4 (cF_name C).toNatClampNeg ≠ sx := by
            rcases hx with ⟨rfl, q⟩ | ⟨i, i1, i2, i3, rfl⟩
            · exact Or.inl q
            · refine Or.inr ?_
              rw [i2, fn_nat (by omega)]
              intro q
              have := (nin c3 c4 c5 hs i3).1.mpr q
              rw [this] at w3
              cases w3
          refine ⟨_, rfl, D2, rfl, ?_, f2.trans f1, ?_⟩
          · rw [told_no q1 q3]
            exact r2
          · rw [told_no q1 q3]
            exact fun q => absurd q (cF_fail_9n (by decide))
    · have z2 : (cF_nm C).1 2 9 ≠ 0 := fl_1 r1.2 (fn_ne0 h2)
      show md_R N sx C D (some (.int 0)) (fm D1)
      have q1 : ¬ (C.1 2 3 = 1 ∧ cF_line C = -1) := fun q => z2 (by unfold cF_nm; rw [if_pos q]; exact z1)
      have q2 : cF_nm C = cF_fail 1 C := by
        unfold cF_nm
        rw [if_neg q1]
      refine ⟨_, rfl, D1, rfl, ?_, f1, ?_⟩
      · rw [told_nm q1, ← q2]
        exact r1
      · rw [told_nm q1]
        exact fun q => absurd q (cF_fail_9n (by decide))
  · have z1 : C.1 2 9 ≠ 0 := fl_1 h.2 (fn_ne0 h1)
    show md_R N sx C D (some (.int 0)) (fm D)
    refine ⟨_, rfl, D, rfl, ?_, rfl, ?_⟩
    · rw [told_id z1]
      exact h
    · rw [told_id z1]
      exact fun q => absurd q z1
theorem m_manHere {N nam me mo ch : Nat} {C D : cm_M} (h : Rq N C D) (hc : C.1 2 9 = 0 → NC nam me mo ch C (D.1 128)) : cm_Lc cm_ms 185 [.ref 124] (fm D) (md_R N 1 C D) := by
  refine lb_st0 (mi := mr_185) rfl 20 ?_
  show ∃ R, cm_Lc cm_ms 184 [.ref 124, .int 0, .int 5] (fm D) R ∧ ∀ v M', R v M' → _
  refine ⟨_, m_named (Or.inl ⟨rfl, rfl, rfl⟩) h hc, ?_⟩
  rintro v M' ⟨x, rfl, q⟩
  exact ⟨x, rfl, q⟩
theorem m_motionHere {N nam me mo ch : Nat} {C D : cm_M} (h : Rq N C D) (hc : C.1 2 9 = 0 → NC nam me mo ch C (D.1 128)) : cm_Lc cm_ms 186 [.ref 124] (fm D) (md_R N 2 C D) := by
  refine lb_st0 (mi := mr_186) rfl 20 ?_
  show ∃ R, cm_Lc cm_ms 184 [.ref 124, .int 6, .int 10] (fm D) R ∧ ∀ v M', R v M' → _
  refine ⟨_, m_named (Or.inr ⟨rfl, rfl, rfl⟩) h hc, ?_⟩
  rintro v M' ⟨x, rfl, q⟩
  exact ⟨x, rfl, q⟩
