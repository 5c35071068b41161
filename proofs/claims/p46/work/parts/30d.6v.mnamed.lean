noncomputable def sb_n (s : Int32) : Nat := if s = 1 then 0 else if s = 2 then 6 else 11
noncomputable def nsl (so nu : Int32) : Nat := sb_n so + nu.toNatClampNeg
/-- what a name may be of -/
noncomputable def nmv (me mo ch : Nat) (so nu : Int32) : Prop := (so = 1 ∧ ∃ a, a < me ∧ nu = Int32.ofNat a) ∨ (so = 2 ∧ ∃ a, a < mo ∧ nu = Int32.ofNat a) ∨ (so = 6 ∧ ∃ a, a < ch ∧ nu = Int32.ofNat a)
/-- the names of the class and the slots of the reference -/
noncomputable def NR (nam me mo ch : Nat) (nw : Nat → Int64) (so nu : Nat → Int32) (F : Nat → Int32) : Prop :=
  (∀ i, i < nam → nmv me mo ch (so i) (nu i) ∧ ∃ ns, 0 < ns ∧ F (69 + nsl (so i) (nu i)) = Int32.ofNat ns ∧ wrep (nw i) (fun k => F (85 + 8 * nsl (so i) (nu i) + k)) ns) ∧
  (∀ n, n < 16 → F (69 + n) ≠ 0 → ∃ i, i < nam ∧ nsl (so i) (nu i) = n) ∧
  (∀ i j, i < nam → j < nam → nw i = nw j → i = j)
theorem nmv_up {me mo ch me' mo' ch' : Nat} {so nu : Int32} (h : nmv me mo ch so nu) (h1 : me ≤ me') (h2 : mo ≤ mo') (h3 : ch ≤ ch') : nmv me' mo' ch' so nu := by
  rcases h with ⟨a, b, c, d⟩ | ⟨a, b, c, d⟩ | ⟨a, b, c, d⟩
  · exact Or.inl ⟨a, b, by omega, d⟩
  · exact Or.inr (Or.inl ⟨a, b, by omega, d⟩)
  · exact Or.inr (Or.inr ⟨a, b, by omega, d⟩)
theorem nsl_1 {a : Nat} (h : a < 100) : nsl 1 (Int32.ofNat a) = a := by
  unfold nsl sb_n
  rw [if_pos rfl, fn_nat (by omega), Nat.zero_add]
theorem nsl_2 {a : Nat} (h : a < 100) : nsl 2 (Int32.ofNat a) = 6 + a := by
  unfold nsl sb_n
  rw [if_neg (by decide), if_pos rfl, fn_nat (by omega)]
theorem nsl_6 {a : Nat} (h : a < 100) : nsl 6 (Int32.ofNat a) = 11 + a := by
  unfold nsl sb_n
  rw [if_neg (by decide), if_neg (by decide), fn_nat (by omega)]
theorem nsl_16 {me mo ch : Nat} {so nu : Int32} (h : nmv me mo ch so nu) (h1 : me ≤ 6) (h2 : mo ≤ 5) (h3 : ch ≤ 5) : nsl so nu < 16 := by
  rcases h with ⟨rfl, b, c, rfl⟩ | ⟨rfl, b, c, rfl⟩ | ⟨rfl, b, c, rfl⟩
  · rw [nsl_1 (by omega)]; omega
  · rw [nsl_2 (by omega)]; omega
  · rw [nsl_6 (by omega)]; omega
theorem nm_sp {C : cm_M} (hk : C.1 2 3 = 1) : ∀ (f i : Nat), (nm_f C f i = -1 ∧ ∀ j, i ≤ j → j < i + f → C.2.1 3 j ≠ C.2.1 2 6) ∨ (∃ j, i ≤ j ∧ j < i + f ∧ nm_f C f i = Int32.ofNat j ∧ C.2.1 3 j = C.2.1 2 6)
  | 0, i => Or.inl ⟨rfl, fun j a b => by omega⟩
  | f + 1, i => by
    unfold nm_f
    by_cases h : C.2.1 3 i = C.2.1 2 6
    · rw [if_pos ⟨hk, h⟩]
      exact Or.inr ⟨i, Nat.le_refl _, by omega, rfl, h⟩
    · rw [if_neg (fun q => h q.2)]
      rcases nm_sp hk f (i + 1) with ⟨a, b⟩ | ⟨j, a, b, c, d⟩
      · refine Or.inl ⟨a, fun j q1 q2 => ?_⟩
        rcases Nat.lt_or_ge i j with hh | hh
        · exact b j hh (by omega)
        · have : j = i := by omega
          rw [this]
          exact h
      · exact Or.inr ⟨j, by omega, by omega, c, d⟩
theorem of_m1 {a : Nat} (h : a < 1000) : Int32.ofNat a ≠ -1 := by
  intro q
  have := congrArg Int32.toInt q
  rw [fn_toInt (by omega)] at this
  have e : (-1 : Int32).toInt = -1 := by decide
  omega
theorem wr_ns {N : Nat} {C D : cm_M} (h : Rq N C D) (hk : C.1 2 3 = 1) : ∃ ns : Nat, 0 < ns ∧ ns ≤ 8 ∧ D.1 124 8 = Int32.ofNat ns ∧ wrep (C.2.1 2 6) (D.1 126) ns := by
  rcases h.1.2.2.2.2.2 with ⟨a, b⟩ | ⟨a, b, ns, c1, c2, c3⟩ | ⟨a, b, c⟩ | ⟨a, b⟩ | ⟨a, b⟩
  · rw [a] at hk; exact absurd hk (by decide)
  · exact ⟨ns, c1, c3.1, c2, c3⟩
  · rw [a] at hk; exact absurd hk (by decide)
  · rw [a] at hk; exact absurd hk (by decide)
  · rw [a] at hk; exact absurd hk (by decide)
/-- what is found on one side is found on the other -/
theorem NF {nam me mo ch ns : Nat} {C D : cm_M} (hk : C.1 2 3 = 1) (hnn : C.1 2 10 = Int32.ofNat nam) (h16 : nam ≤ 16) (h1 : me ≤ 6) (h2 : mo ≤ 5) (h3 : ch ≤ 5) (hN : NR nam me mo ch (C.2.1 3) (C.1 4) (C.1 5) (D.1 128)) (hpos : 0 < ns) (hns : ns ≤ 8) (hw : wrep (C.2.1 2 6) (D.1 126) ns) {x : Int32} (hx : (some (Value.int x) = some (.int (-1)) ∧ ∀ n, n < 16 → ¬ sl (D.1 128) (D.1 126) ns n) ∨ (∃ n, n < 16 ∧ some (Value.int x) = some (.int (Int32.ofNat n)) ∧ sl (D.1 128) (D.1 126) ns n)) : (x = -1 ∧ cF_name C = -1) ∨ (∃ i, i < nam ∧ cF_name C = Int32.ofNat i ∧ nmv me mo ch (C.1 4 i) (C.1 5 i) ∧ x = Int32.ofNat (nsl (C.1 4 i) (C.1 5 i))) := by
  obtain ⟨n1, n2, n3⟩ := hN
  have hnm : cF_name C = nm_f C nam 0 := by
    unfold cF_name
    rw [hnn, fn_nat (by omega)]
  rw [hnm]
  rcases hx with ⟨hx, hs⟩ | ⟨n, n16, hx, hs⟩
  · cases hx
    refine Or.inl ⟨rfl, ?_⟩
    rcases nm_sp hk nam 0 with ⟨a, b⟩ | ⟨j, a, b, c, d⟩
    · exact a
    · exfalso
      obtain ⟨p1, ns', p2, p3, p4⟩ := n1 j (by omega)
      have hsl := nsl_16 p1 h1 h2 h3
      rw [d] at p4
      have hh := (wrep_eq p4 hw).mp rfl
      refine hs _ hsl ⟨?_, fun k hk => hh.2 k (by omega)⟩
      rw [p3, hh.1]
  · cases hx
    refine Or.inr ?_
    have hnz : D.1 128 (69 + n) ≠ 0 := by
      rw [hs.1]
      intro q
      have := ofn_inj (a := ns) (b := 0) (by omega) (by omega) q
      omega
    obtain ⟨i, hi, hin⟩ := n2 n n16 hnz
    obtain ⟨p1, ns', p2, p3, p4⟩ := n1 i hi
    rw [hin] at p3 p4
    have hl8 := p4.1
    have e1 : ns' = ns := ofn_inj (by omega) (by omega) (p3.symm.trans hs.1)
    have hWi : C.2.1 3 i = C.2.1 2 6 := (wrep_eq p4 hw).mpr ⟨e1, fun k hk => hs.2 k (by omega)⟩
    rcases nm_sp hk nam 0 with ⟨a, b⟩ | ⟨j, a, b, c, d⟩
    · exact absurd hWi (b i (by omega) (by omega))
    · have : j = i := n3 j i (by omega) hi (d.trans hWi.symm)
      subst this
      exact ⟨j, hi, c, p1, by rw [hin]⟩
/-- the class's names at the start of a look -/
noncomputable abbrev NC (nam me mo ch : Nat) (C : cm_M) (F : Nat → Int32) : Prop := C.1 2 10 = Int32.ofNat nam ∧ nam ≤ 16 ∧ me ≤ 6 ∧ mo ≤ 5 ∧ ch ≤ 5 ∧ NR nam me mo ch (C.2.1 3) (C.1 4) (C.1 5) F
theorem told_id {so : Int32} {C : cm_M} (h : C.1 2 9 ≠ 0) : cF_told so C = C := by
  unfold cF_told
  split
  · split
    · exact cF_fail_id h
    · rfl
  · exact cF_fail_id h
theorem told_nm {so : Int32} {C : cm_M} (h : ¬ (C.1 2 3 = 1 ∧ cF_line C = -1)) : cF_told so C = cF_fail 1 C := by
  unfold cF_told
  rw [if_neg h]
theorem told_no {so : Int32} {C : cm_M} (h : C.1 2 3 = 1 ∧ cF_line C = -1) (h2 : cF_name C = -1 ∨ C.1 4 (cF_name C).toNatClampNeg ≠ so) : cF_told so C = cF_fail 2 C := by
  unfold cF_told
  rw [if_pos h, if_pos h2]
theorem told_ok {so : Int32} {C : cm_M} (h : C.1 2 3 = 1 ∧ cF_line C = -1) (h2 : ¬ (cF_name C = -1 ∨ C.1 4 (cF_name C).toNatClampNeg ≠ so)) : cF_told so C = C := by
  unfold cF_told
  rw [if_pos h, if_neg h2]
/-- within the bounds of a sort -/
theorem nin {me mo ch : Nat} {so nu sx lo hi : Int32} (h1 : me ≤ 6) (h2 : mo ≤ 5) (h3 : ch ≤ 5) (hs : (sx = 1 ∧ lo = 0 ∧ hi = 5) ∨ (sx = 2 ∧ lo = 6 ∧ hi = 10)) (hv : nmv me mo ch so nu) : ((decide (lo ≤ Int32.ofNat (nsl so nu)) && decide (Int32.ofNat (nsl so nu) ≤ hi)) = true ↔ so = sx) ∧ (so = sx → Int32.ofNat (nsl so nu) - lo = nu) := by
  have z : ∀ a : Nat, a < 20 → ∀ b : Nat, b < 20 → ((Int32.ofNat a ≤ Int32.ofNat b) ↔ a ≤ b) := fun a ha b hb => by
    rw [Int32.le_iff_toInt_le, fn_toInt (by omega), fn_toInt (by omega)]
    omega
  rw [Bool.and_eq_true, decide_eq_true_iff, decide_eq_true_iff]
  rcases hs with ⟨rfl, rfl, rfl⟩ | ⟨rfl, rfl, rfl⟩
  · have y0 : (0 : Int32) = Int32.ofNat 0 := rfl
    have y5 : (5 : Int32) = Int32.ofNat 5 := rfl
    rcases hv with ⟨rfl, b, c, rfl⟩ | ⟨rfl, b, c, rfl⟩ | ⟨rfl, b, c, rfl⟩
    · rw [nsl_1 (by omega), y0, y5, z _ (by omega) _ (by omega), z _ (by omega) _ (by omega)]
      refine ⟨⟨fun _ => rfl, fun _ => ⟨by omega, by omega⟩⟩, fun _ => ?_⟩
      rw [← y0, Int32.sub_zero]
    · rw [nsl_2 (by omega), y0, y5, z _ (by omega) _ (by omega), z _ (by omega) _ (by omega)]
      refine ⟨⟨fun q => by omega, fun q => absurd q (by decide)⟩, fun q => absurd q (by decide)⟩
    · rw [nsl_6 (by omega), y0, y5, z _ (by omega) _ (by omega), z _ (by omega) _ (by omega)]
      refine ⟨⟨fun q => by omega, fun q => absurd q (by decide)⟩, fun q => absurd q (by decide)⟩
  · have y0 : (6 : Int32) = Int32.ofNat 6 := rfl
    have y5 : (10 : Int32) = Int32.ofNat 10 := rfl
    rcases hv with ⟨rfl, b, c, rfl⟩ | ⟨rfl, b, c, rfl⟩ | ⟨rfl, b, c, rfl⟩
    · rw [nsl_1 (by omega), y0, y5, z _ (by omega) _ (by omega), z _ (by omega) _ (by omega)]
      refine ⟨⟨fun q => by omega, fun q => absurd q (by decide)⟩, fun q => absurd q (by decide)⟩
    · rw [nsl_2 (by omega), y0, y5, z _ (by omega) _ (by omega), z _ (by omega) _ (by omega)]
      refine ⟨⟨fun _ => rfl, fun _ => ⟨by omega, by omega⟩⟩, fun _ => ?_⟩
      rw [Int32.ofNat_add, Int32.add_comm, Int32.add_sub_cancel]
    · rw [nsl_6 (by omega), y0, y5, z _ (by omega) _ (by omega), z _ (by omega) _ (by omega)]
      refine ⟨⟨fun q => by omega, fun q => absurd q (by decide)⟩, fun q => absurd q (by decide)⟩
theorem nin0 {sx lo hi : Int32} (hs : (sx = 1 ∧ lo = 0 ∧ hi = 5) ∨ (sx = 2 ∧ lo = 6 ∧ hi = 10)) : (decide (lo ≤ (-1 : Int32)) && decide ((-1 : Int32) ≤ hi)) = false := by
  rcases hs with ⟨rfl, rfl, rfl⟩ | ⟨rfl, rfl, rfl⟩
  · decide
  · decide
noncomputable abbrev md_R (N : Nat) (sx : Int32) (C D : cm_M) : cm_K := fun v M' => ∃ x, v = some (.int x) ∧ ∃ D', M' = fm D' ∧ Rq N (cF_told sx C) D' ∧ D'.1 128 = D.1 128 ∧ ((cF_told sx C).1 2 9 = 0 → x = cF_toldV sx C)
set_option maxRecDepth 100000 in
set_option maxHeartbeats 4000000 in
theorem m_named {N nam me mo ch : Nat} {sx lo hi : Int32} (hs : (sx = 1 ∧ lo = 0 ∧ hi = 5) ∨ (sx = 2 ∧ lo = 6 ∧ hi = 10)) {C D : cm_M} (h : Rq N C D) (hc : C.1 2 9 = 0 → NC nam me mo ch C (D.1 128)) : cm_Lc cm_ms 184 [.ref 124, .int lo, .int hi] (fm D) (md_R N sx C D) := by
  refine lb_st0 (mi := mr_184) rfl 60 ?_
  show (ev_cmp 0 (D.1 124 13) 0 = true → _) ∧ (ev_cmp 0 (D.1 124 13) 0 = false → _)
  refine ⟨fun h1 => ?_, fun h1 => ?_⟩
  · have z1 : C.1 2 9 = 0 := fl_0 h.2 (fn_eq0 h1)
    show ∃ R, cm_Lc cm_ms 181 [.ref 124] (fm D) R ∧ ∀ v M', R v M' → _
    refine ⟨_, m_mustName h z1, ?_⟩
    rintro v M' ⟨rfl, D1, rfl, r1, f1⟩
    show (ev_cmp 0 (D1.1 124 13) 0 = true → _) ∧ (ev_cmp 0 (D1.1 124 13) 0 = false → _)
    refine ⟨fun h2 => ?_, fun h2 => ?_⟩
    · have z2 : (cF_nm C).1 2 9 = 0 := fl_0 r1.2 (fn_eq0 h2)
      have q1 : C.1 2 3 = 1 ∧ cF_line C = -1 := by
        by_cases q : C.1 2 3 = 1 ∧ cF_line C = -1
        · exact q
        · exfalso
          unfold cF_nm at z2
          rw [if_neg q] at z2
          exact cF_fail_9n (by decide) z2
      have q2 : cF_nm C = C := by
        unfold cF_nm
        rw [if_pos q1]
      rw [q2] at r1
      obtain ⟨ns, s1, s2, s3, s4⟩ := wr_ns r1 q1.1
      obtain ⟨c1, c2, c3, c4, c5, c6⟩ := hc z1
      show ∃ R, cm_Lc cm_ms 182 [.ref 124] (fm D1) R ∧ ∀ v M', R v M' → _
      refine ⟨_, m_find s3 s2 s1, ?_⟩
      rintro v M' ⟨rfl, hx⟩
      have hv : ∃ x, v = some (.int x) ∧ ((x = -1 ∧ cF_name C = -1) ∨ (∃ i, i < nam ∧ cF_name C = Int32.ofNat i ∧ nmv me mo ch (C.1 4 i) (C.1 5 i) ∧ x = Int32.ofNat (nsl (C.1 4 i) (C.1 5 i)))) := by
        rw [← f1] at c6
        rcases hx with ⟨rfl, q⟩ | ⟨n, q3, rfl, q4⟩
        · exact ⟨_, rfl, NF q1.1 c1 c2 c3 c4 c5 c6 s1 s2 s4 (Or.inl ⟨rfl, q⟩)⟩
        · exact ⟨_, rfl, NF q1.1 c1 c2 c3 c4 c5 c6 s1 s2 s4 (Or.inr ⟨n, q3, rfl, q4⟩)⟩
      clear hx
      obtain ⟨x, rfl, hx⟩ := hv
      show ∃ R, cm_Lc cm_ms 167 [.int x, .int lo, .int hi] (fm D1) R ∧ ∀ v M', R v M' → _
      refine ⟨_, m_in x lo hi _, ?_⟩
      rintro v M' ⟨rfl, rfl⟩
      show (ev_cmp 1 (bi (decide (lo ≤ x) && decide (x ≤ hi))) 0 = true → _) ∧ (ev_cmp 1 (bi (decide (lo ≤ x) && decide (x ≤ hi))) 0 = false → _)
      refine ⟨fun h3 => ?_, fun h3 => ?_⟩
      · have w3 : (decide (lo ≤ x) && decide (x ≤ hi)) = true := bi_n1 h3
        show (ev_cmp 0 (D1.1 124 13) 0 = true → _) ∧ (ev_cmp 0 (D1.1 124 13) 0 = false → _)
        refine ⟨fun h4 => ?_, fun h4 => ?_⟩
        · have z4 : C.1 2 9 = 0 := fl_0 r1.2 (fn_eq0 h4)
          show md_R N sx C D (some (.int (x - lo))) (fm D1)
          have q3 : ¬ (cF_name C = -1 ∨ C.1 4 (cF_name C).toNatClampNeg ≠ sx) ∧ x - lo = C.1 5 (cF_name C).toNatClampNeg := by
            rcases hx with ⟨rfl, q⟩ | ⟨i, i1, i2, i3, rfl⟩
            · rw [nin0 hs] at w3
              cases w3
            · have e := (nin c3 c4 c5 hs i3).1.mp w3
              rw [i2, fn_nat (by omega)]
              refine ⟨?_, (nin c3 c4 c5 hs i3).2 e⟩
              rintro (q | q)
              · exact of_m1 (by omega) q
              · exact q e
          refine ⟨_, rfl, D1, rfl, ?_, f1, fun _ => ?_⟩
          · rw [told_ok q1 q3.1]
            exact r1
          · unfold cF_toldV
            rw [told_ok q1 q3.1, if_neg (fun q => q.elim (fun q => q z1) (fun q => q3.1 (Or.inl q)))]
            exact q3.2
        · have z4 : C.1 2 9 ≠ 0 := fl_1 r1.2 (fn_ne0 h4)
          show md_R N sx C D (some (.int 0)) (fm D1)
          exact absurd z1 z4
      · have w3 : (decide (lo ≤ x) && decide (x ≤ hi)) = false := bi_n0 h3
        show ∃ R, cm_Lc cm_ms 177 [.ref 124, .int 2, .int (D1.1 124 4)] (fm D1) R ∧ ∀ v M', R v M' → _
        refine ⟨_, m_wrong r1 (x := 2) (by decide), ?_⟩
        rintro v M' ⟨rfl, D2, rfl, r2, f2⟩
        show (ev_cmp 0 (D2.1 124 13) 0 = true → _) ∧ (ev_cmp 0 (D2.1 124 13) 0 = false → _)
        refine ⟨fun h5 => ?_, fun h5 => ?_⟩
        · have z5 : (cF_fail 2 C).1 2 9 = 0 := fl_0 r2.2 (fn_eq0 h5)
          show md_R N sx C D (some (.int (x - lo))) (fm D2)
          exact absurd z5 (cF_fail_9n (by decide))
        · have z5 : (cF_fail 2 C).1 2 9 ≠ 0 := fl_1 r2.2 (fn_ne0 h5)
          show md_R N sx C D (some (.int 0)) (fm D2)
          have q3 : cF_name C = -1 ∨ C.1 4 (cF_name C).toNatClampNeg ≠ sx := by
            rcases hx with ⟨rfl, q⟩ | ⟨i, i1, i2, i3, rfl⟩
            · exact Or.inl q
            · refine Or.inr ?_
              rw [i2, fn_nat (by omega)]
              intro q
              have := (nin c3 c4 c5 hs i3).1.mpr q
              rw [this] at w3
              cases w3
          refine ⟨_, rfl, D2, rfl, ?_, f2.trans f1, ?_⟩
          · rw [told_no q1 q3]
            exact r2
          · rw [told_no q1 q3]
            exact fun q => absurd q (cF_fail_9n (by decide))
    · have z2 : (cF_nm C).1 2 9 ≠ 0 := fl_1 r1.2 (fn_ne0 h2)
      show md_R N sx C D (some (.int 0)) (fm D1)
      have q1 : ¬ (C.1 2 3 = 1 ∧ cF_line C = -1) := fun q => z2 (by unfold cF_nm; rw [if_pos q]; exact z1)
      have q2 : cF_nm C = cF_fail 1 C := by
        unfold cF_nm
        rw [if_neg q1]
      refine ⟨_, rfl, D1, rfl, ?_, f1, ?_⟩
      · rw [told_nm q1, ← q2]
        exact r1
      · rw [told_nm q1]
        exact fun q => absurd q (cF_fail_9n (by decide))
  · have z1 : C.1 2 9 ≠ 0 := fl_1 h.2 (fn_ne0 h1)
    show md_R N sx C D (some (.int 0)) (fm D)
    refine ⟨_, rfl, D, rfl, ?_, rfl, ?_⟩
    · rw [told_id z1]
      exact h
    · rw [told_id z1]
      exact fun q => absurd q z1
theorem m_manHere {N nam me mo ch : Nat} {C D : cm_M} (h : Rq N C D) (hc : C.1 2 9 = 0 → NC nam me mo ch C (D.1 128)) : cm_Lc cm_ms 185 [.ref 124] (fm D) (md_R N 1 C D) := by
  refine lb_st0 (mi := mr_185) rfl 20 ?_
  show ∃ R, cm_Lc cm_ms 184 [.ref 124, .int 0, .int 5] (fm D) R ∧ ∀ v M', R v M' → _
  refine ⟨_, m_named (Or.inl ⟨rfl, rfl, rfl⟩) h hc, ?_⟩
  rintro v M' ⟨x, rfl, q⟩
  exact ⟨x, rfl, q⟩
theorem m_motionHere {N nam me mo ch : Nat} {C D : cm_M} (h : Rq N C D) (hc : C.1 2 9 = 0 → NC nam me mo ch C (D.1 128)) : cm_Lc cm_ms 186 [.ref 124] (fm D) (md_R N 2 C D) := by
  refine lb_st0 (mi := mr_186) rfl 20 ?_
  show ∃ R, cm_Lc cm_ms 184 [.ref 124, .int 6, .int 10] (fm D) R ∧ ∀ v M', R v M' → _
  refine ⟨_, m_named (Or.inr ⟨rfl, rfl, rfl⟩) h hc, ?_⟩
  rintro v M' ⟨x, rfl, q⟩
  exact ⟨x, rfl, q⟩
theorem Rq_D {N : Nat} {C D D' : cm_M} (h : Rq N C D) (hD : ∀ c i, c ≠ 128 → D'.1 c i = D.1 c i) : Rq N C D' := by
  obtain ⟨⟨a1, a2, a3, a4, a5, a6⟩, b⟩ := h
  have e126 : D'.1 126 = D.1 126 := funext fun i => hD 126 i (by decide)
  refine ⟨⟨fun j hj => ?_, a2, ?_, ?_, ?_, ?_⟩, ?_⟩
  · rw [hD 125 j (by decide)]
    exact a1 j hj
  · rw [hD _ _ (by decide)]
    exact a3
  · rw [hD _ _ (by decide)]
    exact a4
  · rw [hD _ _ (by decide)]
    exact a5
  · unfold tw
    rw [hD 124 6 (by decide), hD 124 7 (by decide), hD 124 8 (by decide), e126]
    exact a6
  · unfold fl
    rw [hD 124 13 (by decide), hD 124 9 (by decide), hD 124 10 (by decide), hD 124 0 (by decide), hD 124 2 (by decide), hD 124 11 (by decide)]
    exact ⟨b.1, b.2.1, fun c j q => (hD c j (by unfold prC at q; omega)).trans (b.2.2 c j q)⟩
theorem Rq_put {N : Nat} {C D : cm_M} (so nu : Int32) (h : Rq N C D) : Rq N (cF_put so nu C) D := by
  unfold cF_put
  split
  · refine ⟨h.1, h.2.1, h.2.2.1, fun c j q => (h.2.2.2 c j q).trans ?_⟩
    unfold prC at q
    show _ = (cm_wi (cm_wi (cm_wi (cm_wl C 3 _ _) 4 _ _) 5 _ _) 2 10 _).1 c j
    rw [wi_n2 (by omega), wi_n2 (by omega), wi_n2 (by omega)]
    try rfl
  · exact h
noncomputable def cpm (D : cm_M) (n k : Nat) : cm_M := (fun a b => if a = 128 ∧ 85 + 8 * n ≤ b ∧ b < 85 + 8 * n + k then D.1 126 (b - (85 + 8 * n)) else D.1 a b, D.2)
theorem cpm_0 (D : cm_M) (n : Nat) : cpm D n 0 = D := by
  unfold cpm
  refine Prod.ext (funext fun a => funext fun b => ?_) rfl
  show (if _ then _ else _) = _
  rw [if_neg (by omega)]
theorem cpm_s (D : cm_M) (n k : Nat) : cm_wi (cpm D n k) 128 (85 + 8 * n + k) (D.1 126 k) = cpm D n (k + 1) := by
  refine Prod.ext (funext fun a => funext fun b => ?_) rfl
  show (if a = 128 ∧ b = 85 + 8 * n + k then D.1 126 k else if a = 128 ∧ 85 + 8 * n ≤ b ∧ b < 85 + 8 * n + k then D.1 126 (b - (85 + 8 * n)) else D.1 a b) = if a = 128 ∧ 85 + 8 * n ≤ b ∧ b < 85 + 8 * n + (k + 1) then D.1 126 (b - (85 + 8 * n)) else D.1 a b
  by_cases h1 : a = 128 ∧ b = 85 + 8 * n + k
  · rw [if_pos h1, if_pos ⟨h1.1, by omega, by omega⟩, h1.2, Nat.add_sub_cancel_left]
  · rw [if_neg h1]
    by_cases h2 : a = 128 ∧ 85 + 8 * n ≤ b ∧ b < 85 + 8 * n + k
    · rw [if_pos h2, if_pos (by omega)]
    · rw [if_neg h2, if_neg (by omega)]
noncomputable def nnF (F L : Nat → Int32) (n ns : Nat) (j : Nat) : Int32 := if j = 69 + n then Int32.ofNat ns else if 85 + 8 * n ≤ j ∧ j < 85 + 8 * n + ns then L (j - (85 + 8 * n)) else F j
theorem nn_id {N : Nat} {so nu : Int32} {C : cm_M} (h : C.1 2 9 ≠ 0) : cF_newName N so nu C = C := by
  have e : cF_newChk C = C := by
    unfold cF_newChk
    split
    · split
      · rfl
      · exact cF_fail_id h
    · exact cF_fail_id h
  unfold cF_newName
  rw [e]
  have e2 : cF_put so nu C = C := by
    unfold cF_put
    rw [if_neg (fun q => h q.1)]
  rw [e2]
  exact cF_step_id h
theorem nn_bad {N : Nat} {so nu x : Int32} {C : cm_M} (hx : x ≠ 0) (h : cF_newChk C = cF_fail x C) : cF_newName N so nu C = cF_fail x C := by
  have h9 : (cF_fail x C).1 2 9 ≠ 0 := cF_fail_9n hx
  unfold cF_newName
  rw [h]
  have e2 : cF_put so nu (cF_fail x C) = cF_fail x C := by
    unfold cF_put
    rw [if_neg (fun q => h9 q.1)]
  rw [e2]
  exact cF_step_id h9
noncomputable abbrev nn_K (N n : Nat) (so nu : Int32) (C D : cm_M) : cm_K := fun v M' => v = none ∧ ∃ D', M' = fm D' ∧ Rq N (cF_newName N so nu C) D' ∧ ((cF_newName N so nu C).1 2 9 = 0 → C.1 2 9 = 0 ∧ cF_newChk C = C ∧ cF_name C = -1 ∧ ∃ L ns, 0 < ns ∧ wrep (C.2.1 2 6) L ns ∧ ∀ j, D'.1 128 j = nnF (D.1 128) L n ns j)
noncomputable def nw_J (N n : Nat) (C D : cm_M) (S : cm_S) : Prop := C.1 2 9 = 0 ∧ cF_newChk C = C ∧ cF_name C = -1 ∧ ∃ (D1 : cm_M) (ns k : Nat), Rq N C D1 ∧ D1.1 128 = D.1 128 ∧ 0 < ns ∧ ns ≤ 8 ∧ D1.1 124 8 = Int32.ofNat ns ∧ wrep (C.2.1 2 6) (D1.1 126) ns ∧ k ≤ ns ∧ S = (45, [(0, .ref 124), (1, .int (Int32.ofNat n)), (2, .int (Int32.ofNat k))], [], fm (cpm D1 n k))
set_option maxRecDepth 100000 in
set_option maxHeartbeats 4000000 in
theorem m_newName {N nam me mo ch n : Nat} {so nu : Int32} (n16 : n < 16) {C D : cm_M} (h : Rq N C D) (hc : C.1 2 9 = 0 → NC nam me mo ch C (D.1 128)) : cm_Lc cm_ms 183 [.ref 124, .int (Int32.ofNat n)] (fm D) (nn_K N n so nu C D) := by
  refine lb_of (mi := mr_183) rfl [(45, [0, 1, 2])] (nw_J N n C D) 60 (fun S hS => ?_) 60 ?_
  · obtain ⟨y0, y1, y2, D1, ns, k, r1, f1, s1, s2, s3, s4, hk, rfl⟩ := hS
    show (ev_cmp 3 (Int32.ofNat k) (D1.1 124 8) = true → _) ∧ (ev_cmp 3 (Int32.ofNat k) (D1.1 124 8) = false → _)
    refine ⟨fun h1 => ?_, fun h1 => ?_⟩
    · have g := fn_ge h1
      rw [s3, fn_toInt (by omega), fn_toInt (by omega)] at g
      have : k = ns := by omega
      subst this
      show ∃ R, cm_Lc cm_ms 176 [.ref 124] (fm (cm_wi (cpm D1 n k) 128 ((69 : Int32) + Int32.ofNat n).toNatClampNeg (D1.1 124 8))) R ∧ ∀ v M', R v M' → _
      have hr : Rq N (cF_put so nu C) (cm_wi (cpm D1 n k) 128 ((69 : Int32) + Int32.ofNat n).toNatClampNeg (D1.1 124 8)) := by
        refine Rq_D (Rq_put so nu r1) (fun c i hci => ?_)
        show (if c = 128 ∧ _ then _ else if c = 128 ∧ _ then _ else _) = _
        rw [if_neg (fun q => hci q.1), if_neg (fun q => hci q.1)]
      have h90 : (cF_put so nu C).1 2 9 = 0 := by
        unfold cF_put
        split
        · exact y0
        · exact y0
      refine ⟨_, m_next hr h90, ?_⟩
      rintro v M' ⟨rfl, D2, rfl, r2, f2⟩
      show nn_K N n so nu C D none (fm D2)
      have e : cF_newName N so nu C = cF_step N (cF_put so nu C) := by
        unfold cF_newName
        rw [y1]
      refine ⟨rfl, D2, rfl, by rw [e]; exact r2, fun _ => ⟨y0, y1, y2, D1.1 126, k, s1, s4, fun j => ?_⟩⟩
      rw [f2, ix_69 (by omega), s3]
      show (if 128 = 128 ∧ j = 69 + n then Int32.ofNat k else if 128 = 128 ∧ 85 + 8 * n ≤ j ∧ j < 85 + 8 * n + k then D1.1 126 (j - (85 + 8 * n)) else D1.1 128 j) = _
      unfold nnF
      rw [f1]
      by_cases j1 : j = 69 + n
      · rw [if_pos ⟨rfl, j1⟩, if_pos j1]
      · rw [if_neg (fun q => j1 q.2), if_neg j1]
        by_cases j2 : 85 + 8 * n ≤ j ∧ j < 85 + 8 * n + k
        · rw [if_pos ⟨rfl, j2⟩, if_pos j2]
        · rw [if_neg (fun q => j2 q.2), if_neg j2]
    · have g := fn_nge h1
      rw [s3, fn_toInt (by omega), fn_toInt (by omega)] at g
      have ix : (Int32.ofNat 85 + Int32.ofNat 8 * Int32.ofNat n + Int32.ofNat k).toNatClampNeg = 85 + 8 * n + k := ix2 85 8 (by decide) (by decide) (by omega) (by omega)
      have iy : (Int32.ofNat k).toNatClampNeg = k := fn_nat (by omega)
      show nw_J N n C D (45, [(0, .ref 124), (1, .int (Int32.ofNat n)), (2, .int (Int32.ofNat k + 1))], [], fm (cm_wi (cpm D1 n k) 128 (Int32.ofNat 85 + Int32.ofNat 8 * Int32.ofNat n + Int32.ofNat k).toNatClampNeg (D1.1 126 (Int32.ofNat k).toNatClampNeg)))
      rw [ix, iy, cpm_s, fn_succ]
      exact ⟨y0, y1, y2, D1, ns, k + 1, r1, f1, s1, s2, s3, s4, by omega, rfl⟩
  · show (ev_cmp 0 (D.1 124 13) 0 = true → _) ∧ (ev_cmp 0 (D.1 124 13) 0 = false → _)
    refine ⟨fun h1 => ?_, fun h1 => ?_⟩
    · have z1 : C.1 2 9 = 0 := fl_0 h.2 (fn_eq0 h1)
      show ∃ R, cm_Lc cm_ms 181 [.ref 124] (fm D) R ∧ ∀ v M', R v M' → _
      refine ⟨_, m_mustName h z1, ?_⟩
      rintro v M' ⟨rfl, D1, rfl, r1, f1⟩
      show (ev_cmp 1 (D1.1 124 13) 0 = true → _) ∧ (ev_cmp 1 (D1.1 124 13) 0 = false → _)
      refine ⟨fun h2 => ?_, fun h2 => ?_⟩
      · have z2 : (cF_nm C).1 2 9 ≠ 0 := fl_1 r1.2 (fn_ne h2)
        show (ev_cmp 0 (D1.1 124 13) 0 = true → _) ∧ (ev_cmp 0 (D1.1 124 13) 0 = false → _)
        refine ⟨fun h3 => ?_, fun h3 => ?_⟩
        · have z3 : (cF_nm C).1 2 9 = 0 := fl_0 r1.2 (fn_eq0 h3)
          exact absurd z3 z2
        · have z3 : (cF_nm C).1 2 9 ≠ 0 := fl_1 r1.2 (fn_ne0 h3)
          show nn_K N n so nu C D none (fm D1)
          have q1 : ¬ (C.1 2 3 = 1 ∧ cF_line C = -1) := fun q => z3 (by unfold cF_nm; rw [if_pos q]; exact z1)
          have q2 : cF_nm C = cF_fail 1 C := by
            unfold cF_nm
            rw [if_neg q1]
          have q3 : cF_newName N so nu C = cF_fail 1 C := nn_bad (by decide) (by unfold cF_newChk; rw [if_neg q1])
          refine ⟨rfl, D1, rfl, ?_, ?_⟩
          · rw [q3, ← q2]
            exact r1
          · rw [q3]
            exact fun q => absurd q (cF_fail_9n (by decide))
      · have z2 : (cF_nm C).1 2 9 = 0 := fl_0 r1.2 (fn_eq h2)
        have q1 : C.1 2 3 = 1 ∧ cF_line C = -1 := by
          by_cases q : C.1 2 3 = 1 ∧ cF_line C = -1
          · exact q
          · exfalso
            unfold cF_nm at z2
            rw [if_neg q] at z2
            exact cF_fail_9n (by decide) z2
        have q2 : cF_nm C = C := by
          unfold cF_nm
          rw [if_pos q1]
        rw [q2] at r1
        obtain ⟨ns, s1, s2, s3, s4⟩ := wr_ns r1 q1.1
        obtain ⟨c1, c2, c3, c4, c5, c6⟩ := hc z1
        show ∃ R, cm_Lc cm_ms 182 [.ref 124] (fm D1) R ∧ ∀ v M', R v M' → _
        refine ⟨_, m_find s3 s2 s1, ?_⟩
        rintro v M' ⟨rfl, hx⟩
        have hv : ∃ x, v = some (.int x) ∧ ((x = -1 ∧ cF_name C = -1) ∨ (∃ i, i < nam ∧ cF_name C = Int32.ofNat i ∧ nmv me mo ch (C.1 4 i) (C.1 5 i) ∧ x = Int32.ofNat (nsl (C.1 4 i) (C.1 5 i)))) := by
          rw [← f1] at c6
          rcases hx with ⟨rfl, q⟩ | ⟨n, q3, rfl, q4⟩
          · exact ⟨_, rfl, NF q1.1 c1 c2 c3 c4 c5 c6 s1 s2 s4 (Or.inl ⟨rfl, q⟩)⟩
          · exact ⟨_, rfl, NF q1.1 c1 c2 c3 c4 c5 c6 s1 s2 s4 (Or.inr ⟨n, q3, rfl, q4⟩)⟩
        clear hx
        obtain ⟨x, rfl, hx⟩ := hv
        show (ev_cmp 2 x 0 = true → _) ∧ (ev_cmp 2 x 0 = false → _)
        refine ⟨fun h4 => ?_, fun h4 => ?_⟩
        · show (ev_cmp 0 (D1.1 124 13) 0 = true → _) ∧ (ev_cmp 0 (D1.1 124 13) 0 = false → _)
          refine ⟨fun h5 => ?_, fun h5 => ?_⟩
          · have z5 : C.1 2 9 = 0 := fl_0 r1.2 (fn_eq0 h5)
            show nw_J N n C D (45, [(0, .ref 124), (1, .int (Int32.ofNat n)), (2, .int (Int32.ofNat 0))], [], fm D1)
            have q3 : cF_name C = -1 := by
              rcases hx with ⟨-, q⟩ | ⟨i, i1, i2, i3, rfl⟩
              · exact q
              · have g := fn_lt h4
                have i16 := nsl_16 i3 c3 c4 c5
                rw [fn_toInt (by omega)] at g
                have e0 : (0 : Int32).toInt = 0 := by decide
                omega
            refine ⟨z1, ?_, q3, D1, ns, 0, r1, f1, s1, s2, s3, s4, Nat.zero_le _, ?_⟩
            · unfold cF_newChk
              rw [if_pos q1, if_pos q3]
            · rw [cpm_0]
          · have z5 : C.1 2 9 ≠ 0 := fl_1 r1.2 (fn_ne0 h5)
            show nn_K N n so nu C D none (fm D1)
            exact absurd z1 z5
        · show ∃ R, cm_Lc cm_ms 177 [.ref 124, .int 3, .int (D1.1 124 4)] (fm D1) R ∧ ∀ v M', R v M' → _
          refine ⟨_, m_wrong r1 (x := 3) (by decide), ?_⟩
          rintro v M' ⟨rfl, D2, rfl, r2, f2⟩
          show (ev_cmp 0 (D2.1 124 13) 0 = true → _) ∧ (ev_cmp 0 (D2.1 124 13) 0 = false → _)
          refine ⟨fun h6 => ?_, fun h6 => ?_⟩
          · have z6 : (cF_fail 3 C).1 2 9 = 0 := fl_0 r2.2 (fn_eq0 h6)
            exact absurd z6 (cF_fail_9n (by decide))
          · have z6 : (cF_fail 3 C).1 2 9 ≠ 0 := fl_1 r2.2 (fn_ne0 h6)
            show nn_K N n so nu C D none (fm D2)
            have q3 : cF_newName N so nu C = cF_fail 3 C := by
              refine nn_bad (by decide) ?_
              unfold cF_newChk
              rw [if_pos q1, if_neg]
              intro q
              rcases hx with ⟨rfl, -⟩ | ⟨i, i1, i2, i3, rfl⟩
              · exact absurd h4 (by decide)
              · rw [i2] at q
                exact of_m1 (by omega) q
            refine ⟨rfl, D2, rfl, ?_, ?_⟩
            · rw [q3]
              exact r2
            · rw [q3]
              exact fun q => absurd q (cF_fail_9n (by decide))
    · have z1 : C.1 2 9 ≠ 0 := fl_1 h.2 (fn_ne0 h1)
      show nn_K N n so nu C D none (fm D)
      refine ⟨rfl, D, rfl, ?_, ?_⟩
      · rw [nn_id z1]
        exact h
      · rw [nn_id z1]
        exact fun q => absurd q z1
noncomputable def fr (T : Nat) (C : cm_M) : cm_M := (C.1, C.2.1, fun c i => if c = 2 then (if i = 7 then some T else if i = 0 then some 1 else if i = 11 then some 3 else if i = 12 then some 4 else if i = 13 then some 5 else C.2.2 2 i) else if c = 6 then (if i = 4 then some 7 else if i = 5 then some 8 else if i = 6 then some 9 else if i = 7 then some 10 else if i = 8 then some 11 else if i = 10 then some 12 else if i = 11 then some 13 else if i = 12 then some 14 else if i = 13 then some 15 else if i = 14 then some 16 else if i = 16 then some 17 else if i = 17 then some 18 else C.2.2 6 i) else if c = 19 then (if i = 4 then some 20 else if i = 5 then some 21 else if i = 6 then some 22 else if i = 7 then some 23 else if i = 8 then some 24 else if i = 10 then some 25 else if i = 11 then some 26 else if i = 12 then some 27 else if i = 13 then some 28 else if i = 14 then some 29 else if i = 16 then some 30 else if i = 17 then some 31 else C.2.2 19 i) else C.2.2 c i)
noncomputable def RC (N : Nat) (C : cm_M) : Prop := rs_ok N C ∧ ∃ nn, nn ≤ 16 ∧ C.1 2 10 = Int32.ofNat nn
theorem RC_rs {N T : Nat} {C : cm_M} (h : RC N C) : rs_ok N (fr T C) := ⟨rfl, h.1.2⟩
theorem RC_rn {N T : Nat} {C : cm_M} (h : RC N C) : rn_ok (fr T C) := ⟨rfl, rfl, rfl, h.2⟩
theorem fr_fail (T : Nat) (x : Int32) (C : cm_M) : cF_fail x (fr T C) = fr T (cF_fail x C) := by
  unfold cF_fail
  show (if C.1 2 9 = 0 then _ else _) = _
  split <;> rfl
theorem fr_step (T N : Nat) (C : cm_M) : cF_step N (fr T C) = fr T (cF_step N C) := by
  unfold cF_step
  show (if C.1 2 9 = 0 then _ else _) = _
  split <;> rfl
theorem fr_due (T t : Nat) (C : cm_M) : cF_due t (fr T C) = fr T (cF_due t C) := by
  unfold cF_due
  show (if wt t C = true then _ else _) = _
  split
  · rfl
  · exact fr_fail T 1 C
theorem fr_takeWord (T N t : Nat) (C : cm_M) : cF_takeWord N t (fr T C) = fr T (cF_takeWord N t C) := by
  unfold cF_takeWord
  rw [fr_due, fr_step]
theorem fr_takeWhole (T N : Nat) (lo hi : Int32) (C : cm_M) : cF_takeWhole N lo hi (fr T C) = fr T (cF_takeWhole N lo hi C) := by
  have e : cF_whole lo hi (fr T C) = fr T (cF_whole lo hi C) := by
    unfold cF_whole
    show (if C.1 2 3 = 2 then (if C.1 2 5 < lo ∨ hi < C.1 2 5 then _ else _) else _) = _
    split
    · split
      · exact fr_fail T 4 C
      · rfl
    · exact fr_fail T 1 C
  unfold cF_takeWhole
  rw [e, fr_step]
theorem fr_colour (T : Nat) (C : cm_M) : cF_colour (fr T C) = fr T (cF_colour C) := by
  unfold cF_colour
  show (if wt 11 C = true then _ else if wt 12 C = true then _ else if wt 13 C = true then _ else _) = _
  split
  · rfl
  · split
    · rfl
    · split
      · rfl
      · exact fr_fail T 1 C
theorem nm_fr (T : Nat) (C : cm_M) : ∀ f i, nm_f (fr T C) f i = nm_f C f i
  | 0, i => rfl
  | f + 1, i => by
    unfold nm_f
    rw [nm_fr T C f (i + 1)]
    try rfl
theorem fr_name (T : Nat) (C : cm_M) : cF_name (fr T C) = cF_name C := by
  unfold cF_name
  exact nm_fr T C _ _
theorem ln_fr (T : Nat) (C : cm_M) : ∀ f j, ln_f (fr T C) f j = ln_f C f j
  | 0, j => rfl
  | f + 1, j => by
    unfold ln_f
    rw [ln_fr T C f (j + 1)]
    try rfl
theorem fr_line (T : Nat) (C : cm_M) : cF_line (fr T C) = cF_line C := ln_fr T C 8 0
theorem fr_newName (T N : Nat) (so nu : Int32) (C : cm_M) : cF_newName N so nu (fr T C) = fr T (cF_newName N so nu C) := by
  have e : cF_newChk (fr T C) = fr T (cF_newChk C) := by
    unfold cF_newChk
    rw [fr_line, fr_name]
    show (if C.1 2 3 = 1 ∧ cF_line C = -1 then _ else _) = _
    split
    · split
      · rfl
      · exact fr_fail T 3 C
    · exact fr_fail T 1 C
  have e2 : ∀ X, cF_put so nu (fr T X) = fr T (cF_put so nu X) := fun X => by
    unfold cF_put
    show (if X.1 2 9 = 0 ∧ (X.1 2 10).toInt < 16 then _ else _) = _
    split <;> rfl
  unfold cF_newName
  rw [e, e2, fr_step]
theorem fr_told (T : Nat) (so : Int32) (C : cm_M) : cF_told so (fr T C) = fr T (cF_told so C) := by
  unfold cF_told
  rw [fr_line, fr_name]
  show (if C.1 2 3 = 1 ∧ cF_line C = -1 then (if cF_name C = -1 ∨ C.1 4 (cF_name C).toNatClampNeg ≠ so then _ else _) else _) = _
  split
  · split
    · exact fr_fail T 2 C
    · rfl
  · exact fr_fail T 1 C
theorem fr_toldV (T : Nat) (so : Int32) (C : cm_M) : cF_toldV so (fr T C) = cF_toldV so C := by
  unfold cF_toldV
  rw [fr_told, fr_name]
  try rfl
noncomputable abbrev fq (T : Nat) (v0 : Option Value) (X : cm_M) : cm_K := fun v M' => v = v0 ∧ ∃ A, A = X ∧ M' = fr T A
theorem f_step {T N : Nat} {C : cm_M} (h : RC N C) : cm_Lc cm_ms 88 [.ref 2] (fr T C) (fq T none (cF_step N C)) :=
  cm_Lc_im (cs_step (RC_rs h)) (fun v M' q => ⟨q.1, _, rfl, q.2.trans (fr_step T N C)⟩)
theorem f_fail {T : Nat} (x : Int32) (C : cm_M) : cm_Lc cm_ms 66 [.ref 2, .int x] (fr T C) (fq T none (cF_fail x C)) :=
  cm_Lc_im (cs_fail x _) (fun v M' q => ⟨q.1, _, rfl, q.2.trans (fr_fail T x C)⟩)
theorem f_takeWord {T N t : Nat} (ht : t < 40) {C : cm_M} (h : RC N C) : cm_Lc cm_ms 78 [.ref 2, .ref (1001 + 2 * t)] (fr T C) (fq T none (cF_takeWord N t C)) :=
  cm_Lc_im (cs_takeWord ht (RC_rs h)) (fun v M' q => ⟨q.1, _, rfl, q.2.trans (fr_takeWord T N t C)⟩)
theorem f_takeWhole {T N : Nat} (lo hi : Int32) {C : cm_M} (h : RC N C) : cm_Lc cm_ms 79 [.ref 2, .int lo, .int hi] (fr T C) (fq T (some (.int (C.1 2 5))) (cF_takeWhole N lo hi C)) :=
  cm_Lc_im (cs_takeWhole lo hi (RC_rs h)) (fun v M' q => ⟨q.1, _, rfl, q.2.trans (fr_takeWhole T N lo hi C)⟩)
theorem f_colour {T : Nat} (C : cm_M) : cm_Lc cm_ms 83 [.ref 2] (fr T C) (fq T (some (.int (cF_col C))) (cF_colour C)) :=
  cm_Lc_im (cs_colour _) (fun v M' q => ⟨q.1, _, rfl, q.2.trans (fr_colour T C)⟩)
theorem f_newName {T N : Nat} (so nu : Int32) {C : cm_M} (h : RC N C) : cm_Lc cm_ms 80 [.ref 2, .int so, .int nu] (fr T C) (fq T none (cF_newName N so nu C)) :=
  cm_Lc_im (cs_newName so nu (RC_rs h) (RC_rn h)) (fun v M' q => ⟨q.1, _, rfl, q.2.trans (fr_newName T N so nu C)⟩)
theorem f_told {T N : Nat} (so : Int32) {C : cm_M} (h : RC N C) : cm_Lc cm_ms 81 [.ref 2, .int so] (fr T C) (fq T (some (.int (cF_toldV so C))) (cF_told so C)) :=
  cm_Lc_im (cs_told so (RC_rn h)) (fun v M' q => ⟨by rw [q.1, fr_toldV], _, rfl, q.2.trans (fr_told T so C)⟩)
theorem f_line {T : Nat} (C : cm_M) : cm_Lc cm_ms 84 [.ref 2] (fr T C) (fun v M' => v = some (.int (cF_line C)) ∧ M' = fr T C) :=
  cm_Lc_im (cs_line _) (fun v M' q => ⟨by rw [q.2, fr_line], q.1⟩)
theorem RC_fail {N : Nat} {C : cm_M} (x : Int32) (h : RC N C) : RC N (cF_fail x C) := by
  refine ⟨rs_fail x h.1, ?_⟩
  unfold cF_fail
  split <;> exact h.2
theorem RC_step {N : Nat} {C : cm_M} (h : RC N C) : RC N (cF_step N C) := by
  refine ⟨rs_step h.1, ?_⟩
  unfold cF_step
  split <;> exact h.2
theorem RC_takeWord {N t : Nat} {C : cm_M} (h : RC N C) : RC N (cF_takeWord N t C) := by
  unfold cF_takeWord cF_due
  split
  · exact RC_step h
  · exact RC_step (RC_fail 1 h)
theorem RC_takeWhole {N : Nat} {lo hi : Int32} {C : cm_M} (h : RC N C) : RC N (cF_takeWhole N lo hi C) := by
  unfold cF_takeWhole cF_whole
  split
  · split
    · exact RC_step (RC_fail 4 h)
    · exact RC_step h
  · exact RC_step (RC_fail 1 h)
theorem RC_colour {N : Nat} {C : cm_M} (h : RC N C) : RC N (cF_colour C) := by
  unfold cF_colour
  split
  · exact h
  · split
    · exact h
    · split
      · exact h
      · exact RC_fail 1 h
theorem RC_newName {N : Nat} {so nu : Int32} {C : cm_M} (h : RC N C) : RC N (cF_newName N so nu C) := by
  have h1 : RC N (cF_newChk C) := by
    unfold cF_newChk
    split
    · split
      · exact h
      · exact RC_fail 3 h
    · exact RC_fail 1 h
  unfold cF_newName
  refine RC_step ?_
  refine ⟨rs_put so nu h1.1, ?_⟩
  unfold cF_put
  split
  · rename_i hc
    obtain ⟨nn, h2, h3⟩ := h1.2
    have h16 := hc.2
    rw [h3, fn_toInt (by omega)] at h16
    refine ⟨nn + 1, by omega, ?_⟩
    show (cF_newChk C).1 2 10 + 1 = _
    rw [h3, fn_succ]
  · exact h1.2
theorem RC_told {N : Nat} {so : Int32} {C : cm_M} (h : RC N C) : RC N (cF_told so C) := by
  unfold cF_told
  split
  · split
    · exact RC_fail 2 h
    · exact h
  · exact RC_fail 1 h
noncomputable def KC (C C' : cm_M) : Prop := (∀ c j, 6 ≤ c → C'.1 c j = C.1 c j) ∧ C'.1 2 8 = C.1 2 8
noncomputable def KN (C C' : cm_M) : Prop := C'.1 2 10 = C.1 2 10 ∧ C'.2.1 3 = C.2.1 3 ∧ C'.1 4 = C.1 4 ∧ C'.1 5 = C.1 5
theorem KC_rfl {C : cm_M} : KC C C := ⟨fun _ _ _ => rfl, rfl⟩
theorem KN_rfl {C : cm_M} : KN C C := ⟨rfl, rfl, rfl, rfl⟩
theorem KC_tr {A B C : cm_M} (h : KC A B) (h2 : KC B C) : KC A C := ⟨fun c j hc => (h2.1 c j hc).trans (h.1 c j hc), h2.2.trans h.2⟩
theorem KN_tr {A B C : cm_M} (h : KN A B) (h2 : KN B C) : KN A C := ⟨h2.1.trans h.1, h2.2.1.trans h.2.1, h2.2.2.1.trans h.2.2.1, h2.2.2.2.trans h.2.2.2⟩
theorem K_fail (x : Int32) (C : cm_M) : KC C (cF_fail x C) ∧ KN C (cF_fail x C) := by
  unfold cF_fail
  split
  · refine ⟨⟨fun c j hc => ?_, rfl⟩, rfl, rfl, rfl, rfl⟩
    show (if c = 2 ∧ j = 9 then _ else _) = _
    rw [if_neg (by omega)]
  · exact ⟨KC_rfl, KN_rfl⟩
theorem K_step (N : Nat) (C : cm_M) : KC C (cF_step N C) ∧ KN C (cF_step N C) := by
  unfold cF_step
  split
  · refine ⟨⟨fun c j hc => ?_, rfl⟩, rfl, ?_, rfl, rfl⟩
    · show (if c = 2 ∧ j = 3 then _ else if c = 2 ∧ j = 2 then _ else if c = 2 ∧ j = 5 then _ else if c = 2 ∧ j = 4 then _ else _) = _
      rw [if_neg (by omega), if_neg (by omega), if_neg (by omega), if_neg (by omega)]
    · exact funext fun j => rfl
  · exact ⟨KC_rfl, KN_rfl⟩
theorem K_and {A B C : cm_M} (h : KC A B ∧ KN A B) (h2 : KC B C ∧ KN B C) : KC A C ∧ KN A C := ⟨KC_tr h.1 h2.1, KN_tr h.2 h2.2⟩
theorem K_takeWord (N t : Nat) (C : cm_M) : KC C (cF_takeWord N t C) ∧ KN C (cF_takeWord N t C) := by
  unfold cF_takeWord cF_due
  split
  · exact K_step N C
  · exact K_and (K_fail 1 C) (K_step N _)
theorem K_takeWhole (N : Nat) (lo hi : Int32) (C : cm_M) : KC C (cF_takeWhole N lo hi C) ∧ KN C (cF_takeWhole N lo hi C) := by
  unfold cF_takeWhole cF_whole
  split
  · split
    · exact K_and (K_fail 4 C) (K_step N _)
    · exact K_step N C
  · exact K_and (K_fail 1 C) (K_step N _)
theorem K_colour (C : cm_M) : KC C (cF_colour C) ∧ KN C (cF_colour C) := by
  unfold cF_colour
  split
  · exact ⟨KC_rfl, KN_rfl⟩
  · split
    · exact ⟨KC_rfl, KN_rfl⟩
    · split
      · exact ⟨KC_rfl, KN_rfl⟩
      · exact K_fail 1 C
theorem K_told (so : Int32) (C : cm_M) : KC C (cF_told so C) ∧ KN C (cF_told so C) := by
  unfold cF_told
  split
  · split
    · exact K_fail 2 C
    · exact ⟨KC_rfl, KN_rfl⟩
  · exact K_fail 1 C
theorem K_newChk (C : cm_M) : KC C (cF_newChk C) ∧ KN C (cF_newChk C) := by
  unfold cF_newChk
  split
  · split
    · exact ⟨KC_rfl, KN_rfl⟩
    · exact K_fail 3 C
  · exact K_fail 1 C
theorem K_put (so nu : Int32) (C : cm_M) : KC C (cF_put so nu C) := by
  unfold cF_put
  split
  · refine ⟨fun c j hc => ?_, rfl⟩
    show (if c = 2 ∧ j = 10 then _ else if c = 5 ∧ j = _ then _ else if c = 4 ∧ j = _ then _ else _) = _
    rw [if_neg (by omega), if_neg (by omega), if_neg (by omega)]
    try rfl
  · exact KC_rfl
theorem K_newName (N : Nat) (so nu : Int32) (C : cm_M) : KC C (cF_newName N so nu C) := by
  unfold cF_newName
  exact KC_tr (KC_tr (K_newChk C).1 (K_put so nu _)) (K_step N _).1
