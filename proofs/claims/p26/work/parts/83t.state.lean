noncomputable def LIS (M : cm_M) : Prop := LI M ∧ ∃ T' me, M.2.2 0 3 = some T' ∧ M.1 T' 3 = Int32.ofNat me ∧ me ≤ 6 ∧ ST me M
noncomputable def tdP (c i : Nat) : Prop := c = 1 ∨ c = 125 ∨ c = 127 ∨ (6 ≤ c ∧ c ≤ 31 ∧ c ≠ 16 ∧ c ≠ 29) ∨ (c = 0 ∧ (i = 1 ∨ i = 12)) ∨ (c = 124 ∧ (i = 2 ∨ i = 9 ∨ i = 14))
theorem LI_cg {M M' : cm_M} (h : LI M) (r : M'.2 = M.2) (e : ∀ c i, tdP c i → M'.1 c i = M.1 c i) : LI M' := by
  obtain ⟨⟨i1, i2⟩, s1, T', s2, s3, s4, s5⟩ := h
  refine ⟨⟨by rw [e 0 1 (by unfold tdP; omega), e 124 2 (by unfold tdP; omega)]; exact i1, fun j hj => ?_⟩, by rw [e 0 12 (by unfold tdP; omega), e 124 9 (by unfold tdP; omega)]; exact s1, T', s2, by rw [r]; exact s3, by rw [r]; exact s4, SD_cg s5 (fun c j c1 c2 c3 => e c j (by unfold tdP; omega)) (e 124 14 (by unfold tdP; omega)) (fun j => e 127 j (by unfold tdP; omega))⟩
  rw [e 0 1 (by unfold tdP; omega)] at hj
  rw [e 1 j (by unfold tdP; omega), e 125 j (by unfold tdP; omega)]
  exact i2 j hj
theorem tp_T {M : cm_M} (h : LI M) {T' : Nat} (q : M.2.2 0 3 = some T') : T' = 6 ∨ T' = 19 := by
  obtain ⟨-, -, T2, t1, t2, -⟩ := h
  have e : T2 = T' := Option.some.inj (t2.symm.trans q)
  subst e
  exact t1
theorem LIS_fr {M M' : cm_M} (h : LIS M) (r : M'.2 = M.2) (e : ∀ c i, ¬ (c = 0 ∧ i = 14) → ¬ (c = 124 ∧ (i = 0 ∨ i = 11)) → M'.1 c i = M.1 c i) : LIS M' := by
  obtain ⟨h1, T', me, h2, h3, h4, nx, u, gi, hs⟩ := h
  have hT := tp_T h1 h2
  exact ⟨LI_cg h1 r (fun c i q => e c i (by unfold tdP at q; omega) (by unfold tdP at q; omega)), T', me, by rw [r]; exact h2, (e T' 3 (by omega) (by omega)).trans h3, h4, nx, u, gi, SQ_cg hs h4 (fun d j q => e d j (by unfold sc_C at q; omega) (by unfold sc_C at q; omega)) (fun j => ⟨e 129 j (by omega) (by omega), e 130 j (by omega) (by omega), e 131 j (by omega) (by omega)⟩) ⟨e 38 2 (by omega) (by omega), e 38 3 (by omega) (by omega), e 38 4 (by omega) (by omega)⟩ ⟨e 124 20 (by omega) (by omega), e 124 21 (by omega) (by omega)⟩⟩
theorem st_B_s {c i : Nat} (h : sc_C c) : st_B c i = true := by
  have q : ∀ y, y < 98 → ((32 ≤ y ∧ y ≤ 34) ∨ (41 ≤ y ∧ y ≤ 97)) → stC y = true := by decide
  unfold sc_C at h
  unfold st_B
  rw [q c (by omega) h]
  try rfl
theorem LIS_P {M M' : cm_M} (h : LIS M) (hq : lu_P M M') : LIS M' := by
  obtain ⟨h1, T', me, h2, h3, h4, nx, u, gi, hs⟩ := h
  have hT := tp_T h1 h2
  have e : ∀ c i, st_B c i = true → M'.1 c i = M.1 c i := fun c i q => (hq.2 c i q).1
  exact ⟨LI_P h1 hq, T', me, (hq.2 0 3 rfl).2.trans h2, (e T' 3 (st_B_t (by omega) (by omega) (by omega) (by omega))).trans h3, h4, nx, u, gi, SQ_cg hs h4 (fun d j q => e d j (st_B_s q)) (fun j => ⟨e 129 j rfl, e 130 j rfl, e 131 j rfl⟩) ⟨e 38 2 rfl, e 38 3 rfl, e 38 4 rfl⟩ ⟨e 124 20 rfl, e 124 21 rfl⟩⟩
noncomputable def cmpS_P (k : Nat) (as : List Value) : cm_K := fun v M1 => ∃ r, v = some (.int r) ∧ ab_ok hp hN M1 ∧ cm_Call cm_ms 30 k as M1 (fun v2 M2 => v2 = some (.int r) ∧ ab_ok hp hN M2 ∧ LIS M2)
theorem cmpS_gen {M : cm_M} {k kr : Nat} {as asr : List Value} {r : Int32} (hL : LIS M) (hC : cm_Call cm_ms 30 k as M (lp_P 0 M)) (hR : ∀ M1, ab_ok hp hN M1 → cm_Call cm_ms 30 kr asr M1 (lp_P 0 M1)) (lC : cm_Lc cm_ms k as M (fun v _ => v = some (.int r))) (lR : ∀ M1, LIS M1 → lu_P M M1 → cm_Lc cm_ms kr asr M1 (fun v _ => v = some (.int r))) : cm_Call cm_ms 30 k as M (cmpS_P kr asr) :=
  cm_Call_up (cm_Lc_use hC lC) (Nat.le_refl _) (fun v M1 q => by
    obtain ⟨⟨-, q1⟩, q2⟩ := q
    have hL1 := LIS_P hL q1
    exact ⟨r, q2, q1.1, cm_Call_up (cm_Lc_use (hR M1 q1.1) (lR M1 hL1 q1)) (Nat.le_refl _) (fun v2 M2 z => ⟨z.2, z.1.2.1, LIS_P hL1 z.1.2⟩)⟩)
theorem actS {M : cm_M} {k kr : Nat} {as asr : List Value} {A : cm_K} (hC : cm_Call cm_ms 30 k as M (lpa_P 0 M)) (hR : ∀ M1, ab_ok hp hN M1 → cm_Call cm_ms 30 kr asr M1 (lpa_P 0 M1)) (lC : cm_Lc cm_ms k as M A) (lR : ∀ v M1, ab_ok hp hN M1 → A v M1 → ∃ r, v = some (.int r) ∧ cm_Lc cm_ms kr asr M1 (fun v2 M2 => v2 = some (.int r) ∧ LIS M2)) : cm_Call cm_ms 30 k as M (cmpS_P kr asr) :=
  cm_Call_up (cm_Lc_use hC lC) (Nat.le_refl _) (fun v M1 q => by
    obtain ⟨⟨-, q1⟩, q2⟩ := q
    obtain ⟨r, e, l⟩ := lR v M1 q1 q2
    exact ⟨r, e, q1, cm_Call_up (cm_Lc_use (hR M1 q1) l) (Nat.le_refl _) (fun v2 M2 z => ⟨z.2.1, z.1.2, z.2.2⟩)⟩)
noncomputable def tdS (kr : Nat) (asr : List Value) (M1 : cm_M) : Prop := ab_ok hp hN M1 ∧ cm_Call cm_ms 30 kr asr M1 (fun v M' => lp_kd 0 v ∧ (ab_ok hp hN M' ∧ LIS M'))
theorem dropS {M : cm_M} {k kr : Nat} {as asr : List Value} (h : cm_Call cm_ms 30 k as M (cmpS_P kr asr)) : cm_Call cm_ms 30 k as M (fun v M1 => lp_kd 0 v ∧ tdS kr asr M1) :=
  cm_Call_up h (Nat.le_refl _) (fun v M1 q => by
    obtain ⟨r, e, k1, hc⟩ := q
    exact ⟨⟨r, e⟩, k1, cm_Call_up hc (Nat.le_refl _) (fun v2 M2 q2 => ⟨⟨r, q2.1⟩, q2.2.1, q2.2.2⟩)⟩)
theorem feed_fr {M M1 M2 : cm_M} {a b c d e : Int32} (h1 : fd_C M a b c d e M1) (h2 : fd_D M1 a b c d e M2) : (∀ q j, q ≠ 125 → q ≠ 1 → ¬ (q = 0 ∧ j = 1) → ¬ (q = 124 ∧ (j = 0 ∨ j = 2)) → M2.1 q j = M.1 q j) ∧ M2.2 = M.2 := by
  have f1 : (∀ q j, q ≠ 1 → ¬ (q = 0 ∧ j = 1) → M1.1 q j = M.1 q j) ∧ M1.2 = M.2 := by
    obtain ⟨-, t, -, -, ⟨-, rfl⟩ | ⟨-, rfl⟩⟩ := h1
    · exact ⟨fun _ _ _ _ => rfl, rfl⟩
    · exact ⟨fun q j a1 a2 => fd_n2 M t q j a b c d e a1 a2, fd_r M t a b c d e⟩
  have f2 : (∀ q j, q ≠ 125 → ¬ (q = 124 ∧ (j = 0 ∨ j = 2)) → M2.1 q j = M1.1 q j) ∧ M2.2 = M1.2 := by
    obtain ⟨-, t, -, -, ⟨-, rfl⟩ | ⟨-, rfl⟩⟩ := h2
    · exact ⟨fun q j a1 a2 => wi_n2 (by omega), rfl⟩
    · refine ⟨fun q j a1 a2 => ?_, (sm_r _ _ _ _).trans rfl⟩
      rw [sm_n2 _ _ _ _ _ a1 (by omega), wi_n2 (by omega)]
  exact ⟨fun q j a1 a2 a3 a4 => (f2.1 q j a1 a4).trans (f1.1 q j a2 a3), f2.2.trans f1.2⟩
theorem feed_LIS {M M1 M2 : cm_M} {a b c d e : Int32} (hI : LIS M) (h1 : fd_C M a b c d e M1) (h2 : fd_D M1 a b c d e M2) : LIS M2 := by
  obtain ⟨g1, T', me, g2, g3, g4, nx, u, gi, hs⟩ := hI
  have hT := tp_T g1 g2
  obtain ⟨e, er⟩ := feed_fr h1 h2
  have e2 : ∀ q j, 2 ≤ q → q ≠ 125 → ¬ (q = 124 ∧ (j = 0 ∨ j = 2)) → M2.1 q j = M.1 q j := fun q j a1 a2 a3 => e q j a2 (by omega) (by omega) a3
  exact ⟨feed_LI g1 h1 h2, T', me, by rw [er]; exact g2, (e2 T' 3 (by omega) (by omega) (by omega)).trans g3, g4, nx, u, gi, SQ_cg hs g4 (fun d j q => e2 d j (by unfold sc_C at q; omega) (by unfold sc_C at q; omega) (by unfold sc_C at q; omega)) (fun j => ⟨e2 129 j (by omega) (by omega) (by omega), e2 130 j (by omega) (by omega) (by omega), e2 131 j (by omega) (by omega) (by omega)⟩) ⟨e2 38 2 (by omega) (by omega) (by omega), e2 38 3 (by omega) (by omega) (by omega), e2 38 4 (by omega) (by omega) (by omega)⟩ ⟨e2 124 20 (by omega) (by omega) (by omega), e2 124 21 (by omega) (by omega) (by omega)⟩⟩
theorem tf_LIS {M M2 : cm_M} (hL : LIS M) (h1 : LI M2) (h2 : TF M M2) : LIS M2 := by
  obtain ⟨g1, T', me, g2, g3, g4, nx, u, gi, hs⟩ := hL
  rcases h2 with ⟨a1, a2, a3, a4, a5, -⟩ | ⟨T, me2, b1, b2, b3, b4, b5, b6, ⟨b7, b8, b9, b10⟩, b11, ⟨b12, b13, b14, b15⟩, -⟩
  · exact ⟨h1, T', me, a4.trans g2, (a5 T' g2).trans g3, g4, nx, u, gi, SQ_cg hs g4 (fun d j q => a1 d j (by unfold sc_C at q; omega) (by unfold sc_C at q; omega)) a2 ⟨a1 38 2 (by omega) (by omega), a1 38 3 (by omega) (by omega), a1 38 4 (by omega) (by omega)⟩ a3⟩
  · exact ⟨h1, T, me2, b2, b3, b4, nx, 0, 0, ⟨b5, fun q hq => ((b6 q hq).1).trans ((b6 q hq).2).symm, b7.trans b8.symm, b9.trans b10.symm, 0, by omega, b10⟩, ⟨hs.2.1.1, by omega, by omega⟩, ⟨b11.trans hs.2.2.1.1, b12, b13, b14, b15⟩, fun i hi => absurd hi (Nat.not_lt_zero i), fun i hi => absurd hi (Nat.not_lt_zero i)⟩
theorem townS {M : cm_M} (hM : ab_ok hp hN M) (hL : LIS M) (n : Int32) : cm_Call cm_ms 30 95 [.ref 0, .int n] M (cmpS_P 191 [.ref 124, .int n]) :=
  cm_Call_up (town_same hM hL.1 n) (Nat.le_refl _) (fun v M1 q => by
    obtain ⟨r, e, k1, hc⟩ := q
    exact ⟨r, e, k1, cm_Call_up hc (Nat.le_refl _) (fun v2 M2 q2 => ⟨q2.1, q2.2.1, tf_LIS hL q2.2.2.1 q2.2.2.2⟩)⟩)
theorem tw_r {M : cm_M} (h : ab_ok hp hN M) {T' f o : Nat} (hT : T' = 6 ∨ T' = 19) (hf : (f, o) ∈ [(4, 1), (5, 2), (6, 3), (7, 4), (8, 5), (10, 6), (11, 7), (12, 8), (13, 9), (14, 10), (16, 11), (17, 12)]) : M.2.2 T' f = some (T' + o) := by
  have k : ∀ T', (T' = 6 ∨ T' = 19) → ∀ q ∈ [(4, 1), (5, 2), (6, 3), (7, 4), (8, 5), (10, 6), (11, 7), (12, 8), (13, 9), (14, 10), (16, 11), (17, 12)], ab_hr hp T' q.1 = some (false, [T' + q.2]) := by
    intro T' hT
    rcases hT with rfl | rfl <;> decide +kernel
  exact okr h (k T' hT (f, o) hf)
theorem LI_all {M : cm_M} (h : LI M) : ∃ T' a me mo ch, (T' = 6 ∨ T' = 19) ∧ M.2.2 0 3 = some T' ∧ M.1 124 14 = bi a ∧ decide (M.1 T' 3 = 0) = !a ∧ (me ≤ 6 ∧ mo ≤ 5 ∧ ch ≤ 5) ∧ (M.1 T' 3 = Int32.ofNat me ∧ M.1 T' 9 = Int32.ofNat mo ∧ M.1 T' 15 = Int32.ofNat ch) ∧ (a = false → me = 0 ∧ mo = 0 ∧ ch = 0) ∧ (a = true → 0 < me ∧ DR me mo ch 1 (DA T' M) (M.1 127)) := by
  obtain ⟨-, -, T', h1, h2, -, h3⟩ := h
  rcases h3 with ⟨b1, b2, b3, b4⟩ | ⟨b1, me, mo, ch, c1, c2, c3, c4, hd⟩
  · exact ⟨T', false, 0, 0, 0, h1, h2, b4, decide_eq_true b1, ⟨by omega, by omega, by omega⟩, ⟨b1, b2, b3⟩, fun _ => ⟨rfl, rfl, rfl⟩, fun q => nomatch q⟩
  · refine ⟨T', true, me, mo, ch, h1, h2, b1, decide_eq_false (fun q => ?_), ⟨c2, c3, c4⟩, ⟨hd.2.1.1, hd.2.1.2.2.1, hd.2.1.2.2.2.2.1⟩, (fun q => nomatch q), fun _ => ⟨c1, hd⟩⟩
    have e : M.1 T' 3 = Int32.ofNat me := hd.2.1.1
    rw [q] at e
    have := ofn_inj (a := 0) (b := me) (by omega) (by omega) e
    omega
set_option maxRecDepth 1000000 in
theorem PQ_of {M : cm_M} (h : ab_ok hp hN M) : PQ M := by
  have k1 : ∀ i, i < 16 → ab_hr hp 39 i = some (false, [41 + 3 * i]) ∧ ab_hr hp (41 + 3 * i) 0 = some (false, [41 + 3 * i + 1]) ∧ ab_hr hp (41 + 3 * i) 1 = some (false, [41 + 3 * i + 2]) := by decide +kernel
  have k2 : ∀ i, i < 3 → ab_hr hp 40 i = some (false, [89 + 3 * i]) ∧ ab_hr hp (89 + 3 * i) 0 = some (false, [89 + 3 * i + 1]) ∧ ab_hr hp (89 + 3 * i) 1 = some (false, [89 + 3 * i + 2]) := by decide +kernel
  exact ⟨okr h (by decide +kernel), okr h (by decide +kernel), ⟨okr h (by decide +kernel), okr h (by decide +kernel)⟩, fun i hi => ⟨okr h (k1 i hi).1, okr h (k1 i hi).2.1, okr h (k1 i hi).2.2⟩, fun i hi => ⟨okr h (k2 i hi).1, okr h (k2 i hi).2.1, okr h (k2 i hi).2.2⟩⟩
set_option maxRecDepth 1000000 in
theorem MX_of {M : cm_M} (h : ab_ok hp hN M) : M.2.2 124 15 = some 127 ∧ M.2.2 124 17 = some 129 ∧ M.2.2 124 18 = some 130 ∧ M.2.2 124 19 = some 131 ∧ M.2.2 124 22 = some 132 := ⟨okr h (by decide +kernel), okr h (by decide +kernel), okr h (by decide +kernel), okr h (by decide +kernel), okr h (by decide +kernel)⟩
set_option maxRecDepth 1000000 in
theorem CO_of {M : cm_M} (h : ab_ok hp hN M) : ∃ co : Nat → Nat, ∀ m, m < 6 → M.1 127 (11 + 3 * m) = Int32.ofNat (co m) ∧ co m < 3 := by
  refine ⟨fun m => (M.1 127 (11 + 3 * m)).toNatClampNeg, fun m hm => ?_⟩
  have k : ∀ m, m < 6 → ab_hi hp 127 (11 + 3 * m) = (0, 2) := by decide +kernel
  have h2 := h.1 127 (11 + 3 * m)
  rw [k m hm] at h2
  obtain ⟨n, q1, q2, q3⟩ := i_of h2.1
  have h9 : (M.1 127 (11 + 3 * m)).toInt ≤ 2 := h2.2
  have hn : n ≤ 2 := by omega
  show M.1 127 (11 + 3 * m) = Int32.ofNat (M.1 127 (11 + 3 * m)).toNatClampNeg ∧ (M.1 127 (11 + 3 * m)).toNatClampNeg < 3
  rw [q1, fn_nat (by omega)]
  exact ⟨rfl, by omega⟩
set_option maxRecDepth 1000000 in
theorem LIS_all {M : cm_M} (hM : ab_ok hp hN M) (h : LIS M) : ∃ T' a me mo ch nx u gi, CTX T' me mo M ∧ MTX a me mo M ∧ (a = true → DR me mo ch 1 (DA T' M) (M.1 127)) ∧ SQ me nx u gi M := by
  obtain ⟨h1, T2, me2, g2, g3, g4, nx, u, gi, hs⟩ := h
  obtain ⟨T', a, me, mo, ch, t1, t2, t3, t4, t5, t6, t7, t8⟩ := LI_all h1
  have eT : T' = T2 := Option.some.inj (t2.symm.trans g2)
  subst eT
  have em : me2 = me := ofn_inj (by omega) (by omega) (g3.symm.trans t6.1)
  subst em
  exact ⟨T', a, me2, mo, ch, nx, u, gi, ⟨t1, ⟨t2, okr hM (by decide +kernel), okr hM (by decide +kernel)⟩, PQ_of hM, fun f o q => tw_r hM t1 q, ⟨t6.1, t6.2.1⟩, t5.1, t5.2.1⟩, ⟨t3, MX_of hM, fun q => ⟨(t8 q).2.2.1.2.1, (t8 q).2.2.1.2.2.2.1⟩, fun q => ⟨(t7 q).1, (t7 q).2.1⟩, fun q => (t8 q).1, t5.1, t5.2.1⟩, fun q => (t8 q).2, hs⟩
theorem MTX_14 {a : Bool} {me mo : Nat} {M : cm_M} {t : Int32} (hm : MTX a me mo M) : MTX a me mo (cm_wi M 0 14 t) := MTX_cg hm rfl (wi_n2 (by omega)) (fun j => wi_n2 (by omega))
theorem LIS_no {M M2 : cm_M} {t tr : Int32} (hL : LIS M) (z : noM tr (cm_wi M 0 14 t) M2) : LIS M2 := by
  unfold noM at z
  subst z
  refine LIS_fr hL rfl (fun c i h1 h2 => ?_)
  rw [wi_n2 (by omega), gd_n (by omega)]
  exact wi_n2 (by omega)
theorem LIS_act {M M1 M2 : cm_M} {T' me mo nx u gi : Nat} {H F R : Nat → Int32} {ca we : Int32} (hL : LIS M) (hx : CTX T' me mo M) (hs : SQ me nx u gi M) (hC : actC nx u M M1 H F ca we) (hD : actM u M1 M2 R) (hH : ∀ m, m < me → H m = R m) (hF : ∀ q, q < 3 → F q = R (6 + q)) (hca : ca = R 9) (hwe : we = R 10) (hw : ∃ w, w ≤ 999 ∧ R 10 = Int32.ofNat w) : LIS M2 := by
  have hT := hx.1
  have hme : me ≤ 6 := hx.2.2.2.2.2.1
  have hnx : nx < 16 := hs.2.1.1
  have r : M2.2 = M.2 := hD.1.trans hC.1
  have e : ∀ c i, tdP c i → M2.1 c i = M.1 c i := fun c i q => by
    unfold tdP at q
    exact (hD.2.1 c i (by omega) (by omega) (by omega)).trans (hC.2.1 c i (by omega) (by omega) (by omega) (by omega) (by omega) (by omega) (by omega) (by omega))
  exact ⟨LI_cg hL.1 r e, T', me, by rw [r]; exact hx.2.1.1, (e T' 3 (by unfold tdP; omega)).trans hx.2.2.2.2.1.1, hme, _, _, _, SQ_act hs hme hC hD hH hF hca hwe hw⟩
/-- class's frame, for the reference -/
theorem actC_e {nx u : Nat} {M M1 : cm_M} {H F : Nat → Int32} {ca we : Int32} (hC : actC nx u M M1 H F ca we) (hnx : nx < 16) {c j : Nat} (h : 124 ≤ c) : M1.1 c j = M.1 c j := hC.2.1 c j (by omega) (by omega) (by omega) (by omega) (by omega) (by omega) (by omega) (by omega)
theorem MTX_act {a : Bool} {me mo nx u : Nat} {M M1 : cm_M} {H F : Nat → Int32} {ca we : Int32} (hm : MTX a me mo M) (hC : actC nx u M M1 H F ca we) (hnx : nx < 16) : MTX a me mo M1 := MTX_cg hm hC.1 (actC_e hC hnx (by decide)) (fun _ => actC_e hC hnx (by decide))
theorem a_ft (a : Bool) : a = false ∨ a = true := by
  cases a with
  | false => exact Or.inl rfl
  | true => exact Or.inr rfl
theorem a_tr {a : Bool} {me mo : Nat} {M : cm_M} (hm : MTX a me mo M) (h : 0 < me ∨ 0 < mo) : a = true := by
  cases a with
  | true => rfl
  | false => have := hm.2.2.2.1 rfl; omega
theorem cuL_cg {cu set : Int32} {co : Nat → Nat} {f f' : Nat → Int32} : ∀ n, (∀ m, m < n → co m < 3) → (∀ p, p < 3 → f' p = f p) → ∀ p, p < 3 → cuL cu set co f' n p = cuL cu set co f n p
  | 0, _, h, p, hp => h p hp
  | n + 1, hc, h, p, hp => by
    have ih := cuL_cg (cu := cu) (set := set) (co := co) n (fun m hm => hc m (by omega)) h
    cases q : hb set n with
    | true =>
      rw [cuL_t q, cuL_t q]
      try dsimp only
      rw [ih (co n) (hc n (by omega)), ih p hp]
    | false =>
      rw [cuL_f q, cuL_f q]
      exact ih p hp
theorem ptR_n {en : Bool} {k j : Nat} {r : Nat → Int32} (h : j ≠ 9) : ptR en k r j = r j := if_neg (fun q => h q.1)
theorem ptR_9 {en : Bool} {k : Nat} {r : Nat → Int32} : ptR en k r 9 = if en = true then r 9 ||| sB k else r 9 := by
  unfold ptR
  cases en with
  | true => rw [if_pos ⟨rfl, rfl⟩, if_pos rfl]
  | false => rw [if_neg (fun q => nomatch q.2), if_neg (by decide)]
theorem cuR_hi {cu set : Int32} {co : Nat → Nat} {r : Nat → Int32} {m j : Nat} (h : 9 ≤ j) : cuR cu set co r m j = r j := by
  unfold cuR
  rw [if_neg (by omega), if_neg (by omega)]
theorem cuR_lo {cu set : Int32} {co : Nat → Nat} {r : Nat → Int32} {m j : Nat} (h : j < 6) : cuR cu set co r m j = cuH cu set r m j := if_pos h
theorem cuR_mi {cu set : Int32} {co : Nat → Nat} {r : Nat → Int32} {m q : Nat} (h : q < 3) : cuR cu set co r m (6 + q) = cuL cu set co (fun q => r (6 + q)) m q := by
  unfold cuR
  rw [if_neg (by omega), if_pos (by omega), Nat.add_sub_cancel_left]
theorem cuH_cg {cu set : Int32} {h h' : Nat → Int32} {m j : Nat} (e : h' j = h j) : cuH cu set h' m j = cuH cu set h m j := by
  unfold cuH
  rw [e]
theorem act_46 {M : cm_M} (hM : ab_ok hp hN M) (hL : LIS M) (x : Int32) : cm_Call cm_ms 30 149 [.ref 0, .int x] M (cmpS_P 288 [.ref 124, .int x]) := by
  obtain ⟨T', a, me, mo, ch, nx, u, gi, hx, hm, hd, hs⟩ := LIS_all hM hL
  obtain ⟨sa, ⟨n1, n2, n3⟩, ⟨s1, s2, s3, s4, s5⟩, -, -⟩ := id hs
  have hme : me ≤ 6 := hx.2.2.2.2.2.1
  have hmo : mo ≤ 5 := hx.2.2.2.2.2.2
  cases ho : outB x (Int32.ofNat mo) with
  | true =>
    refine actS (lk_149 hM x) (fun _ h => lk_288 h x) (c_put_out hx x ho) (fun v M1 h1 q => ?_)
    obtain ⟨rfl, rfl⟩ := q
    exact ⟨_, rfl, cm_Lc_im (m_put_out (MTX_14 hm) x ho) (fun v2 M2 z => ⟨z.1, LIS_no hL z.2⟩)⟩
  | false =>
    obtain ⟨k, hk, rfl⟩ := out_nat (by omega) ho
    have ha := a_tr hm (Or.inr (by omega))
    have hdr := hd ha
    have m3 : M.1 (T' + 9) k = M.1 127 (50 + k) := (hdr.2.2.2.1 k hk).2.2.2
    have m9 : M.1 32 2 = M.1 129 9 := sa.2.2.1
    cases hmb : mbB (M.1 32 2) (M.1 (T' + 9) k) k with
    | false =>
      refine actS (lk_149 hM _) (fun _ h => lk_288 h _) (c_put_no hx hk hmb) (fun v M1 h1 q => ?_)
      obtain ⟨rfl, rfl⟩ := q
      exact ⟨_, rfl, cm_Lc_im (m_put_no (MTX_14 hm) hk (by
        rw [wi_n2 (by omega), wi_n2 (by omega), ← m9, ← m3]
        exact hmb)) (fun v2 M2 z => ⟨z.1, LIS_no hL z.2⟩)⟩
    | true =>
      obtain ⟨co, hco⟩ := CO_of hM
      have hcoC : CO me (M.1 (T' + 1)) co := fun m h => ⟨((hdr.2.2.1 m h).1).trans (hco m (by omega)).1, (hco m (by omega)).2⟩
      refine actS (lk_149 hM _) (fun _ h => lk_288 h _) (c_put_k hx s1 n1 s2 n2 hk hcoC hmb) (fun v M1 h1 q => ?_)
      obtain ⟨rfl, -, qC⟩ := q
      have e : ∀ c j, 124 ≤ c → M1.1 c j = M.1 c j := fun c j h => actC_e qC n1 h
      have a1 : M1.1 127 1 = M.1 T' 1 := (e 127 1 (by omega)).trans ((hdr.1.2.2 rfl).2.1).symm
      have a2 : M1.1 127 (29 + 3 * k) = M.1 (T' + 6) k := (e 127 _ (by omega)).trans ((hdr.2.2.2.1 k hk).1).symm
      have a3 : ∀ m, m < me → M1.1 127 (44 + m) = M.1 (T' + 4) m := fun m h => (e 127 _ (by omega)).trans ((hdr.2.2.1 m h).2.2.2.1).symm
      have a4 : ∀ m, m < me → M1.1 129 m = M.1 33 m := fun m h => (e 129 m (by omega)).trans (sa.1 m h).symm
      have a5 : ∀ m, m < me → M1.1 127 (13 + 3 * m) = M.1 (T' + 3) m := fun m h => (e 127 _ (by omega)).trans ((hdr.2.2.1 m h).2.2.1).symm
      have a6 : M1.1 127 (30 + 3 * k) = M.1 (T' + 7) k := (e 127 _ (by omega)).trans ((hdr.2.2.2.1 k hk).2.1).symm
      have a7 : ∀ p, p < 3 → M1.1 129 (6 + p) = M.1 34 p := fun p h => (e 129 _ (by omega)).trans (sa.2.1 p h).symm
      have a8 : M1.1 127 (50 + k) = M.1 (T' + 9) k := (e 127 _ (by omega)).trans m3.symm
      have a9 : M1.1 129 9 = M.1 32 2 := (e 129 9 (by omega)).trans m9.symm
      have a10 : M1.1 129 10 = M.1 32 3 := (e 129 10 (by omega)).trans (sa.2.2.2.1).symm
      have eO : orF (fun m => syB (M1.1 127 1) (M1.1 127 (29 + 3 * k)) (M1.1 127 (44 + m)) (M1.1 129 m) k) me = orF (fun m => syB (M.1 T' 1) (M.1 (T' + 6) k) (M.1 (T' + 4) m) (M.1 33 m) k) me := orF_cg me (fun m h => by
        show syB (M1.1 127 1) (M1.1 127 (29 + 3 * k)) (M1.1 127 (44 + m)) (M1.1 129 m) k = syB (M.1 T' 1) (M.1 (T' + 6) k) (M.1 (T' + 4) m) (M.1 33 m) k
        rw [a1, a2, a3 m h, a4 m h])
      have mp := m_put_k (MTX_act hm qC n1) (u := u) (co := co) ((e 124 20 (by omega)).trans s3) n2 ha hk (fun m h => ⟨(e 127 _ (by omega)).trans (hco m (by omega)).1, (hco m (by omega)).2⟩) (by rw [a9, a8]; exact hmb)
      rw [eO, a6, a2] at mp
      rw [voF_cg (vo := M.1 (T' + 3)) me a5] at mp
      generalize orF (fun m => syB (M.1 T' 1) (M.1 (T' + 6) k) (M.1 (T' + 4) m) (M.1 33 m) k) me = O at mp qC ⊢
      generalize geB (voF (M.1 (T' + 3)) O me) (M.1 (T' + 7) k) = en at mp qC ⊢
      refine ⟨_, rfl, cm_Lc_im mp (fun v2 M2 z => ⟨z.1, LIS_act hL hx hs qC z.2 (fun m h => ?_) (fun q h => ?_) ?_ ?_ ?_⟩)⟩
      · rw [ptR_n (by omega), cuR_lo (by omega)]
        exact (cuH_cg (a4 m h)).symm
      · rw [ptR_n (by omega), cuR_mi h]
        exact (cuL_cg me (fun m h => (hco m (by omega)).2) a7 q h).symm
      · rw [ptR_9, cuR_hi (by omega), a9]
      · rw [ptR_n (by omega), cuR_hi (by omega), a10]
      · obtain ⟨w, w1, w2⟩ := sa.2.2.2.2
        exact ⟨w, w1, by rw [ptR_n (by omega), cuR_hi (by omega), e 129 10 (by omega)]; exact w2⟩
theorem wkH_c1 {gr : Int32} {h h' : Nat → Int32} {m j : Nat} (e : h' j = h j) : wkH gr h' m j = wkH gr h m j := by
  unfold wkH
  rw [e]
theorem wkR_n {gr : Int32} {me j : Nat} {r : Nat → Int32} (h : j ≠ 10) : wkR gr me r j = wkH gr r me j := if_neg h
theorem wkH_o {gr : Int32} {h : Nat → Int32} {m j : Nat} (q : m ≤ j) : wkH gr h m j = h j := if_neg (by omega)
theorem act_47 {M : cm_M} (hM : ab_ok hp hN M) (hL : LIS M) : cm_Call cm_ms 30 150 [.ref 0] M (cmpS_P 289 [.ref 124]) := by
  obtain ⟨T', a, me, mo, ch, nx, u, gi, hx, hm, hd, hs⟩ := LIS_all hM hL
  obtain ⟨sa, ⟨n1, n2, n3⟩, ⟨s1, s2, s3, s4, s5⟩, -, -⟩ := id hs
  have hme : me ≤ 6 := hx.2.2.2.2.2.1
  rcases a_ft a with ha | ha
  · have h0 : me = 0 := (hm.2.2.2.1 ha).1
    refine actS (lk_150 hM) (fun _ h => lk_289 h) (c_week_out hx h0) (fun v M1 h1 q => ?_)
    obtain ⟨rfl, rfl⟩ := q
    exact ⟨_, rfl, cm_Lc_im (m_week_out (MTX_14 hm) ha) (fun v2 M2 z => ⟨z.1, LIS_no hL z.2⟩)⟩
  · have h0 := hm.2.2.2.2.1 ha
    have hdr := hd ha
    obtain ⟨w, w1, w2⟩ := sa.2.2.2.2
    have w3 : M.1 32 3 = Int32.ofNat w := sa.2.2.2.1.trans w2
    rcases Nat.lt_or_ge w 999 with h9 | h9
    · refine actS (lk_150 hM) (fun _ h => lk_289 h) (c_week_k hx s1 n1 s2 n2 h0 w3 h9) (fun v M1 h1 q => ?_)
      obtain ⟨rfl, -, qC⟩ := q
      have e : ∀ c j, 124 ≤ c → M1.1 c j = M.1 c j := fun c j h => actC_e qC n1 h
      have a0 : M1.1 127 0 = M.1 T' 0 := (e 127 0 (by omega)).trans ((hdr.1.2.2 rfl).1).symm
      have a1 : M1.1 127 1 = M.1 T' 1 := (e 127 1 (by omega)).trans ((hdr.1.2.2 rfl).2.1).symm
      have a4 : ∀ m, m < me → M1.1 129 m = M.1 33 m := fun m h => (e 129 m (by omega)).trans (sa.1 m h).symm
      have a7 : ∀ p, p < 3 → M1.1 129 (6 + p) = M.1 34 p := fun p h => (e 129 _ (by omega)).trans (sa.2.1 p h).symm
      have a9 : M1.1 129 9 = M.1 32 2 := (e 129 9 (by omega)).trans (sa.2.2.1).symm
      have a10 : M1.1 129 10 = M.1 32 3 := (e 129 10 (by omega)).trans (sa.2.2.2.1).symm
      have mp := m_week_k (MTX_act hm qC n1) (u := u) (w := w) ((e 124 20 (by omega)).trans s3) n2 ha (a10.trans w3) h9
      have eO : orF (fun m => bdB (M1.1 127 1) (wkR (M1.1 127 0) me (M1.1 129) m)) me = orF (fun m => bdB (M.1 T' 1) (wkH (M.1 T' 0) (M.1 33) me m)) me := orF_cg me (fun m h => by
        show bdB (M1.1 127 1) (wkR (M1.1 127 0) me (M1.1 129) m) = bdB (M.1 T' 1) (wkH (M.1 T' 0) (M.1 33) me m)
        rw [a1, a0, wkR_n (by omega), wkH_c1 (a4 m h)])
      rw [eO, a0] at mp
      refine ⟨_, rfl, cm_Lc_im mp (fun v2 M2 z => ⟨z.1, LIS_act hL hx hs qC z.2 (fun m h => ?_) (fun q h => ?_) ?_ ?_ ?_⟩)⟩
      · rw [wkR_n (by omega)]
        exact (wkH_c1 (a4 m h)).symm
      · rw [wkR_n (by omega), wkH_o (by omega)]
        exact (a7 q h).symm
      · rw [wkR_n (by omega), wkH_o (by omega), a9]
      · show _ = M1.1 129 10 + 1
        rw [a10]
      · refine ⟨w + 1, by omega, ?_⟩
        show M1.1 129 10 + 1 = _
        rw [a10, w3]
        exact ofn_s1 w
    · have hw : w = 999 := by omega
      refine actS (lk_150 hM) (fun _ h => lk_289 h) (c_week_no hx h0 w3 w1 hw) (fun v M1 h1 q => ?_)
      obtain ⟨rfl, rfl⟩ := q
      exact ⟨_, rfl, cm_Lc_im (m_week_no (MTX_14 hm) ha (by rw [wi_n2 (by omega), w2, hw])) (fun v2 M2 z => ⟨z.1, LIS_no hL z.2⟩)⟩
theorem act_48 {M : cm_M} (hM : ab_ok hp hN M) (hL : LIS M) (x : Int32) : cm_Call cm_ms 30 151 [.ref 0, .int x] M (cmpS_P 290 [.ref 124, .int x]) := by
  obtain ⟨T', a, me, mo, ch, nx, u, gi, hx, hm, hd, hs⟩ := LIS_all hM hL
  obtain ⟨sa, ⟨n1, n2, n3⟩, ⟨s1, s2, s3, s4, s5⟩, -, -⟩ := id hs
  have hme : me ≤ 6 := hx.2.2.2.2.2.1
  cases ho : outB x (Int32.ofNat me) with
  | true =>
    refine actS (lk_151 hM x) (fun _ h => lk_290 h x) (c_shave_out hx x ho) (fun v M1 h1 q => ?_)
    obtain ⟨rfl, rfl⟩ := q
    exact ⟨_, rfl, cm_Lc_im (m_shave_out (MTX_14 hm) x ho) (fun v2 M2 z => ⟨z.1, LIS_no hL z.2⟩)⟩
  | false =>
    obtain ⟨k, hk, rfl⟩ := out_nat (by omega) ho
    have ha := a_tr hm (Or.inl (by omega))
    have hdr := hd ha
    by_cases hz : M.1 33 k = 0
    · refine actS (lk_151 hM _) (fun _ h => lk_290 h _) (c_shave_no hx hk hz) (fun v M1 h1 q => ?_)
      obtain ⟨rfl, rfl⟩ := q
      exact ⟨_, rfl, cm_Lc_im (m_shave_no (MTX_14 hm) hk (by rw [wi_n2 (by omega)]; exact (sa.1 k hk).symm.trans hz)) (fun v2 M2 z => ⟨z.1, LIS_no hL z.2⟩)⟩
    · obtain ⟨co, hco⟩ := CO_of hM
      have hq3 : co k < 3 := (hco k (by omega)).2
      refine actS (lk_151 hM _) (fun _ h => lk_290 h _) (c_shave_k hx s1 n1 s2 n2 hk hz (((hdr.2.2.1 k hk).1).trans (hco k (by omega)).1) hq3) (fun v M1 h1 q => ?_)
      obtain ⟨rfl, -, qC⟩ := q
      have e : ∀ c j, 124 ≤ c → M1.1 c j = M.1 c j := fun c j h => actC_e qC n1 h
      have a4 : ∀ m, m < me → M1.1 129 m = M.1 33 m := fun m h => (e 129 m (by omega)).trans (sa.1 m h).symm
      have a7 : ∀ p, p < 3 → M1.1 129 (6 + p) = M.1 34 p := fun p h => (e 129 _ (by omega)).trans (sa.2.1 p h).symm
      have a9 : M1.1 129 9 = M.1 32 2 := (e 129 9 (by omega)).trans (sa.2.2.1).symm
      have a10 : M1.1 129 10 = M.1 32 3 := (e 129 10 (by omega)).trans (sa.2.2.2.1).symm
      have mp := m_shave_k (MTX_act hm qC n1) (u := u) (q := co k) ((e 124 20 (by omega)).trans s3) n2 hk (by rw [a4 k hk]; exact hz) ((e 127 _ (by omega)).trans (hco k (by omega)).1) hq3
      rw [a4 k hk] at mp
      refine ⟨_, rfl, cm_Lc_im mp (fun v2 M2 z => ⟨z.1, LIS_act hL hx hs qC z.2 (fun m h => ?_) (fun q h => ?_) ?_ ?_ ?_⟩)⟩
      · show (if m = k then 0 else M.1 33 m) = if m = k then 0 else if m = 6 + co k then _ else M1.1 129 m
        rw [if_neg (show ¬ m = 6 + co k by omega), a4 m h]
      · show (if q = co k then M.1 34 (co k) + M.1 33 k else M.1 34 q) = if 6 + q = k then 0 else if 6 + q = 6 + co k then M1.1 129 (6 + co k) + M1.1 129 k else M1.1 129 (6 + q)
        rw [if_neg (show ¬ 6 + q = k by omega), a7 (co k) hq3, a7 q h, a4 k hk]
        by_cases hqk : q = co k
        · rw [if_pos hqk, if_pos (by omega)]
        · rw [if_neg hqk, if_neg (by omega)]
      · show _ = if 9 = k then 0 else if 9 = 6 + co k then _ else M1.1 129 9
        rw [if_neg (show ¬ 9 = k by omega), if_neg (show ¬ 9 = 6 + co k by omega), a9]
      · show _ = if 10 = k then 0 else if 10 = 6 + co k then _ else M1.1 129 10
        rw [if_neg (show ¬ 10 = k by omega), if_neg (show ¬ 10 = 6 + co k by omega), a10]
      · obtain ⟨w, w1, w2⟩ := sa.2.2.2.2
        refine ⟨w, w1, ?_⟩
        show (if 10 = k then 0 else if 10 = 6 + co k then _ else M1.1 129 10) = _
        rw [if_neg (show ¬ 10 = k by omega), if_neg (show ¬ 10 = 6 + co k by omega), e 129 10 (by omega)]
        exact w2
theorem LIS_st {M Mb M2 : cm_M} {T' me mo nx2 u2 gi2 src off c : Nat} (hL : LIS M) (hx : CTX T' me mo M) (hC : nowR c M Mb) (hD : stM src off (cm_wi Mb 0 14 0) M2) (hs : SQ me nx2 u2 gi2 M2) : LIS M2 := by
  have hT := hx.1
  have r : M2.2 = M.2 := hD.1.trans hC.1
  have e : ∀ c i, tdP c i → M2.1 c i = M.1 c i := fun c i q => by
    unfold tdP at q
    exact (hD.2.1 c i (by omega) (by omega)).trans ((wi_n2 (by omega)).trans (hC.2.1 c i (by omega) (by omega) (by omega) (by omega)))
  exact ⟨LI_cg hL.1 r e, T', me, by rw [r]; exact hx.2.1.1, (e T' 3 (by unfold tdP; omega)).trans hx.2.2.2.2.1.1, hx.2.2.2.2.2.1, _, _, _, hs⟩
theorem MTX_now {a : Bool} {me mo c : Nat} {M Mb : cm_M} (hm : MTX a me mo M) (hC : nowR c M Mb) : MTX a me mo (cm_wi Mb 0 14 0) := MTX_cg hm hC.1 ((wi_n2 (by omega)).trans (hC.2.1 _ _ (by omega) (by omega) (by omega) (by omega))) (fun j => (wi_n2 (by omega)).trans (hC.2.1 _ _ (by omega) (by omega) (by omega) (by omega)))
theorem act_49 {M : cm_M} (hM : ab_ok hp hN M) (hL : LIS M) : cm_Call cm_ms 30 152 [.ref 0] M (cmpS_P 291 [.ref 124]) := by
  obtain ⟨T', a, me, mo, ch, nx, u, gi, hx, hm, hd, hs⟩ := LIS_all hM hL
  obtain ⟨sa, ⟨n1, n2, n3⟩, ⟨s1, s2, s3, s4, s5⟩, -, -⟩ := id hs
  have hme : me ≤ 6 := hx.2.2.2.2.2.1
  refine actS (lk_152 hM) (fun _ h => lk_291 h) (c_undo hx s1 n1 s2 n2) (fun v M1 h1 q => ?_)
  obtain ⟨rfl, q1, q2⟩ := q
  refine ⟨_, rfl, ?_⟩
  by_cases hu : u = 0
  · have e1 := q1 hu
    subst e1
    exact cm_Lc_im (m_undo (MTX_14 hm) (u := u) ((wi_n2 (by omega)).trans s3) n2) (fun v2 M2 z => ⟨z.1, LIS_no hL (z.2.1 hu)⟩)
  · obtain ⟨Mb, p1, p2, p3, p4, e1⟩ := q2 hu
    subst e1
    refine cm_Lc_im (m_undo (MTX_now hm p1) (u := u) ((wi_n2 (by omega)).trans ((p1.2.1 124 20 (by omega) (by omega) (by omega) (by omega)).trans s3)) n2) (fun v2 M2 z => ⟨z.1, ?_⟩)
    obtain ⟨z1, z2⟩ := z.2.2 hu
    exact LIS_st hL hx p1 z1 (SQ_undo hs hme hu p1 p2 p3 p4 z1 z2)
theorem act_50 {M : cm_M} (hM : ab_ok hp hN M) (hL : LIS M) : cm_Call cm_ms 30 153 [.ref 0] M (cmpS_P 292 [.ref 124]) := by
  obtain ⟨T', a, me, mo, ch, nx, u, gi, hx, hm, hd, hs⟩ := LIS_all hM hL
  obtain ⟨sa, ⟨n1, n2, n3⟩, ⟨s1, s2, s3, s4, s5⟩, -, -⟩ := id hs
  have hme : me ≤ 6 := hx.2.2.2.2.2.1
  have hT := hx.1
  rcases a_ft a with ha | ha
  · have h0 : me = 0 := (hm.2.2.2.1 ha).1
    refine actS (lk_153 hM) (fun _ h => lk_292 h) (c_image_out hx h0) (fun v M1 h1 q => ?_)
    obtain ⟨rfl, rfl⟩ := q
    exact ⟨_, rfl, cm_Lc_im (m_image_out (MTX_14 hm) ha) (fun v2 M2 z => ⟨z.1, LIS_no hL z.2⟩)⟩
  · have h0 := hm.2.2.2.2.1 ha
    refine actS (lk_153 hM) (fun _ h => lk_292 h) (c_image hx h0 s4 n3) (fun v M1 h1 q => ?_)
    obtain ⟨q1, q2⟩ := q
    by_cases hg : gi = 3
    · obtain ⟨rfl, rfl⟩ := q1 hg
      exact ⟨_, rfl, cm_Lc_im (m_image (MTX_14 hm) (gi := gi) ((wi_n2 (by omega)).trans s5) n3 ha) (fun v2 M2 z => ⟨(z.1 hg).1, LIS_no hL (z.1 hg).2⟩)⟩
    · have hg3 : gi < 3 := by omega
      obtain ⟨rfl, Mb, p, rfl⟩ := q2 hg3
      have ep : ∀ c j, 124 ≤ c → (cm_wi Mb 0 14 0).1 c j = M.1 c j := fun c j h => (wi_n2 (by omega)).trans (p.2.1 c j (by omega) (by omega) (by omega) (by omega))
      refine ⟨_, rfl, cm_Lc_im (m_image (M := cm_wi Mb 0 14 0) (MTX_cg hm p.1 (ep 124 14 (by omega)) (fun j => ep 127 j (by omega))) (gi := gi) ((ep 124 21 (by omega)).trans s5) n3 ha) (fun v2 M2 z => ⟨(z.2 hg3).1, ?_⟩)⟩
      have z2 := (z.2 hg3).2
      have r : M2.2 = M.2 := z2.1.trans p.1
      have e : ∀ c i, tdP c i → M2.1 c i = M.1 c i := fun c i q => by
        unfold tdP at q
        exact (z2.2.1 c i (by omega) (by omega)).trans ((wi_n2 (by omega)).trans (p.2.1 c i (by omega) (by omega) (by omega) (by omega)))
      exact ⟨LI_cg hL.1 r e, T', me, by rw [r]; exact hx.2.1.1, (e T' 3 (by unfold tdP; omega)).trans hx.2.2.2.2.1.1, hme, _, _, _, SQ_draw hs hme hg3 p z2⟩
theorem act_51 {M : cm_M} (hM : ab_ok hp hN M) (hL : LIS M) (x : Int32) : cm_Call cm_ms 30 154 [.ref 0, .int x] M (cmpS_P 293 [.ref 124, .int x]) := by
  obtain ⟨T', a, me, mo, ch, nx, u, gi, hx, hm, hd, hs⟩ := LIS_all hM hL
  obtain ⟨sa, ⟨n1, n2, n3⟩, ⟨s1, s2, s3, s4, s5⟩, -, -⟩ := id hs
  have hme : me ≤ 6 := hx.2.2.2.2.2.1
  refine actS (lk_154 hM x) (fun _ h => lk_293 h x) (c_back hx s4 n3 x) (fun v M1 h1 q => ?_)
  obtain ⟨rfl, q1, q2⟩ := q
  refine ⟨_, rfl, ?_⟩
  cases ho : outB x (Int32.ofNat gi) with
  | true =>
    have e1 := q1 ho
    subst e1
    exact cm_Lc_im (m_back_out (MTX_14 hm) (gi := gi) ((wi_n2 (by omega)).trans s5) n3 x ho) (fun v2 M2 z => ⟨z.1, LIS_no hL z.2⟩)
  | false =>
    obtain ⟨i, hi, rfl⟩ := out_nat (by omega) ho
    obtain ⟨Mb, p1, p2, p3, p4, e1⟩ := q2 i hi rfl
    subst e1
    refine cm_Lc_im (m_back_i (MTX_now hm p1) (gi := gi) ((wi_n2 (by omega)).trans ((p1.2.1 124 21 (by omega) (by omega) (by omega) (by omega)).trans s5)) n3 hi) (fun v2 M2 z => ⟨z.1, ?_⟩)
    exact LIS_st hL hx p1 z.2.1 (SQ_back hs hme hi p1 p2 p3 p4 z.2.1 z.2.2)
