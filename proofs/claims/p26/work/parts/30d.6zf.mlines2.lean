theorem DT_go {T me mo ch : Nat} {C X D D' : cm_M} (hT : 6 ≤ T) (hd : C.1 2 9 = 0 → DT T me mo ch C (D.1 128)) (hK : KC C X ∧ KN C X) (hz : X.1 2 9 = 0 → C.1 2 9 = 0) (f : D'.1 128 = D.1 128) : X.1 2 9 = 0 → DT T me mo ch X (D'.1 128) := fun q => by
  rw [f]
  exact DT_cg hT (hd (hz q)) hK
theorem DT_ag {T me mo ch a : Nat} {C : cm_M} {F : Nat → Int32} (hd : DT T me mo ch C F) (ha : a < me) : C.1 (T + 4) a = F (44 + a) ∧ ∃ g, g < 64 ∧ F (44 + a) = Int32.ofNat g := by
  obtain ⟨hN, -, -, d1, -, -, ⟨ag, am, qu, f1, -⟩, -⟩ := hd
  obtain ⟨-, -, c3, -⟩ := id hN
  exact ⟨(d1 a ha).2.2.2.1, ag a, by have := (f1 a (by omega)).1; omega, (f1 a (by omega)).2.1⟩
theorem DT_qu {T me mo ch a : Nat} {C : cm_M} {F : Nat → Int32} (hd : DT T me mo ch C F) (ha : a < me) : C.1 (T + 5) a = F (55 + a) ∧ ∃ g, g < 64 ∧ F (55 + a) = Int32.ofNat g := by
  obtain ⟨hN, -, -, d1, -, -, ⟨ag, am, qu, f1, -⟩, -⟩ := hd
  obtain ⟨-, -, c3, -⟩ := id hN
  exact ⟨(d1 a ha).2.2.2.2, qu a, (f1 a (by omega)).2.2.1, (f1 a (by omega)).2.2.2⟩
theorem pw_5 : ∀ k, k < 5 → 2 ^ k < 64 := by decide
theorem DT_am {T me mo ch a : Nat} {C : cm_M} {F : Nat → Int32} (hd : DT T me mo ch C F) (ha : a < mo) : C.1 (T + 9) a = F (50 + a) ∧ ∃ g, g < 64 ∧ F (50 + a) = Int32.ofNat g := by
  obtain ⟨hN, -, -, -, d2, -, ⟨ag, am, qu, -, -, f3, -⟩, -⟩ := hd
  obtain ⟨-, -, -, c4, -⟩ := id hN
  have h1 := f3 a (by omega)
  have h2 := pw_5 a (by omega)
  exact ⟨(d2 a ha).2.2.2, am a, by omega, h1.2⟩
theorem bit_0 {g k : Nat} {x : Int32} (hx : x = Int32.ofNat g) (hg : g < 64) (hk : k < 6) (w : decide ((x >>> (Int32.ofNat k &&& 31)) &&& 1 = 1) = false) : (x >>> (Int32.ofNat k &&& 31)) &&& 1 = 0 := by
  subst hx
  exact (bit_o g hg k hk).elim id (fun q => absurd q (of_decide_eq_false w))
theorem bit_1 {k : Nat} {x : Int32} (w : decide ((x >>> (Int32.ofNat k &&& 31)) &&& 1 = 1) = true) : ¬ (x >>> (Int32.ofNat k &&& 31)) &&& 1 = 0 := fun q => by
  rw [q] at w
  exact absurd w (by decide)
theorem Rq_8 {N : Nat} {C D : cm_M} {v : Int32} (h : Rq N C D) : Rq N (cm_wi C 2 8 v) D := ⟨h.1, h.2.1, h.2.2.1, fun c j q => (h.2.2.2 c j q).trans (by
  unfold prC at q
  rw [wi_n2 (by omega)])⟩
theorem m_manLine_f {N : Nat} {C D : cm_M} (h : Rq N C D) (h0 : C.1 2 9 ≠ 0) : cm_Lc cm_ms 196 [.ref 124] (fm D) (mq N C D) := by
  refine lb_st0 (mi := mr_196) rfl 120 ?_
  show (ev_cmp 0 (D.1 124 13) 0 = true → _) ∧ (ev_cmp 0 (D.1 124 13) 0 = false → _)
  refine ⟨fun h1 => absurd (fl_0 h.2 (fn_eq0 h1)) h0, fun h1 => ?_⟩
  show mq N C D none (fm D)
  exact ⟨rfl, D, rfl, h, rfl⟩
theorem m_motionLine_f {N : Nat} {C D : cm_M} (h : Rq N C D) (h0 : C.1 2 9 ≠ 0) : cm_Lc cm_ms 197 [.ref 124] (fm D) (mq N C D) := by
  refine lb_st0 (mi := mr_197) rfl 120 ?_
  show (ev_cmp 0 (D.1 124 13) 0 = true → _) ∧ (ev_cmp 0 (D.1 124 13) 0 = false → _)
  refine ⟨fun h1 => absurd (fl_0 h.2 (fn_eq0 h1)) h0, fun h1 => ?_⟩
  show mq N C D none (fm D)
  exact ⟨rfl, D, rfl, h, rfl⟩
theorem m_chairLine_f {N : Nat} {C D : cm_M} (h : Rq N C D) (h0 : C.1 2 9 ≠ 0) : cm_Lc cm_ms 201 [.ref 124] (fm D) (mq N C D) := by
  refine lb_st0 (mi := mr_201) rfl 120 ?_
  show (ev_cmp 0 (D.1 124 13) 0 = true → _) ∧ (ev_cmp 0 (D.1 124 13) 0 = false → _)
  refine ⟨fun h1 => absurd (fl_0 h.2 (fn_eq0 h1)) h0, fun h1 => ?_⟩
  show mq N C D none (fm D)
  exact ⟨rfl, D, rfl, h, rfl⟩
theorem ag_bad {T N : Nat} {C C1 C2 C3 : cm_M} (e1 : C1 = cF_told 1 C) (e2 : C2 = cF_step N C1) (e3 : C3 = cF_told 2 C2) (z : C3.1 2 9 ≠ 0) : cF_against T N C = C3 := by
  subst e3 e2 e1
  have k := toldV_bad z
  unfold cF_against
  dsimp only
  rw [k]
  split
  · rfl
  · rw [if_pos rfl]
theorem ag_no {a b : Nat} {T N : Nat} {C C1 C2 C3 : cm_M} (e1 : C1 = cF_told 1 C) (e2 : C2 = cF_step N C1) (e3 : C3 = cF_told 2 C2) (hm : cF_toldV 1 C = Int32.ofNat a) (hk : cF_toldV 2 C2 = Int32.ofNat b) (ha : a < 6) (hb : b < 6) (h : ¬ (C3.1 (T + 4) a >>> (Int32.ofNat b &&& 31)) &&& 1 = 0) : cF_against T N C = cF_fail 3 C3 := by
  subst e3 e2 e1
  unfold cF_against
  dsimp only
  rw [hm, hk, if_neg (of_m1 (by omega)), if_neg (of_m1 (by omega)), fn_nat (by omega), if_neg h]
theorem ag_ok {a b : Nat} {T N : Nat} {C C1 C2 C3 C4 : cm_M} (hT : 6 ≤ T) (e1 : C1 = cF_told 1 C) (e2 : C2 = cF_step N C1) (e3 : C3 = cF_told 2 C2) (e4 : C4 = cF_step N C3) (hm : cF_toldV 1 C = Int32.ofNat a) (hk : cF_toldV 2 C2 = Int32.ofNat b) (ha : a < 6) (hb : b < 6) (h : (C3.1 (T + 4) a >>> (Int32.ofNat b &&& 31)) &&& 1 = 0) : cF_against T N C = cm_wi C4 (T + 4) a (C3.1 (T + 4) a ||| (1 <<< (Int32.ofNat b &&& 31))) := by
  subst e4
  subst e3 e2 e1
  unfold cF_against
  dsimp only
  rw [hm, hk, if_neg (of_m1 (by omega)), if_neg (of_m1 (by omega)), fn_nat (by omega), if_pos h, step_wi (by omega)]
theorem am_bad {T N : Nat} {C C1 C2 C3 : cm_M} (e1 : C1 = cF_told 2 C) (e2 : C2 = cF_step N C1) (e3 : C3 = cF_told 2 C2) (z : C3.1 2 9 ≠ 0) : cF_amends T N C = C3 := by
  subst e3 e2 e1
  have k := toldV_bad z
  unfold cF_amends
  dsimp only
  rw [k]
  split
  · rfl
  · rw [if_pos rfl]
theorem am_no {a b : Nat} {T N : Nat} {C C1 C2 C3 : cm_M} (e1 : C1 = cF_told 2 C) (e2 : C2 = cF_step N C1) (e3 : C3 = cF_told 2 C2) (hm : cF_toldV 2 C = Int32.ofNat a) (hk : cF_toldV 2 C2 = Int32.ofNat b) (ha : a < 6) (hb : b < 6) (h : ¬ (C3.1 (T + 9) a >>> (Int32.ofNat b &&& 31)) &&& 1 = 0) : cF_amends T N C = cF_fail 3 C3 := by
  subst e3 e2 e1
  unfold cF_amends
  dsimp only
  rw [hm, hk, if_neg (of_m1 (by omega)), if_neg (of_m1 (by omega)), fn_nat (by omega), if_neg h]
theorem am_late {a b : Nat} {T N : Nat} {C C1 C2 C3 : cm_M} (e1 : C1 = cF_told 2 C) (e2 : C2 = cF_step N C1) (e3 : C3 = cF_told 2 C2) (hm : cF_toldV 2 C = Int32.ofNat a) (hk : cF_toldV 2 C2 = Int32.ofNat b) (ha : a < 6) (hb : b < 6) (h : (C3.1 (T + 9) a >>> (Int32.ofNat b &&& 31)) &&& 1 = 0) (h2 : (Int32.ofNat a).toInt ≤ (Int32.ofNat b).toInt) : cF_amends T N C = cF_fail 7 C3 := by
  subst e3 e2 e1
  unfold cF_amends
  dsimp only
  rw [hm, hk, if_neg (of_m1 (by omega)), if_neg (of_m1 (by omega)), fn_nat (by omega), if_pos h, if_pos h2]
theorem am_ok {a b : Nat} {T N : Nat} {C C1 C2 C3 C4 : cm_M} (hT : 6 ≤ T) (e1 : C1 = cF_told 2 C) (e2 : C2 = cF_step N C1) (e3 : C3 = cF_told 2 C2) (e4 : C4 = cF_step N C3) (hm : cF_toldV 2 C = Int32.ofNat a) (hk : cF_toldV 2 C2 = Int32.ofNat b) (ha : a < 6) (hb : b < 6) (h : (C3.1 (T + 9) a >>> (Int32.ofNat b &&& 31)) &&& 1 = 0) (h2 : ¬ (Int32.ofNat a).toInt ≤ (Int32.ofNat b).toInt) : cF_amends T N C = cm_wi C4 (T + 9) a (C3.1 (T + 9) a ||| (1 <<< (Int32.ofNat b &&& 31))) := by
  subst e4
  subst e3 e2 e1
  unfold cF_amends
  dsimp only
  rw [hm, hk, if_neg (of_m1 (by omega)), if_neg (of_m1 (by omega)), fn_nat (by omega), if_pos h, if_neg h2, step_wi (by omega)]
theorem qr_bad {T N : Nat} {C C1 C2 C3 : cm_M} (e1 : C1 = cF_told 1 C) (e2 : C2 = cF_step N C1) (e3 : C3 = cF_told 1 C2) (z : C3.1 2 9 ≠ 0) : cF_quarrel T N C = C3 := by
  subst e3 e2 e1
  have k := toldV_bad z
  unfold cF_quarrel
  dsimp only
  rw [k]
  split
  · rfl
  · rw [if_pos rfl]
theorem qr_same {a b : Nat} {T N : Nat} {C C1 C2 C3 : cm_M} (e1 : C1 = cF_told 1 C) (e2 : C2 = cF_step N C1) (e3 : C3 = cF_told 1 C2) (hm : cF_toldV 1 C = Int32.ofNat a) (hk : cF_toldV 1 C2 = Int32.ofNat b) (ha : a < 6) (hb : b < 6) (h : a = b) : cF_quarrel T N C = cF_fail 3 C3 := by
  subst e3 e2 e1
  unfold cF_quarrel
  dsimp only
  rw [hm, hk, if_neg (of_m1 (by omega)), if_neg (of_m1 (by omega)), if_pos (by rw [h])]
theorem qr_no {a b : Nat} {T N : Nat} {C C1 C2 C3 : cm_M} (e1 : C1 = cF_told 1 C) (e2 : C2 = cF_step N C1) (e3 : C3 = cF_told 1 C2) (hm : cF_toldV 1 C = Int32.ofNat a) (hk : cF_toldV 1 C2 = Int32.ofNat b) (ha : a < 6) (hb : b < 6) (hab : a ≠ b) (h : ¬ (C3.1 (T + 5) a >>> (Int32.ofNat b &&& 31)) &&& 1 = 0) : cF_quarrel T N C = cF_fail 3 C3 := by
  subst e3 e2 e1
  unfold cF_quarrel
  dsimp only
  rw [hm, hk, if_neg (of_m1 (by omega)), if_neg (of_m1 (by omega)), if_neg (fun q => hab (ofn_inj (by omega) (by omega) q)), fn_nat (by omega), if_neg h]
theorem qr_ok {a b : Nat} {T N : Nat} {C C1 C2 C3 C4 : cm_M} (hT : 6 ≤ T) (e1 : C1 = cF_told 1 C) (e2 : C2 = cF_step N C1) (e3 : C3 = cF_told 1 C2) (e4 : C4 = cF_step N C3) (hm : cF_toldV 1 C = Int32.ofNat a) (hk : cF_toldV 1 C2 = Int32.ofNat b) (ha : a < 6) (hb : b < 6) (hab : a ≠ b) (h : (C3.1 (T + 5) a >>> (Int32.ofNat b &&& 31)) &&& 1 = 0) : cF_quarrel T N C = cm_wi (cm_wi C4 (T + 5) a (C3.1 (T + 5) a ||| (1 <<< (Int32.ofNat b &&& 31)))) (T + 5) b (C3.1 (T + 5) b ||| (1 <<< (Int32.ofNat a &&& 31))) := by
  subst e4
  subst e3 e2 e1
  unfold cF_quarrel
  dsimp only
  rw [hm, hk, if_neg (of_m1 (by omega)), if_neg (of_m1 (by omega)), if_neg (fun q => hab (ofn_inj (by omega) (by omega) q)), fn_nat (by omega), if_pos h]
  unfold cF_qput
  rw [fn_nat (by omega), fn_nat (by omega), wC, if_neg (by omega), step_wi (by omega), step_wi (by omega)]
set_option maxRecDepth 100000 in
set_option maxHeartbeats 1000000 in
theorem m_againstLine {T N me mo ch : Nat} {C D : cm_M} (hT : 6 ≤ T) (hT2 : T ≤ 19) (h : Rq N C D) (hd : C.1 2 9 = 0 → DT T me mo ch C (D.1 128)) : cm_Lc cm_ms 198 [.ref 124] (fm D) (ml_K T N me mo ch (cF_against T N C)) := by
  refine lb_st0 (mi := mr_198) rfl 150 ?_
  show ∃ R, cm_Lc cm_ms 185 [.ref 124] (fm D) R ∧ ∀ v M', R v M' → _
  refine ⟨_, cm_Lc_nm (R := ka N D (cF_toldV 1 C)) (cF_told 1 C) (m_manHere h (nam := me + mo + ch) (me := me) (mo := mo) (ch := ch) (fun q => (hd q).1)), ?_⟩
  rintro v M' ⟨C1, e1, x1, rfl, D1, rfl, r1, f1, v1⟩
  have d1 : C1.1 2 9 = 0 → DT T me mo ch C1 (D1.1 128) := by rw [e1]; exact DT_go hT hd (K_told 1 C) z_told f1
  show ∃ R, cm_Lc cm_ms 187 [.ref 124] (fm D1) R ∧ ∀ v M', R v M' → _
  refine ⟨_, cm_Lc_nm (R := fun X => mq N X D1) (cF_step N C1) (m_pass r1), ?_⟩
  rintro v M' ⟨C2, e2, rfl, D2, rfl, r2, f2⟩
  have d2 : C2.1 2 9 = 0 → DT T me mo ch C2 (D2.1 128) := by rw [e2]; exact DT_go hT d1 (K_step N C1) z_step f2
  show ∃ R, cm_Lc cm_ms 186 [.ref 124] (fm D2) R ∧ ∀ v M', R v M' → _
  refine ⟨_, cm_Lc_nm (R := ka N D2 (cF_toldV 2 C2)) (cF_told 2 C2) (m_motionHere r2 (nam := me + mo + ch) (me := me) (mo := mo) (ch := ch) (fun q => (d2 q).1)), ?_⟩
  rintro v M' ⟨C3, e3, x3, rfl, D3, rfl, r3, f3, v3⟩
  have d3 : C3.1 2 9 = 0 → DT T me mo ch C3 (D3.1 128) := by rw [e3]; exact DT_go hT d2 (K_told 2 C2) z_told f3
  show (ev_cmp 1 (D3.1 124 13) 0 = true → _) ∧ (ev_cmp 1 (D3.1 124 13) 0 = false → _)
  refine ⟨fun h1 => ?_, fun h1 => ?_⟩
  · have z1 : C3.1 2 9 ≠ 0 := fl_1 r3.2 (fn_ne h1)
    show ∃ R, cm_Lc cm_ms 187 [.ref 124] (fm D3) R ∧ ∀ v M', R v M' → _
    refine ⟨_, cm_Lc_nm (R := fun X => mq N X D3) (cF_step N C3) (m_pass r3), ?_⟩
    rintro v M' ⟨C4, e4, rfl, D4, rfl, r4, f4⟩
    have y4 : C4.1 2 9 ≠ 0 := by rw [e4, cF_step_9]; exact z1
    have d4 : C4.1 2 9 = 0 → DT T me mo ch C4 (D4.1 128) := by rw [e4]; exact DT_go hT d3 (K_step N C3) z_step f4
    show (ev_cmp 0 (D4.1 124 13) 0 = true → _) ∧ (ev_cmp 0 (D4.1 124 13) 0 = false → _)
    refine ⟨fun h2 => ?_, fun h2 => ?_⟩
    · have z2 : C4.1 2 9 = 0 := fl_0 r4.2 (fn_eq0 h2)
      exact absurd z2 y4
    · have z2 : C4.1 2 9 ≠ 0 := fl_1 r4.2 (fn_ne0 h2)
      show ml_K T N me mo ch (cF_against T N C) none (fm D4)
      have ed : cF_against T N C = C4 := by
        rw [e4, cF_step_id z1]
        exact ag_bad e1 e2 e3 z1
      refine ⟨rfl, D4, rfl, ?_, ?_⟩
      · rw [ed]
        exact r4
      · rw [ed]
        exact fun q => absurd q z2
  · have z1 : C3.1 2 9 = 0 := fl_0 r3.2 (fn_eq h1)
    show ∃ R, cm_Lc cm_ms 168 [.int (D3.1 128 ((44 + x1).toNatClampNeg)), .int x3] (fm D3) R ∧ ∀ v M', R v M' → _
    refine ⟨_, m_hasBit (D3.1 128 ((44 + x1).toNatClampNeg)) x3 _, ?_⟩
    rintro v M' ⟨rfl, rfl⟩
    show (ev_cmp 0 (bi (decide (((D3.1 128 ((44 + x1).toNatClampNeg)) >>> (x3 &&& 31)) &&& 1 = 1))) 0 = true → _) ∧ (ev_cmp 0 (bi (decide (((D3.1 128 ((44 + x1).toNatClampNeg)) >>> (x3 &&& 31)) &&& 1 = 1))) 0 = false → _)
    refine ⟨fun h3 => ?_, fun h3 => ?_⟩
    · have w3 : (decide (((D3.1 128 ((44 + x1).toNatClampNeg)) >>> (x3 &&& 31)) &&& 1 = 1)) = false := bi_0 h3
      show ∃ R, cm_Lc cm_ms 187 [.ref 124] (fm D3) R ∧ ∀ v M', R v M' → _
      refine ⟨_, cm_Lc_nm (R := fun X => mq N X D3) (cF_step N C3) (m_pass r3), ?_⟩
      rintro v M' ⟨C4, e4, rfl, D4, rfl, r4, f4⟩
      have y4 : C4.1 2 9 = 0 := by rw [e4, cF_step_9]; exact z1
      have d4 : C4.1 2 9 = 0 → DT T me mo ch C4 (D4.1 128) := by rw [e4]; exact DT_go hT d3 (K_step N C3) z_step f4
      show (ev_cmp 0 (D4.1 124 13) 0 = true → _) ∧ (ev_cmp 0 (D4.1 124 13) 0 = false → _)
      refine ⟨fun h4 => ?_, fun h4 => ?_⟩
      · have z4 : C4.1 2 9 = 0 := fl_0 r4.2 (fn_eq0 h4)
        show ml_K T N me mo ch (cF_against T N C) none (cm_wi (cm_wi (fm D4) 128 ((44 + x1).toNatClampNeg) ((D4.1 128 ((44 + x1).toNatClampNeg)) ||| (1 <<< (x3 &&& 31)))) 128 5 (((cm_wi (fm D4) 128 ((44 + x1).toNatClampNeg) ((D4.1 128 ((44 + x1).toNatClampNeg)) ||| (1 <<< (x3 &&& 31)))).1 128 5) + 1))
        have u3 := z1
        have u2 : C2.1 2 9 = 0 := z_told (e3 ▸ u3)
        have u1 : C1.1 2 9 = 0 := z_step (e2 ▸ u2)
        have u0 : C.1 2 9 = 0 := z_told (e1 ▸ u1)
        obtain ⟨-, a, ta, ta6, ta1, ta2⟩ := told_v (hd u0).1 u0 (e1 ▸ u1)
        obtain ⟨-, b, tc, tc6, tc1, tc2⟩ := told_v (d2 u2).1 u2 (e3 ▸ u3)
        have q1 : x1 = Int32.ofNat a := (v1 u1).trans ta
        have q3 : x3 = Int32.ofNat b := (v3 u3).trans tc
        obtain ⟨da, g, hg, dg⟩ := DT_ag (d3 u3) (ta1 rfl)
        rw [q1, q3, ix_44 (by omega)] at w3
        have hb := bit_0 dg hg tc6 w3
        have hb2 := hb
        rw [← da] at hb2
        have K4 := K_step N C3
        rw [← e4] at K4
        have ed := ag_ok hT e1 e2 e3 e4 ta tc ta6 tc6 hb2
        refine ⟨rfl, cm_wi (cm_wi D4 128 ((44 + x1).toNatClampNeg) ((D4.1 128 ((44 + x1).toNatClampNeg)) ||| (1 <<< (x3 &&& 31)))) 128 5 (((cm_wi (D4) 128 ((44 + x1).toNatClampNeg) ((D4.1 128 ((44 + x1).toNatClampNeg)) ||| (1 <<< (x3 &&& 31)))).1 128 5) + 1), rfl, ?_, fun _ => ?_⟩
        · rw [ed]
          exact Rq_wC (by omega) (Rq_w (Rq_w r4))
        · rw [ed]
          refine DT_against (C := C3) (F := D3.1 128) (m := a) (k := b) (d3 u3) (KN_tr K4.2 (KN_w (by omega))) ((w8 (by omega)).trans K4.1.2) (ta1 rfl) (tc2 rfl) hb ?_ ?_ ?_
          · unfold DA
            rw [wC, if_pos ⟨rfl, rfl⟩, da]
          · intro i j hij
            unfold DA
            rw [wC, if_neg (by omega)]
            exact K4.1.1 _ _ (by omega)
          · intro j hj
            show (cm_wi (cm_wi D4 128 ((44 + x1).toNatClampNeg) ((D4.1 128 ((44 + x1).toNatClampNeg)) ||| (1 <<< (x3 &&& 31)))) 128 5 (((cm_wi (D4) 128 ((44 + x1).toNatClampNeg) ((D4.1 128 ((44 + x1).toNatClampNeg)) ||| (1 <<< (x3 &&& 31)))).1 128 5) + 1)).1 128 j = _
            rw [q1, q3, ix_44 (by omega), wF, wF, if_neg (c := 5 = 44 + a) (by omega), wF, f4]
      · have z4 : C4.1 2 9 ≠ 0 := fl_1 r4.2 (fn_ne0 h4)
        exact absurd y4 z4
    · have w3 : (decide (((D3.1 128 ((44 + x1).toNatClampNeg)) >>> (x3 &&& 31)) &&& 1 = 1)) = true := bi_1 h3
      show ∃ R, cm_Lc cm_ms 177 [.ref 124, .int 3, .int (D3.1 124 4)] (fm D3) R ∧ ∀ v M', R v M' → _
      refine ⟨_, cm_Lc_nm (R := fun X => mq N X D3) (cF_fail 3 C3) (m_wrong r3 (x := 3) (by decide)), ?_⟩
      rintro v M' ⟨C4, e4, rfl, D4, rfl, r4, f4⟩
      have y4 : C4.1 2 9 ≠ 0 := by rw [e4]; exact cF_fail_9n (by decide)
      show ∃ R, cm_Lc cm_ms 187 [.ref 124] (fm D4) R ∧ ∀ v M', R v M' → _
      refine ⟨_, cm_Lc_nm (R := fun X => mq N X D4) (cF_step N C4) (m_pass r4), ?_⟩
      rintro v M' ⟨C5, e5, rfl, D5, rfl, r5, f5⟩
      have y5 : C5.1 2 9 ≠ 0 := by rw [e5, cF_step_9]; exact y4
      show (ev_cmp 0 (D5.1 124 13) 0 = true → _) ∧ (ev_cmp 0 (D5.1 124 13) 0 = false → _)
      refine ⟨fun h5 => ?_, fun h5 => ?_⟩
      · have z5 : C5.1 2 9 = 0 := fl_0 r5.2 (fn_eq0 h5)
        exact absurd z5 y5
      · have z5 : C5.1 2 9 ≠ 0 := fl_1 r5.2 (fn_ne0 h5)
        show ml_K T N me mo ch (cF_against T N C) none (fm D5)
        have u3 := z1
        have u2 : C2.1 2 9 = 0 := z_told (e3 ▸ u3)
        have u1 : C1.1 2 9 = 0 := z_step (e2 ▸ u2)
        have u0 : C.1 2 9 = 0 := z_told (e1 ▸ u1)
        obtain ⟨-, a, ta, ta6, ta1, ta2⟩ := told_v (hd u0).1 u0 (e1 ▸ u1)
        obtain ⟨-, b, tc, tc6, tc1, tc2⟩ := told_v (d2 u2).1 u2 (e3 ▸ u3)
        have q1 : x1 = Int32.ofNat a := (v1 u1).trans ta
        have q3 : x3 = Int32.ofNat b := (v3 u3).trans tc
        obtain ⟨da, g, hg, dg⟩ := DT_ag (d3 u3) (ta1 rfl)
        rw [q1, q3, ix_44 (by omega)] at w3
        have hb := bit_1 w3
        rw [← da] at hb
        have ed : cF_against T N C = C5 := by
          rw [e5, cF_step_id y4, e4]
          exact ag_no e1 e2 e3 ta tc ta6 tc6 hb
        refine ⟨rfl, D5, rfl, ?_, ?_⟩
        · rw [ed]
          exact r5
        · rw [ed]
          exact fun q => absurd q z5
set_option maxRecDepth 100000 in
set_option maxHeartbeats 1000000 in
theorem m_amendsLine {T N me mo ch : Nat} {C D : cm_M} (hT : 6 ≤ T) (hT2 : T ≤ 19) (h : Rq N C D) (hd : C.1 2 9 = 0 → DT T me mo ch C (D.1 128)) : cm_Lc cm_ms 199 [.ref 124] (fm D) (ml_K T N me mo ch (cF_amends T N C)) := by
  refine lb_st0 (mi := mr_199) rfl 150 ?_
  show ∃ R, cm_Lc cm_ms 186 [.ref 124] (fm D) R ∧ ∀ v M', R v M' → _
  refine ⟨_, cm_Lc_nm (R := ka N D (cF_toldV 2 C)) (cF_told 2 C) (m_motionHere h (nam := me + mo + ch) (me := me) (mo := mo) (ch := ch) (fun q => (hd q).1)), ?_⟩
  rintro v M' ⟨C1, e1, x1, rfl, D1, rfl, r1, f1, v1⟩
  have d1 : C1.1 2 9 = 0 → DT T me mo ch C1 (D1.1 128) := by rw [e1]; exact DT_go hT hd (K_told 2 C) z_told f1
  show ∃ R, cm_Lc cm_ms 187 [.ref 124] (fm D1) R ∧ ∀ v M', R v M' → _
  refine ⟨_, cm_Lc_nm (R := fun X => mq N X D1) (cF_step N C1) (m_pass r1), ?_⟩
  rintro v M' ⟨C2, e2, rfl, D2, rfl, r2, f2⟩
  have d2 : C2.1 2 9 = 0 → DT T me mo ch C2 (D2.1 128) := by rw [e2]; exact DT_go hT d1 (K_step N C1) z_step f2
  show ∃ R, cm_Lc cm_ms 186 [.ref 124] (fm D2) R ∧ ∀ v M', R v M' → _
  refine ⟨_, cm_Lc_nm (R := ka N D2 (cF_toldV 2 C2)) (cF_told 2 C2) (m_motionHere r2 (nam := me + mo + ch) (me := me) (mo := mo) (ch := ch) (fun q => (d2 q).1)), ?_⟩
  rintro v M' ⟨C3, e3, x3, rfl, D3, rfl, r3, f3, v3⟩
  have d3 : C3.1 2 9 = 0 → DT T me mo ch C3 (D3.1 128) := by rw [e3]; exact DT_go hT d2 (K_told 2 C2) z_told f3
  show (ev_cmp 1 (D3.1 124 13) 0 = true → _) ∧ (ev_cmp 1 (D3.1 124 13) 0 = false → _)
  refine ⟨fun h1 => ?_, fun h1 => ?_⟩
  · have z1 : C3.1 2 9 ≠ 0 := fl_1 r3.2 (fn_ne h1)
    show (ev_cmp 1 (D3.1 124 13) 0 = true → _) ∧ (ev_cmp 1 (D3.1 124 13) 0 = false → _)
    refine ⟨fun h2 => ?_, fun h2 => ?_⟩
    · have z2 : C3.1 2 9 ≠ 0 := fl_1 r3.2 (fn_ne h2)
      show ∃ R, cm_Lc cm_ms 187 [.ref 124] (fm D3) R ∧ ∀ v M', R v M' → _
      refine ⟨_, cm_Lc_nm (R := fun X => mq N X D3) (cF_step N C3) (m_pass r3), ?_⟩
      rintro v M' ⟨C4, e4, rfl, D4, rfl, r4, f4⟩
      have y4 : C4.1 2 9 ≠ 0 := by rw [e4, cF_step_9]; exact z2
      have d4 : C4.1 2 9 = 0 → DT T me mo ch C4 (D4.1 128) := by rw [e4]; exact DT_go hT d3 (K_step N C3) z_step f4
      show (ev_cmp 0 (D4.1 124 13) 0 = true → _) ∧ (ev_cmp 0 (D4.1 124 13) 0 = false → _)
      refine ⟨fun h3 => ?_, fun h3 => ?_⟩
      · have z3 : C4.1 2 9 = 0 := fl_0 r4.2 (fn_eq0 h3)
        exact absurd z3 y4
      · have z3 : C4.1 2 9 ≠ 0 := fl_1 r4.2 (fn_ne0 h3)
        show ml_K T N me mo ch (cF_amends T N C) none (fm D4)
        have ed : cF_amends T N C = C4 := by
          rw [e4, cF_step_id z1]
          exact am_bad e1 e2 e3 z1
        refine ⟨rfl, D4, rfl, ?_, ?_⟩
        · rw [ed]
          exact r4
        · rw [ed]
          exact fun q => absurd q z3
    · have z2 : C3.1 2 9 = 0 := fl_0 r3.2 (fn_eq h2)
      exact absurd z2 z1
  · have z1 : C3.1 2 9 = 0 := fl_0 r3.2 (fn_eq h1)
    show ∃ R, cm_Lc cm_ms 168 [.int (D3.1 128 ((50 + x1).toNatClampNeg)), .int x3] (fm D3) R ∧ ∀ v M', R v M' → _
    refine ⟨_, m_hasBit (D3.1 128 ((50 + x1).toNatClampNeg)) x3 _, ?_⟩
    rintro v M' ⟨rfl, rfl⟩
    show (ev_cmp 0 (bi (decide (((D3.1 128 ((50 + x1).toNatClampNeg)) >>> (x3 &&& 31)) &&& 1 = 1))) 0 = true → _) ∧ (ev_cmp 0 (bi (decide (((D3.1 128 ((50 + x1).toNatClampNeg)) >>> (x3 &&& 31)) &&& 1 = 1))) 0 = false → _)
    refine ⟨fun h4 => ?_, fun h4 => ?_⟩
    · have w4 : (decide (((D3.1 128 ((50 + x1).toNatClampNeg)) >>> (x3 &&& 31)) &&& 1 = 1)) = false := bi_0 h4
      show (ev_cmp 1 (D3.1 124 13) 0 = true → _) ∧ (ev_cmp 1 (D3.1 124 13) 0 = false → _)
      refine ⟨fun h5 => ?_, fun h5 => ?_⟩
      · have z5 : C3.1 2 9 ≠ 0 := fl_1 r3.2 (fn_ne h5)
        exact absurd z1 z5
      · have z5 : C3.1 2 9 = 0 := fl_0 r3.2 (fn_eq h5)
        show (ev_cmp 2 x3 x1 = true → _) ∧ (ev_cmp 2 x3 x1 = false → _)
        refine ⟨fun h6 => ?_, fun h6 => ?_⟩
        · have g6 := fn_lt h6
          show ∃ R, cm_Lc cm_ms 187 [.ref 124] (fm D3) R ∧ ∀ v M', R v M' → _
          refine ⟨_, cm_Lc_nm (R := fun X => mq N X D3) (cF_step N C3) (m_pass r3), ?_⟩
          rintro v M' ⟨C4, e4, rfl, D4, rfl, r4, f4⟩
          have y4 : C4.1 2 9 = 0 := by rw [e4, cF_step_9]; exact z5
          have d4 : C4.1 2 9 = 0 → DT T me mo ch C4 (D4.1 128) := by rw [e4]; exact DT_go hT d3 (K_step N C3) z_step f4
          show (ev_cmp 0 (D4.1 124 13) 0 = true → _) ∧ (ev_cmp 0 (D4.1 124 13) 0 = false → _)
          refine ⟨fun h7 => ?_, fun h7 => ?_⟩
          · have z7 : C4.1 2 9 = 0 := fl_0 r4.2 (fn_eq0 h7)
            show ml_K T N me mo ch (cF_amends T N C) none (cm_wi (cm_wi (fm D4) 128 ((50 + x1).toNatClampNeg) ((D4.1 128 ((50 + x1).toNatClampNeg)) ||| (1 <<< (x3 &&& 31)))) 128 6 (((cm_wi (fm D4) 128 ((50 + x1).toNatClampNeg) ((D4.1 128 ((50 + x1).toNatClampNeg)) ||| (1 <<< (x3 &&& 31)))).1 128 6) + 1))
            have u3 := z1
            have u2 : C2.1 2 9 = 0 := z_told (e3 ▸ u3)
            have u1 : C1.1 2 9 = 0 := z_step (e2 ▸ u2)
            have u0 : C.1 2 9 = 0 := z_told (e1 ▸ u1)
            obtain ⟨-, a, ta, ta6, ta1, ta2⟩ := told_v (hd u0).1 u0 (e1 ▸ u1)
            obtain ⟨-, b, tc, tc6, tc1, tc2⟩ := told_v (d2 u2).1 u2 (e3 ▸ u3)
            have q1 : x1 = Int32.ofNat a := (v1 u1).trans ta
            have q3 : x3 = Int32.ofNat b := (v3 u3).trans tc
            rw [q1, q3] at g6
            obtain ⟨da, g, hg, dg⟩ := DT_am (d3 u3) (ta2 rfl)
            rw [q1, q3, ix_50 (by omega)] at w4
            have hb := bit_0 dg hg tc6 w4
            have hb2 := hb
            rw [← da] at hb2
            have K4 := K_step N C3
            rw [← e4] at K4
            have hlt : b < a := by rw [fn_toInt (by omega), fn_toInt (by omega)] at g6; omega
            have ed := am_ok hT e1 e2 e3 e4 ta tc ta6 tc6 hb2 (by omega)
            refine ⟨rfl, cm_wi (cm_wi D4 128 ((50 + x1).toNatClampNeg) ((D4.1 128 ((50 + x1).toNatClampNeg)) ||| (1 <<< (x3 &&& 31)))) 128 6 (((cm_wi (D4) 128 ((50 + x1).toNatClampNeg) ((D4.1 128 ((50 + x1).toNatClampNeg)) ||| (1 <<< (x3 &&& 31)))).1 128 6) + 1), rfl, ?_, fun _ => ?_⟩
            · rw [ed]
              exact Rq_wC (by omega) (Rq_w (Rq_w r4))
            · rw [ed]
              refine DT_amends (C := C3) (F := D3.1 128) (m := a) (k := b) (d3 u3) (KN_tr K4.2 (KN_w (by omega))) ((w8 (by omega)).trans K4.1.2) (ta2 rfl) hlt hb ?_ ?_ ?_
              · unfold DA
                rw [wC, if_pos ⟨rfl, rfl⟩, da]
              · intro i j hij
                unfold DA
                rw [wC, if_neg (by omega)]
                exact K4.1.1 _ _ (by omega)
              · intro j hj
                show (cm_wi (cm_wi D4 128 ((50 + x1).toNatClampNeg) ((D4.1 128 ((50 + x1).toNatClampNeg)) ||| (1 <<< (x3 &&& 31)))) 128 6 (((cm_wi (D4) 128 ((50 + x1).toNatClampNeg) ((D4.1 128 ((50 + x1).toNatClampNeg)) ||| (1 <<< (x3 &&& 31)))).1 128 6) + 1)).1 128 j = _
                rw [q1, q3, ix_50 (by omega), wF, wF, if_neg (c := 6 = 50 + a) (by omega), wF, f4]
          · have z7 : C4.1 2 9 ≠ 0 := fl_1 r4.2 (fn_ne0 h7)
            exact absurd y4 z7
        · have g6 := fn_nlt h6
          show ∃ R, cm_Lc cm_ms 177 [.ref 124, .int 7, .int (D3.1 124 4)] (fm D3) R ∧ ∀ v M', R v M' → _
          refine ⟨_, cm_Lc_nm (R := fun X => mq N X D3) (cF_fail 7 C3) (m_wrong r3 (x := 7) (by decide)), ?_⟩
          rintro v M' ⟨C4, e4, rfl, D4, rfl, r4, f4⟩
          have y4 : C4.1 2 9 ≠ 0 := by rw [e4]; exact cF_fail_9n (by decide)
          show ∃ R, cm_Lc cm_ms 187 [.ref 124] (fm D4) R ∧ ∀ v M', R v M' → _
          refine ⟨_, cm_Lc_nm (R := fun X => mq N X D4) (cF_step N C4) (m_pass r4), ?_⟩
          rintro v M' ⟨C5, e5, rfl, D5, rfl, r5, f5⟩
          have y5 : C5.1 2 9 ≠ 0 := by rw [e5, cF_step_9]; exact y4
          show (ev_cmp 0 (D5.1 124 13) 0 = true → _) ∧ (ev_cmp 0 (D5.1 124 13) 0 = false → _)
          refine ⟨fun h8 => ?_, fun h8 => ?_⟩
          · have z8 : C5.1 2 9 = 0 := fl_0 r5.2 (fn_eq0 h8)
            exact absurd z8 y5
          · have z8 : C5.1 2 9 ≠ 0 := fl_1 r5.2 (fn_ne0 h8)
            show ml_K T N me mo ch (cF_amends T N C) none (fm D5)
            have u3 := z1
            have u2 : C2.1 2 9 = 0 := z_told (e3 ▸ u3)
            have u1 : C1.1 2 9 = 0 := z_step (e2 ▸ u2)
            have u0 : C.1 2 9 = 0 := z_told (e1 ▸ u1)
            obtain ⟨-, a, ta, ta6, ta1, ta2⟩ := told_v (hd u0).1 u0 (e1 ▸ u1)
            obtain ⟨-, b, tc, tc6, tc1, tc2⟩ := told_v (d2 u2).1 u2 (e3 ▸ u3)
            have q1 : x1 = Int32.ofNat a := (v1 u1).trans ta
            have q3 : x3 = Int32.ofNat b := (v3 u3).trans tc
            rw [q1, q3] at g6
            obtain ⟨da, g, hg, dg⟩ := DT_am (d3 u3) (ta2 rfl)
            rw [q1, q3, ix_50 (by omega)] at w4
            have hb := bit_0 dg hg tc6 w4
            rw [← da] at hb
            have ed : cF_amends T N C = C5 := by
              rw [e5, cF_step_id y4, e4]
              exact am_late e1 e2 e3 ta tc ta6 tc6 hb g6
            refine ⟨rfl, D5, rfl, ?_, ?_⟩
            · rw [ed]
              exact r5
            · rw [ed]
              exact fun q => absurd q z8
    · have w4 : (decide (((D3.1 128 ((50 + x1).toNatClampNeg)) >>> (x3 &&& 31)) &&& 1 = 1)) = true := bi_1 h4
      show ∃ R, cm_Lc cm_ms 177 [.ref 124, .int 3, .int (D3.1 124 4)] (fm D3) R ∧ ∀ v M', R v M' → _
      refine ⟨_, cm_Lc_nm (R := fun X => mq N X D3) (cF_fail 3 C3) (m_wrong r3 (x := 3) (by decide)), ?_⟩
      rintro v M' ⟨C4, e4, rfl, D4, rfl, r4, f4⟩
      have y4 : C4.1 2 9 ≠ 0 := by rw [e4]; exact cF_fail_9n (by decide)
      show (ev_cmp 1 (D4.1 124 13) 0 = true → _) ∧ (ev_cmp 1 (D4.1 124 13) 0 = false → _)
      refine ⟨fun h9 => ?_, fun h9 => ?_⟩
      · have z9 : C4.1 2 9 ≠ 0 := fl_1 r4.2 (fn_ne h9)
        show ∃ R, cm_Lc cm_ms 187 [.ref 124] (fm D4) R ∧ ∀ v M', R v M' → _
        refine ⟨_, cm_Lc_nm (R := fun X => mq N X D4) (cF_step N C4) (m_pass r4), ?_⟩
        rintro v M' ⟨C5, e5, rfl, D5, rfl, r5, f5⟩
        have y5 : C5.1 2 9 ≠ 0 := by rw [e5, cF_step_9]; exact z9
        show (ev_cmp 0 (D5.1 124 13) 0 = true → _) ∧ (ev_cmp 0 (D5.1 124 13) 0 = false → _)
        refine ⟨fun h10 => ?_, fun h10 => ?_⟩
        · have z10 : C5.1 2 9 = 0 := fl_0 r5.2 (fn_eq0 h10)
          exact absurd z10 y5
        · have z10 : C5.1 2 9 ≠ 0 := fl_1 r5.2 (fn_ne0 h10)
          show ml_K T N me mo ch (cF_amends T N C) none (fm D5)
          have u3 := z1
          have u2 : C2.1 2 9 = 0 := z_told (e3 ▸ u3)
          have u1 : C1.1 2 9 = 0 := z_step (e2 ▸ u2)
          have u0 : C.1 2 9 = 0 := z_told (e1 ▸ u1)
          obtain ⟨-, a, ta, ta6, ta1, ta2⟩ := told_v (hd u0).1 u0 (e1 ▸ u1)
          obtain ⟨-, b, tc, tc6, tc1, tc2⟩ := told_v (d2 u2).1 u2 (e3 ▸ u3)
          have q1 : x1 = Int32.ofNat a := (v1 u1).trans ta
          have q3 : x3 = Int32.ofNat b := (v3 u3).trans tc
          obtain ⟨da, g, hg, dg⟩ := DT_am (d3 u3) (ta2 rfl)
          rw [q1, q3, ix_50 (by omega)] at w4
          have hb := bit_1 w4
          rw [← da] at hb
          have ed : cF_amends T N C = C5 := by
            rw [e5, cF_step_id y4, e4]
            exact am_no e1 e2 e3 ta tc ta6 tc6 hb
          refine ⟨rfl, D5, rfl, ?_, ?_⟩
          · rw [ed]
            exact r5
          · rw [ed]
            exact fun q => absurd q z10
      · have z9 : C4.1 2 9 = 0 := fl_0 r4.2 (fn_eq h9)
        exact absurd z9 y4
set_option maxRecDepth 100000 in
set_option maxHeartbeats 1000000 in
theorem m_quarrelLine {T N me mo ch : Nat} {C D : cm_M} (hT : 6 ≤ T) (hT2 : T ≤ 19) (h : Rq N C D) (hd : C.1 2 9 = 0 → DT T me mo ch C (D.1 128)) : cm_Lc cm_ms 200 [.ref 124] (fm D) (ml_K T N me mo ch (cF_quarrel T N C)) := by
  refine lb_st0 (mi := mr_200) rfl 150 ?_
  show ∃ R, cm_Lc cm_ms 185 [.ref 124] (fm D) R ∧ ∀ v M', R v M' → _
  refine ⟨_, cm_Lc_nm (R := ka N D (cF_toldV 1 C)) (cF_told 1 C) (m_manHere h (nam := me + mo + ch) (me := me) (mo := mo) (ch := ch) (fun q => (hd q).1)), ?_⟩
  rintro v M' ⟨C1, e1, x1, rfl, D1, rfl, r1, f1, v1⟩
  have d1 : C1.1 2 9 = 0 → DT T me mo ch C1 (D1.1 128) := by rw [e1]; exact DT_go hT hd (K_told 1 C) z_told f1
  show ∃ R, cm_Lc cm_ms 187 [.ref 124] (fm D1) R ∧ ∀ v M', R v M' → _
  refine ⟨_, cm_Lc_nm (R := fun X => mq N X D1) (cF_step N C1) (m_pass r1), ?_⟩
  rintro v M' ⟨C2, e2, rfl, D2, rfl, r2, f2⟩
  have d2 : C2.1 2 9 = 0 → DT T me mo ch C2 (D2.1 128) := by rw [e2]; exact DT_go hT d1 (K_step N C1) z_step f2
  show ∃ R, cm_Lc cm_ms 185 [.ref 124] (fm D2) R ∧ ∀ v M', R v M' → _
  refine ⟨_, cm_Lc_nm (R := ka N D2 (cF_toldV 1 C2)) (cF_told 1 C2) (m_manHere r2 (nam := me + mo + ch) (me := me) (mo := mo) (ch := ch) (fun q => (d2 q).1)), ?_⟩
  rintro v M' ⟨C3, e3, x3, rfl, D3, rfl, r3, f3, v3⟩
  have d3 : C3.1 2 9 = 0 → DT T me mo ch C3 (D3.1 128) := by rw [e3]; exact DT_go hT d2 (K_told 1 C2) z_told f3
  show (ev_cmp 1 (D3.1 124 13) 0 = true → _) ∧ (ev_cmp 1 (D3.1 124 13) 0 = false → _)
  refine ⟨fun h1 => ?_, fun h1 => ?_⟩
  · have z1 : C3.1 2 9 ≠ 0 := fl_1 r3.2 (fn_ne h1)
    show ∃ R, cm_Lc cm_ms 187 [.ref 124] (fm D3) R ∧ ∀ v M', R v M' → _
    refine ⟨_, cm_Lc_nm (R := fun X => mq N X D3) (cF_step N C3) (m_pass r3), ?_⟩
    rintro v M' ⟨C4, e4, rfl, D4, rfl, r4, f4⟩
    have y4 : C4.1 2 9 ≠ 0 := by rw [e4, cF_step_9]; exact z1
    have d4 : C4.1 2 9 = 0 → DT T me mo ch C4 (D4.1 128) := by rw [e4]; exact DT_go hT d3 (K_step N C3) z_step f4
    show (ev_cmp 0 (D4.1 124 13) 0 = true → _) ∧ (ev_cmp 0 (D4.1 124 13) 0 = false → _)
    refine ⟨fun h2 => ?_, fun h2 => ?_⟩
    · have z2 : C4.1 2 9 = 0 := fl_0 r4.2 (fn_eq0 h2)
      exact absurd z2 y4
    · have z2 : C4.1 2 9 ≠ 0 := fl_1 r4.2 (fn_ne0 h2)
      show ml_K T N me mo ch (cF_quarrel T N C) none (fm D4)
      have ed : cF_quarrel T N C = C4 := by
        rw [e4, cF_step_id z1]
        exact qr_bad e1 e2 e3 z1
      refine ⟨rfl, D4, rfl, ?_, ?_⟩
      · rw [ed]
        exact r4
      · rw [ed]
        exact fun q => absurd q z2
  · have z1 : C3.1 2 9 = 0 := fl_0 r3.2 (fn_eq h1)
    show (ev_cmp 0 x1 x3 = true → _) ∧ (ev_cmp 0 x1 x3 = false → _)
    refine ⟨fun h3 => ?_, fun h3 => ?_⟩
    · have g3 := fn_eq0 h3
      show ∃ R, cm_Lc cm_ms 177 [.ref 124, .int 3, .int (D3.1 124 4)] (fm D3) R ∧ ∀ v M', R v M' → _
      refine ⟨_, cm_Lc_nm (R := fun X => mq N X D3) (cF_fail 3 C3) (m_wrong r3 (x := 3) (by decide)), ?_⟩
      rintro v M' ⟨C4, e4, rfl, D4, rfl, r4, f4⟩
      have y4 : C4.1 2 9 ≠ 0 := by rw [e4]; exact cF_fail_9n (by decide)
      show ∃ R, cm_Lc cm_ms 187 [.ref 124] (fm D4) R ∧ ∀ v M', R v M' → _
      refine ⟨_, cm_Lc_nm (R := fun X => mq N X D4) (cF_step N C4) (m_pass r4), ?_⟩
      rintro v M' ⟨C5, e5, rfl, D5, rfl, r5, f5⟩
      have y5 : C5.1 2 9 ≠ 0 := by rw [e5, cF_step_9]; exact y4
      show (ev_cmp 0 (D5.1 124 13) 0 = true → _) ∧ (ev_cmp 0 (D5.1 124 13) 0 = false → _)
      refine ⟨fun h4 => ?_, fun h4 => ?_⟩
      · have z4 : C5.1 2 9 = 0 := fl_0 r5.2 (fn_eq0 h4)
        exact absurd z4 y5
      · have z4 : C5.1 2 9 ≠ 0 := fl_1 r5.2 (fn_ne0 h4)
        show ml_K T N me mo ch (cF_quarrel T N C) none (fm D5)
        have u3 := z1
        have u2 : C2.1 2 9 = 0 := z_told (e3 ▸ u3)
        have u1 : C1.1 2 9 = 0 := z_step (e2 ▸ u2)
        have u0 : C.1 2 9 = 0 := z_told (e1 ▸ u1)
        obtain ⟨-, a, ta, ta6, ta1, ta2⟩ := told_v (hd u0).1 u0 (e1 ▸ u1)
        obtain ⟨-, b, tc, tc6, tc1, tc2⟩ := told_v (d2 u2).1 u2 (e3 ▸ u3)
        have q1 : x1 = Int32.ofNat a := (v1 u1).trans ta
        have q3 : x3 = Int32.ofNat b := (v3 u3).trans tc
        rw [q1, q3] at g3
        have ed : cF_quarrel T N C = C5 := by
          rw [e5, cF_step_id y4, e4]
          exact qr_same e1 e2 e3 ta tc ta6 tc6 (ofn_inj (by omega) (by omega) g3)
        refine ⟨rfl, D5, rfl, ?_, ?_⟩
        · rw [ed]
          exact r5
        · rw [ed]
          exact fun q => absurd q z4
    · have g3 := fn_ne0 h3
      show ∃ R, cm_Lc cm_ms 168 [.int (D3.1 128 ((55 + x1).toNatClampNeg)), .int x3] (fm D3) R ∧ ∀ v M', R v M' → _
      refine ⟨_, m_hasBit (D3.1 128 ((55 + x1).toNatClampNeg)) x3 _, ?_⟩
      rintro v M' ⟨rfl, rfl⟩
      show (ev_cmp 0 (bi (decide (((D3.1 128 ((55 + x1).toNatClampNeg)) >>> (x3 &&& 31)) &&& 1 = 1))) 0 = true → _) ∧ (ev_cmp 0 (bi (decide (((D3.1 128 ((55 + x1).toNatClampNeg)) >>> (x3 &&& 31)) &&& 1 = 1))) 0 = false → _)
      refine ⟨fun h5 => ?_, fun h5 => ?_⟩
      · have w5 : (decide (((D3.1 128 ((55 + x1).toNatClampNeg)) >>> (x3 &&& 31)) &&& 1 = 1)) = false := bi_0 h5
        show ∃ R, cm_Lc cm_ms 187 [.ref 124] (fm D3) R ∧ ∀ v M', R v M' → _
        refine ⟨_, cm_Lc_nm (R := fun X => mq N X D3) (cF_step N C3) (m_pass r3), ?_⟩
        rintro v M' ⟨C4, e4, rfl, D4, rfl, r4, f4⟩
        have y4 : C4.1 2 9 = 0 := by rw [e4, cF_step_9]; exact z1
        have d4 : C4.1 2 9 = 0 → DT T me mo ch C4 (D4.1 128) := by rw [e4]; exact DT_go hT d3 (K_step N C3) z_step f4
        show (ev_cmp 0 (D4.1 124 13) 0 = true → _) ∧ (ev_cmp 0 (D4.1 124 13) 0 = false → _)
        refine ⟨fun h6 => ?_, fun h6 => ?_⟩
        · have z6 : C4.1 2 9 = 0 := fl_0 r4.2 (fn_eq0 h6)
          show ml_K T N me mo ch (cF_quarrel T N C) none (cm_wi (cm_wi (cm_wi (fm D4) 128 ((55 + x1).toNatClampNeg) ((D4.1 128 ((55 + x1).toNatClampNeg)) ||| (1 <<< (x3 &&& 31)))) 128 ((55 + x3).toNatClampNeg) (((cm_wi (fm D4) 128 ((55 + x1).toNatClampNeg) ((D4.1 128 ((55 + x1).toNatClampNeg)) ||| (1 <<< (x3 &&& 31)))).1 128 ((55 + x3).toNatClampNeg)) ||| (1 <<< (x1 &&& 31)))) 128 7 (((cm_wi (cm_wi (fm D4) 128 ((55 + x1).toNatClampNeg) ((D4.1 128 ((55 + x1).toNatClampNeg)) ||| (1 <<< (x3 &&& 31)))) 128 ((55 + x3).toNatClampNeg) (((cm_wi (fm D4) 128 ((55 + x1).toNatClampNeg) ((D4.1 128 ((55 + x1).toNatClampNeg)) ||| (1 <<< (x3 &&& 31)))).1 128 ((55 + x3).toNatClampNeg)) ||| (1 <<< (x1 &&& 31)))).1 128 7) + 1))
          have u3 := z1
          have u2 : C2.1 2 9 = 0 := z_told (e3 ▸ u3)
          have u1 : C1.1 2 9 = 0 := z_step (e2 ▸ u2)
          have u0 : C.1 2 9 = 0 := z_told (e1 ▸ u1)
          obtain ⟨-, a, ta, ta6, ta1, ta2⟩ := told_v (hd u0).1 u0 (e1 ▸ u1)
          obtain ⟨-, b, tc, tc6, tc1, tc2⟩ := told_v (d2 u2).1 u2 (e3 ▸ u3)
          have q1 : x1 = Int32.ofNat a := (v1 u1).trans ta
          have q3 : x3 = Int32.ofNat b := (v3 u3).trans tc
          rw [q1, q3] at g3
          have hab : a ≠ b := fun q => g3 (by rw [q])
          obtain ⟨da, g, hg, dg⟩ := DT_qu (d3 u3) (ta1 rfl)
          obtain ⟨db, g2, hg2, dg2⟩ := DT_qu (d3 u3) (tc1 rfl)
          rw [q1, q3, ix_55 (by omega)] at w5
          have hb := bit_0 dg hg tc6 w5
          have hb2 := hb
          rw [← da] at hb2
          have K4 := K_step N C3
          rw [← e4] at K4
          have ed := qr_ok hT e1 e2 e3 e4 ta tc ta6 tc6 hab hb2
          refine ⟨rfl, cm_wi (cm_wi (cm_wi D4 128 ((55 + x1).toNatClampNeg) ((D4.1 128 ((55 + x1).toNatClampNeg)) ||| (1 <<< (x3 &&& 31)))) 128 ((55 + x3).toNatClampNeg) (((cm_wi (D4) 128 ((55 + x1).toNatClampNeg) ((D4.1 128 ((55 + x1).toNatClampNeg)) ||| (1 <<< (x3 &&& 31)))).1 128 ((55 + x3).toNatClampNeg)) ||| (1 <<< (x1 &&& 31)))) 128 7 (((cm_wi (cm_wi (D4) 128 ((55 + x1).toNatClampNeg) ((D4.1 128 ((55 + x1).toNatClampNeg)) ||| (1 <<< (x3 &&& 31)))) 128 ((55 + x3).toNatClampNeg) (((cm_wi (D4) 128 ((55 + x1).toNatClampNeg) ((D4.1 128 ((55 + x1).toNatClampNeg)) ||| (1 <<< (x3 &&& 31)))).1 128 ((55 + x3).toNatClampNeg)) ||| (1 <<< (x1 &&& 31)))).1 128 7) + 1), rfl, ?_, fun _ => ?_⟩
          · rw [ed]
            exact Rq_wC (by omega) (Rq_wC (by omega) (Rq_w (Rq_w (Rq_w r4))))
          · rw [ed]
            refine DT_quarrel (C := C3) (F := D3.1 128) (m := a) (o := b) (d3 u3) (KN_tr (KN_tr K4.2 (KN_w (by omega))) (KN_w (by omega))) ((w8 (by omega)).trans ((w8 (by omega)).trans K4.1.2)) (ta1 rfl) (tc1 rfl) hab hb ?_ ?_ ?_ ?_
            · unfold DA
              rw [wC, if_neg (by omega), wC, if_pos ⟨rfl, rfl⟩, da]
            · unfold DA
              rw [wC, if_pos ⟨rfl, rfl⟩, db]
            · intro i j hij
              unfold DA
              rw [wC, if_neg (by omega), wC, if_neg (by omega)]
              exact K4.1.1 _ _ (by omega)
            · intro j hj
              show (cm_wi (cm_wi (cm_wi D4 128 ((55 + x1).toNatClampNeg) ((D4.1 128 ((55 + x1).toNatClampNeg)) ||| (1 <<< (x3 &&& 31)))) 128 ((55 + x3).toNatClampNeg) (((cm_wi (D4) 128 ((55 + x1).toNatClampNeg) ((D4.1 128 ((55 + x1).toNatClampNeg)) ||| (1 <<< (x3 &&& 31)))).1 128 ((55 + x3).toNatClampNeg)) ||| (1 <<< (x1 &&& 31)))) 128 7 (((cm_wi (cm_wi (D4) 128 ((55 + x1).toNatClampNeg) ((D4.1 128 ((55 + x1).toNatClampNeg)) ||| (1 <<< (x3 &&& 31)))) 128 ((55 + x3).toNatClampNeg) (((cm_wi (D4) 128 ((55 + x1).toNatClampNeg) ((D4.1 128 ((55 + x1).toNatClampNeg)) ||| (1 <<< (x3 &&& 31)))).1 128 ((55 + x3).toNatClampNeg)) ||| (1 <<< (x1 &&& 31)))).1 128 7) + 1)).1 128 j = _
              rw [q1, q3, ix_55 (by omega), ix_55 (by omega), wF, wF, if_neg (c := 7 = 55 + b) (by omega), wF, if_neg (c := 7 = 55 + a) (by omega), wF, wF, if_neg (c := 55 + b = 55 + a) (by omega), wF, f4]
        · have z6 : C4.1 2 9 ≠ 0 := fl_1 r4.2 (fn_ne0 h6)
          exact absurd y4 z6
      · have w5 : (decide (((D3.1 128 ((55 + x1).toNatClampNeg)) >>> (x3 &&& 31)) &&& 1 = 1)) = true := bi_1 h5
        show ∃ R, cm_Lc cm_ms 177 [.ref 124, .int 3, .int (D3.1 124 4)] (fm D3) R ∧ ∀ v M', R v M' → _
        refine ⟨_, cm_Lc_nm (R := fun X => mq N X D3) (cF_fail 3 C3) (m_wrong r3 (x := 3) (by decide)), ?_⟩
        rintro v M' ⟨C4, e4, rfl, D4, rfl, r4, f4⟩
        have y4 : C4.1 2 9 ≠ 0 := by rw [e4]; exact cF_fail_9n (by decide)
        show ∃ R, cm_Lc cm_ms 187 [.ref 124] (fm D4) R ∧ ∀ v M', R v M' → _
        refine ⟨_, cm_Lc_nm (R := fun X => mq N X D4) (cF_step N C4) (m_pass r4), ?_⟩
        rintro v M' ⟨C5, e5, rfl, D5, rfl, r5, f5⟩
        have y5 : C5.1 2 9 ≠ 0 := by rw [e5, cF_step_9]; exact y4
        show (ev_cmp 0 (D5.1 124 13) 0 = true → _) ∧ (ev_cmp 0 (D5.1 124 13) 0 = false → _)
        refine ⟨fun h7 => ?_, fun h7 => ?_⟩
        · have z7 : C5.1 2 9 = 0 := fl_0 r5.2 (fn_eq0 h7)
          exact absurd z7 y5
        · have z7 : C5.1 2 9 ≠ 0 := fl_1 r5.2 (fn_ne0 h7)
          show ml_K T N me mo ch (cF_quarrel T N C) none (fm D5)
          have u3 := z1
          have u2 : C2.1 2 9 = 0 := z_told (e3 ▸ u3)
          have u1 : C1.1 2 9 = 0 := z_step (e2 ▸ u2)
          have u0 : C.1 2 9 = 0 := z_told (e1 ▸ u1)
          obtain ⟨-, a, ta, ta6, ta1, ta2⟩ := told_v (hd u0).1 u0 (e1 ▸ u1)
          obtain ⟨-, b, tc, tc6, tc1, tc2⟩ := told_v (d2 u2).1 u2 (e3 ▸ u3)
          have q1 : x1 = Int32.ofNat a := (v1 u1).trans ta
          have q3 : x3 = Int32.ofNat b := (v3 u3).trans tc
          rw [q1, q3] at g3
          have hab : a ≠ b := fun q => g3 (by rw [q])
          obtain ⟨da, g, hg, dg⟩ := DT_qu (d3 u3) (ta1 rfl)
          rw [q1, q3, ix_55 (by omega)] at w5
          have hb := bit_1 w5
          rw [← da] at hb
          have ed : cF_quarrel T N C = C5 := by
            rw [e5, cF_step_id y4, e4]
            exact qr_no e1 e2 e3 ta tc ta6 tc6 hab hb
          refine ⟨rfl, D5, rfl, ?_, ?_⟩
          · rw [ed]
            exact r5
          · rw [ed]
            exact fun q => absurd q z7
noncomputable def hp_F (T N : Nat) (C : cm_M) : cm_M := if C.1 2 9 = 0 then cF_heap T N C else C
theorem col_cs (C : cm_M) : (cF_colour C = C ∧ ∃ c, c < 3 ∧ cF_col C = Int32.ofNat c) ∨ (cF_colour C = cF_fail 1 C ∧ cF_col C = -1) := by
  unfold cF_colour cF_col
  by_cases h1 : wt 11 C = true
  · rw [if_pos h1, if_pos h1]
    exact Or.inl ⟨rfl, 0, by omega, rfl⟩
  · rw [if_neg h1, if_neg h1]
    by_cases h2 : wt 12 C = true
    · rw [if_pos h2, if_pos h2]
      exact Or.inl ⟨rfl, 1, by omega, rfl⟩
    · rw [if_neg h2, if_neg h2]
      by_cases h3 : wt 13 C = true
      · rw [if_pos h3, if_pos h3]
        exact Or.inl ⟨rfl, 2, by omega, rfl⟩
      · rw [if_neg h3, if_neg h3]
        exact Or.inr ⟨rfl, rfl⟩
theorem col_v {C : cm_M} (h : (cF_colour C).1 2 9 = 0) : cF_colour C = C ∧ ∃ c, c < 3 ∧ cF_col C = Int32.ofNat c := by
  rcases col_cs C with q | q
  · exact q
  · rw [q.1] at h
    exact absurd h (cF_fail_9n (by decide))
theorem hp_bad {T N : Nat} {C C1 : cm_M} (e1 : C1 = cF_colour C) (z : C1.1 2 9 ≠ 0) : hp_F T N C = C1 := by
  subst e1
  unfold hp_F
  by_cases h : C.1 2 9 = 0
  · rw [if_pos h]
    rcases col_cs C with q | q
    · rw [q.1] at z
      exact absurd h z
    · unfold cF_heap
      dsimp only
      rw [if_pos q.2]
  · rw [if_neg h]
    rcases col_cs C with q | q
    · exact q.1.symm
    · rw [q.1, cF_fail_id h]
theorem i_of {x : Int32} (h : 0 ≤ x.toInt) : ∃ n : Nat, x = Int32.ofNat n ∧ (n : Int) = x.toInt ∧ n < 2147483648 := by
  have h2 := Int32.toInt_lt x
  refine ⟨x.toInt.toNat, ?_, by omega, by omega⟩
  apply Int32.toInt_inj.mp
  rw [fn_toInt (by omega)]
  omega
theorem DT_hp {T me mo ch c : Nat} {C : cm_M} {F : Nat → Int32} (hd : DT T me mo ch C F) (hc : c < 3) : ((C.1 T 18 >>> (Int32.ofNat c &&& 31)) &&& 1 = 0 ∧ F (66 + c) = 0) ∨ (¬ (C.1 T 18 >>> (Int32.ofNat c &&& 31)) &&& 1 = 0 ∧ 0 < (F (66 + c)).toInt) := by
  obtain ⟨-, -, -, -, -, -, -, hb, g1, g2, g3, g4⟩ := hd
  have g2' : C.1 T 18 = Int32.ofNat hb := g2
  rw [g2']
  have hbt := bit_t hb (by omega) c (by omega)
  by_cases hz : hb / 2 ^ c % 2 = 0
  · exact Or.inl ⟨hbt.mpr hz, (g4 c hc).1 hz⟩
  · refine Or.inr ⟨fun q => hz (hbt.mp q), ?_⟩
    obtain ⟨p1, p2, p3⟩ := (g4 c hc).2 hz
    obtain ⟨n, q1, q2, q3⟩ := i_of p2
    rw [p1, q1, fn_succ, fn_toInt (by omega)]
    omega
theorem whole_b {N : Nat} {lo hi : Int32} {C : cm_M} (h : (cF_takeWhole N lo hi C).1 2 9 = 0) : lo.toInt ≤ (C.1 2 5).toInt ∧ (C.1 2 5).toInt ≤ hi.toInt := by
  by_cases h2 : C.1 2 3 = 2
  · by_cases hb : (decide (lo ≤ C.1 2 5) && decide (C.1 2 5 ≤ hi)) = true
    · exact ⟨Int32.le_iff_toInt_le.mp (of_decide_eq_true (and_l hb)), Int32.le_iff_toInt_le.mp (of_decide_eq_true (and_r hb))⟩
    · rw [tkn_bd h2 (Bool.eq_false_iff.mpr hb)] at h
      exact absurd h (cF_fail_9n (by decide))
  · rw [tkn_form h2] at h
    exact absurd h (cF_fail_9n (by decide))
theorem hp_no {T N c : Nat} {C C1 : cm_M} (e1 : C1 = cF_colour C) (h0 : C.1 2 9 = 0) (hc : cF_col C = Int32.ofNat c) (c3 : c < 3) (h : ¬ (C1.1 T 18 >>> (Int32.ofNat c &&& 31)) &&& 1 = 0) : hp_F T N C = cF_fail 3 C1 := by
  subst e1
  unfold hp_F
  rw [if_pos h0]
  unfold cF_heap
  dsimp only
  rw [hc, if_neg (of_m1 (by omega)), if_neg h]
theorem hp_mid {T N c : Nat} {C C1 C2 C3 : cm_M} (e1 : C1 = cF_colour C) (h0 : C.1 2 9 = 0) (hc : cF_col C = Int32.ofNat c) (c3 : c < 3) (h : (C1.1 T 18 >>> (Int32.ofNat c &&& 31)) &&& 1 = 0) (e2 : C2 = cF_step N C1) (e3 : C3 = cF_takeWhole N 0 999 C2) (z : C3.1 2 9 ≠ 0) : hp_F T N C = C3 := by
  subst e3 e2 e1
  unfold hp_F
  rw [if_pos h0]
  unfold cF_heap
  dsimp only
  rw [hc, if_neg (of_m1 (by omega)), if_pos h, if_neg z]
theorem hpq_ok {T N c : Nat} {C C1 C2 C3 : cm_M} (e1 : C1 = cF_colour C) (h0 : C.1 2 9 = 0) (hc : cF_col C = Int32.ofNat c) (c3 : c < 3) (h : (C1.1 T 18 >>> (Int32.ofNat c &&& 31)) &&& 1 = 0) (e2 : C2 = cF_step N C1) (e3 : C3 = cF_takeWhole N 0 999 C2) (z : C3.1 2 9 = 0) : hp_F T N C = cm_wi (cm_wi C3 (T + 12) c (C2.1 2 5)) T 18 (C3.1 T 18 ||| (1 <<< (Int32.ofNat c &&& 31))) := by
  subst e3 e2 e1
  unfold hp_F
  rw [if_pos h0]
  unfold cF_heap
  dsimp only
  rw [hc, if_neg (of_m1 (by omega)), if_pos h, if_pos z, if_neg (by rw [fn_toInt (by omega)]; omega)]
  unfold cF_hput
  rw [fn_nat (by omega)]
set_option maxRecDepth 100000 in
set_option maxHeartbeats 1000000 in
theorem m_heapLine {T N me mo ch : Nat} {C D : cm_M} (hT : 6 ≤ T) (hT2 : T ≤ 19) (h : Rq N C D) (hd : C.1 2 9 = 0 → DT T me mo ch C (D.1 128)) : cm_Lc cm_ms 202 [.ref 124] (fm D) (ml_K T N me mo ch (hp_F T N C)) := by
  refine lb_st0 (mi := mr_202) rfl 150 ?_
  show ∃ R, cm_Lc cm_ms 190 [.ref 124] (fm D) R ∧ ∀ v M', R v M' → _
  refine ⟨_, cm_Lc_nm (R := ka N D (cF_col C)) (cF_colour C) (m_colour h), ?_⟩
  rintro v M' ⟨C1, e1, x1, rfl, D1, rfl, r1, f1, v1⟩
  have d1 : C1.1 2 9 = 0 → DT T me mo ch C1 (D1.1 128) := by rw [e1]; exact DT_go hT hd (K_colour C) z_col f1
  show (ev_cmp 1 (D1.1 124 13) 0 = true → _) ∧ (ev_cmp 1 (D1.1 124 13) 0 = false → _)
  refine ⟨fun h1 => ?_, fun h1 => ?_⟩
  · have z1 : C1.1 2 9 ≠ 0 := fl_1 r1.2 (fn_ne h1)
    show ∃ R, cm_Lc cm_ms 187 [.ref 124] (fm D1) R ∧ ∀ v M', R v M' → _
    refine ⟨_, cm_Lc_nm (R := fun X => mq N X D1) (cF_step N C1) (m_pass r1), ?_⟩
    rintro v M' ⟨C2, e2, rfl, D2, rfl, r2, f2⟩
    have y2 : C2.1 2 9 ≠ 0 := by rw [e2, cF_step_9]; exact z1
    have d2 : C2.1 2 9 = 0 → DT T me mo ch C2 (D2.1 128) := by rw [e2]; exact DT_go hT d1 (K_step N C1) z_step f2
    show ∃ R, cm_Lc cm_ms 188 [.ref 124, .int 0, .int 999] (fm D2) R ∧ ∀ v M', R v M' → _
    refine ⟨_, cm_Lc_nm (R := ka N D2 (C2.1 2 5)) (cF_takeWhole N 0 999 C2) (m_number 0 999 r2), ?_⟩
    rintro v M' ⟨C3, e3, x3, rfl, D3, rfl, r3, f3, v3⟩
    have y3 : C3.1 2 9 ≠ 0 := fun q => y2 (z_whole (e3 ▸ q))
    have d3 : C3.1 2 9 = 0 → DT T me mo ch C3 (D3.1 128) := by rw [e3]; exact DT_go hT d2 (K_takeWhole N 0 999 C2) z_whole f3
    show (ev_cmp 0 (D3.1 124 13) 0 = true → _) ∧ (ev_cmp 0 (D3.1 124 13) 0 = false → _)
    refine ⟨fun h2 => ?_, fun h2 => ?_⟩
    · have z2 : C3.1 2 9 = 0 := fl_0 r3.2 (fn_eq0 h2)
      exact absurd z2 y3
    · have z2 : C3.1 2 9 ≠ 0 := fl_1 r3.2 (fn_ne0 h2)
      show ml_K T N me mo ch (hp_F T N C) none (fm D3)
      have ed : hp_F T N C = C3 := by
        rw [e3, tkn_id y2, e2, cF_step_id z1]
        exact hp_bad e1 z1
      refine ⟨rfl, D3, rfl, ?_, ?_⟩
      · rw [ed]
        exact r3
      · rw [ed]
        exact fun q => absurd q z2
  · have z1 : C1.1 2 9 = 0 := fl_0 r1.2 (fn_eq h1)
    show (ev_cmp 5 (D1.1 128 ((66 + x1).toNatClampNeg)) 0 = true → _) ∧ (ev_cmp 5 (D1.1 128 ((66 + x1).toNatClampNeg)) 0 = false → _)
    refine ⟨fun h3 => ?_, fun h3 => ?_⟩
    · have g3 := fn_le h3
      show ∃ R, cm_Lc cm_ms 187 [.ref 124] (fm D1) R ∧ ∀ v M', R v M' → _
      refine ⟨_, cm_Lc_nm (R := fun X => mq N X D1) (cF_step N C1) (m_pass r1), ?_⟩
      rintro v M' ⟨C2, e2, rfl, D2, rfl, r2, f2⟩
      have y2 : C2.1 2 9 = 0 := by rw [e2, cF_step_9]; exact z1
      have d2 : C2.1 2 9 = 0 → DT T me mo ch C2 (D2.1 128) := by rw [e2]; exact DT_go hT d1 (K_step N C1) z_step f2
      show ∃ R, cm_Lc cm_ms 188 [.ref 124, .int 0, .int 999] (fm D2) R ∧ ∀ v M', R v M' → _
      refine ⟨_, cm_Lc_nm (R := ka N D2 (C2.1 2 5)) (cF_takeWhole N 0 999 C2) (m_number 0 999 r2), ?_⟩
      rintro v M' ⟨C3, e3, x3, rfl, D3, rfl, r3, f3, v3⟩
      have d3 : C3.1 2 9 = 0 → DT T me mo ch C3 (D3.1 128) := by rw [e3]; exact DT_go hT d2 (K_takeWhole N 0 999 C2) z_whole f3
      show (ev_cmp 0 (D3.1 124 13) 0 = true → _) ∧ (ev_cmp 0 (D3.1 124 13) 0 = false → _)
      refine ⟨fun h4 => ?_, fun h4 => ?_⟩
      · have z4 : C3.1 2 9 = 0 := fl_0 r3.2 (fn_eq0 h4)
        show ml_K T N me mo ch (hp_F T N C) none (cm_wi (cm_wi (fm D3) 128 ((66 + x1).toNatClampNeg) (x3 + 1)) 128 9 (((cm_wi (fm D3) 128 ((66 + x1).toNatClampNeg) (x3 + 1)).1 128 9) + 1))
        have u0 : C.1 2 9 = 0 := z_col (e1 ▸ z1)
        obtain ⟨-, c, c3, hc⟩ := col_v (e1 ▸ z1)
        have q1 : x1 = Int32.ofNat c := (v1 z1).trans hc
        rw [q1, ix_66 (by omega)] at g3
        have hb : (C1.1 T 18 >>> (Int32.ofNat c &&& 31)) &&& 1 = 0 := by
          rcases DT_hp (d1 z1) c3 with q | q
          · exact q.1
          · have hz : (0 : Int32).toInt = 0 := by decide
            have := q.2
            omega
        have ed := hpq_ok e1 u0 hc c3 hb e2 e3 z4
        have K12 := K_step N C1
        rw [← e2] at K12
        have K23 := K_takeWhole N 0 999 C2
        rw [← e3] at K23
        have K13 := K_and K12 K23
        obtain ⟨b1, b2⟩ := whole_b (e3 ▸ z4)
        have bz : (0 : Int32).toInt = 0 := by decide
        have b9 : (999 : Int32).toInt = 999 := by decide
        refine ⟨rfl, cm_wi (cm_wi D3 128 ((66 + x1).toNatClampNeg) (x3 + 1)) 128 9 (((cm_wi (D3) 128 ((66 + x1).toNatClampNeg) (x3 + 1)).1 128 9) + 1), rfl, ?_, fun _ => ?_⟩
        · rw [ed]
          exact Rq_wC (by omega) (Rq_wC (by omega) (Rq_w (Rq_w r3)))
        · rw [ed]
          refine DT_heap (C := C1) (F := D1.1 128) (c := c) (a := C2.1 2 5) (d1 z1) (KN_tr (KN_tr K13.2 (KN_w (by omega))) (KN_w hT)) ((w8 hT).trans ((w8 (by omega)).trans K13.1.2)) c3 hb (by omega) (by omega) ?_ ?_ ?_ ?_
          · unfold DA
            rw [wC, if_neg (by omega), wC, if_pos ⟨rfl, rfl⟩]
          · unfold DA
            rw [wC, if_pos ⟨rfl, rfl⟩]
            show C3.1 T 18 ||| _ = C1.1 T 18 ||| _
            rw [K13.1.1 T 18 hT]
          · intro i j hij hij2
            unfold DA
            rw [wC, if_neg (by omega), wC, if_neg (by omega)]
            exact K13.1.1 _ _ (by omega)
          · intro j hj
            show (cm_wi (cm_wi D3 128 ((66 + x1).toNatClampNeg) (x3 + 1)) 128 9 (((cm_wi (D3) 128 ((66 + x1).toNatClampNeg) (x3 + 1)).1 128 9) + 1)).1 128 j = _
            rw [q1, v3 z4, ix_66 (by omega), wF, wF, if_neg (c := 9 = 66 + c) (by omega), wF, f3, f2]
      · have z4 : C3.1 2 9 ≠ 0 := fl_1 r3.2 (fn_ne0 h4)
        show ml_K T N me mo ch (hp_F T N C) none (fm D3)
        have u0 : C.1 2 9 = 0 := z_col (e1 ▸ z1)
        obtain ⟨-, c, c3, hc⟩ := col_v (e1 ▸ z1)
        have q1 : x1 = Int32.ofNat c := (v1 z1).trans hc
        rw [q1, ix_66 (by omega)] at g3
        have hb : (C1.1 T 18 >>> (Int32.ofNat c &&& 31)) &&& 1 = 0 := by
          rcases DT_hp (d1 z1) c3 with q | q
          · exact q.1
          · have hz : (0 : Int32).toInt = 0 := by decide
            have := q.2
            omega
        have ed : hp_F T N C = C3 := hp_mid e1 u0 hc c3 hb e2 e3 z4
        refine ⟨rfl, D3, rfl, ?_, ?_⟩
        · rw [ed]
          exact r3
        · rw [ed]
          exact fun q => absurd q z4
    · have g3 := fn_nle h3
      show ∃ R, cm_Lc cm_ms 177 [.ref 124, .int 3, .int (D1.1 124 4)] (fm D1) R ∧ ∀ v M', R v M' → _
      refine ⟨_, cm_Lc_nm (R := fun X => mq N X D1) (cF_fail 3 C1) (m_wrong r1 (x := 3) (by decide)), ?_⟩
      rintro v M' ⟨C2, e2, rfl, D2, rfl, r2, f2⟩
      have y2 : C2.1 2 9 ≠ 0 := by rw [e2]; exact cF_fail_9n (by decide)
      show ∃ R, cm_Lc cm_ms 187 [.ref 124] (fm D2) R ∧ ∀ v M', R v M' → _
      refine ⟨_, cm_Lc_nm (R := fun X => mq N X D2) (cF_step N C2) (m_pass r2), ?_⟩
      rintro v M' ⟨C3, e3, rfl, D3, rfl, r3, f3⟩
      have y3 : C3.1 2 9 ≠ 0 := by rw [e3, cF_step_9]; exact y2
      show ∃ R, cm_Lc cm_ms 188 [.ref 124, .int 0, .int 999] (fm D3) R ∧ ∀ v M', R v M' → _
      refine ⟨_, cm_Lc_nm (R := ka N D3 (C3.1 2 5)) (cF_takeWhole N 0 999 C3) (m_number 0 999 r3), ?_⟩
      rintro v M' ⟨C4, e4, x4, rfl, D4, rfl, r4, f4, v4⟩
      have y4 : C4.1 2 9 ≠ 0 := fun q => y3 (z_whole (e4 ▸ q))
      show (ev_cmp 0 (D4.1 124 13) 0 = true → _) ∧ (ev_cmp 0 (D4.1 124 13) 0 = false → _)
      refine ⟨fun h5 => ?_, fun h5 => ?_⟩
      · have z5 : C4.1 2 9 = 0 := fl_0 r4.2 (fn_eq0 h5)
        exact absurd z5 y4
      · have z5 : C4.1 2 9 ≠ 0 := fl_1 r4.2 (fn_ne0 h5)
        show ml_K T N me mo ch (hp_F T N C) none (fm D4)
        have u0 : C.1 2 9 = 0 := z_col (e1 ▸ z1)
        obtain ⟨-, c, c3, hc⟩ := col_v (e1 ▸ z1)
        have q1 : x1 = Int32.ofNat c := (v1 z1).trans hc
        rw [q1, ix_66 (by omega)] at g3
        have hb : ¬ (C1.1 T 18 >>> (Int32.ofNat c &&& 31)) &&& 1 = 0 := by
          rcases DT_hp (d1 z1) c3 with q | q
          · rw [q.2] at g3
            exact absurd g3 (by decide)
          · exact q.1
        have ed : hp_F T N C = C4 := by
          rw [e4, tkn_id y3, e3, cF_step_id y2, e2]
          exact hp_no e1 u0 hc c3 hb
        refine ⟨rfl, D4, rfl, ?_, ?_⟩
        · rw [ed]
          exact r4
        · rw [ed]
          exact fun q => absurd q z5
theorem KN_8 {C : cm_M} {v : Int32} : KN C (cm_wi C 2 8 v) := ⟨rfl, rfl, rfl, rfl⟩
theorem K8_6 {C : cm_M} {v : Int32} {c j : Nat} (hc : 6 ≤ c) : (cm_wi C 2 8 v).1 c j = C.1 c j := by
  show (if c = 2 ∧ j = 8 then _ else _) = _
  rw [if_neg (by omega)]
noncomputable def tl_F (T N : Nat) (C : cm_M) : cm_M := if C.1 2 8 = 0 then cF_town T N (cF_step N C) else cF_fail 3 C
set_option maxRecDepth 100000 in
set_option maxHeartbeats 1000000 in
theorem m_townLine {T N me mo ch : Nat} {C D : cm_M} (hT : 6 ≤ T) (hT2 : T ≤ 19) (h : Rq N C D) (h0 : C.1 2 9 = 0) (hd : DT T me mo ch C (D.1 128)) : cm_Lc cm_ms 195 [.ref 124] (fm D) (ml_K T N me mo ch (tl_F T N C)) := by
  obtain ⟨⟨a1, a2, a3⟩, -⟩ := id hd.2
  refine lb_st0 (mi := mr_195) rfl 150 ?_
  show (ev_cmp 5 (D.1 128 10) 0 = true → _) ∧ (ev_cmp 5 (D.1 128 10) 0 = false → _)
  refine ⟨fun h1 => ?_, fun h1 => ?_⟩
  · have g1 := fn_le h1
    show (ev_cmp 0 (D.1 124 13) 0 = true → _) ∧ (ev_cmp 0 (D.1 124 13) 0 = false → _)
    refine ⟨fun h2 => ?_, fun h2 => ?_⟩
    · have z2 : C.1 2 9 = 0 := fl_0 h.2 (fn_eq0 h2)
      show ∃ R, cm_Lc cm_ms 176 [.ref 124] (fm D) R ∧ ∀ v M', R v M' → _
      refine ⟨_, cm_Lc_nm (R := fun X => mq N X D) (cF_step N C) (m_next h z2), ?_⟩
      rintro v M' ⟨C1, e1, rfl, D1, rfl, r1, f1⟩
      have y1 : C1.1 2 9 = 0 := by rw [e1, cF_step_9]; exact z2
      show ∃ R, cm_Lc cm_ms 189 [.ref 124, .ref (1001 + 2 * 21), .int 0, .int 9] (fm D1) R ∧ ∀ v M', R v M' → _
      refine ⟨_, cm_Lc_nm (R := ka N D1 ((cF_takeWord N 8 C1).1 2 5)) (cF_takeWhole N 0 9 (cF_takeWord N 8 C1)) (m_after2 (t := 21) (t2 := 8) (tkw_21 N) (by decide) 0 9 r1), ?_⟩
      rintro v M' ⟨C2, e2, x2, rfl, D2, rfl, r2, f2, v2⟩
      show ∃ R, cm_Lc cm_ms 189 [.ref 124, .ref (1001 + 2 * 22), .int 0, .int 20] (cm_wi (fm D2) 128 0 x2) R ∧ ∀ v M', R v M' → _
      refine ⟨_, cm_Lc_nm (R := ka N (cm_wi D2 128 0 x2) ((cF_takeWord N 9 (cm_wi C2 T 0 ((cF_takeWord N 8 C1).1 2 5))).1 2 5)) (cF_takeWhole N 0 20 (cF_takeWord N 9 (cm_wi C2 T 0 ((cF_takeWord N 8 C1).1 2 5)))) (m_after2 (t := 22) (t2 := 9) (D := cm_wi D2 128 0 x2) (tkw_22 N) (by decide) 0 20 (Rq_wC (by omega) (Rq_w r2))), ?_⟩
      rintro v M' ⟨C3, e3, x3, rfl, D3, rfl, r3, f3, v3⟩
      show ∃ R, cm_Lc cm_ms 189 [.ref 124, .ref (1001 + 2 * 23), .int 0, .int 100] (cm_wi (fm D3) 128 1 x3) R ∧ ∀ v M', R v M' → _
      refine ⟨_, cm_Lc_nm (R := ka N (cm_wi D3 128 1 x3) ((cF_takeWord N 10 (cm_wi C3 T 1 ((cF_takeWord N 9 (cm_wi C2 T 0 ((cF_takeWord N 8 C1).1 2 5))).1 2 5))).1 2 5)) (cF_takeWhole N 0 100 (cF_takeWord N 10 (cm_wi C3 T 1 ((cF_takeWord N 9 (cm_wi C2 T 0 ((cF_takeWord N 8 C1).1 2 5))).1 2 5)))) (m_after2 (t := 23) (t2 := 10) (D := cm_wi D3 128 1 x3) (tkw_23 N) (by decide) 0 100 (Rq_wC (by omega) (Rq_w r3))), ?_⟩
      rintro v M' ⟨C4, e4, x4, rfl, D4, rfl, r4, f4, v4⟩
      show (ev_cmp 1 (D4.1 124 13) 0 = true → _) ∧ (ev_cmp 1 (D4.1 124 13) 0 = false → _)
      refine ⟨fun h3 => ?_, fun h3 => ?_⟩
      · have z3 : C4.1 2 9 ≠ 0 := fl_1 r4.2 (fn_ne h3)
        show ml_K T N me mo ch (tl_F T N C) none (cm_wi (fm D4) 128 2 x4)
        have h8 : C.1 2 8 = 0 := by
          rcases a1 with q | q
          · exact q
          · rw [a2, q] at g1
            exact absurd g1 (by decide)
        have ed : tl_F T N C = cm_wi (cm_wi C4 T 2 ((cF_takeWord N 10 (cm_wi C3 T 1 ((cF_takeWord N 9 (cm_wi C2 T 0 ((cF_takeWord N 8 C1).1 2 5))).1 2 5))).1 2 5)) 2 8 1 := by
          unfold tl_F
          rw [if_pos h8]
          unfold cF_town
          dsimp only
          subst e4 e3 e2 e1
          rfl
        have r9 : (cm_wi (cm_wi C4 T 2 ((cF_takeWord N 10 (cm_wi C3 T 1 ((cF_takeWord N 9 (cm_wi C2 T 0 ((cF_takeWord N 8 C1).1 2 5))).1 2 5))).1 2 5)) 2 8 1).1 2 9 = C4.1 2 9 := w9 (C := C4) hT
        refine ⟨rfl, cm_wi D4 128 2 x4, rfl, ?_, ?_⟩
        · rw [ed]
          exact Rq_8 (Rq_wC (by omega) (Rq_w r4))
        · rw [ed, r9]
          exact fun q => absurd q z3
      · have z3 : C4.1 2 9 = 0 := fl_0 r4.2 (fn_eq h3)
        show ml_K T N me mo ch (tl_F T N C) none (cm_wi (cm_wi (fm D4) 128 2 x4) 128 10 1)
        have h8 : C.1 2 8 = 0 := by
          rcases a1 with q | q
          · exact q
          · rw [a2, q] at g1
            exact absurd g1 (by decide)
        have ed : tl_F T N C = cm_wi (cm_wi C4 T 2 ((cF_takeWord N 10 (cm_wi C3 T 1 ((cF_takeWord N 9 (cm_wi C2 T 0 ((cF_takeWord N 8 C1).1 2 5))).1 2 5))).1 2 5)) 2 8 1 := by
          unfold tl_F
          rw [if_pos h8]
          unfold cF_town
          dsimp only
          subst e4 e3 e2 e1
          rfl
        have r9 : (cm_wi (cm_wi C4 T 2 ((cF_takeWord N 10 (cm_wi C3 T 1 ((cF_takeWord N 9 (cm_wi C2 T 0 ((cF_takeWord N 8 C1).1 2 5))).1 2 5))).1 2 5)) 2 8 1).1 2 9 = C4.1 2 9 := w9 (C := C4) hT
        have u3 : C3.1 2 9 = 0 := (w9 hT).symm.trans (z_word (z_whole (e4 ▸ z3)))
        have u2 : C2.1 2 9 = 0 := (w9 hT).symm.trans (z_word (z_whole (e3 ▸ u3)))
        have K01 := K_step N C
        rw [← e1] at K01
        have K12 := K_and (K_takeWord N 8 C1) (K_takeWhole N 0 9 _)
        rw [← e2] at K12
        have K23 := K_and (K_takeWord N 9 (cm_wi C2 T 0 ((cF_takeWord N 8 C1).1 2 5))) (K_takeWhole N 0 20 _)
        rw [← e3] at K23
        have K34 := K_and (K_takeWord N 10 (cm_wi C3 T 1 ((cF_takeWord N 9 (cm_wi C2 T 0 ((cF_takeWord N 8 C1).1 2 5))).1 2 5))) (K_takeWhole N 0 100 _)
        rw [← e4] at K34
        refine ⟨rfl, cm_wi (cm_wi D4 128 2 x4) 128 10 1, rfl, ?_, fun _ => ?_⟩
        · rw [ed]
          exact Rq_8 (Rq_wC (by omega) (Rq_w (Rq_w r4)))
        · rw [ed]
          refine DT_town (C := C) (F := D.1 128) (x := x2) (y := x3) (z := x4) hd (KN_tr (KN_tr K01.2 K12.2) (KN_tr (KN_tr (KN_w hT) K23.2) (KN_tr (KN_tr (KN_w hT) K34.2) (KN_tr (KN_w hT) KN_8)))) rfl ?_ ?_ ?_ ?_ ?_
          · show (cm_wi (cm_wi C4 T 2 ((cF_takeWord N 10 (cm_wi C3 T 1 ((cF_takeWord N 9 (cm_wi C2 T 0 ((cF_takeWord N 8 C1).1 2 5))).1 2 5))).1 2 5)) 2 8 1).1 T 0 = _
            rw [K8_6 hT, wC, if_neg (by omega), K34.1.1 T 0 hT, wC, if_neg (by omega), K23.1.1 T 0 hT, wC, if_pos ⟨rfl, rfl⟩]
            exact (v2 u2).symm
          · show (cm_wi (cm_wi C4 T 2 ((cF_takeWord N 10 (cm_wi C3 T 1 ((cF_takeWord N 9 (cm_wi C2 T 0 ((cF_takeWord N 8 C1).1 2 5))).1 2 5))).1 2 5)) 2 8 1).1 T 1 = _
            rw [K8_6 hT, wC, if_neg (by omega), K34.1.1 T 1 hT, wC, if_pos ⟨rfl, rfl⟩]
            exact (v3 u3).symm
          · show (cm_wi (cm_wi C4 T 2 ((cF_takeWord N 10 (cm_wi C3 T 1 ((cF_takeWord N 9 (cm_wi C2 T 0 ((cF_takeWord N 8 C1).1 2 5))).1 2 5))).1 2 5)) 2 8 1).1 T 2 = _
            rw [K8_6 hT, wC, if_pos ⟨rfl, rfl⟩]
            exact (v4 z3).symm
          · intro i j hij
            unfold DA
            rw [K8_6 (by omega), wC, if_neg (by omega), K34.1.1 _ _ (by omega), wC, if_neg (by omega), K23.1.1 _ _ (by omega), wC, if_neg (by omega), K12.1.1 _ _ (by omega), K01.1.1 _ _ (by omega)]
          · intro j hj
            show (cm_wi (cm_wi D4 128 2 x4) 128 10 1).1 128 j = _
            rw [wF, wF, f4, wF, f3, wF, f2, f1]
    · have z2 : C.1 2 9 ≠ 0 := fl_1 h.2 (fn_ne0 h2)
      exact absurd h0 z2
  · have g1 := fn_nle h1
    show ∃ R, cm_Lc cm_ms 177 [.ref 124, .int 3, .int (D.1 124 4)] (fm D) R ∧ ∀ v M', R v M' → _
    refine ⟨_, cm_Lc_nm (R := fun X => mq N X D) (cF_fail 3 C) (m_wrong h (x := 3) (by decide)), ?_⟩
    rintro v M' ⟨C1, e1, rfl, D1, rfl, r1, f1⟩
    have y1 : C1.1 2 9 ≠ 0 := by rw [e1]; exact cF_fail_9n (by decide)
    show (ev_cmp 0 (D1.1 124 13) 0 = true → _) ∧ (ev_cmp 0 (D1.1 124 13) 0 = false → _)
    refine ⟨fun h4 => ?_, fun h4 => ?_⟩
    · have z4 : C1.1 2 9 = 0 := fl_0 r1.2 (fn_eq0 h4)
      exact absurd z4 y1
    · have z4 : C1.1 2 9 ≠ 0 := fl_1 r1.2 (fn_ne0 h4)
      show ml_K T N me mo ch (tl_F T N C) none (fm D1)
      have h8 : ¬ C.1 2 8 = 0 := fun q => by
        rw [a2, q] at g1
        exact absurd g1 (by decide)
      have ed : tl_F T N C = C1 := by
        unfold tl_F
        rw [if_neg h8, e1]
      refine ⟨rfl, D1, rfl, ?_, ?_⟩
      · rw [ed]
        exact r1
      · rw [ed]
        exact fun q => absurd q z4
theorem sw_k {x : Int32} {lo hi : Int} {offs : List Int} {A : Prop} {B : Int → Prop} (j0 : Nat) (o0 : Int) (ho : offs[j0]? = some o0) (hx : x.toInt = lo + (j0 : Int)) (hn : ¬ (x.toInt < lo ∨ hi < x.toInt)) (h : B o0) : (x.toInt < lo ∨ hi < x.toInt → A) ∧ (∀ (j : Nat) (o : Int), offs[j]? = some o → x.toInt = lo + (j : Int) → B o) := by
  refine ⟨fun q => absurd q hn, fun j o h1 h2 => ?_⟩
  have : j = j0 := by omega
  subst this
  rw [ho] at h1
  cases h1
  exact h
theorem sw_d {x : Int32} {lo hi : Int} {offs : List Int} {A : Prop} {B : Int → Prop} (hl : lo + (offs.length : Int) = hi + 1) (hx : x.toInt < lo ∨ hi < x.toInt) (h : A) : (x.toInt < lo ∨ hi < x.toInt → A) ∧ (∀ (j : Nat) (o : Int), offs[j]? = some o → x.toInt = lo + (j : Int) → B o) := by
  refine ⟨fun _ => h, fun j o h1 h2 => ?_⟩
  have h3 := (List.getElem?_eq_some_iff.mp h1).1
  omega
noncomputable def bcF (x : Int32) : Int32 :=
  let us := fun (a b : Int32) => (a.toUInt32 >>> (b.toUInt32 &&& Int32.toUInt32 31)).toInt32
  let x1 := x - (us x 1 &&& 1431655765)
  let x2 := (x1 &&& 858993459) + (us x1 2 &&& 858993459)
  let x3 := (x2 + us x2 4) &&& 252645135
  let x4 := x3 + us x3 8
  let x5 := x4 + us x4 16
  x5 &&& 63
set_option maxRecDepth 100000 in
theorem bc_t : ∀ a, a < 64 → bcF (Int32.ofNat a) = Int32.ofNat (pc a) := by decide +kernel
set_option maxRecDepth 100000 in
theorem f_bc (x : Int32) (M : cm_M) : cm_Lc cm_ms 0 [.int x] M (fun v M' => v = some (.int (bcF x)) ∧ M' = M) := by
  refine lb_st0 (mi := mr_0) rfl 60 ?_
  exact ⟨rfl, rfl⟩
theorem pc_6 (x : Nat) : pc x ≤ 6 := by
  unfold pc
  omega
theorem su_le (f : Nat → Nat) : ∀ n, su f n ≤ 6 * n
  | 0 => Nat.le_refl _
  | n + 1 => by
    unfold su
    have := su_le f n
    have := pc_6 (f n)
    omega
theorem su_z {f : Nat → Nat} {n : Nat} (h : ∀ j, n ≤ j → f j = 0) : ∀ d, su f (n + d) = su f n
  | 0 => rfl
  | d + 1 => by
    show su f (n + d) + pc (f (n + d)) = _
    rw [su_z h d, h (n + d) (by omega)]
    try rfl
theorem su_zz {f : Nat → Nat} {n m : Nat} (h : ∀ j, n ≤ j → f j = 0) (hnm : n ≤ m) : su f m = su f n := by
  have := su_z h (m - n)
  rwa [Nat.add_sub_of_le hnm] at this
theorem half_t : ∀ q, q < 100 → Int32.ofNat (2 * q) / 2 = Int32.ofNat q := by decide +kernel
noncomputable def bS (A : Nat → Int32) : Nat → Int32
  | 0 => 0
  | i + 1 => bS A i + bcF (A i)
theorem bS_su {A : Nat → Int32} {f : Nat → Nat} : ∀ n, (∀ j, j < n → A j = Int32.ofNat (f j) ∧ f j < 64) → bS A n = Int32.ofNat (su f n)
  | 0, _ => rfl
  | n + 1, h => by
    have q := h n (by omega)
    unfold bS su
    rw [bS_su n (fun j hj => h j (by omega)), q.1, bc_t _ q.2, ← Int32.ofNat_add]
noncomputable def bo_J10 (x : Int32) (M : cm_M) (S : cm_S) : Prop := ∃ i, i ≤ min x.toNatClampNeg 6 ∧ S = (4, [(0, .ref 10), (1, .int x), (2, .int (bS (M.1 10) i)), (3, .int (Int32.ofNat i))], [], M)
set_option maxRecDepth 100000 in
set_option maxHeartbeats 4000000 in
theorem f_bits10 (x : Int32) (M : cm_M) : cm_Lc cm_ms 12 [.ref 10, .int x] M (fun v M' => v = some (.int (bS (M.1 10) (min x.toNatClampNeg 6))) ∧ M' = M) := by
  have hx : x.toNatClampNeg = x.toInt.toNat := rfl
  refine lb_of (mi := mr_12) rfl [(4, [0, 1, 2, 3])] (bo_J10 x M) 40 (fun S hS => ?_) 10 ?_
  · obtain ⟨i, hi, rfl⟩ := hS
    show (ev_cmp 3 (Int32.ofNat i) x = true → _) ∧ (ev_cmp 3 (Int32.ofNat i) x = false → (ev_cmp 3 (Int32.ofNat i) (Int32.ofNat 6) = true → _) ∧ (ev_cmp 3 (Int32.ofNat i) (Int32.ofNat 6) = false → ∃ R, cm_Lc cm_ms 0 [.int (M.1 10 (Int32.ofNat i).toNatClampNeg)] M R ∧ ∀ v M', R v M' → _))
    refine ⟨fun h1 => ?_, fun h1 => ⟨fun h2 => ?_, fun h2 => ⟨_, f_bc _ _, ?_⟩⟩⟩
    · have g := fn_ge h1
      rw [fn_toInt (by omega)] at g
      have e : min x.toNatClampNeg 6 = i := by omega
      exact ⟨by rw [e], rfl⟩
    · have g := fn_ge h2
      rw [fn_toInt (by omega), fn_toInt (by omega)] at g
      have e : min x.toNatClampNeg 6 = i := by omega
      exact ⟨by rw [e], rfl⟩
    · rintro v M' ⟨rfl, rfl⟩
      have g1 := fn_nge h1
      have g2 := fn_nge h2
      rw [fn_toInt (by omega)] at g1
      rw [fn_toInt (by omega), fn_toInt (by omega)] at g2
      show bo_J10 x M' (4, [(0, .ref 10), (1, .int x), (2, .int (bS (M'.1 10) i + bcF (M'.1 10 (Int32.ofNat i).toNatClampNeg))), (3, .int (Int32.ofNat i + 1))], [], M')
      rw [fn_nat (by omega), fn_succ]
      exact ⟨i + 1, by omega, rfl⟩
  · show bo_J10 x M (4, [(0, .ref 10), (1, .int x), (2, .int 0), (3, .int (Int32.ofNat 0))], [], M)
    exact ⟨0, Nat.zero_le _, rfl⟩
noncomputable def bo_J15 (x : Int32) (M : cm_M) (S : cm_S) : Prop := ∃ i, i ≤ min x.toNatClampNeg 5 ∧ S = (4, [(0, .ref 15), (1, .int x), (2, .int (bS (M.1 15) i)), (3, .int (Int32.ofNat i))], [], M)
set_option maxRecDepth 100000 in
set_option maxHeartbeats 4000000 in
theorem f_bits15 (x : Int32) (M : cm_M) : cm_Lc cm_ms 12 [.ref 15, .int x] M (fun v M' => v = some (.int (bS (M.1 15) (min x.toNatClampNeg 5))) ∧ M' = M) := by
  have hx : x.toNatClampNeg = x.toInt.toNat := rfl
  refine lb_of (mi := mr_12) rfl [(4, [0, 1, 2, 3])] (bo_J15 x M) 40 (fun S hS => ?_) 10 ?_
  · obtain ⟨i, hi, rfl⟩ := hS
    show (ev_cmp 3 (Int32.ofNat i) x = true → _) ∧ (ev_cmp 3 (Int32.ofNat i) x = false → (ev_cmp 3 (Int32.ofNat i) (Int32.ofNat 5) = true → _) ∧ (ev_cmp 3 (Int32.ofNat i) (Int32.ofNat 5) = false → ∃ R, cm_Lc cm_ms 0 [.int (M.1 15 (Int32.ofNat i).toNatClampNeg)] M R ∧ ∀ v M', R v M' → _))
    refine ⟨fun h1 => ?_, fun h1 => ⟨fun h2 => ?_, fun h2 => ⟨_, f_bc _ _, ?_⟩⟩⟩
    · have g := fn_ge h1
      rw [fn_toInt (by omega)] at g
      have e : min x.toNatClampNeg 5 = i := by omega
      exact ⟨by rw [e], rfl⟩
    · have g := fn_ge h2
      rw [fn_toInt (by omega), fn_toInt (by omega)] at g
      have e : min x.toNatClampNeg 5 = i := by omega
      exact ⟨by rw [e], rfl⟩
    · rintro v M' ⟨rfl, rfl⟩
      have g1 := fn_nge h1
      have g2 := fn_nge h2
      rw [fn_toInt (by omega)] at g1
      rw [fn_toInt (by omega), fn_toInt (by omega)] at g2
      show bo_J15 x M' (4, [(0, .ref 15), (1, .int x), (2, .int (bS (M'.1 15) i + bcF (M'.1 15 (Int32.ofNat i).toNatClampNeg))), (3, .int (Int32.ofNat i + 1))], [], M')
      rw [fn_nat (by omega), fn_succ]
      exact ⟨i + 1, by omega, rfl⟩
  · show bo_J15 x M (4, [(0, .ref 15), (1, .int x), (2, .int 0), (3, .int (Int32.ofNat 0))], [], M)
    exact ⟨0, Nat.zero_le _, rfl⟩
noncomputable def bo_J11 (x : Int32) (M : cm_M) (S : cm_S) : Prop := ∃ i, i ≤ min x.toNatClampNeg 6 ∧ S = (4, [(0, .ref 11), (1, .int x), (2, .int (bS (M.1 11) i)), (3, .int (Int32.ofNat i))], [], M)
set_option maxRecDepth 100000 in
set_option maxHeartbeats 4000000 in
theorem f_bits11 (x : Int32) (M : cm_M) : cm_Lc cm_ms 12 [.ref 11, .int x] M (fun v M' => v = some (.int (bS (M.1 11) (min x.toNatClampNeg 6))) ∧ M' = M) := by
  have hx : x.toNatClampNeg = x.toInt.toNat := rfl
  refine lb_of (mi := mr_12) rfl [(4, [0, 1, 2, 3])] (bo_J11 x M) 40 (fun S hS => ?_) 10 ?_
  · obtain ⟨i, hi, rfl⟩ := hS
    show (ev_cmp 3 (Int32.ofNat i) x = true → _) ∧ (ev_cmp 3 (Int32.ofNat i) x = false → (ev_cmp 3 (Int32.ofNat i) (Int32.ofNat 6) = true → _) ∧ (ev_cmp 3 (Int32.ofNat i) (Int32.ofNat 6) = false → ∃ R, cm_Lc cm_ms 0 [.int (M.1 11 (Int32.ofNat i).toNatClampNeg)] M R ∧ ∀ v M', R v M' → _))
    refine ⟨fun h1 => ?_, fun h1 => ⟨fun h2 => ?_, fun h2 => ⟨_, f_bc _ _, ?_⟩⟩⟩
    · have g := fn_ge h1
      rw [fn_toInt (by omega)] at g
      have e : min x.toNatClampNeg 6 = i := by omega
      exact ⟨by rw [e], rfl⟩
    · have g := fn_ge h2
      rw [fn_toInt (by omega), fn_toInt (by omega)] at g
      have e : min x.toNatClampNeg 6 = i := by omega
      exact ⟨by rw [e], rfl⟩
    · rintro v M' ⟨rfl, rfl⟩
      have g1 := fn_nge h1
      have g2 := fn_nge h2
      rw [fn_toInt (by omega)] at g1
      rw [fn_toInt (by omega), fn_toInt (by omega)] at g2
      show bo_J11 x M' (4, [(0, .ref 11), (1, .int x), (2, .int (bS (M'.1 11) i + bcF (M'.1 11 (Int32.ofNat i).toNatClampNeg))), (3, .int (Int32.ofNat i + 1))], [], M')
      rw [fn_nat (by omega), fn_succ]
      exact ⟨i + 1, by omega, rfl⟩
  · show bo_J11 x M (4, [(0, .ref 11), (1, .int x), (2, .int 0), (3, .int (Int32.ofNat 0))], [], M)
    exact ⟨0, Nat.zero_le _, rfl⟩
noncomputable def bo_J23 (x : Int32) (M : cm_M) (S : cm_S) : Prop := ∃ i, i ≤ min x.toNatClampNeg 6 ∧ S = (4, [(0, .ref 23), (1, .int x), (2, .int (bS (M.1 23) i)), (3, .int (Int32.ofNat i))], [], M)
set_option maxRecDepth 100000 in
set_option maxHeartbeats 4000000 in
theorem f_bits23 (x : Int32) (M : cm_M) : cm_Lc cm_ms 12 [.ref 23, .int x] M (fun v M' => v = some (.int (bS (M.1 23) (min x.toNatClampNeg 6))) ∧ M' = M) := by
  have hx : x.toNatClampNeg = x.toInt.toNat := rfl
  refine lb_of (mi := mr_12) rfl [(4, [0, 1, 2, 3])] (bo_J23 x M) 40 (fun S hS => ?_) 10 ?_
  · obtain ⟨i, hi, rfl⟩ := hS
    show (ev_cmp 3 (Int32.ofNat i) x = true → _) ∧ (ev_cmp 3 (Int32.ofNat i) x = false → (ev_cmp 3 (Int32.ofNat i) (Int32.ofNat 6) = true → _) ∧ (ev_cmp 3 (Int32.ofNat i) (Int32.ofNat 6) = false → ∃ R, cm_Lc cm_ms 0 [.int (M.1 23 (Int32.ofNat i).toNatClampNeg)] M R ∧ ∀ v M', R v M' → _))
    refine ⟨fun h1 => ?_, fun h1 => ⟨fun h2 => ?_, fun h2 => ⟨_, f_bc _ _, ?_⟩⟩⟩
    · have g := fn_ge h1
      rw [fn_toInt (by omega)] at g
      have e : min x.toNatClampNeg 6 = i := by omega
      exact ⟨by rw [e], rfl⟩
    · have g := fn_ge h2
      rw [fn_toInt (by omega), fn_toInt (by omega)] at g
      have e : min x.toNatClampNeg 6 = i := by omega
      exact ⟨by rw [e], rfl⟩
    · rintro v M' ⟨rfl, rfl⟩
      have g1 := fn_nge h1
      have g2 := fn_nge h2
      rw [fn_toInt (by omega)] at g1
      rw [fn_toInt (by omega), fn_toInt (by omega)] at g2
      show bo_J23 x M' (4, [(0, .ref 23), (1, .int x), (2, .int (bS (M'.1 23) i + bcF (M'.1 23 (Int32.ofNat i).toNatClampNeg))), (3, .int (Int32.ofNat i + 1))], [], M')
      rw [fn_nat (by omega), fn_succ]
      exact ⟨i + 1, by omega, rfl⟩
  · show bo_J23 x M (4, [(0, .ref 23), (1, .int x), (2, .int 0), (3, .int (Int32.ofNat 0))], [], M)
    exact ⟨0, Nat.zero_le _, rfl⟩
noncomputable def bo_J28 (x : Int32) (M : cm_M) (S : cm_S) : Prop := ∃ i, i ≤ min x.toNatClampNeg 5 ∧ S = (4, [(0, .ref 28), (1, .int x), (2, .int (bS (M.1 28) i)), (3, .int (Int32.ofNat i))], [], M)
set_option maxRecDepth 100000 in
set_option maxHeartbeats 4000000 in
theorem f_bits28 (x : Int32) (M : cm_M) : cm_Lc cm_ms 12 [.ref 28, .int x] M (fun v M' => v = some (.int (bS (M.1 28) (min x.toNatClampNeg 5))) ∧ M' = M) := by
  have hx : x.toNatClampNeg = x.toInt.toNat := rfl
  refine lb_of (mi := mr_12) rfl [(4, [0, 1, 2, 3])] (bo_J28 x M) 40 (fun S hS => ?_) 10 ?_
  · obtain ⟨i, hi, rfl⟩ := hS
    show (ev_cmp 3 (Int32.ofNat i) x = true → _) ∧ (ev_cmp 3 (Int32.ofNat i) x = false → (ev_cmp 3 (Int32.ofNat i) (Int32.ofNat 5) = true → _) ∧ (ev_cmp 3 (Int32.ofNat i) (Int32.ofNat 5) = false → ∃ R, cm_Lc cm_ms 0 [.int (M.1 28 (Int32.ofNat i).toNatClampNeg)] M R ∧ ∀ v M', R v M' → _))
    refine ⟨fun h1 => ?_, fun h1 => ⟨fun h2 => ?_, fun h2 => ⟨_, f_bc _ _, ?_⟩⟩⟩
    · have g := fn_ge h1
      rw [fn_toInt (by omega)] at g
      have e : min x.toNatClampNeg 5 = i := by omega
      exact ⟨by rw [e], rfl⟩
    · have g := fn_ge h2
      rw [fn_toInt (by omega), fn_toInt (by omega)] at g
      have e : min x.toNatClampNeg 5 = i := by omega
      exact ⟨by rw [e], rfl⟩
    · rintro v M' ⟨rfl, rfl⟩
      have g1 := fn_nge h1
      have g2 := fn_nge h2
      rw [fn_toInt (by omega)] at g1
      rw [fn_toInt (by omega), fn_toInt (by omega)] at g2
      show bo_J28 x M' (4, [(0, .ref 28), (1, .int x), (2, .int (bS (M'.1 28) i + bcF (M'.1 28 (Int32.ofNat i).toNatClampNeg))), (3, .int (Int32.ofNat i + 1))], [], M')
      rw [fn_nat (by omega), fn_succ]
      exact ⟨i + 1, by omega, rfl⟩
  · show bo_J28 x M (4, [(0, .ref 28), (1, .int x), (2, .int 0), (3, .int (Int32.ofNat 0))], [], M)
    exact ⟨0, Nat.zero_le _, rfl⟩
noncomputable def bo_J24 (x : Int32) (M : cm_M) (S : cm_S) : Prop := ∃ i, i ≤ min x.toNatClampNeg 6 ∧ S = (4, [(0, .ref 24), (1, .int x), (2, .int (bS (M.1 24) i)), (3, .int (Int32.ofNat i))], [], M)
set_option maxRecDepth 100000 in
set_option maxHeartbeats 4000000 in
theorem f_bits24 (x : Int32) (M : cm_M) : cm_Lc cm_ms 12 [.ref 24, .int x] M (fun v M' => v = some (.int (bS (M.1 24) (min x.toNatClampNeg 6))) ∧ M' = M) := by
  have hx : x.toNatClampNeg = x.toInt.toNat := rfl
  refine lb_of (mi := mr_12) rfl [(4, [0, 1, 2, 3])] (bo_J24 x M) 40 (fun S hS => ?_) 10 ?_
  · obtain ⟨i, hi, rfl⟩ := hS
    show (ev_cmp 3 (Int32.ofNat i) x = true → _) ∧ (ev_cmp 3 (Int32.ofNat i) x = false → (ev_cmp 3 (Int32.ofNat i) (Int32.ofNat 6) = true → _) ∧ (ev_cmp 3 (Int32.ofNat i) (Int32.ofNat 6) = false → ∃ R, cm_Lc cm_ms 0 [.int (M.1 24 (Int32.ofNat i).toNatClampNeg)] M R ∧ ∀ v M', R v M' → _))
    refine ⟨fun h1 => ?_, fun h1 => ⟨fun h2 => ?_, fun h2 => ⟨_, f_bc _ _, ?_⟩⟩⟩
    · have g := fn_ge h1
      rw [fn_toInt (by omega)] at g
      have e : min x.toNatClampNeg 6 = i := by omega
      exact ⟨by rw [e], rfl⟩
    · have g := fn_ge h2
      rw [fn_toInt (by omega), fn_toInt (by omega)] at g
      have e : min x.toNatClampNeg 6 = i := by omega
      exact ⟨by rw [e], rfl⟩
    · rintro v M' ⟨rfl, rfl⟩
      have g1 := fn_nge h1
      have g2 := fn_nge h2
      rw [fn_toInt (by omega)] at g1
      rw [fn_toInt (by omega), fn_toInt (by omega)] at g2
      show bo_J24 x M' (4, [(0, .ref 24), (1, .int x), (2, .int (bS (M'.1 24) i + bcF (M'.1 24 (Int32.ofNat i).toNatClampNeg))), (3, .int (Int32.ofNat i + 1))], [], M')
      rw [fn_nat (by omega), fn_succ]
      exact ⟨i + 1, by omega, rfl⟩
  · show bo_J24 x M (4, [(0, .ref 24), (1, .int x), (2, .int 0), (3, .int (Int32.ofNat 0))], [], M)
    exact ⟨0, Nat.zero_le _, rfl⟩
noncomputable def toC (T : Nat) (C : cm_M) (l : Int32) : Int32 := if l = 1 then C.1 T 3 else if l = 2 then C.1 T 9 else if l = 3 then bS (C.1 (T + 4)) (min (C.1 T 3).toNatClampNeg 6) else if l = 4 then bS (C.1 (T + 9)) (min (C.1 T 9).toNatClampNeg 5) else if l = 5 then bS (C.1 (T + 5)) (min (C.1 T 3).toNatClampNeg 6) / 2 else if l = 6 then C.1 T 15 else 0
theorem toC_1 {T me mo ch : Nat} {C : cm_M} {F : Nat → Int32} (hd : DT T me mo ch C F) : toC T C 1 = F 3 ∧ toC T C 2 = F 4 ∧ toC T C 6 = F 8 := by
  obtain ⟨-, -, ⟨b1, b2, b3, b4, b5, b6⟩, -⟩ := hd
  exact ⟨b1.trans b2.symm, b3.trans b4.symm, b5.trans b6.symm⟩
theorem toC_3 {T me mo ch : Nat} {C : cm_M} {F : Nat → Int32} (hd : DT T me mo ch C F) : toC T C 3 = F 5 := by
  obtain ⟨hN, -, ⟨b1, -⟩, d1, -, -, ⟨ag, am, qu, f1, f2, -, -, f5, -⟩, -⟩ := hd
  obtain ⟨-, -, c3, -⟩ := id hN
  show bS (C.1 (T + 4)) (min (C.1 T 3).toNatClampNeg 6) = F 5
  have b1' : C.1 T 3 = Int32.ofNat me := b1
  have e : min me 6 = me := by omega
  rw [b1', fn_nat (by omega), e, f5, su_zz (fun j hj => (f2 j hj).1) c3]
  refine bS_su me (fun j hj => ?_)
  have p := f1 j (by omega)
  exact ⟨((d1 j hj).2.2.2.1).trans p.2.1, by omega⟩
theorem toC_4 {T me mo ch : Nat} {C : cm_M} {F : Nat → Int32} (hd : DT T me mo ch C F) : toC T C 4 = F 6 := by
  obtain ⟨hN, -, ⟨-, -, b3, -⟩, -, d2, -, ⟨ag, am, qu, -, -, f3, f4, -, f6, -⟩, -⟩ := hd
  obtain ⟨-, -, -, c4, -⟩ := id hN
  show bS (C.1 (T + 9)) (min (C.1 T 9).toNatClampNeg 5) = F 6
  have b3' : C.1 T 9 = Int32.ofNat mo := b3
  have e : min mo 5 = mo := by omega
  rw [b3', fn_nat (by omega), e, f6, su_zz f4 c4]
  refine bS_su mo (fun j hj => ?_)
  have p := f3 j (by omega)
  have h2 := pw_5 j (by omega)
  exact ⟨((d2 j hj).2.2.2).trans p.2, by omega⟩
theorem toC_5 {T me mo ch : Nat} {C : cm_M} {F : Nat → Int32} (hd : DT T me mo ch C F) : toC T C 5 = F 7 := by
  obtain ⟨hN, -, ⟨b1, -⟩, d1, -, -, ⟨ag, am, qu, f1, f2, -, -, -, -, q, f7, f8, -⟩, -⟩ := hd
  obtain ⟨-, -, c3, -⟩ := id hN
  show bS (C.1 (T + 5)) (min (C.1 T 3).toNatClampNeg 6) / 2 = F 7
  have b1' : C.1 T 3 = Int32.ofNat me := b1
  have e : min me 6 = me := by omega
  have s1 := su_zz (fun j hj => (f2 j hj).2) c3
  have s2 := su_le qu 6
  have s3 : bS (C.1 (T + 5)) me = Int32.ofNat (su qu me) := bS_su me (fun j hj => by
    have p := f1 j (by omega)
    exact ⟨((d1 j hj).2.2.2.2).trans p.2.2.2, p.2.2.1⟩)
  rw [b1', fn_nat (by omega), e, s3, ← s1, f8, half_t q (by omega), f7]
set_option maxRecDepth 100000 in
set_option maxHeartbeats 4000000 in
theorem f_qtold6 {U : Nat} (C : cm_M) : cm_Lc cm_ms 16 [.ref 6] (fr U C) (fun v M' => v = some (.int (toC 6 C 5)) ∧ M' = fr U C) := by
  refine lb_st0 (mi := mr_16) rfl 20 ?_
  show ∃ R, cm_Lc cm_ms 12 [.ref 11, .int (C.1 6 3)] (fr U C) R ∧ ∀ v M', R v M' → _
  refine ⟨_, f_bits11 _ _, ?_⟩
  rintro v M' ⟨rfl, rfl⟩
  exact ⟨rfl, rfl⟩
set_option maxRecDepth 100000 in
set_option maxHeartbeats 4000000 in
theorem f_toldN0_6 (C : cm_M) : cm_Lc cm_ms 69 [.ref 2, .int 0] (fr 6 C) (fun v M' => v = some (.int (toC 6 C 0)) ∧ M' = fr 6 C) := by
  refine lb_st0 (mi := mr_69) rfl 40 ?_
  show ((0 : Int32).toInt < 1 ∨ 6 < (0 : Int32).toInt → _) ∧ (∀ (j : Nat) (o : Int), ([39, 47, 55, 73, 91, 99] : List Int)[j]? = some o → (0 : Int32).toInt = 1 + (j : Int) → _)
  refine sw_d (by decide) (by decide) ?_
  show (fun (v : Option Value) (M' : cm_M) => v = some (.int (toC 6 C 0)) ∧ M' = fr 6 C) (some (.int 0)) (fr 6 C)
  exact ⟨rfl, rfl⟩
set_option maxRecDepth 100000 in
set_option maxHeartbeats 4000000 in
theorem f_toldN1_6 (C : cm_M) : cm_Lc cm_ms 69 [.ref 2, .int 1] (fr 6 C) (fun v M' => v = some (.int (toC 6 C 1)) ∧ M' = fr 6 C) := by
  refine lb_st0 (mi := mr_69) rfl 40 ?_
  show ((1 : Int32).toInt < 1 ∨ 6 < (1 : Int32).toInt → _) ∧ (∀ (j : Nat) (o : Int), ([39, 47, 55, 73, 91, 99] : List Int)[j]? = some o → (1 : Int32).toInt = 1 + (j : Int) → _)
  refine sw_k 0 39 rfl (by decide) (by decide) ?_
  show (fun (v : Option Value) (M' : cm_M) => v = some (.int (toC 6 C 1)) ∧ M' = fr 6 C) (some (.int (C.1 6 3))) (fr 6 C)
  exact ⟨rfl, rfl⟩
set_option maxRecDepth 100000 in
set_option maxHeartbeats 4000000 in
theorem f_toldN2_6 (C : cm_M) : cm_Lc cm_ms 69 [.ref 2, .int 2] (fr 6 C) (fun v M' => v = some (.int (toC 6 C 2)) ∧ M' = fr 6 C) := by
  refine lb_st0 (mi := mr_69) rfl 40 ?_
  show ((2 : Int32).toInt < 1 ∨ 6 < (2 : Int32).toInt → _) ∧ (∀ (j : Nat) (o : Int), ([39, 47, 55, 73, 91, 99] : List Int)[j]? = some o → (2 : Int32).toInt = 1 + (j : Int) → _)
  refine sw_k 1 47 rfl (by decide) (by decide) ?_
  show (fun (v : Option Value) (M' : cm_M) => v = some (.int (toC 6 C 2)) ∧ M' = fr 6 C) (some (.int (C.1 6 9))) (fr 6 C)
  exact ⟨rfl, rfl⟩
set_option maxRecDepth 100000 in
set_option maxHeartbeats 4000000 in
theorem f_toldN3_6 (C : cm_M) : cm_Lc cm_ms 69 [.ref 2, .int 3] (fr 6 C) (fun v M' => v = some (.int (toC 6 C 3)) ∧ M' = fr 6 C) := by
  refine lb_st0 (mi := mr_69) rfl 40 ?_
  show ((3 : Int32).toInt < 1 ∨ 6 < (3 : Int32).toInt → _) ∧ (∀ (j : Nat) (o : Int), ([39, 47, 55, 73, 91, 99] : List Int)[j]? = some o → (3 : Int32).toInt = 1 + (j : Int) → _)
  refine sw_k 2 55 rfl (by decide) (by decide) ?_
  show ∃ R, cm_Lc cm_ms 12 [.ref 10, .int (C.1 6 3)] (fr 6 C) R ∧ ∀ v M', R v M' → _
  refine ⟨_, f_bits10 _ _, ?_⟩
  rintro v M' ⟨rfl, rfl⟩
  show (fun (v : Option Value) (M' : cm_M) => v = some (.int (toC 6 C 3)) ∧ M' = fr 6 C) (some (.int (bS (C.1 10) (min (C.1 6 3).toNatClampNeg 6)))) (fr 6 C)
  exact ⟨rfl, rfl⟩
set_option maxRecDepth 100000 in
set_option maxHeartbeats 4000000 in
theorem f_toldN4_6 (C : cm_M) : cm_Lc cm_ms 69 [.ref 2, .int 4] (fr 6 C) (fun v M' => v = some (.int (toC 6 C 4)) ∧ M' = fr 6 C) := by
  refine lb_st0 (mi := mr_69) rfl 40 ?_
  show ((4 : Int32).toInt < 1 ∨ 6 < (4 : Int32).toInt → _) ∧ (∀ (j : Nat) (o : Int), ([39, 47, 55, 73, 91, 99] : List Int)[j]? = some o → (4 : Int32).toInt = 1 + (j : Int) → _)
  refine sw_k 3 73 rfl (by decide) (by decide) ?_
  show ∃ R, cm_Lc cm_ms 12 [.ref 15, .int (C.1 6 9)] (fr 6 C) R ∧ ∀ v M', R v M' → _
  refine ⟨_, f_bits15 _ _, ?_⟩
  rintro v M' ⟨rfl, rfl⟩
  show (fun (v : Option Value) (M' : cm_M) => v = some (.int (toC 6 C 4)) ∧ M' = fr 6 C) (some (.int (bS (C.1 15) (min (C.1 6 9).toNatClampNeg 5)))) (fr 6 C)
  exact ⟨rfl, rfl⟩
set_option maxRecDepth 100000 in
set_option maxHeartbeats 4000000 in
theorem f_toldN5_6 (C : cm_M) : cm_Lc cm_ms 69 [.ref 2, .int 5] (fr 6 C) (fun v M' => v = some (.int (toC 6 C 5)) ∧ M' = fr 6 C) := by
  refine lb_st0 (mi := mr_69) rfl 40 ?_
  show ((5 : Int32).toInt < 1 ∨ 6 < (5 : Int32).toInt → _) ∧ (∀ (j : Nat) (o : Int), ([39, 47, 55, 73, 91, 99] : List Int)[j]? = some o → (5 : Int32).toInt = 1 + (j : Int) → _)
  refine sw_k 4 91 rfl (by decide) (by decide) ?_
  show ∃ R, cm_Lc cm_ms 16 [.ref 6] (fr 6 C) R ∧ ∀ v M', R v M' → _
  refine ⟨_, f_qtold6 C, ?_⟩
  rintro v M' ⟨rfl, rfl⟩
  show (fun (v : Option Value) (M' : cm_M) => v = some (.int (toC 6 C 5)) ∧ M' = fr 6 C) (some (.int (toC 6 C 5))) (fr 6 C)
  exact ⟨rfl, rfl⟩
set_option maxRecDepth 100000 in
set_option maxHeartbeats 4000000 in
theorem f_toldN6_6 (C : cm_M) : cm_Lc cm_ms 69 [.ref 2, .int 6] (fr 6 C) (fun v M' => v = some (.int (toC 6 C 6)) ∧ M' = fr 6 C) := by
  refine lb_st0 (mi := mr_69) rfl 40 ?_
  show ((6 : Int32).toInt < 1 ∨ 6 < (6 : Int32).toInt → _) ∧ (∀ (j : Nat) (o : Int), ([39, 47, 55, 73, 91, 99] : List Int)[j]? = some o → (6 : Int32).toInt = 1 + (j : Int) → _)
  refine sw_k 5 99 rfl (by decide) (by decide) ?_
  show (fun (v : Option Value) (M' : cm_M) => v = some (.int (toC 6 C 6)) ∧ M' = fr 6 C) (some (.int (C.1 6 15))) (fr 6 C)
  exact ⟨rfl, rfl⟩
set_option maxRecDepth 100000 in
set_option maxHeartbeats 4000000 in
theorem f_toldN7_6 (C : cm_M) : cm_Lc cm_ms 69 [.ref 2, .int 7] (fr 6 C) (fun v M' => v = some (.int (toC 6 C 7)) ∧ M' = fr 6 C) := by
  refine lb_st0 (mi := mr_69) rfl 40 ?_
  show ((7 : Int32).toInt < 1 ∨ 6 < (7 : Int32).toInt → _) ∧ (∀ (j : Nat) (o : Int), ([39, 47, 55, 73, 91, 99] : List Int)[j]? = some o → (7 : Int32).toInt = 1 + (j : Int) → _)
  refine sw_d (by decide) (by decide) ?_
  show (fun (v : Option Value) (M' : cm_M) => v = some (.int (toC 6 C 7)) ∧ M' = fr 6 C) (some (.int 0)) (fr 6 C)
  exact ⟨rfl, rfl⟩
set_option maxRecDepth 100000 in
set_option maxHeartbeats 4000000 in
theorem f_qtold19 {U : Nat} (C : cm_M) : cm_Lc cm_ms 16 [.ref 19] (fr U C) (fun v M' => v = some (.int (toC 19 C 5)) ∧ M' = fr U C) := by
  refine lb_st0 (mi := mr_16) rfl 20 ?_
  show ∃ R, cm_Lc cm_ms 12 [.ref 24, .int (C.1 19 3)] (fr U C) R ∧ ∀ v M', R v M' → _
  refine ⟨_, f_bits24 _ _, ?_⟩
  rintro v M' ⟨rfl, rfl⟩
  exact ⟨rfl, rfl⟩
set_option maxRecDepth 100000 in
set_option maxHeartbeats 4000000 in
theorem f_toldN0_19 (C : cm_M) : cm_Lc cm_ms 69 [.ref 2, .int 0] (fr 19 C) (fun v M' => v = some (.int (toC 19 C 0)) ∧ M' = fr 19 C) := by
  refine lb_st0 (mi := mr_69) rfl 40 ?_
  show ((0 : Int32).toInt < 1 ∨ 6 < (0 : Int32).toInt → _) ∧ (∀ (j : Nat) (o : Int), ([39, 47, 55, 73, 91, 99] : List Int)[j]? = some o → (0 : Int32).toInt = 1 + (j : Int) → _)
  refine sw_d (by decide) (by decide) ?_
  show (fun (v : Option Value) (M' : cm_M) => v = some (.int (toC 19 C 0)) ∧ M' = fr 19 C) (some (.int 0)) (fr 19 C)
  exact ⟨rfl, rfl⟩
set_option maxRecDepth 100000 in
set_option maxHeartbeats 4000000 in
theorem f_toldN1_19 (C : cm_M) : cm_Lc cm_ms 69 [.ref 2, .int 1] (fr 19 C) (fun v M' => v = some (.int (toC 19 C 1)) ∧ M' = fr 19 C) := by
  refine lb_st0 (mi := mr_69) rfl 40 ?_
  show ((1 : Int32).toInt < 1 ∨ 6 < (1 : Int32).toInt → _) ∧ (∀ (j : Nat) (o : Int), ([39, 47, 55, 73, 91, 99] : List Int)[j]? = some o → (1 : Int32).toInt = 1 + (j : Int) → _)
  refine sw_k 0 39 rfl (by decide) (by decide) ?_
  show (fun (v : Option Value) (M' : cm_M) => v = some (.int (toC 19 C 1)) ∧ M' = fr 19 C) (some (.int (C.1 19 3))) (fr 19 C)
  exact ⟨rfl, rfl⟩
set_option maxRecDepth 100000 in
set_option maxHeartbeats 4000000 in
theorem f_toldN2_19 (C : cm_M) : cm_Lc cm_ms 69 [.ref 2, .int 2] (fr 19 C) (fun v M' => v = some (.int (toC 19 C 2)) ∧ M' = fr 19 C) := by
  refine lb_st0 (mi := mr_69) rfl 40 ?_
  show ((2 : Int32).toInt < 1 ∨ 6 < (2 : Int32).toInt → _) ∧ (∀ (j : Nat) (o : Int), ([39, 47, 55, 73, 91, 99] : List Int)[j]? = some o → (2 : Int32).toInt = 1 + (j : Int) → _)
  refine sw_k 1 47 rfl (by decide) (by decide) ?_
  show (fun (v : Option Value) (M' : cm_M) => v = some (.int (toC 19 C 2)) ∧ M' = fr 19 C) (some (.int (C.1 19 9))) (fr 19 C)
  exact ⟨rfl, rfl⟩
set_option maxRecDepth 100000 in
set_option maxHeartbeats 4000000 in
theorem f_toldN3_19 (C : cm_M) : cm_Lc cm_ms 69 [.ref 2, .int 3] (fr 19 C) (fun v M' => v = some (.int (toC 19 C 3)) ∧ M' = fr 19 C) := by
  refine lb_st0 (mi := mr_69) rfl 40 ?_
  show ((3 : Int32).toInt < 1 ∨ 6 < (3 : Int32).toInt → _) ∧ (∀ (j : Nat) (o : Int), ([39, 47, 55, 73, 91, 99] : List Int)[j]? = some o → (3 : Int32).toInt = 1 + (j : Int) → _)
  refine sw_k 2 55 rfl (by decide) (by decide) ?_
  show ∃ R, cm_Lc cm_ms 12 [.ref 23, .int (C.1 19 3)] (fr 19 C) R ∧ ∀ v M', R v M' → _
  refine ⟨_, f_bits23 _ _, ?_⟩
  rintro v M' ⟨rfl, rfl⟩
  show (fun (v : Option Value) (M' : cm_M) => v = some (.int (toC 19 C 3)) ∧ M' = fr 19 C) (some (.int (bS (C.1 23) (min (C.1 19 3).toNatClampNeg 6)))) (fr 19 C)
  exact ⟨rfl, rfl⟩
set_option maxRecDepth 100000 in
set_option maxHeartbeats 4000000 in
theorem f_toldN4_19 (C : cm_M) : cm_Lc cm_ms 69 [.ref 2, .int 4] (fr 19 C) (fun v M' => v = some (.int (toC 19 C 4)) ∧ M' = fr 19 C) := by
  refine lb_st0 (mi := mr_69) rfl 40 ?_
  show ((4 : Int32).toInt < 1 ∨ 6 < (4 : Int32).toInt → _) ∧ (∀ (j : Nat) (o : Int), ([39, 47, 55, 73, 91, 99] : List Int)[j]? = some o → (4 : Int32).toInt = 1 + (j : Int) → _)
  refine sw_k 3 73 rfl (by decide) (by decide) ?_
  show ∃ R, cm_Lc cm_ms 12 [.ref 28, .int (C.1 19 9)] (fr 19 C) R ∧ ∀ v M', R v M' → _
  refine ⟨_, f_bits28 _ _, ?_⟩
  rintro v M' ⟨rfl, rfl⟩
  show (fun (v : Option Value) (M' : cm_M) => v = some (.int (toC 19 C 4)) ∧ M' = fr 19 C) (some (.int (bS (C.1 28) (min (C.1 19 9).toNatClampNeg 5)))) (fr 19 C)
  exact ⟨rfl, rfl⟩
set_option maxRecDepth 100000 in
set_option maxHeartbeats 4000000 in
theorem f_toldN5_19 (C : cm_M) : cm_Lc cm_ms 69 [.ref 2, .int 5] (fr 19 C) (fun v M' => v = some (.int (toC 19 C 5)) ∧ M' = fr 19 C) := by
  refine lb_st0 (mi := mr_69) rfl 40 ?_
  show ((5 : Int32).toInt < 1 ∨ 6 < (5 : Int32).toInt → _) ∧ (∀ (j : Nat) (o : Int), ([39, 47, 55, 73, 91, 99] : List Int)[j]? = some o → (5 : Int32).toInt = 1 + (j : Int) → _)
  refine sw_k 4 91 rfl (by decide) (by decide) ?_
  show ∃ R, cm_Lc cm_ms 16 [.ref 19] (fr 19 C) R ∧ ∀ v M', R v M' → _
  refine ⟨_, f_qtold19 C, ?_⟩
  rintro v M' ⟨rfl, rfl⟩
  show (fun (v : Option Value) (M' : cm_M) => v = some (.int (toC 19 C 5)) ∧ M' = fr 19 C) (some (.int (toC 19 C 5))) (fr 19 C)
  exact ⟨rfl, rfl⟩
set_option maxRecDepth 100000 in
set_option maxHeartbeats 4000000 in
theorem f_toldN6_19 (C : cm_M) : cm_Lc cm_ms 69 [.ref 2, .int 6] (fr 19 C) (fun v M' => v = some (.int (toC 19 C 6)) ∧ M' = fr 19 C) := by
  refine lb_st0 (mi := mr_69) rfl 40 ?_
  show ((6 : Int32).toInt < 1 ∨ 6 < (6 : Int32).toInt → _) ∧ (∀ (j : Nat) (o : Int), ([39, 47, 55, 73, 91, 99] : List Int)[j]? = some o → (6 : Int32).toInt = 1 + (j : Int) → _)
  refine sw_k 5 99 rfl (by decide) (by decide) ?_
  show (fun (v : Option Value) (M' : cm_M) => v = some (.int (toC 19 C 6)) ∧ M' = fr 19 C) (some (.int (C.1 19 15))) (fr 19 C)
  exact ⟨rfl, rfl⟩
set_option maxRecDepth 100000 in
set_option maxHeartbeats 4000000 in
theorem f_toldN7_19 (C : cm_M) : cm_Lc cm_ms 69 [.ref 2, .int 7] (fr 19 C) (fun v M' => v = some (.int (toC 19 C 7)) ∧ M' = fr 19 C) := by
  refine lb_st0 (mi := mr_69) rfl 40 ?_
  show ((7 : Int32).toInt < 1 ∨ 6 < (7 : Int32).toInt → _) ∧ (∀ (j : Nat) (o : Int), ([39, 47, 55, 73, 91, 99] : List Int)[j]? = some o → (7 : Int32).toInt = 1 + (j : Int) → _)
  refine sw_d (by decide) (by decide) ?_
  show (fun (v : Option Value) (M' : cm_M) => v = some (.int (toC 19 C 7)) ∧ M' = fr 19 C) (some (.int 0)) (fr 19 C)
  exact ⟨rfl, rfl⟩
theorem f_room0 (M : cm_M) : cm_Lc cm_ms 68 [.int 0] M (fun v M' => v = some (.int 900) ∧ M' = M) := by
  refine lb_st0 (mi := mr_68) rfl 40 ?_
  show ((0 : Int32).toInt < 1 ∨ 6 < (0 : Int32).toInt → _) ∧ (∀ (j : Nat) (o : Int), ([39, 42, 44, 47, 50, 53] : List Int)[j]? = some o → (0 : Int32).toInt = 1 + (j : Int) → _)
  refine sw_d (by decide) (by decide) ?_
  show (fun (v : Option Value) (M' : cm_M) => v = some (.int 900) ∧ M' = M) (some (.int 900)) M
  exact ⟨rfl, rfl⟩
theorem f_room1 (M : cm_M) : cm_Lc cm_ms 68 [.int 1] M (fun v M' => v = some (.int 6) ∧ M' = M) := by
  refine lb_st0 (mi := mr_68) rfl 40 ?_
  show ((1 : Int32).toInt < 1 ∨ 6 < (1 : Int32).toInt → _) ∧ (∀ (j : Nat) (o : Int), ([39, 42, 44, 47, 50, 53] : List Int)[j]? = some o → (1 : Int32).toInt = 1 + (j : Int) → _)
  refine sw_k 0 39 rfl (by decide) (by decide) ?_
  show (fun (v : Option Value) (M' : cm_M) => v = some (.int 6) ∧ M' = M) (some (.int 6)) M
  exact ⟨rfl, rfl⟩
theorem f_room2 (M : cm_M) : cm_Lc cm_ms 68 [.int 2] M (fun v M' => v = some (.int 5) ∧ M' = M) := by
  refine lb_st0 (mi := mr_68) rfl 40 ?_
  show ((2 : Int32).toInt < 1 ∨ 6 < (2 : Int32).toInt → _) ∧ (∀ (j : Nat) (o : Int), ([39, 42, 44, 47, 50, 53] : List Int)[j]? = some o → (2 : Int32).toInt = 1 + (j : Int) → _)
  refine sw_k 1 42 rfl (by decide) (by decide) ?_
  show (fun (v : Option Value) (M' : cm_M) => v = some (.int 5) ∧ M' = M) (some (.int 5)) M
  exact ⟨rfl, rfl⟩
theorem f_room3 (M : cm_M) : cm_Lc cm_ms 68 [.int 3] M (fun v M' => v = some (.int 9) ∧ M' = M) := by
  refine lb_st0 (mi := mr_68) rfl 40 ?_
  show ((3 : Int32).toInt < 1 ∨ 6 < (3 : Int32).toInt → _) ∧ (∀ (j : Nat) (o : Int), ([39, 42, 44, 47, 50, 53] : List Int)[j]? = some o → (3 : Int32).toInt = 1 + (j : Int) → _)
  refine sw_k 2 44 rfl (by decide) (by decide) ?_
  show (fun (v : Option Value) (M' : cm_M) => v = some (.int 9) ∧ M' = M) (some (.int 9)) M
  exact ⟨rfl, rfl⟩
theorem f_room4 (M : cm_M) : cm_Lc cm_ms 68 [.int 4] M (fun v M' => v = some (.int 6) ∧ M' = M) := by
  refine lb_st0 (mi := mr_68) rfl 40 ?_
  show ((4 : Int32).toInt < 1 ∨ 6 < (4 : Int32).toInt → _) ∧ (∀ (j : Nat) (o : Int), ([39, 42, 44, 47, 50, 53] : List Int)[j]? = some o → (4 : Int32).toInt = 1 + (j : Int) → _)
  refine sw_k 3 47 rfl (by decide) (by decide) ?_
  show (fun (v : Option Value) (M' : cm_M) => v = some (.int 6) ∧ M' = M) (some (.int 6)) M
  exact ⟨rfl, rfl⟩
theorem f_room5 (M : cm_M) : cm_Lc cm_ms 68 [.int 5] M (fun v M' => v = some (.int 9) ∧ M' = M) := by
  refine lb_st0 (mi := mr_68) rfl 40 ?_
  show ((5 : Int32).toInt < 1 ∨ 6 < (5 : Int32).toInt → _) ∧ (∀ (j : Nat) (o : Int), ([39, 42, 44, 47, 50, 53] : List Int)[j]? = some o → (5 : Int32).toInt = 1 + (j : Int) → _)
  refine sw_k 4 50 rfl (by decide) (by decide) ?_
  show (fun (v : Option Value) (M' : cm_M) => v = some (.int 9) ∧ M' = M) (some (.int 9)) M
  exact ⟨rfl, rfl⟩
theorem f_room6 (M : cm_M) : cm_Lc cm_ms 68 [.int 6] M (fun v M' => v = some (.int 5) ∧ M' = M) := by
  refine lb_st0 (mi := mr_68) rfl 40 ?_
  show ((6 : Int32).toInt < 1 ∨ 6 < (6 : Int32).toInt → _) ∧ (∀ (j : Nat) (o : Int), ([39, 42, 44, 47, 50, 53] : List Int)[j]? = some o → (6 : Int32).toInt = 1 + (j : Int) → _)
  refine sw_k 5 53 rfl (by decide) (by decide) ?_
  show (fun (v : Option Value) (M' : cm_M) => v = some (.int 5) ∧ M' = M) (some (.int 5)) M
  exact ⟨rfl, rfl⟩
theorem f_room7 (M : cm_M) : cm_Lc cm_ms 68 [.int 7] M (fun v M' => v = some (.int 900) ∧ M' = M) := by
  refine lb_st0 (mi := mr_68) rfl 40 ?_
  show ((7 : Int32).toInt < 1 ∨ 6 < (7 : Int32).toInt → _) ∧ (∀ (j : Nat) (o : Int), ([39, 42, 44, 47, 50, 53] : List Int)[j]? = some o → (7 : Int32).toInt = 1 + (j : Int) → _)
  refine sw_d (by decide) (by decide) ?_
  show (fun (v : Option Value) (M' : cm_M) => v = some (.int 900) ∧ M' = M) (some (.int 900)) M
  exact ⟨rfl, rfl⟩
theorem f_lineL {T : Nat} {C : cm_M} {l : Int32} (hl : cF_line C = l) : cm_Lc cm_ms 84 [.ref 2] (fr T C) (fun v M' => v = some (.int l) ∧ M' = fr T C) := by
  subst hl
  exact f_line C
noncomputable def rl_G (g : Nat → cm_M → cm_M) (N : Nat) (full : Bool) (C : cm_M) : cm_M := if C.1 2 8 = 0 then cF_fail 6 C else if full = true then cF_fail 5 C else g N (cF_step N C)
noncomputable def fuC (T : Nat) (C : cm_M) (l m : Int32) : Bool := decide (m ≤ toC T C l)
theorem fu_t {T : Nat} {C : cm_M} {l m : Int32} (h : m.toInt ≤ (toC T C l).toInt) : fuC T C l m = true := decide_eq_true (Int32.le_iff_toInt_le.mpr h)
theorem fu_f {T : Nat} {C : cm_M} {l m : Int32} (h : (toC T C l).toInt < m.toInt) : fuC T C l m = false := decide_eq_false (fun q => by
  have := Int32.le_iff_toInt_le.mp q
  omega)
