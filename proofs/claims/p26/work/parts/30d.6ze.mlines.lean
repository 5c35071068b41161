noncomputable abbrev ml_K (T N me mo ch : Nat) (C' : cm_M) : cm_K := fun v M' => v = none ∧ ∃ D', M' = fm D' ∧ Rq N C' D' ∧ (C'.1 2 9 = 0 → DT T me mo ch C' (D'.1 128))
theorem cm_Lc_nm {k : Nat} {as : List Value} {M : cm_M} {R : cm_M → cm_K} (X : cm_M) (h : cm_Lc cm_ms k as M (R X)) : cm_Lc cm_ms k as M (fun v M' => ∃ Y, Y = X ∧ R Y v M') := cm_Lc_im h (fun v M' q => ⟨X, rfl, q⟩)
/-- an answer that is w where nothing failed -/
noncomputable abbrev ka (N : Nat) (D : cm_M) (w : Int32) (X : cm_M) : cm_K := fun v M' => ∃ x, v = some (.int x) ∧ ∃ D', M' = fm D' ∧ Rq N X D' ∧ D'.1 128 = D.1 128 ∧ (X.1 2 9 = 0 → x = w)
noncomputable abbrev nn_X (N n : Nat) (C D X : cm_M) : cm_K := fun v M' => v = none ∧ ∃ D', M' = fm D' ∧ Rq N X D' ∧ (X.1 2 9 = 0 → C.1 2 9 = 0 ∧ cF_newChk C = C ∧ cF_name C = -1 ∧ ∃ L ns, 0 < ns ∧ wrep (C.2.1 2 6) L ns ∧ ∀ j, D'.1 128 j = nnF (D.1 128) L n ns j)
theorem m_after2 {N t t2 : Nat} {D : cm_M} (e : ∀ C, cF_takeWord N t C = cF_takeWord N t2 C) (ht : t < 40) (lo hi : Int32) {C : cm_M} (h : Rq N C D) : cm_Lc cm_ms 189 [.ref 124, .ref (1001 + 2 * t), .int lo, .int hi] (fm D) (ma_R N t2 lo hi C D) := by
  have q := m_after (t := t) ht lo hi h
  unfold ma_R at q
  rw [e C] at q
  exact q
theorem m_newName2 {N nam me mo ch n : Nat} {so nu x : Int32} (hx : x = Int32.ofNat n) (n16 : n < 16) {C D : cm_M} (h : Rq N C D) (hc : C.1 2 9 = 0 → NC nam me mo ch C (D.1 128)) : cm_Lc cm_ms 183 [.ref 124, .int x] (fm D) (nn_K N n so nu C D) := by
  subst hx
  exact m_newName n16 h hc
theorem i11 {m : Nat} (h : m < 100) : ((11 : Int32) + 3 * Int32.ofNat m).toNatClampNeg = 11 + 3 * m ∧ ((11 : Int32) + 3 * Int32.ofNat m + 1).toNatClampNeg = 12 + 3 * m ∧ ((11 : Int32) + 3 * Int32.ofNat m + 2).toNatClampNeg = 13 + 3 * m := by
  rw [of3_11]
  refine ⟨fn_nat (by omega), ?_, ?_⟩
  · rw [fn_succ, fn_nat (by omega)]
    omega
  · rw [show (2 : Int32) = Int32.ofNat 2 from rfl, ← Int32.ofNat_add, fn_nat (by omega)]
    omega
theorem i29 {m : Nat} (h : m < 100) : ((29 : Int32) + 3 * Int32.ofNat m).toNatClampNeg = 29 + 3 * m ∧ ((29 : Int32) + 3 * Int32.ofNat m + 1).toNatClampNeg = 30 + 3 * m ∧ ((29 : Int32) + 3 * Int32.ofNat m + 2).toNatClampNeg = 31 + 3 * m := by
  rw [of3_29]
  refine ⟨fn_nat (by omega), ?_, ?_⟩
  · rw [fn_succ, fn_nat (by omega)]
    omega
  · rw [show (2 : Int32) = Int32.ofNat 2 from rfl, ← Int32.ofNat_add, fn_nat (by omega)]
    omega
set_option maxRecDepth 100000 in
set_option maxHeartbeats 1000000 in
theorem m_manLine {T N me mo ch : Nat} {C D : cm_M} (hT : 6 ≤ T) (hT2 : T ≤ 19) (h : Rq N C D) (h0 : C.1 2 9 = 0) (hd : DT T me mo ch C (D.1 128)) (hme : me < 6) : cm_Lc cm_ms 196 [.ref 124] (fm D) (ml_K T N (me + 1) mo ch (cF_man T N C)) := by
  obtain ⟨⟨a1, a2, a3⟩, ⟨b1, b2, b3, b4, b5, b6⟩, -⟩ := id hd.2
  refine lb_st0 (mi := mr_196) rfl 120 ?_
  show (ev_cmp 0 (D.1 124 13) 0 = true → _) ∧ (ev_cmp 0 (D.1 124 13) 0 = false → _)
  refine ⟨fun h1 => ?_, fun h1 => ?_⟩
  · have z1 : C.1 2 9 = 0 := fl_0 h.2 (fn_eq0 h1)
    show ∃ R, cm_Lc cm_ms 183 [.ref 124, .int (D.1 128 3)] (fm D) R ∧ ∀ v M', R v M' → _
    refine ⟨_, cm_Lc_nm (R := nn_X N me C D) (cF_newName N 1 (C.1 T 3) C) (m_newName2 (n := me) (so := 1) (nu := C.1 T 3) b2 (by omega) h (fun _ => hd.1)), ?_⟩
    rintro v M' ⟨C1, e1, rfl, D1, rfl, r1, k1⟩
    show ∃ R, cm_Lc cm_ms 190 [.ref 124] (fm D1) R ∧ ∀ v M', R v M' → _
    refine ⟨_, cm_Lc_nm (R := ka N D1 (cF_col C1)) (cF_colour C1) (m_colour r1), ?_⟩
    rintro v M' ⟨C2, e2, x2, rfl, D2, rfl, r2, f2, v2⟩
    show ∃ R, cm_Lc cm_ms 187 [.ref 124] (cm_wi (fm D2) 128 ((11 + (3 * (D.1 128 3))).toNatClampNeg) x2) R ∧ ∀ v M', R v M' → _
    refine ⟨_, cm_Lc_nm (R := fun X => mq N X (cm_wi D2 128 ((11 + (3 * (D.1 128 3))).toNatClampNeg) x2)) (cF_step N C2) (m_pass (D := cm_wi D2 128 ((11 + (3 * (D.1 128 3))).toNatClampNeg) x2) (Rq_w r2)), ?_⟩
    rintro v M' ⟨C3, e3, rfl, D3, rfl, r3, f3⟩
    show ∃ R, cm_Lc cm_ms 189 [.ref 124, .ref (1001 + 2 * 34), .int 0, .int 99] (fm D3) R ∧ ∀ v M', R v M' → _
    refine ⟨_, cm_Lc_nm (R := ka N D3 ((cF_takeWord N 14 C3).1 2 5)) (cF_takeWhole N 0 99 (cF_takeWord N 14 C3)) (m_after2 (t := 34) (t2 := 14) (tkw_34 N) (by decide) 0 99 r3), ?_⟩
    rintro v M' ⟨C4, e4, x4, rfl, D4, rfl, r4, f4, v4⟩
    show ∃ R, cm_Lc cm_ms 189 [.ref 124, .ref (1001 + 2 * 35), .int 0, .int 9] (cm_wi (fm D4) 128 (((11 + (3 * (D.1 128 3))) + 1).toNatClampNeg) x4) R ∧ ∀ v M', R v M' → _
    refine ⟨_, cm_Lc_nm (R := ka N (cm_wi D4 128 (((11 + (3 * (D.1 128 3))) + 1).toNatClampNeg) x4) ((cF_takeWord N 15 C4).1 2 5)) (cF_takeWhole N 0 9 (cF_takeWord N 15 C4)) (m_after2 (t := 35) (t2 := 15) (D := cm_wi D4 128 (((11 + (3 * (D.1 128 3))) + 1).toNatClampNeg) x4) (tkw_35 N) (by decide) 0 9 (Rq_w r4)), ?_⟩
    rintro v M' ⟨C5, e5, x5, rfl, D5, rfl, r5, f5, v5⟩
    show (ev_cmp 1 (D5.1 124 13) 0 = true → _) ∧ (ev_cmp 1 (D5.1 124 13) 0 = false → _)
    refine ⟨fun h2 => ?_, fun h2 => ?_⟩
    · have z2 : C5.1 2 9 ≠ 0 := fl_1 r5.2 (fn_ne h2)
      show ml_K T N (me + 1) mo ch (cF_man T N C) none (cm_wi (fm D5) 128 (((11 + (3 * (D.1 128 3))) + 2).toNatClampNeg) x5)
      have ed : cF_man T N C = if C5.1 2 9 = 0 then cF_addMan T (cF_col C1) ((cF_takeWord N 14 C3).1 2 5) ((cF_takeWord N 15 C4).1 2 5) C5 else C5 := by
        unfold cF_man
        dsimp only
        subst e5 e4 e3 e2 e1
        rfl
      refine ⟨rfl, cm_wi D5 128 (((11 + (3 * (D.1 128 3))) + 2).toNatClampNeg) x5, rfl, ?_, ?_⟩
      · rw [ed, if_neg z2]
        exact Rq_w r5
      · rw [ed, if_neg z2]
        exact fun q => absurd q z2
    · have z2 : C5.1 2 9 = 0 := fl_0 r5.2 (fn_eq h2)
      show ml_K T N (me + 1) mo ch (cF_man T N C) none (cm_wi (cm_wi (fm D5) 128 (((11 + (3 * (D.1 128 3))) + 2).toNatClampNeg) x5) 128 3 (((cm_wi (fm D5) 128 (((11 + (3 * (D.1 128 3))) + 2).toNatClampNeg) x5).1 128 3) + 1))
      have ed : cF_man T N C = if C5.1 2 9 = 0 then cF_addMan T (cF_col C1) ((cF_takeWord N 14 C3).1 2 5) ((cF_takeWord N 15 C4).1 2 5) C5 else C5 := by
        unfold cF_man
        dsimp only
        subst e5 e4 e3 e2 e1
        rfl
      have y4 : C4.1 2 9 = 0 := z_word (z_whole (e5 ▸ z2))
      have y3 : C3.1 2 9 = 0 := z_word (z_whole (e4 ▸ y4))
      have y2 : C2.1 2 9 = 0 := z_step (e3 ▸ y3)
      have y1 : C1.1 2 9 = 0 := z_col (e2 ▸ y2)
      obtain ⟨q0, q1, q2, L, ns, q3, q4, q5⟩ := k1 y1
      have K12 := K_colour C1
      rw [← e2] at K12
      have K23 := K_step N C2
      rw [← e3] at K23
      have K34 := K_and (K_takeWord N 14 C3) (K_takeWhole N 0 99 _)
      rw [← e4] at K34
      have K45 := K_and (K_takeWord N 15 C4) (K_takeWhole N 0 9 _)
      rw [← e5] at K45
      have K15 := K_and (K_and (K_and K12 K23) K34) K45
      have K01 := K_newName N 1 (C.1 T 3) C
      rw [← e1] at K01
      have m5 : C5.1 T 3 = Int32.ofNat me := ((KC_tr K01 K15.1).1 T 3 hT).trans b1
      obtain ⟨i1, i2, i3⟩ := i11 (m := me) (by omega)
      refine ⟨rfl, cm_wi (cm_wi D5 128 (((11 + (3 * (D.1 128 3))) + 2).toNatClampNeg) x5) 128 3 (((cm_wi (D5) 128 (((11 + (3 * (D.1 128 3))) + 2).toNatClampNeg) x5).1 128 3) + 1), rfl, ?_, fun _ => ?_⟩
      · rw [ed, if_pos z2, addMan_eq m5 hme]
        exact Rq_wC (by omega) (Rq_wC (by omega) (Rq_wC (by omega) (Rq_wC (by omega) (Rq_wC (by omega) (Rq_wC (by omega) (Rq_w (Rq_w r5)))))))
      · rw [ed, if_pos z2]
        refine DT_man (N := N) (L := L) (ns := ns) hT hd hme h0 q1 q2 (by rw [← e1]; exact K15.2) (KC_tr K01 K15.1) q3 q4 (fun j hj => ?_)
        show (cm_wi (cm_wi D5 128 ((11 : Int32) + 3 * D.1 128 3 + 2).toNatClampNeg x5) 128 3 ((cm_wi D5 128 ((11 : Int32) + 3 * D.1 128 3 + 2).toNatClampNeg x5).1 128 3 + 1)).1 128 j = _
        have w3 : (cm_wi D5 128 ((11 : Int32) + 3 * D.1 128 3 + 2).toNatClampNeg x5).1 128 3 = Int32.ofNat me := by
          rw [b2, i3, wF, if_neg (by omega), f5, wF, b2, i2, if_neg (by omega), f4, f3, wF, b2, i1, if_neg (by omega), f2, q5]
          unfold nnF
          rw [if_neg (by omega), if_neg (by omega)]
          exact b2
        rw [w3, fn_succ, b2, i3, wF, wF, f5, wF, b2, i2, f4, f3, wF, b2, i1, f2, q5, v5 z2, v4 y4, v2 y2]
  · have z1 : C.1 2 9 ≠ 0 := fl_1 h.2 (fn_ne0 h1)
    show ml_K T N (me + 1) mo ch (cF_man T N C) none (fm D)
    exact absurd h0 z1
set_option maxRecDepth 100000 in
set_option maxHeartbeats 1000000 in
theorem m_motionLine {T N me mo ch : Nat} {C D : cm_M} (hT : 6 ≤ T) (hT2 : T ≤ 19) (h : Rq N C D) (h0 : C.1 2 9 = 0) (hd : DT T me mo ch C (D.1 128)) (hmo : mo < 5) : cm_Lc cm_ms 197 [.ref 124] (fm D) (ml_K T N me (mo + 1) ch (cF_motion T N C)) := by
  obtain ⟨⟨a1, a2, a3⟩, ⟨b1, b2, b3, b4, b5, b6⟩, -⟩ := id hd.2
  refine lb_st0 (mi := mr_197) rfl 120 ?_
  show (ev_cmp 0 (D.1 124 13) 0 = true → _) ∧ (ev_cmp 0 (D.1 124 13) 0 = false → _)
  refine ⟨fun h1 => ?_, fun h1 => ?_⟩
  · have z1 : C.1 2 9 = 0 := fl_0 h.2 (fn_eq0 h1)
    show ∃ R, cm_Lc cm_ms 183 [.ref 124, .int (6 + (D.1 128 4))] (fm D) R ∧ ∀ v M', R v M' → _
    refine ⟨_, cm_Lc_nm (R := nn_X N (6 + mo) C D) (cF_newName N 2 (C.1 T 9) C) (m_newName2 (n := 6 + mo) (so := 2) (nu := C.1 T 9) (by rw [b4, of_6]) (by omega) h (fun _ => hd.1)), ?_⟩
    rintro v M' ⟨C1, e1, rfl, D1, rfl, r1, k1⟩
    show ∃ R, cm_Lc cm_ms 189 [.ref 124, .ref (1001 + 2 * 36), .int 1, .int 30] (fm D1) R ∧ ∀ v M', R v M' → _
    refine ⟨_, cm_Lc_nm (R := ka N D1 ((cF_takeWord N 16 C1).1 2 5)) (cF_takeWhole N 1 30 (cF_takeWord N 16 C1)) (m_after2 (t := 36) (t2 := 16) (tkw_36 N) (by decide) 1 30 r1), ?_⟩
    rintro v M' ⟨C2, e2, x2, rfl, D2, rfl, r2, f2, v2⟩
    show ∃ R, cm_Lc cm_ms 189 [.ref 124, .ref (1001 + 2 * 37), .int 0, .int 54] (cm_wi (fm D2) 128 ((29 + (3 * (D.1 128 4))).toNatClampNeg) x2) R ∧ ∀ v M', R v M' → _
    refine ⟨_, cm_Lc_nm (R := ka N (cm_wi D2 128 ((29 + (3 * (D.1 128 4))).toNatClampNeg) x2) ((cF_takeWord N 17 C2).1 2 5)) (cF_takeWhole N 0 54 (cF_takeWord N 17 C2)) (m_after2 (t := 37) (t2 := 17) (D := cm_wi D2 128 ((29 + (3 * (D.1 128 4))).toNatClampNeg) x2) (tkw_37 N) (by decide) 0 54 (Rq_w r2)), ?_⟩
    rintro v M' ⟨C3, e3, x3, rfl, D3, rfl, r3, f3, v3⟩
    show ∃ R, cm_Lc cm_ms 189 [.ref 124, .ref (1001 + 2 * 38), .int 0, .int 99] (cm_wi (fm D3) 128 (((29 + (3 * (D.1 128 4))) + 1).toNatClampNeg) x3) R ∧ ∀ v M', R v M' → _
    refine ⟨_, cm_Lc_nm (R := ka N (cm_wi D3 128 (((29 + (3 * (D.1 128 4))) + 1).toNatClampNeg) x3) ((cF_takeWord N 18 C3).1 2 5)) (cF_takeWhole N 0 99 (cF_takeWord N 18 C3)) (m_after2 (t := 38) (t2 := 18) (D := cm_wi D3 128 (((29 + (3 * (D.1 128 4))) + 1).toNatClampNeg) x3) (tkw_38 N) (by decide) 0 99 (Rq_w r3)), ?_⟩
    rintro v M' ⟨C4, e4, x4, rfl, D4, rfl, r4, f4, v4⟩
    show (ev_cmp 1 (D4.1 124 13) 0 = true → _) ∧ (ev_cmp 1 (D4.1 124 13) 0 = false → _)
    refine ⟨fun h2 => ?_, fun h2 => ?_⟩
    · have z2 : C4.1 2 9 ≠ 0 := fl_1 r4.2 (fn_ne h2)
      show ml_K T N me (mo + 1) ch (cF_motion T N C) none (cm_wi (fm D4) 128 (((29 + (3 * (D.1 128 4))) + 2).toNatClampNeg) x4)
      have ed : cF_motion T N C = if C4.1 2 9 = 0 then cF_addMotion T ((cF_takeWord N 16 C1).1 2 5) ((cF_takeWord N 17 C2).1 2 5) ((cF_takeWord N 18 C3).1 2 5) C4 else C4 := by
        unfold cF_motion
        dsimp only
        subst e4 e3 e2 e1
        rfl
      refine ⟨rfl, cm_wi D4 128 (((29 + (3 * (D.1 128 4))) + 2).toNatClampNeg) x4, rfl, ?_, ?_⟩
      · rw [ed, if_neg z2]
        exact Rq_w r4
      · rw [ed, if_neg z2]
        exact fun q => absurd q z2
    · have z2 : C4.1 2 9 = 0 := fl_0 r4.2 (fn_eq h2)
      show ml_K T N me (mo + 1) ch (cF_motion T N C) none (cm_wi (cm_wi (fm D4) 128 (((29 + (3 * (D.1 128 4))) + 2).toNatClampNeg) x4) 128 4 (((cm_wi (fm D4) 128 (((29 + (3 * (D.1 128 4))) + 2).toNatClampNeg) x4).1 128 4) + 1))
      have ed : cF_motion T N C = if C4.1 2 9 = 0 then cF_addMotion T ((cF_takeWord N 16 C1).1 2 5) ((cF_takeWord N 17 C2).1 2 5) ((cF_takeWord N 18 C3).1 2 5) C4 else C4 := by
        unfold cF_motion
        dsimp only
        subst e4 e3 e2 e1
        rfl
      have y3 : C3.1 2 9 = 0 := z_word (z_whole (e4 ▸ z2))
      have y2 : C2.1 2 9 = 0 := z_word (z_whole (e3 ▸ y3))
      have y1 : C1.1 2 9 = 0 := z_word (z_whole (e2 ▸ y2))
      obtain ⟨q0, q1, q2, L, ns, q3, q4, q5⟩ := k1 y1
      have K12 := K_and (K_takeWord N 16 C1) (K_takeWhole N 1 30 _)
      rw [← e2] at K12
      have K23 := K_and (K_takeWord N 17 C2) (K_takeWhole N 0 54 _)
      rw [← e3] at K23
      have K34 := K_and (K_takeWord N 18 C3) (K_takeWhole N 0 99 _)
      rw [← e4] at K34
      have K14 := K_and (K_and K12 K23) K34
      have K01 := K_newName N 2 (C.1 T 9) C
      rw [← e1] at K01
      have m4 : C4.1 T 9 = Int32.ofNat mo := ((KC_tr K01 K14.1).1 T 9 hT).trans b3
      obtain ⟨i1, i2, i3⟩ := i29 (m := mo) (by omega)
      refine ⟨rfl, cm_wi (cm_wi D4 128 (((29 + (3 * (D.1 128 4))) + 2).toNatClampNeg) x4) 128 4 (((cm_wi (D4) 128 (((29 + (3 * (D.1 128 4))) + 2).toNatClampNeg) x4).1 128 4) + 1), rfl, ?_, fun _ => ?_⟩
      · rw [ed, if_pos z2, addMotion_eq m4 hmo]
        exact Rq_wC (by omega) (Rq_wC (by omega) (Rq_wC (by omega) (Rq_wC (by omega) (Rq_wC (by omega) (Rq_w (Rq_w r4))))))
      · rw [ed, if_pos z2]
        refine DT_motion (N := N) (L := L) (ns := ns) hT hd hmo h0 q1 q2 (by rw [← e1]; exact K14.2) (KC_tr K01 K14.1) q3 q4 (fun j hj => ?_)
        show (cm_wi (cm_wi D4 128 ((29 : Int32) + 3 * D.1 128 4 + 2).toNatClampNeg x4) 128 4 ((cm_wi D4 128 ((29 : Int32) + 3 * D.1 128 4 + 2).toNatClampNeg x4).1 128 4 + 1)).1 128 j = _
        have w3 : (cm_wi D4 128 ((29 : Int32) + 3 * D.1 128 4 + 2).toNatClampNeg x4).1 128 4 = Int32.ofNat mo := by
          rw [b4, i3, wF, if_neg (by omega), f4, wF, b4, i2, if_neg (by omega), f3, wF, b4, i1, if_neg (by omega), f2, q5]
          unfold nnF
          rw [if_neg (by omega), if_neg (by omega)]
          exact b4
        rw [w3, fn_succ, b4, i3, wF, wF, f4, wF, b4, i2, f3, wF, b4, i1, f2, q5, v4 z2, v3 y3, v2 y2]
  · have z1 : C.1 2 9 ≠ 0 := fl_1 h.2 (fn_ne0 h1)
    show ml_K T N me (mo + 1) ch (cF_motion T N C) none (fm D)
    exact absurd h0 z1
set_option maxRecDepth 100000 in
set_option maxHeartbeats 1000000 in
theorem m_chairLine {T N me mo ch : Nat} {C D : cm_M} (hT : 6 ≤ T) (hT2 : T ≤ 19) (h : Rq N C D) (h0 : C.1 2 9 = 0) (hd : DT T me mo ch C (D.1 128)) (hch : ch < 5) : cm_Lc cm_ms 201 [.ref 124] (fm D) (ml_K T N me mo (ch + 1) (cF_chair T N C)) := by
  obtain ⟨⟨a1, a2, a3⟩, ⟨b1, b2, b3, b4, b5, b6⟩, -⟩ := id hd.2
  refine lb_st0 (mi := mr_201) rfl 120 ?_
  show (ev_cmp 0 (D.1 124 13) 0 = true → _) ∧ (ev_cmp 0 (D.1 124 13) 0 = false → _)
  refine ⟨fun h1 => ?_, fun h1 => ?_⟩
  · have z1 : C.1 2 9 = 0 := fl_0 h.2 (fn_eq0 h1)
    show ∃ R, cm_Lc cm_ms 183 [.ref 124, .int (11 + (D.1 128 8))] (fm D) R ∧ ∀ v M', R v M' → _
    refine ⟨_, cm_Lc_nm (R := nn_X N (11 + ch) C D) (cF_newName N 6 (C.1 T 15) C) (m_newName2 (n := 11 + ch) (so := 6) (nu := C.1 T 15) (by rw [b6, of_11]) (by omega) h (fun _ => hd.1)), ?_⟩
    rintro v M' ⟨C1, e1, rfl, D1, rfl, r1, k1⟩
    show ∃ R, cm_Lc cm_ms 189 [.ref 124, .ref (1001 + 2 * 39), .int 0, .int 99] (fm D1) R ∧ ∀ v M', R v M' → _
    refine ⟨_, cm_Lc_nm (R := ka N D1 ((cF_takeWord N 19 C1).1 2 5)) (cF_takeWhole N 0 99 (cF_takeWord N 19 C1)) (m_after2 (t := 39) (t2 := 19) (tkw_39 N) (by decide) 0 99 r1), ?_⟩
    rintro v M' ⟨C2, e2, x2, rfl, D2, rfl, r2, f2, v2⟩
    show (ev_cmp 1 (D2.1 124 13) 0 = true → _) ∧ (ev_cmp 1 (D2.1 124 13) 0 = false → _)
    refine ⟨fun h2 => ?_, fun h2 => ?_⟩
    · have z2 : C2.1 2 9 ≠ 0 := fl_1 r2.2 (fn_ne h2)
      show ml_K T N me mo (ch + 1) (cF_chair T N C) none (cm_wi (fm D2) 128 ((61 + (D1.1 128 8)).toNatClampNeg) x2)
      have ed : cF_chair T N C = if C2.1 2 9 = 0 then cF_addChair T ((cF_takeWord N 19 C1).1 2 5) C2 else C2 := by
        unfold cF_chair
        dsimp only
        subst e2 e1
        rfl
      refine ⟨rfl, cm_wi D2 128 ((61 + (D1.1 128 8)).toNatClampNeg) x2, rfl, ?_, ?_⟩
      · rw [ed, if_neg z2]
        exact Rq_w r2
      · rw [ed, if_neg z2]
        exact fun q => absurd q z2
    · have z2 : C2.1 2 9 = 0 := fl_0 r2.2 (fn_eq h2)
      show ml_K T N me mo (ch + 1) (cF_chair T N C) none (cm_wi (cm_wi (fm D2) 128 ((61 + (D1.1 128 8)).toNatClampNeg) x2) 128 8 (((cm_wi (fm D2) 128 ((61 + (D1.1 128 8)).toNatClampNeg) x2).1 128 8) + 1))
      have ed : cF_chair T N C = if C2.1 2 9 = 0 then cF_addChair T ((cF_takeWord N 19 C1).1 2 5) C2 else C2 := by
        unfold cF_chair
        dsimp only
        subst e2 e1
        rfl
      have y1 : C1.1 2 9 = 0 := z_word (z_whole (e2 ▸ z2))
      obtain ⟨q0, q1, q2, L, ns, q3, q4, q5⟩ := k1 y1
      have K12 := K_and (K_takeWord N 19 C1) (K_takeWhole N 0 99 _)
      rw [← e2] at K12
      have K01 := K_newName N 6 (C.1 T 15) C
      rw [← e1] at K01
      have m2 : C2.1 T 15 = Int32.ofNat ch := ((KC_tr K01 K12.1).1 T 15 hT).trans b5
      have d8 : D1.1 128 8 = Int32.ofNat ch := by
        rw [q5]
        unfold nnF
        rw [if_neg (by omega), if_neg (by omega)]
        exact b6
      have i1 : ((61 : Int32) + D1.1 128 8).toNatClampNeg = 61 + ch := by rw [d8, ix_61 (by omega)]
      refine ⟨rfl, cm_wi (cm_wi D2 128 ((61 + (D1.1 128 8)).toNatClampNeg) x2) 128 8 (((cm_wi (D2) 128 ((61 + (D1.1 128 8)).toNatClampNeg) x2).1 128 8) + 1), rfl, ?_, fun _ => ?_⟩
      · rw [ed, if_pos z2, addChair_eq m2 hch]
        exact Rq_wC (by omega) (Rq_wC (by omega) (Rq_w (Rq_w r2)))
      · rw [ed, if_pos z2]
        refine DT_chair (N := N) (L := L) (ns := ns) hT hd hch h0 q1 q2 (by rw [← e1]; exact K12.2) (KC_tr K01 K12.1) q3 q4 (fun j hj => ?_)
        show (cm_wi (cm_wi D2 128 ((61 : Int32) + D1.1 128 8).toNatClampNeg x2) 128 8 ((cm_wi D2 128 ((61 : Int32) + D1.1 128 8).toNatClampNeg x2).1 128 8 + 1)).1 128 j = _
        have w3 : (cm_wi D2 128 ((61 : Int32) + D1.1 128 8).toNatClampNeg x2).1 128 8 = Int32.ofNat ch := by
          rw [i1, wF, if_neg (by omega), f2, d8]
        rw [w3, fn_succ, i1, wF, wF, f2, q5, v2 z2]
  · have z1 : C.1 2 9 ≠ 0 := fl_1 h.2 (fn_ne0 h1)
    show ml_K T N me mo (ch + 1) (cF_chair T N C) none (fm D)
    exact absurd h0 z1
