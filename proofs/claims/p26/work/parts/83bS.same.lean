noncomputable def lu_I (M : cm_M) : Prop := M.1 0 1 = M.1 124 2 ∧ ∀ j, j < (M.1 0 1).toNatClampNeg → tb (M.1 1 j) (M.1 125 j)
theorem okr {M : cm_M} (h : ab_ok hp hN M) {c i q : Nat} (e : ab_hr hp c i = some (false, [q])) : M.2.2 c i = some q := by
  have h1 := h.2.1 c i
  rw [e] at h1
  cases hc : M.2.2 c i with
  | none => rw [hc] at h1; cases h1
  | some x =>
    rw [hc] at h1
    have h1 : x ∈ [q] := h1
    rw [List.mem_singleton.mp h1]
noncomputable def okR (M : cm_M) : Prop := M.2.2 2 11 = some 3 ∧ M.2.2 2 12 = some 4 ∧ M.2.2 2 13 = some 5 ∧ M.2.2 6 4 = some 7 ∧ M.2.2 6 5 = some 8 ∧ M.2.2 6 6 = some 9 ∧ M.2.2 6 7 = some 10 ∧ M.2.2 6 8 = some 11 ∧ M.2.2 6 10 = some 12 ∧ M.2.2 6 11 = some 13 ∧ M.2.2 6 12 = some 14 ∧ M.2.2 6 13 = some 15 ∧ M.2.2 6 14 = some 16 ∧ M.2.2 6 16 = some 17 ∧ M.2.2 6 17 = some 18 ∧ M.2.2 19 4 = some 20 ∧ M.2.2 19 5 = some 21 ∧ M.2.2 19 6 = some 22 ∧ M.2.2 19 7 = some 23 ∧ M.2.2 19 8 = some 24 ∧ M.2.2 19 10 = some 25 ∧ M.2.2 19 11 = some 26 ∧ M.2.2 19 12 = some 27 ∧ M.2.2 19 13 = some 28 ∧ M.2.2 19 14 = some 29 ∧ M.2.2 19 16 = some 30 ∧ M.2.2 19 17 = some 31 ∧ M.2.2 0 0 = some 1 ∧ M.2.2 0 2 = some 2 ∧ M.2.2 0 5 = some 32 ∧ M.2.2 0 7 = some 38 ∧ M.2.2 32 0 = some 33 ∧ M.2.2 32 1 = some 34
set_option maxRecDepth 1000000 in
theorem okR_of {M : cm_M} (h : ab_ok hp hN M) : okR M := ⟨okr h (by decide +kernel), okr h (by decide +kernel), okr h (by decide +kernel), okr h (by decide +kernel), okr h (by decide +kernel), okr h (by decide +kernel), okr h (by decide +kernel), okr h (by decide +kernel), okr h (by decide +kernel), okr h (by decide +kernel), okr h (by decide +kernel), okr h (by decide +kernel), okr h (by decide +kernel), okr h (by decide +kernel), okr h (by decide +kernel), okr h (by decide +kernel), okr h (by decide +kernel), okr h (by decide +kernel), okr h (by decide +kernel), okr h (by decide +kernel), okr h (by decide +kernel), okr h (by decide +kernel), okr h (by decide +kernel), okr h (by decide +kernel), okr h (by decide +kernel), okr h (by decide +kernel), okr h (by decide +kernel), okr h (by decide +kernel), okr h (by decide +kernel), okr h (by decide +kernel), okr h (by decide +kernel), okr h (by decide +kernel), okr h (by decide +kernel)⟩
set_option maxRecDepth 1000000 in
set_option maxHeartbeats 4000000 in
theorem fbgb {M : cm_M} {T T' : Nat} (h : okR M) (h3 : M.2.2 0 3 = some T') (h4 : M.2.2 0 4 = some T) : fb (gb T T' M) = M := by
  obtain ⟨r0, r1, r2, r3, r4, r5, r6, r7, r8, r9, r10, r11, r12, r13, r14, r15, r16, r17, r18, r19, r20, r21, r22, r23, r24, r25, r26, r27, r28, r29, r30, r31, r32⟩ := h
  refine Prod.ext rfl (Prod.ext rfl (funext fun c => funext fun i => ?_))
  by_cases c2 : c = 2
  · subst c2
    show (if i = 11 then some 3 else if i = 12 then some 4 else if i = 13 then some 5 else M.2.2 2 i) = M.2.2 2 i
    by_cases q11 : i = 11
    · rw [if_pos q11, q11, r0]
    rw [if_neg q11]
    by_cases q12 : i = 12
    · rw [if_pos q12, q12, r1]
    rw [if_neg q12]
    by_cases q13 : i = 13
    · rw [if_pos q13, q13, r2]
    rw [if_neg q13]
  · by_cases c6 : c = 6
    · subst c6
      show (if i = 4 then some 7 else if i = 5 then some 8 else if i = 6 then some 9 else if i = 7 then some 10 else if i = 8 then some 11 else if i = 10 then some 12 else if i = 11 then some 13 else if i = 12 then some 14 else if i = 13 then some 15 else if i = 14 then some 16 else if i = 16 then some 17 else if i = 17 then some 18 else M.2.2 6 i) = M.2.2 6 i
      by_cases q4 : i = 4
      · rw [if_pos q4, q4, r3]
      rw [if_neg q4]
      by_cases q5 : i = 5
      · rw [if_pos q5, q5, r4]
      rw [if_neg q5]
      by_cases q6 : i = 6
      · rw [if_pos q6, q6, r5]
      rw [if_neg q6]
      by_cases q7 : i = 7
      · rw [if_pos q7, q7, r6]
      rw [if_neg q7]
      by_cases q8 : i = 8
      · rw [if_pos q8, q8, r7]
      rw [if_neg q8]
      by_cases q10 : i = 10
      · rw [if_pos q10, q10, r8]
      rw [if_neg q10]
      by_cases q11 : i = 11
      · rw [if_pos q11, q11, r9]
      rw [if_neg q11]
      by_cases q12 : i = 12
      · rw [if_pos q12, q12, r10]
      rw [if_neg q12]
      by_cases q13 : i = 13
      · rw [if_pos q13, q13, r11]
      rw [if_neg q13]
      by_cases q14 : i = 14
      · rw [if_pos q14, q14, r12]
      rw [if_neg q14]
      by_cases q16 : i = 16
      · rw [if_pos q16, q16, r13]
      rw [if_neg q16]
      by_cases q17 : i = 17
      · rw [if_pos q17, q17, r14]
      rw [if_neg q17]
    · by_cases c19 : c = 19
      · subst c19
        show (if i = 4 then some 20 else if i = 5 then some 21 else if i = 6 then some 22 else if i = 7 then some 23 else if i = 8 then some 24 else if i = 10 then some 25 else if i = 11 then some 26 else if i = 12 then some 27 else if i = 13 then some 28 else if i = 14 then some 29 else if i = 16 then some 30 else if i = 17 then some 31 else M.2.2 19 i) = M.2.2 19 i
        by_cases q4 : i = 4
        · rw [if_pos q4, q4, r15]
        rw [if_neg q4]
        by_cases q5 : i = 5
        · rw [if_pos q5, q5, r16]
        rw [if_neg q5]
        by_cases q6 : i = 6
        · rw [if_pos q6, q6, r17]
        rw [if_neg q6]
        by_cases q7 : i = 7
        · rw [if_pos q7, q7, r18]
        rw [if_neg q7]
        by_cases q8 : i = 8
        · rw [if_pos q8, q8, r19]
        rw [if_neg q8]
        by_cases q10 : i = 10
        · rw [if_pos q10, q10, r20]
        rw [if_neg q10]
        by_cases q11 : i = 11
        · rw [if_pos q11, q11, r21]
        rw [if_neg q11]
        by_cases q12 : i = 12
        · rw [if_pos q12, q12, r22]
        rw [if_neg q12]
        by_cases q13 : i = 13
        · rw [if_pos q13, q13, r23]
        rw [if_neg q13]
        by_cases q14 : i = 14
        · rw [if_pos q14, q14, r24]
        rw [if_neg q14]
        by_cases q16 : i = 16
        · rw [if_pos q16, q16, r25]
        rw [if_neg q16]
        by_cases q17 : i = 17
        · rw [if_pos q17, q17, r26]
        rw [if_neg q17]
      · by_cases c0 : c = 0
        · subst c0
          show (if i = 0 then some 1 else if i = 2 then some 2 else if i = 3 then some T' else if i = 4 then some T else if i = 5 then some 32 else if i = 7 then some 38 else M.2.2 0 i) = M.2.2 0 i
          by_cases q0 : i = 0
          · rw [if_pos q0, q0, r27]
          rw [if_neg q0]
          by_cases q2 : i = 2
          · rw [if_pos q2, q2, r28]
          rw [if_neg q2]
          by_cases q3 : i = 3
          · rw [if_pos q3, q3, h3]
          rw [if_neg q3]
          by_cases q4 : i = 4
          · rw [if_pos q4, q4, h4]
          rw [if_neg q4]
          by_cases q5 : i = 5
          · rw [if_pos q5, q5, r29]
          rw [if_neg q5]
          by_cases q7 : i = 7
          · rw [if_pos q7, q7, r30]
          rw [if_neg q7]
        · by_cases c32 : c = 32
          · subst c32
            show (if i = 0 then some 33 else if i = 1 then some 34 else M.2.2 32 i) = M.2.2 32 i
            by_cases q0 : i = 0
            · rw [if_pos q0, q0, r31]
            rw [if_neg q0]
            by_cases q1 : i = 1
            · rw [if_pos q1, q1, r32]
            rw [if_neg q1]
          · show (if c = 2 then _ else if c = 6 then _ else if c = 19 then _ else if c = 0 then _ else if c = 32 then _ else M.2.2 c i) = M.2.2 c i
            rw [if_neg c2, if_neg c6, if_neg c19, if_neg c0, if_neg c32]
set_option maxRecDepth 1000000 in
theorem fm_of {M : cm_M} (h : ab_ok hp hN M) : fm M = M := by
  refine Prod.ext rfl (Prod.ext rfl (funext fun c => funext fun i => ?_))
  by_cases c124 : c = 124
  · subst c124
    show (if i = 16 then some 128 else if i = 15 then some 127 else if i = 17 then some 129 else if i = 12 then some 126 else if i = 1 then some 125 else if i = 22 then some 132 else if i = 18 then some 130 else if i = 19 then some 131 else if i = 23 then some 133 else if i = 24 then some 134 else if i = 26 then some 135 else M.2.2 124 i) = M.2.2 124 i
    by_cases q16 : i = 16
    · rw [if_pos q16, q16, okr (c := 124) (i := 16) (q := 128) h (by decide +kernel)]
    rw [if_neg q16]
    by_cases q15 : i = 15
    · rw [if_pos q15, q15, okr (c := 124) (i := 15) (q := 127) h (by decide +kernel)]
    rw [if_neg q15]
    by_cases q17 : i = 17
    · rw [if_pos q17, q17, okr (c := 124) (i := 17) (q := 129) h (by decide +kernel)]
    rw [if_neg q17]
    by_cases q12 : i = 12
    · rw [if_pos q12, q12, okr (c := 124) (i := 12) (q := 126) h (by decide +kernel)]
    rw [if_neg q12]
    by_cases q1 : i = 1
    · rw [if_pos q1, q1, okr (c := 124) (i := 1) (q := 125) h (by decide +kernel)]
    rw [if_neg q1]
    by_cases q22 : i = 22
    · rw [if_pos q22, q22, okr (c := 124) (i := 22) (q := 132) h (by decide +kernel)]
    rw [if_neg q22]
    by_cases q18 : i = 18
    · rw [if_pos q18, q18, okr (c := 124) (i := 18) (q := 130) h (by decide +kernel)]
    rw [if_neg q18]
    by_cases q19 : i = 19
    · rw [if_pos q19, q19, okr (c := 124) (i := 19) (q := 131) h (by decide +kernel)]
    rw [if_neg q19]
    by_cases q23 : i = 23
    · rw [if_pos q23, q23, okr (c := 124) (i := 23) (q := 133) h (by decide +kernel)]
    rw [if_neg q23]
    by_cases q24 : i = 24
    · rw [if_pos q24, q24, okr (c := 124) (i := 24) (q := 134) h (by decide +kernel)]
    rw [if_neg q24]
    by_cases q26 : i = 26
    · rw [if_pos q26, q26, okr (c := 124) (i := 26) (q := 135) h (by decide +kernel)]
    rw [if_neg q26]
  · show (if c = 124 then _ else M.2.2 c i) = M.2.2 c i
    rw [if_neg c124]
theorem tp {M : cm_M} (h : ab_ok hp hN M) : ∃ t, t ≤ 900 ∧ M.1 0 1 = Int32.ofNat t := by
  have h2 := h.1 0 1
  rw [show ab_hi hp 0 1 = (0, 900) from by decide +kernel] at h2
  obtain ⟨n, q1, q2, q3⟩ := i_of h2.1
  have h9 : (M.1 0 1).toInt ≤ 900 := h2.2
  exact ⟨n, by omega, q1⟩
theorem tpm {M : cm_M} (h : ab_ok hp hN M) : ∃ t, t ≤ 900 ∧ M.1 124 2 = Int32.ofNat t := by
  have h2 := h.1 124 2
  rw [show ab_hi hp 124 2 = (0, 900) from by decide +kernel] at h2
  obtain ⟨n, q1, q2, q3⟩ := i_of h2.1
  have h9 : (M.1 124 2).toInt ≤ 900 := h2.2
  exact ⟨n, by omega, q1⟩
noncomputable def fd_C (M : cm_M) (a b c d e : Int32) (M1 : cm_M) : Prop := ab_ok hp hN M1 ∧ ∃ t, t ≤ 900 ∧ M.1 0 1 = Int32.ofNat t ∧ ((880 < t ∧ M1 = M) ∨ (t ≤ 880 ∧ M1 = fd_m M t a b c d e))
noncomputable def fd_D (M : cm_M) (a b c d e : Int32) (M1 : cm_M) : Prop := ab_ok hp hN M1 ∧ ∃ t, t ≤ 900 ∧ M.1 124 2 = Int32.ofNat t ∧ ((880 < t ∧ M1 = cm_wi M 124 0 0) ∨ (t ≤ 880 ∧ M1 = mfd_m M t a b c d e))
set_option maxRecDepth 1000000 in
theorem hd_feedC {M : cm_M} (hM : ab_ok hp hN M) (a b c d e : Int32) : cm_Call cm_ms 30 93 [.ref 0, .int a, .int b, .int c, .int d, .int e] M (fun v M1 => lp_kd 0 v ∧ fd_C M a b c d e M1) := by
  obtain ⟨t, h9, ht⟩ := tp hM
  refine cm_Call_up (cm_Lc_use (ck_231 [a, b, c, d, e] [.ref 0, .int a, .int b, .int c, .int d, .int e] M ⟨⟨0, List.mem_cons_self, rfl⟩, ⟨a, rfl, rfl⟩, ⟨b, rfl, rfl⟩, ⟨c, rfl, rfl⟩, ⟨d, rfl, rfl⟩, ⟨e, rfl, rfl⟩, trivial⟩ (lk_k ⟨lu_f a, lu_f b, lu_f c, lu_f d, lu_f e, trivial⟩) hM (fun q hq => nomatch hq)) (fn_feed (okr hM (by decide +kernel)) ht h9 a b c d e)) (by decide) (fun v M1 q => ?_)
  obtain ⟨⟨o, ho, ext, k1, k2, k3⟩, q1, q2⟩ := q
  rcases Nat.lt_or_ge 880 t with hc | hc
  · exact ⟨⟨_, (q1 hc).1⟩, k3.1, t, h9, ht, Or.inl ⟨hc, (q1 hc).2⟩⟩
  · exact ⟨⟨_, (q2 hc).1⟩, k3.1, t, h9, ht, Or.inr ⟨hc, (q2 hc).2⟩⟩
set_option maxRecDepth 1000000 in
theorem hd_feedD {M : cm_M} (hM : ab_ok hp hN M) (a b c d e : Int32) : cm_Call cm_ms 30 172 [.ref 124, .int a, .int b, .int c, .int d, .int e] M (fun v M1 => lp_kd 0 v ∧ fd_D M a b c d e M1) := by
  obtain ⟨t, h9, ht⟩ := tpm hM
  refine cm_Call_up (cm_Lc_use (ck_297 [a, b, c, d, e] [.ref 124, .int a, .int b, .int c, .int d, .int e] M ⟨⟨124, List.mem_cons_self, rfl⟩, ⟨a, rfl, rfl⟩, ⟨b, rfl, rfl⟩, ⟨c, rfl, rfl⟩, ⟨d, rfl, rfl⟩, ⟨e, rfl, rfl⟩, trivial⟩ (lk_k ⟨lu_f a, lu_f b, lu_f c, lu_f d, lu_f e, trivial⟩) hM (fun q hq => nomatch hq)) (fn_mfeed (okr hM (by decide +kernel)) ht h9 a b c d e)) (by decide) (fun v M1 q => ?_)
  obtain ⟨⟨o, ho, ext, k1, k2, k3⟩, q1, q2⟩ := q
  rcases Nat.lt_or_ge 880 t with hc | hc
  · exact ⟨⟨_, (q1 hc).1⟩, k3.1, t, h9, ht, Or.inl ⟨hc, (q1 hc).2⟩⟩
  · exact ⟨⟨_, (q2 hc).1⟩, k3.1, t, h9, ht, Or.inr ⟨hc, (q2 hc).2⟩⟩
theorem sb_1 (M : cm_M) (x : Int32) (t j : Nat) : ∀ c, (sb M x t c).1 1 j = if t ≤ j ∧ j < t + c then bt x (Int32.ofInt (24 - 8 * ((j - t : Nat) : Int))) else M.1 1 j
  | 0 => by rw [if_neg (by omega)]; try rfl
  | c + 1 => by
    show (if 1 = 1 ∧ j = t + c then bt x (Int32.ofInt (24 - 8 * (c : Int))) else (sb M x t c).1 1 j) = _
    by_cases h : j = t + c
    · have e : j - t = c := by omega
      rw [if_pos ⟨rfl, h⟩, if_pos (by omega), e]
    · rw [if_neg (fun q => h q.2), sb_1 M x t j c]
      by_cases h2 : t ≤ j ∧ j < t + c
      · rw [if_pos h2, if_pos (by omega)]
      · rw [if_neg h2, if_neg (by omega)]
theorem sbn_q (M : cm_M) (x : Int32) (t q j : Nat) (h0 : q ≠ 0) (h1 : q ≠ 1) : ∀ c, (sb M x t c).1 q j = M.1 q j
  | 0 => rfl
  | c + 1 => by
    show (if q = 0 ∧ j = 1 then _ else if q = 1 ∧ j = t + c then _ else (sb M x t c).1 q j) = _
    rw [if_neg (fun z => h0 z.1), if_neg (fun z => h1 z.1), sbn_q M x t q j h0 h1 c]
theorem sm_1 (M : cm_M) (f : Nat → Int32) (t j : Nat) : ∀ c, (sm M f t c).1 125 j = if t ≤ j ∧ j < t + c then mt (f (j - t)) (j - t) else M.1 125 j
  | 0 => by rw [if_neg (by omega)]; try rfl
  | c + 1 => by
    show (if 125 = 125 ∧ j = t + c then mt (f c) c else (sm M f t c).1 125 j) = _
    by_cases h : j = t + c
    · have e : j - t = c := by omega
      rw [if_pos ⟨rfl, h⟩, if_pos (by omega), e]
    · rw [if_neg (fun q => h q.2), sm_1 M f t j c]
      by_cases h2 : t ≤ j ∧ j < t + c
      · rw [if_pos h2, if_pos (by omega)]
      · rw [if_neg h2, if_neg (by omega)]
theorem sm_n (M : cm_M) (f : Nat → Int32) (t q j : Nat) (h0 : q ≠ 124) (h1 : q ≠ 125) : ∀ c, (sm M f t c).1 q j = M.1 q j
  | 0 => rfl
  | c + 1 => by
    show (if q = 124 ∧ j = 2 then _ else if q = 125 ∧ j = t + c then _ else (sm M f t c).1 q j) = _
    rw [if_neg (fun z => h0 z.1), if_neg (fun z => h1 z.1), sm_n M f t q j h0 h1 c]
theorem fd_c1 (M : cm_M) (t j : Nat) (a b c d e : Int32) : (fd_m M t a b c d e).1 1 j = if t ≤ j ∧ j < t + 20 then bt (w5 a b c d e (j - t)) (Int32.ofInt (24 - 8 * (((j - t) % 4 : Nat) : Int))) else M.1 1 j := by
  unfold fd_m
  rw [sb_1, sb_1, sb_1, sb_1, sb_1]
  by_cases h5 : t + 16 ≤ j ∧ j < t + 16 + 4
  · have e1 : (j - t) % 4 = j - (t + 16) := by omega
    have e2 : w5 a b c d e (j - t) = e := by
      unfold w5
      rw [if_neg (by omega), if_neg (by omega), if_neg (by omega), if_neg (by omega)]
    rw [if_pos h5, if_pos (by omega), e1, e2]
  · rw [if_neg h5]
    by_cases h4 : t + 12 ≤ j ∧ j < t + 12 + 4
    · have e1 : (j - t) % 4 = j - (t + 12) := by omega
      have e2 : w5 a b c d e (j - t) = d := by
        unfold w5
        rw [if_neg (by omega), if_neg (by omega), if_neg (by omega), if_pos (by omega)]
      rw [if_pos h4, if_pos (by omega), e1, e2]
    · rw [if_neg h4]
      by_cases h3 : t + 8 ≤ j ∧ j < t + 8 + 4
      · have e1 : (j - t) % 4 = j - (t + 8) := by omega
        have e2 : w5 a b c d e (j - t) = c := by
          unfold w5
          rw [if_neg (by omega), if_neg (by omega), if_pos (by omega)]
        rw [if_pos h3, if_pos (by omega), e1, e2]
      · rw [if_neg h3]
        by_cases h2 : t + 4 ≤ j ∧ j < t + 4 + 4
        · have e1 : (j - t) % 4 = j - (t + 4) := by omega
          have e2 : w5 a b c d e (j - t) = b := by
            unfold w5
            rw [if_neg (by omega), if_pos (by omega)]
          rw [if_pos h2, if_pos (by omega), e1, e2]
        · rw [if_neg h2]
          by_cases h1 : t ≤ j ∧ j < t + 4
          · have e1 : (j - t) % 4 = j - t := by omega
            have e2 : w5 a b c d e (j - t) = a := by
              unfold w5
              rw [if_pos (by omega)]
            rw [if_pos h1, if_pos (by omega), e1, e2]
          · rw [if_neg h1, if_neg (by omega)]
theorem fd_n (M : cm_M) (t q j : Nat) (a b c d e : Int32) (h0 : q ≠ 0) (h1 : q ≠ 1) : (fd_m M t a b c d e).1 q j = M.1 q j := by
  unfold fd_m
  rw [sbn_q _ _ _ _ _ h0 h1, sbn_q _ _ _ _ _ h0 h1, sbn_q _ _ _ _ _ h0 h1, sbn_q _ _ _ _ _ h0 h1, sbn_q _ _ _ _ _ h0 h1]
theorem fd_n2 (M : cm_M) (t q j : Nat) (a b c d e : Int32) (h1 : q ≠ 1) (h0 : ¬ (q = 0 ∧ j = 1)) : (fd_m M t a b c d e).1 q j = M.1 q j := by
  have k : ∀ (M : cm_M) (x : Int32) (t c : Nat), (sb M x t c).1 q j = M.1 q j := fun M x t c => by
    induction c with
    | zero => rfl
    | succ c ih =>
      show (if q = 0 ∧ j = 1 then _ else if q = 1 ∧ j = t + c then _ else (sb M x t c).1 q j) = _
      rw [if_neg h0, if_neg (fun z => h1 z.1), ih]
  unfold fd_m
  rw [k, k, k, k, k]
theorem fd_r (M : cm_M) (t : Nat) (a b c d e : Int32) : (fd_m M t a b c d e).2 = M.2 := by
  unfold fd_m
  rw [sb_r, sb_r, sb_r, sb_r, sb_r]
theorem sm_n2 (M : cm_M) (f : Nat → Int32) (t q j : Nat) (h1 : q ≠ 125) (h0 : ¬ (q = 124 ∧ j = 2)) : ∀ c, (sm M f t c).1 q j = M.1 q j
  | 0 => rfl
  | c + 1 => by
    show (if q = 124 ∧ j = 2 then _ else if q = 125 ∧ j = t + c then _ else (sm M f t c).1 q j) = _
    rw [if_neg h0, if_neg (fun z => h1 z.1), sm_n2 M f t q j h1 h0 c]
theorem sh_k : ∀ k, k < 20 → (24 : Int32) - 8 * (Int32.ofNat k - Int32.ofNat k / 4 * 4) = Int32.ofInt (24 - 8 * ((k % 4 : Nat) : Int)) := by decide +kernel
theorem feed_I {M M1 M2 : cm_M} {a b c d e : Int32} (hI : lu_I M) (h1 : fd_C M a b c d e M1) (h2 : fd_D M1 a b c d e M2) : lu_I M2 := by
  obtain ⟨-, t, t9, ht, h1⟩ := h1
  obtain ⟨-, u, u9, hu, h2⟩ := h2
  have et : M.1 124 2 = Int32.ofNat t := hI.1.symm.trans ht
  rcases h1 with ⟨hc, rfl⟩ | ⟨hc, rfl⟩
  · have e1 : u = t := ofn_inj (by omega) (by omega) (hu.symm.trans et)
    rcases h2 with ⟨hd, rfl⟩ | ⟨hd, rfl⟩
    · exact hI
    · omega
  · have e1 : u = t := ofn_inj (by omega) (by omega) (hu.symm.trans ((fd_n M t 124 2 a b c d e (by decide) (by decide)).trans et))
    subst e1
    rcases h2 with ⟨hd, rfl⟩ | ⟨hd, rfl⟩
    · omega
    · have f1 : (mfd_m (fd_m M u a b c d e) u a b c d e).1 0 1 = Int32.ofNat (u + 20) := by
        rw [sm_n _ _ _ _ _ (by decide) (by decide)]
        try rfl
      have f2 : (mfd_m (fd_m M u a b c d e) u a b c d e).1 124 2 = Int32.ofNat (u + 20) := rfl
      refine ⟨by rw [f1, f2], fun j hj => ?_⟩
      rw [f1, fn_nat (by omega)] at hj
      rw [sm_n _ _ _ _ _ (by decide) (by decide), sm_1]
      show tb ((fd_m M u a b c d e).1 1 j) (if u ≤ j ∧ j < u + 20 then mt (w5 a b c d e (j - u)) (j - u) else (fd_m M u a b c d e).1 125 j)
      rw [fd_c1]
      by_cases hq : u ≤ j ∧ j < u + 20
      · rw [if_pos hq, if_pos hq]
        unfold mt bt
        rw [sh_k (j - u) (by omega)]
        exact tb_y _
      · rw [if_neg hq, if_neg hq, fd_n _ _ _ _ _ _ _ _ _ (by decide) (by decide)]
        exact hI.2 j (by rw [ht, fn_nat (by omega)]; omega)
theorem rd0_1 {T j : Nat} {n : Int32} {C : cm_M} (hT : 6 ≤ T) : (rd0 T n C).1 1 j = C.1 1 j := by
  show (cF_clear T (cm_wi (cm_wi C 2 1 n) 2 2 0)).1 1 j = _
  unfold cF_clear
  rw [wi_ne (by omega), wi_ne (by omega), wi_ne (by omega), wi_ne (by omega), wi_ne (by omega), wi_ne (by omega), wi_ne (by omega), wi_ne (by omega), wi_ne (by omega), wi_ne (by omega)]
  try rfl
theorem rd0_T {T i : Nat} {n : Int32} {C : cm_M} (hT : 6 ≤ T) (hi : i = 3 ∨ i = 9 ∨ i = 15 ∨ i = 18) : (rd0 T n C).1 T i = 0 := by
  have e : (rd0 T n C).1 T i = (cF_clear T (cm_wi (cm_wi C 2 1 n) 2 2 0)).1 T i := by
    unfold rd0
    rw [wi_ne (by omega), wi_ne (by omega), wi_ne (by omega)]
    try rfl
  rw [e]
  unfold cF_clear
  rw [wi_ne (by omega), wi_ne (by omega), wi_ne (by omega)]
  rcases hi with rfl | rfl | rfl | rfl
  · rw [wC, if_neg (by omega), wC, if_neg (by omega), wC, if_neg (by omega), wC, if_pos ⟨rfl, rfl⟩]
  · rw [wC, if_neg (by omega), wC, if_neg (by omega), wC, if_pos ⟨rfl, rfl⟩]
  · rw [wC, if_neg (by omega), wC, if_pos ⟨rfl, rfl⟩]
  · rw [wC, if_pos ⟨rfl, rfl⟩]
theorem DR_A {me mo ch : Nat} {td : Int32} {A A' : Nat → Nat → Int32} {F : Nat → Int32} (h : DR me mo ch td A F) (hA : ∀ i, i ≤ 12 → i ≠ 10 → ∀ j, A' i j = A i j) : DR me mo ch td A' F := by
  obtain ⟨⟨a1, a2, a3⟩, ⟨b1, b2, b3, b4, b5, b6⟩, c, d, e, f, hb, g1, g2, g3, g4⟩ := h
  have e12 : A' 12 = A 12 := funext fun j => hA 12 (by omega) (by omega) j
  refine ⟨⟨a1, a2, fun q => ?_⟩, ⟨?_, b2, ?_, b4, ?_, b6⟩, fun m hm => ?_, fun k hk => ?_, fun x hx => ?_, f, hb, g1, ?_, g3, ?_⟩
  · rw [hA 0 (by omega) (by omega), hA 0 (by omega) (by omega), hA 0 (by omega) (by omega)]; exact a3 q
  · rw [hA 0 (by omega) (by omega)]; exact b1
  · rw [hA 0 (by omega) (by omega)]; exact b3
  · rw [hA 0 (by omega) (by omega)]; exact b5
  · rw [hA 1 (by omega) (by omega), hA 2 (by omega) (by omega), hA 3 (by omega) (by omega), hA 4 (by omega) (by omega), hA 5 (by omega) (by omega)]; exact c m hm
  · rw [hA 6 (by omega) (by omega), hA 7 (by omega) (by omega), hA 8 (by omega) (by omega), hA 9 (by omega) (by omega)]; exact d k hk
  · rw [hA 11 (by omega) (by omega)]; exact e x hx
  · rw [hA 0 (by omega) (by omega)]; exact g2
  · rw [e12]; exact g4
/-- what is told of a town, on both sides -/
noncomputable def SD (T' : Nat) (M : cm_M) : Prop := (M.1 T' 3 = 0 ∧ M.1 T' 9 = 0 ∧ M.1 T' 15 = 0 ∧ M.1 124 14 = 0) ∨ (M.1 124 14 = 1 ∧ ∃ me mo ch, 0 < me ∧ me ≤ 6 ∧ mo ≤ 5 ∧ ch ≤ 5 ∧ DR me mo ch 1 (DA T' M) (M.1 127))
noncomputable def SR (M : cm_M) : Prop := M.1 0 12 = M.1 124 9 ∧ ∃ T', (T' = 6 ∨ T' = 19) ∧ M.2.2 0 3 = some T' ∧ M.2.2 0 4 = some (25 - T') ∧ SD T' M
noncomputable def LI (M : cm_M) : Prop := lu_I M ∧ SR M
theorem SD_cg {T' : Nat} {M M' : cm_M} (h : SD T' M) (h1 : ∀ c j, T' ≤ c → c ≤ T' + 12 → c ≠ T' + 10 → M'.1 c j = M.1 c j) (h2 : M'.1 124 14 = M.1 124 14) (h3 : ∀ j, M'.1 127 j = M.1 127 j) : SD T' M' := by
  rcases h with ⟨a1, a2, a3, a4⟩ | ⟨a1, me, mo, ch, b1, b2, b3, b4, b5⟩
  · exact Or.inl ⟨(h1 T' 3 (by omega) (by omega) (by omega)).trans a1, (h1 T' 9 (by omega) (by omega) (by omega)).trans a2, (h1 T' 15 (by omega) (by omega) (by omega)).trans a3, h2.trans a4⟩
  · refine Or.inr ⟨h2.trans a1, me, mo, ch, b1, b2, b3, b4, ?_⟩
    rw [show M'.1 127 = M.1 127 from funext h3]
    exact DR_A b5 (fun i hi h10 j => h1 (T' + i) j (by omega) (by omega) (by omega))
theorem LI_P {M M' : cm_M} (h : LI M) (hp : lu_P M M') : LI M' := by
  obtain ⟨k1, k2⟩ := hp
  have e : ∀ c i, st_B c i = true → M'.1 c i = M.1 c i := fun c i q => (k2 c i q).1
  obtain ⟨⟨i1, i2⟩, s1, T', s2, s3, s4, s5⟩ := h
  refine ⟨⟨by rw [e 0 1 rfl, e 124 2 rfl]; exact i1, fun j hj => ?_⟩, by rw [e 0 12 rfl, e 124 9 rfl]; exact s1, T', s2, (k2 0 3 rfl).2.trans s3, (k2 0 4 rfl).2.trans s4, SD_cg s5 (fun c j c1 c2 c3 => e c j (st_B_t (by omega) (by omega) (by omega) (by omega))) (e 124 14 rfl) (fun j => e 127 j rfl)⟩
  rw [e 0 1 rfl] at hj
  rw [e 1 j rfl, e 125 j rfl]
  exact i2 j hj
theorem feed_LI {M M1 M2 : cm_M} {a b c d e : Int32} (hI : LI M) (h1 : fd_C M a b c d e M1) (h2 : fd_D M1 a b c d e M2) : LI M2 := by
  refine ⟨feed_I hI.1 h1 h2, ?_⟩
  have f1 : (∀ q j, q ≠ 1 → ¬ (q = 0 ∧ j = 1) → M1.1 q j = M.1 q j) ∧ M1.2 = M.2 := by
    obtain ⟨-, t, -, -, ⟨-, rfl⟩ | ⟨-, rfl⟩⟩ := h1
    · exact ⟨fun _ _ _ _ => rfl, rfl⟩
    · exact ⟨fun q j a1 a2 => fd_n2 M t q j a b c d e a1 a2, fd_r M t a b c d e⟩
  have f2 : (∀ q j, q ≠ 125 → ¬ (q = 124 ∧ (j = 0 ∨ j = 2)) → M2.1 q j = M1.1 q j) ∧ M2.2 = M1.2 := by
    obtain ⟨-, t, -, -, ⟨-, rfl⟩ | ⟨-, rfl⟩⟩ := h2
    · exact ⟨fun q j a1 a2 => wi_n2 (by omega), rfl⟩
    · refine ⟨fun q j a1 a2 => ?_, (sm_r _ _ _ _).trans rfl⟩
      rw [sm_n2 _ _ _ _ _ a1 (by omega), wi_n2 (by omega)]
  have e : ∀ q j, q ≠ 125 → q ≠ 1 → ¬ (q = 0 ∧ j = 1) → ¬ (q = 124 ∧ (j = 0 ∨ j = 2)) → M2.1 q j = M.1 q j := fun q j a1 a2 a3 a4 => (f2.1 q j a1 a4).trans (f1.1 q j a2 a3)
  have er : M2.2 = M.2 := f2.2.trans f1.2
  obtain ⟨s1, T', s2, s3, s4, s5⟩ := hI.2
  refine ⟨by rw [e 0 12 (by omega) (by omega) (by omega) (by omega), e 124 9 (by omega) (by omega) (by omega) (by omega)]; exact s1, T', s2, by rw [er]; exact s3, by rw [er]; exact s4, SD_cg s5 (fun c j c1 c2 _ => e c j (by omega) (by omega) (by omega) (by omega)) (e 124 14 (by omega) (by omega) (by omega) (by omega)) (fun j => e 127 j (by omega) (by omega) (by omega) (by omega))⟩
/-- the frame of rd0, for what the class's reader leaves alone -/
theorem rd0_n {T c j : Nat} {n : Int32} {C : cm_M} (hT : 6 ≤ T) (h1 : ¬ (2 ≤ c ∧ c ≤ 5)) (h2 : ¬ (T ≤ c ∧ c ≤ T + 12)) : (rd0 T n C).1 c j = C.1 c j := by
  unfold rd0
  rw [wi_ne (by omega), wi_ne (by omega), wi_ne (by omega)]
  show (cF_clear T (cm_wi (cm_wi C 2 1 n) 2 2 0)).1 c j = _
  unfold cF_clear
  rw [wi_ne (by omega), wi_ne (by omega), wi_ne (by omega), wi_ne (by omega), wi_ne (by omega), wi_ne (by omega), wi_ne (by omega), wi_ne (by omega), wi_ne (by omega), wi_ne (by omega), wi_ne (by omega), wi_ne (by omega)]
theorem Ex_n {T N c j : Nat} {n : Int32} {C X : cm_M} (hT : 6 ≤ T) (hX : Ex T N (rd0 T n C) X) (h1 : ¬ (2 ≤ c ∧ c ≤ 5)) (h2 : ¬ (T ≤ c ∧ c ≤ T + 12)) : (fin T X).1 c j = C.1 c j := ((PG_fin (T := T) (N := N)).2.2 c j h1 h2).trans (((PG_Ex hT hX).2.2 c j h1 h2).trans (rd0_n hT h1 h2))
theorem fin_3 {T : Nat} {X : cm_M} (h : (fin T X).1 2 9 = 0) : (fin T X).1 T 3 ≠ 0 := by
  unfold fin at h ⊢
  generalize (if X.1 2 3 = 0 then X else cF_fail 1 X) = Y at h ⊢
  by_cases q : Y.1 T 3 = 0
  · rw [if_pos q] at h
    exact absurd h (cF_fail_9n (by decide))
  · rw [if_neg q]
    exact q
theorem ref_town {T T' N : Nat} {M M1 : cm_M} (hT : 6 ≤ T) (hT2 : T ≤ 19) (hN9 : N ≤ 900) (hM1 : ab_ok hp hN M1) (ht : (N : Int) ≤ (M1.1 124 2).toInt) (htb : ∀ j, j < N → tb (M.1 1 j) (M1.1 125 j)) (hfr : ∀ c j, prC c j → M1.1 c j = M.1 c j) : cm_Lc cm_ms 191 [.ref 124, .int (Int32.ofNat N)] M1 (mt_K T N (rd0 T (Int32.ofNat N) (gb T T' (cm_wi M 0 1 0)))) := by
  have q := m_town (T := T) (N := N) (C0 := rd0 T (Int32.ofNat N) (gb T T' (cm_wi M 0 1 0))) (D := M1) hT hT2 hN9 (rd0_RC hT hN9) rfl (clr_2 hT : (cF_clear T (cm_wi (cm_wi (gb T T' (cm_wi M 0 1 0)) 2 1 (Int32.ofNat N)) 2 2 0)).1 2 2 = _) rfl rfl (rd0_T hT (by omega)) (rd0_T hT (by omega)) (rd0_T hT (by omega)) (rd0_T hT (by omega)) ht (fun j hj => by
    rw [rd0_1 hT]
    exact htb j hj) (fun c j q => by
    have q2 := q
    unfold prC at q2
    rw [rd0_n hT (by omega) (by omega)]
    show _ = (cm_wi M 0 1 0).1 c j
    rw [wi_n2 (by omega)]
    exact hfr c j q)
  rw [fm_of hM1] at q
  exact q
/-- the state as it was, the trouble on both sides -/
noncomputable def tf_0 (M M2 : cm_M) : Prop := (∀ c j, 32 ≤ c → c ≤ 97 → M2.1 c j = M.1 c j) ∧ (∀ j, M2.1 129 j = M.1 129 j ∧ M2.1 130 j = M.1 130 j ∧ M2.1 131 j = M.1 131 j) ∧ (M2.1 124 20 = M.1 124 20 ∧ M2.1 124 21 = M.1 124 21) ∧ M2.2.2 0 3 = M.2.2 0 3 ∧ (∀ T', M.2.2 0 3 = some T' → M2.1 T' 3 = M.1 T' 3) ∧ M2.1 0 14 = M2.1 124 11 ∧ (M2.1 0 14 = 4 → M2.1 0 13 = M2.1 124 10)
/-- the state of a new town -/
noncomputable def tf_1 (M M2 : cm_M) : Prop := ∃ T me, (T = 6 ∨ T = 19) ∧ M2.2.2 0 3 = some T ∧ M2.1 T 3 = Int32.ofNat me ∧ me ≤ 6 ∧ (∀ m, m < me → M2.1 33 m = M2.1 129 m) ∧ (∀ q, q < 3 → M2.1 34 q = 0 ∧ M2.1 129 (6 + q) = 0) ∧ (M2.1 32 2 = 0 ∧ M2.1 129 9 = 0 ∧ M2.1 32 3 = 0 ∧ M2.1 129 10 = 0) ∧ M2.1 38 2 = M.1 38 2 ∧ (M2.1 38 3 = 0 ∧ M2.1 124 20 = 0 ∧ M2.1 38 4 = 0 ∧ M2.1 124 21 = 0) ∧ M2.1 0 14 = 0 ∧ M2.1 124 11 = 0
noncomputable def TF (M M2 : cm_M) : Prop := tf_0 M M2 ∨ tf_1 M M2
noncomputable def tsm_P (M : cm_M) (n : Int32) : cm_K := fun v M1 => ∃ r, v = some (.int r) ∧ ab_ok hp hN M1 ∧ cm_Call cm_ms 30 191 [.ref 124, .int n] M1 (fun v2 M2 => v2 = some (.int r) ∧ ab_ok hp hN M2 ∧ LI M2 ∧ TF M M2)
/-- the class's cells behind its town -/
noncomputable def tc_F (T T' : Nat) (M X M1 : cm_M) : Prop := ((fin T X).1 2 9 ≠ 0 → M1.1 0 12 = (fin T X).1 2 9 ∧ M1.2.2 0 3 = some T' ∧ M1.2.2 0 4 = some T ∧ (∀ c j, T' ≤ c → c ≤ T' + 12 → M1.1 c j = M.1 c j) ∧ (∀ c j, 32 ≤ c → M1.1 c j = M.1 c j) ∧ M1.1 0 13 = (fin T X).1 2 4 ∧ M1.1 0 14 = 4) ∧ ((fin T X).1 2 9 = 0 → M1.1 0 12 = 0 ∧ M1.2.2 0 3 = some T ∧ M1.2.2 0 4 = some T' ∧ (∀ c j, T ≤ c → c ≤ T + 12 → M1.1 c j = (fin T X).1 c j) ∧ (∀ j, j < 6 → M1.1 33 j = (fin T X).1 (T + 2) j) ∧ (∀ q, q < 3 → M1.1 34 q = 0) ∧ M1.1 32 2 = 0 ∧ M1.1 32 3 = 0 ∧ M1.1 38 2 = M.1 38 2 ∧ M1.1 38 3 = 0 ∧ M1.1 38 4 = 0 ∧ M1.1 0 14 = 0)
theorem tc_6 {N : Nat} {M X E M1 : cm_M} (hX : Ex 6 N (rd0 6 (Int32.ofNat N) (gb 6 19 (cm_wi M 0 1 0))) X) (hE : E.1 = (fin 6 X).1) (h1 : (fin 6 X).1 2 9 ≠ 0 → ct_B6 19 E M1) (h2 : (fin 6 X).1 2 9 = 0 → ct_G6 19 E M1) : tc_F 6 19 M X M1 := by
  refine ⟨fun z => ?_, fun z => ?_⟩
  · have e := h1 z
    unfold ct_B6 at e
    subst e
    refine ⟨by rw [← hE]; try rfl, rfl, rfl, fun c j c1 c2 => ?_, fun c j c1 => ?_, by rw [← hE]; try rfl, rfl⟩
    · rw [wi_n2 (by omega), wi_n2 (by omega), wi_n2 (by omega)]
      show E.1 c j = _
      rw [hE, Ex_n (by decide) hX (by omega) (by omega)]
      exact wi_n2 (by omega)
    · rw [wi_n2 (by omega), wi_n2 (by omega), wi_n2 (by omega)]
      show E.1 c j = _
      rw [hE, Ex_n (by decide) hX (by omega) (by omega)]
      exact wi_n2 (by omega)
  · have e := h2 z
    unfold ct_G6 at e
    subst e
    refine ⟨by rw [← hE] at z; exact z, rfl, rfl, fun c j c1 c2 => ?_, fun j hj => ?_, fun q hq => ?_, rfl, rfl, ?_, rfl, rfl, rfl⟩
    · rw [wi_n2 (by omega), wi_n2 (by omega), wi_n2 (by omega)]
      unfold bgF
      rw [wi_n2 (by omega), wi_n2 (by omega), wi_n2 (by omega), wi_n2 (by omega), wi_n2 (by omega)]
      show (if c = 33 ∧ 0 ≤ j ∧ j < 0 + 6 then _ else (cm_wi (fr 6 (gb 6 19 E)) 0 12 (E.1 2 9)).1 c j) = _
      rw [if_neg (by omega), wi_n2 (by omega), ← hE]
      try rfl
    · rw [wi_n2 (by omega), wi_n2 (by omega), wi_n2 (by omega)]
      unfold bgF
      rw [wi_n2 (by omega), wi_n2 (by omega), wi_n2 (by omega), wi_n2 (by omega), wi_n2 (by omega), cp_in (by omega) (by omega), Nat.sub_zero, Nat.zero_add]
      show (cm_wi (fr 6 (gb 6 19 E)) 0 12 (E.1 2 9)).1 8 j = _
      rw [wi_n2 (by omega), ← hE]
      try rfl
    · rcases (by omega : q = 0 ∨ q = 1 ∨ q = 2) with rfl | rfl | rfl <;> rfl
    · rw [wi_n2 (by omega), wi_n2 (by omega), wi_n2 (by omega)]
      unfold bgF
      rw [wi_n2 (by omega), wi_n2 (by omega), wi_n2 (by omega), wi_n2 (by omega), wi_n2 (by omega), cp_ne (by omega)]
      show (cm_wi (fr 6 (gb 6 19 E)) 0 12 (E.1 2 9)).1 38 2 = _
      rw [wi_n2 (by omega)]
      show E.1 38 2 = _
      rw [hE, Ex_n (by decide) hX (by omega) (by omega)]
      exact (show (cm_wi M 0 1 0).1 38 2 = M.1 38 2 from wi_n2 (by omega))
theorem tc_19 {N : Nat} {M X E M1 : cm_M} (hX : Ex 19 N (rd0 19 (Int32.ofNat N) (gb 19 6 (cm_wi M 0 1 0))) X) (hE : E.1 = (fin 19 X).1) (h1 : (fin 19 X).1 2 9 ≠ 0 → ct_B19 6 E M1) (h2 : (fin 19 X).1 2 9 = 0 → ct_G19 6 E M1) : tc_F 19 6 M X M1 := by
  refine ⟨fun z => ?_, fun z => ?_⟩
  · have e := h1 z
    unfold ct_B19 at e
    subst e
    refine ⟨by rw [← hE]; try rfl, rfl, rfl, fun c j c1 c2 => ?_, fun c j c1 => ?_, by rw [← hE]; try rfl, rfl⟩
    · rw [wi_n2 (by omega), wi_n2 (by omega), wi_n2 (by omega)]
      show E.1 c j = _
      rw [hE, Ex_n (by decide) hX (by omega) (by omega)]
      exact wi_n2 (by omega)
    · rw [wi_n2 (by omega), wi_n2 (by omega), wi_n2 (by omega)]
      show E.1 c j = _
      rw [hE, Ex_n (by decide) hX (by omega) (by omega)]
      exact wi_n2 (by omega)
  · have e := h2 z
    unfold ct_G19 at e
    subst e
    refine ⟨by rw [← hE] at z; exact z, rfl, rfl, fun c j c1 c2 => ?_, fun j hj => ?_, fun q hq => ?_, rfl, rfl, ?_, rfl, rfl, rfl⟩
    · rw [wi_n2 (by omega), wi_n2 (by omega), wi_n2 (by omega)]
      unfold bgF
      rw [wi_n2 (by omega), wi_n2 (by omega), wi_n2 (by omega), wi_n2 (by omega), wi_n2 (by omega)]
      show (if c = 33 ∧ 0 ≤ j ∧ j < 0 + 6 then _ else (cm_wi (fr 19 (gb 19 6 E)) 0 12 (E.1 2 9)).1 c j) = _
      rw [if_neg (by omega), wi_n2 (by omega), ← hE]
      try rfl
    · rw [wi_n2 (by omega), wi_n2 (by omega), wi_n2 (by omega)]
      unfold bgF
      rw [wi_n2 (by omega), wi_n2 (by omega), wi_n2 (by omega), wi_n2 (by omega), wi_n2 (by omega), cp_in (by omega) (by omega), Nat.sub_zero, Nat.zero_add]
      show (cm_wi (fr 19 (gb 19 6 E)) 0 12 (E.1 2 9)).1 21 j = _
      rw [wi_n2 (by omega), ← hE]
      try rfl
    · rcases (by omega : q = 0 ∨ q = 1 ∨ q = 2) with rfl | rfl | rfl <;> rfl
    · rw [wi_n2 (by omega), wi_n2 (by omega), wi_n2 (by omega)]
      unfold bgF
      rw [wi_n2 (by omega), wi_n2 (by omega), wi_n2 (by omega), wi_n2 (by omega), wi_n2 (by omega), cp_ne (by omega)]
      show (cm_wi (fr 19 (gb 19 6 E)) 0 12 (E.1 2 9)).1 38 2 = _
      rw [wi_n2 (by omega)]
      show E.1 38 2 = _
      rw [hE, Ex_n (by decide) hX (by omega) (by omega)]
      exact (show (cm_wi M 0 1 0).1 38 2 = M.1 38 2 from wi_n2 (by omega))
theorem town_same {M : cm_M} (hM : ab_ok hp hN M) (hL : LI M) (n : Int32) : cm_Call cm_ms 30 95 [.ref 0, .int n] M (tsm_P M n) := by
  have hI := hL.1
  obtain ⟨s1, T', s2, s3, s4, s5⟩ := id hL.2
  obtain ⟨t, h9, ht⟩ := tp hM
  have htm : M.1 124 2 = Int32.ofNat t := hI.1.symm.trans ht
  by_cases hn : 0 ≤ n.toInt ∧ n.toInt ≤ (M.1 0 1).toInt
  · obtain ⟨N, hN, hN2, -⟩ := i_of hn.1
    have hn2 := hn.2
    rw [ht, fn_toInt (by omega)] at hn2
    have N9 : N ≤ 900 := by omega
    have both : ∀ (T : Nat), T = 25 - T' → ∀ (v : Option Value) (M1 : cm_M), tw_PC M n v M1 → (∃ X, Ex T N (rd0 T (Int32.ofNat N) (gb T T' (cm_wi M 0 1 0))) X ∧ ((fin T X).1 2 9 ≠ 0 → v = some (.int (-1))) ∧ ((fin T X).1 2 9 = 0 → v = some (.int ((fin T X).1 T 3))) ∧ tc_F T T' M X M1) → tsm_P M n v M1 := by
      intro T hTT v M1 hv ⟨X, hX, x1, x2, hF⟩
      obtain ⟨-, ⟨k1, k2⟩, k3, k4, k5⟩ := hv
      rw [if_pos hn] at k2
      have er : ∃ r, v = some (.int r) ∧ ((fin T X).1 2 9 ≠ 0 → r = -1) ∧ ((fin T X).1 2 9 = 0 → r = (fin T X).1 T 3) := by
        by_cases z : (fin T X).1 2 9 = 0
        · exact ⟨_, x2 z, fun q => absurd z q, fun _ => rfl⟩
        · exact ⟨_, x1 z, fun _ => rfl, fun q => absurd q z⟩
      obtain ⟨r, rv, y1, y2⟩ := er
      refine ⟨r, rv, k1, ?_⟩
      have lc := ref_town (T := T) (T' := T') (N := N) (M := M) (M1 := M1) (by omega) (by omega) N9 k1 (by rw [k3, htm, fn_toInt (by omega)]; omega) (fun j hj => by
        rw [k4]
        exact hI.2 j (by rw [ht, fn_nat (by omega)]; omega)) (fun c j q => k5 c j (by unfold prC at q; omega))
      rw [← hN] at lc
      refine cm_Call_up (cm_Lc_use (hd_mtown k1 n) lc) (Nat.le_refl _) (fun v2 M2 q => ?_)
      obtain ⟨⟨-, ⟨g1, g2⟩, g3, -, g5⟩, Y, D', hY, eD, w1, w2⟩ := q
      rw [hN] at hY
      have eX := Ex_uni hX hY
      subst eX
      have htm2 : n.toInt ≤ (M1.1 124 2).toInt := by rw [k3, htm, fn_toInt (by omega)]; omega
      rw [if_pos ⟨hn.1, htm2⟩] at g2
      have g4 : M2.1 0 1 = 0 := g3.trans k2
      have eM : ∀ c j, M2.1 c j = D'.1 c j := fun c j => by rw [eD]; try rfl
      have hI2 : lu_I M2 := ⟨by rw [g4, g2], fun j hj => by
        rw [g4] at hj
        exact absurd hj (Nat.not_lt_zero j)⟩
      by_cases z : (fin T X).1 2 9 = 0
      · obtain ⟨u1, u2, u3, u4, u5, u6, u7, me, mo, ch, hd, u8⟩ := (w2 z)
        obtain ⟨f1, f2, f3, f4, f5, f6, f7, f8, f9, fa, fb, fc⟩ := hF.2 z
        have hme6 : me ≤ 6 := hd.1.2.2.1
        have gC : ∀ c j, c < 124 → M2.1 c j = M1.1 c j := fun c j q => (g5 c j q).1
        have hT62 : T = 6 ∨ T = 19 := by omega
        refine ⟨by rw [u1, y2 z], g1, ⟨hI2, ?_, T, by omega, (g5 0 3 (by omega)).2.trans f2, by rw [(g5 0 4 (by omega)).2, f3, hTT]; congr 1; omega, Or.inr ⟨by rw [eM]; exact u4, me, mo, ch, ?_, hd.1.2.2.1, hd.1.2.2.2.1, hd.1.2.2.2.2.1, ?_⟩⟩, Or.inr ⟨T, me, hT62, (g5 0 3 (by omega)).2.trans f2, ?_, hme6, fun m hm => ?_, fun q hq => ⟨?_, ?_⟩, ⟨?_, ?_, ?_, ?_⟩, ?_, ⟨?_, ?_, ?_, ?_⟩, ?_, ?_⟩⟩
        · rw [(g5 0 12 (by omega)).1, f1, eM, u2]
        · rcases Nat.eq_zero_or_pos me with q | q
          · have b1 : (fin T X).1 T 3 = Int32.ofNat me := hd.2.2.1.1
            rw [q] at b1
            exact absurd b1 (fin_3 z)
          · exact q
        · have hd2 := hd.2
          rw [u7] at hd2
          rw [show M2.1 127 = D'.1 127 from funext fun j => eM 127 j]
          refine DR_A hd2 (fun i hi _ j => ?_)
          show M2.1 (T + i) j = (fin T X).1 (T + i) j
          rw [(g5 (T + i) j (by omega)).1]
          exact f4 (T + i) j (by omega) (by omega)
        · rw [gC T 3 (by omega), f4 T 3 (by omega) (by omega)]
          exact hd.2.2.1.1
        · rw [gC 33 m (by omega), f5 m (by omega), eM, u8 m (by omega), if_pos hm]
          exact (hd.2.2.2.1 m hm).2.1
        · rw [gC 34 q (by omega)]
          exact f6 q hq
        · rw [eM, u8 _ (by omega), if_neg (by omega)]
        · rw [gC 32 2 (by omega)]
          exact f7
        · rw [eM, u8 9 (by omega), if_neg (by omega)]
        · rw [gC 32 3 (by omega)]
          exact f8
        · rw [eM, u8 10 (by omega), if_neg (by omega)]
        · rw [gC 38 2 (by omega)]
          exact f9
        · rw [gC 38 3 (by omega)]
          exact fa
        · rw [eM]
          exact u5
        · rw [gC 38 4 (by omega)]
          exact fb
        · rw [eM]
          exact u6
        · rw [gC 0 14 (by omega)]
          exact fc
        · rw [eM]
          exact u3
      · obtain ⟨u1, u2, u3, u4, u5⟩ := (w1 z)
        obtain ⟨f1, f2, f3, f4, f5, f6, f7⟩ := hF.1 z
        have ep : ∀ c j, prC c j → M2.1 c j = M.1 c j := fun c j q => by
          have q2 := q
          unfold prC at q2
          rw [eM, u5 c j q, rd0_n (by omega) (by omega) (by omega)]
          show (cm_wi M 0 1 0).1 c j = _
          rw [wi_n2 (by omega)]
        refine ⟨by rw [u1, y1 z], g1, ⟨hI2, ?_, T', s2, (g5 0 3 (by omega)).2.trans f2, by rw [(g5 0 4 (by omega)).2, f3, hTT], SD_cg s5 (fun c j c1 c2 _ => ?_) (ep 124 14 (Or.inr ⟨rfl, by omega⟩)) (fun j => ep 127 j (Or.inl ⟨by omega, by omega⟩))⟩, Or.inl ⟨fun c j c1 c2 => ?_, fun j => ⟨ep 129 j (Or.inl ⟨by omega, by omega⟩), ep 130 j (Or.inl ⟨by omega, by omega⟩), ep 131 j (Or.inl ⟨by omega, by omega⟩)⟩, ⟨ep 124 20 (Or.inr ⟨rfl, by omega⟩), ep 124 21 (Or.inr ⟨rfl, by omega⟩)⟩, ?_, fun U hU => ?_, ?_, fun _ => ?_⟩⟩
        · rw [(g5 0 12 (by omega)).1, f1, eM, u2]
        · rw [(g5 c j (by omega)).1]
          exact f4 c j c1 c2
        · rw [(g5 c j (by omega)).1]
          exact f5 c j c1
        · rw [(g5 0 3 (by omega)).2, f2, s3]
        · rw [s3] at hU
          cases hU
          rw [(g5 T' 3 (by omega)).1]
          exact f4 T' 3 (by omega) (by omega)
        · rw [(g5 0 14 (by omega)).1, f7, eM, u4]
        · rw [(g5 0 13 (by omega)).1, f6, eM, u3]
    rcases s2 with rfl | rfl
    · have lc := c_town19 (T' := 6) (N := N) (C := M) N9 (by rw [ht, fn_toInt (by omega)]; omega)
      rw [fbgb (okR_of hM) s3 s4, ← hN] at lc
      refine cm_Call_up (cm_Lc_use (hd_town hM n) lc) (Nat.le_refl _) (fun v M1 q => ?_)
      obtain ⟨q1, X, E, hX, hE, x1, x2⟩ := q
      exact both 19 rfl v M1 q1 ⟨X, hX, fun z => (x1 z).1, fun z => (x2 z).1, tc_19 hX hE (fun z => (x1 z).2) (fun z => (x2 z).2)⟩
    · have lc := c_town6 (T' := 19) (N := N) (C := M) N9 (by rw [ht, fn_toInt (by omega)]; omega)
      rw [fbgb (okR_of hM) s3 s4, ← hN] at lc
      refine cm_Call_up (cm_Lc_use (hd_town hM n) lc) (Nat.le_refl _) (fun v M1 q => ?_)
      obtain ⟨q1, X, E, hX, hE, x1, x2⟩ := q
      exact both 6 rfl v M1 q1 ⟨X, hX, fun z => (x1 z).1, fun z => (x2 z).1, tc_6 hX hE (fun z => (x1 z).2) (fun z => (x2 z).2)⟩
  · refine cm_Call_up (cm_Lc_use (hd_town hM n) (c_town2 hn)) (Nat.le_refl _) (fun v M1 q => ?_)
    obtain ⟨⟨-, ⟨k1, k2⟩, k3, k4, -⟩, rv, e1⟩ := q
    have hn1 : ¬ (0 ≤ n.toInt ∧ n.toInt ≤ (M1.1 124 2).toInt) := by rw [k3, ← hI.1]; exact hn
    refine ⟨-1, rv, k1, ?_⟩
    have lc := m_town2 (n := n) (D := M1) hn1
    rw [fm_of k1] at lc
    refine cm_Call_up (cm_Lc_use (hd_mtown k1 n) lc) (Nat.le_refl _) (fun v2 M2 q => ?_)
    obtain ⟨⟨-, ⟨g1, g2⟩, g3, -, g5⟩, rv2, e2⟩ := q
    have eM : ∀ c j, c ≠ 124 → ¬ (c = 0 ∧ j = 14) → M2.1 c j = M.1 c j := fun c j a1 a2 => by
      rw [e2, e1]
      show (cm_wi (cm_wi (cm_wi (cm_wi M 0 14 2) 124 0 0) 124 11 0) 124 11 2).1 c j = _
      rw [wi_n2 (by omega), wi_n2 (by omega), wi_n2 (by omega), wi_n2 (by omega)]
    refine ⟨rv2, g1, ⟨?_, ?_, T', s2, ?_, ?_, SD_cg s5 (fun c j c1 c2 _ => eM c j (by omega) (by omega)) (by rw [e2, e1]; try rfl) (fun j => eM 127 j (by omega) (by omega))⟩, Or.inl ⟨fun c j c1 c2 => eM c j (by omega) (by omega), fun j => ⟨eM 129 j (by omega) (by omega), eM 130 j (by omega) (by omega), eM 131 j (by omega) (by omega)⟩, ⟨by rw [e2, e1]; try rfl, by rw [e2, e1]; try rfl⟩, by rw [(g5 0 3 (by omega)).2, e1]; try rfl, fun U hU => ?_, by rw [e2, e1]; try rfl, fun w => ?_⟩⟩
    · rw [e2, e1]
      exact hI
    · rw [e2, e1]
      exact s1
    · rw [(g5 0 3 (by omega)).2, e1]
      exact s3
    · rw [(g5 0 4 (by omega)).2, e1]
      exact s4
    · rw [s3] at hU
      cases hU
      exact eM T' 3 (by omega) (by omega)
    · have z : M2.1 0 14 = 2 := by
        rw [e2, e1]
        try rfl
      rw [z] at w
      exact absurd w (by decide)
