theorem m_isMan {M : cm_M} {a : Bool} (ha : M.1 124 14 = bi a) (h15 : M.2.2 124 15 = some 127) (c : Int32) : cm_Lc cm_ms 205 [.ref 124, .int c] M (fun v M' => M' = M ∧ v = some (.int (bi (a && inB c 0 (M.1 127 3 - 1))))) := by
  refine lb_st0 (mi := mr_205) rfl 400 ?_
  show (ev_cmp 0 (M.1 124 14) 0 = true → _) ∧ (ev_cmp 0 (M.1 124 14) 0 = false → _)
  refine ⟨fun h => ⟨rfl, ?_⟩, fun h => lb_to (T := (10, [(0, .ref 124), (1, .int c)], [.ref 124, .int 0, .int c], M)) 10 [0, 1] rfl rfl rfl (fun J' h => h) (lb_g0 rfl rfl h15 ?_)⟩
  · rw [ha] at h
    rw [bi_0 h]
    try rfl
  · rw [ha] at h
    show ∃ R, cm_Lc cm_ms 167 [.int c, .int 0, .int (M.1 127 3 - 1)] M R ∧ ∀ v M', R v M' → _
    refine ⟨_, m_in2 c 0 _ M, ?_⟩
    rintro v M1 ⟨rfl, rfl⟩
    have e := bi_1 h
    show (ev_cmp 0 (bi (inB c 0 (M1.1 127 3 - 1))) 0 = true → _) ∧ (ev_cmp 0 (bi (inB c 0 (M1.1 127 3 - 1))) 0 = false → _)
    refine ⟨fun h2 => ⟨rfl, ?_⟩, fun h2 => ⟨rfl, ?_⟩⟩
    · rw [e, bi_0 h2]
      try rfl
    · rw [e, bi_1 h2]
      try rfl
/-- the reference where a town may be told -/
noncomputable def MTX (a : Bool) (me mo : Nat) (M : cm_M) : Prop := M.1 124 14 = bi a ∧ (M.2.2 124 15 = some 127 ∧ M.2.2 124 17 = some 129 ∧ M.2.2 124 18 = some 130 ∧ M.2.2 124 19 = some 131 ∧ M.2.2 124 22 = some 132) ∧ (a = true → M.1 127 3 = Int32.ofNat me ∧ M.1 127 4 = Int32.ofNat mo) ∧ (a = false → me = 0 ∧ mo = 0) ∧ (a = true → 0 < me) ∧ me ≤ 6 ∧ mo ≤ 5
theorem MTX_cg {a : Bool} {me mo : Nat} {M M' : cm_M} (h : MTX a me mo M) (h2 : M'.2 = M.2) (h1 : M'.1 124 14 = M.1 124 14) (h3 : ∀ j, M'.1 127 j = M.1 127 j) : MTX a me mo M' := by
  unfold MTX
  rw [h2, h1, h3, h3]
  exact h
/-- behind good -/
noncomputable def gdM (M : cm_M) : cm_M := cm_wi (cm_wi M 124 0 0) 124 11 0
theorem gd_n {M : cm_M} {d j : Nat} (h : ¬ (d = 124 ∧ (j = 0 ∨ j = 11))) : (gdM M).1 d j = M.1 d j := by
  unfold gdM
  rw [wi_n2 (by omega), wi_n2 (by omega)]
theorem MTX_gd {a : Bool} {me mo : Nat} {M : cm_M} (h : MTX a me mo M) : MTX a me mo (gdM M) := MTX_cg h rfl (gd_n (by omega)) (fun _ => gd_n (by omega))
theorem m_goodG (M : cm_M) : cm_Lc cm_ms 164 [.ref 124] M (fun v M' => v = none ∧ M' = gdM M) := m_good2 M
theorem in_t {a : Bool} {n : Nat} {x : Int32} (hn : n < 100) (h0 : a = false → n = 0) : (a && inB x 0 (Int32.ofNat n - 1)) = !outB x (Int32.ofNat n) := by
  cases a with
  | false =>
    rw [h0 rfl, show outB x (Int32.ofNat 0) = true from out_0 x]
    try rfl
  | true => rw [Bool.true_and, out_in hn]
theorem m_isMot {a : Bool} {me mo : Nat} {M : cm_M} (h : MTX a me mo M) (x : Int32) : cm_Lc cm_ms 206 [.ref 124, .int x] M (fun v M' => M' = M ∧ v = some (.int (bi !outB x (Int32.ofNat mo)))) := by
  have q := m_isMotion h.1 h.2.1.1 x
  rw [← in_t (a := a) (by have := h.2.2.2.2.2.2; omega) (fun e => (h.2.2.2.1 e).2)]
  cases a with
  | false =>
    rw [Bool.false_and] at q ⊢
    exact q
  | true =>
    rw [(h.2.2.1 rfl).2] at q
    exact q
theorem m_isMn {a : Bool} {me mo : Nat} {M : cm_M} (h : MTX a me mo M) (x : Int32) : cm_Lc cm_ms 205 [.ref 124, .int x] M (fun v M' => M' = M ∧ v = some (.int (bi !outB x (Int32.ofNat me)))) := by
  have q := m_isMan h.1 h.2.1.1 x
  rw [← in_t (a := a) (by have := h.2.2.2.2.2.1; omega) (fun e => (h.2.2.2.1 e).1)]
  cases a with
  | false =>
    rw [Bool.false_and] at q ⊢
    exact q
  | true =>
    rw [(h.2.2.1 rfl).1] at q
    exact q
theorem m_noG (x : Int32) (M : cm_M) : cm_Lc cm_ms 165 [.ref 124, .int x] M (fun v M' => M' = cm_wi M 124 11 x ∧ v = some (.int (-1))) := cm_Lc_im (m_no2 x M) (fun _ _ q => ⟨q.2, q.1⟩)
theorem m_isNotG (x : Int32) (M : cm_M) : cm_Lc cm_ms 166 [.ref 124, .int x] M (fun v M' => M' = cm_wi M 124 11 x ∧ v = some (.int 0)) := by
  refine lb_st0 (mi := mr_166) rfl 20 ?_
  exact ⟨rfl, rfl⟩
/-- an act of the reference -/
noncomputable def actM (u : Nat) (M M' : cm_M) (R : Nat → Int32) : Prop := M'.2 = M.2 ∧ (∀ d j, d ≠ 129 → d ≠ 130 → ¬ (d = 124 ∧ (j = 0 ∨ j = 11 ∨ j = 20)) → M'.1 d j = M.1 d j) ∧ M'.1 124 11 = 0 ∧ M'.1 124 20 = Int32.ofNat (min 16 (u + 1)) ∧ (∀ i j, i < min u 15 → j < 11 → M'.1 130 (11 * i + j) = M.1 130 (11 * (i + (u + 1 - min 16 (u + 1))) + j)) ∧ (∀ j, j < 11 → M'.1 130 (11 * min u 15 + j) = M.1 129 j) ∧ ∀ j, j < 11 → M'.1 129 j = R j
theorem actM_of {u : Nat} {M Ma Mb : cm_M} {R : Nat → Int32} (hk : noteR u (gdM M) Ma) (hs : rset 129 Ma Mb R) : actM u M Mb R := by
  obtain ⟨k1, k2, k3, k4, k5⟩ := hk
  obtain ⟨s1, s2, s3⟩ := hs
  refine ⟨s1.trans k1, fun d j b1 b2 b3 => ?_, ?_, ?_, fun i j hi hj => ?_, fun j hj => ?_, s3⟩
  · rw [s2 d j b1, k2 d j b2 (by omega)]
    exact gd_n (by omega)
  · rw [s2 124 11 (by omega), k2 124 11 (by omega) (by omega)]
    exact wi_at _ _ _ _
  · rw [s2 124 20 (by omega)]
    exact k3
  · rw [s2 130 _ (by omega), k4 i j hi hj]
    exact gd_n (by omega)
  · rw [s2 130 _ (by omega), k5 j hj]
    exact gd_n (by omega)
/-- a refusal -/
noncomputable def noM (tr : Int32) (M M' : cm_M) : Prop := M' = cm_wi (gdM M) 124 11 tr
theorem m_put_out {a : Bool} {me mo : Nat} {M : cm_M} (hx : MTX a me mo M) (x : Int32) (ho : outB x (Int32.ofNat mo) = true) : cm_Lc cm_ms 288 [.ref 124, .int x] M (fun v M' => v = some (.int (-1)) ∧ noM 1 M M') := by
  refine lb_st0 (mi := mr_288) rfl 400 ?_
  show ∃ R, cm_Lc cm_ms 164 [.ref 124] M R ∧ ∀ v M', R v M' → _
  refine ⟨_, m_goodG M, ?_⟩
  rintro v M' ⟨rfl, rfl⟩
  have hg := MTX_gd hx
  show ∃ R, cm_Lc cm_ms 206 [.ref 124, .int x] (gdM M) R ∧ ∀ v M', R v M' → _
  have hl := m_isMot hg x
  rw [ho, Bool.not_true] at hl
  refine ⟨_, hl, ?_⟩
  rintro v M' ⟨hM, rfl⟩
  subst M'
  show (ev_cmp 1 (bi false) 0 = true → _) ∧ (ev_cmp 1 (bi false) 0 = false → _)
  refine ⟨fun hcc => ?_, fun hcc => ?_⟩
  · exact absurd hcc (by decide)
  · show ∃ R, cm_Lc cm_ms 165 [.ref 124, .int 1] (gdM M) R ∧ ∀ v M', R v M' → _
    refine ⟨_, m_noG 1 (gdM M), ?_⟩
    rintro v Mz ⟨hG, rfl⟩
    subst hG
    exact ⟨rfl, rfl⟩
theorem m_put_no {a : Bool} {me mo : Nat} {M : cm_M} (hx : MTX a me mo M) {k : Nat} (hk : k < mo) (hmb : mbB (M.1 129 9) (M.1 127 (50 + k)) k = false) : cm_Lc cm_ms 288 [.ref 124, .int (Int32.ofNat k)] M (fun v M' => v = some (.int (-1)) ∧ noM 5 M M') := by
  refine lb_st0 (mi := mr_288) rfl 400 ?_
  show ∃ R, cm_Lc cm_ms 164 [.ref 124] M R ∧ ∀ v M', R v M' → _
  refine ⟨_, m_goodG M, ?_⟩
  rintro v M' ⟨rfl, rfl⟩
  have hg := MTX_gd hx
  show ∃ R, cm_Lc cm_ms 206 [.ref 124, .int (Int32.ofNat k)] (gdM M) R ∧ ∀ v M', R v M' → _
  have hm5 := hx.2.2.2.2.2.2
  have hl := m_isMot hg (Int32.ofNat k)
  rw [outB_lt hk (by omega), Bool.not_false] at hl
  refine ⟨_, hl, ?_⟩
  rintro v M' ⟨hM, rfl⟩
  subst M'
  show (ev_cmp 1 (bi true) 0 = true → _) ∧ (ev_cmp 1 (bi true) 0 = false → _)
  refine ⟨fun hcc => ?_, fun hcc => ?_⟩
  · first | refine lb_to (T := (20, [(0, .ref 124), (1, .int (Int32.ofNat k))], [.ref 124, .ref 124], (gdM M))) 20 [0, 1] rfl rfl rfl (fun J' h => h) (lb_g0 rfl rfl (by first | exact hx.2.1.2.1 | (rw [hnt.1]; exact hx.2.1.2.1) | (rw [hs.1, hnt.1]; exact hx.2.1.2.1) | (show Ma.2.2 124 17 = _; rw [hnt.1]; exact hx.2.1.2.1)) ?_) | refine lb_to0 (T := (20, [(0, .ref 124), (1, .int (Int32.ofNat k))], [.ref 124, .ref 124], (gdM M))) 20 [0, 1] rfl rfl rfl (fun J' h => h) (lb_g0 rfl rfl (by first | exact hx.2.1.2.1 | (rw [hnt.1]; exact hx.2.1.2.1) | (rw [hs.1, hnt.1]; exact hx.2.1.2.1) | (show Ma.2.2 124 17 = _; rw [hnt.1]; exact hx.2.1.2.1)) ?_)
    show ∃ R, cm_Lc cm_ms 216 [.ref 124, .ref 129, .int (Int32.ofNat k)] (gdM M) R ∧ ∀ v M', R v M' → _
    have hb := m_mayBe (M := gdM M) (d := 129) hx.2.1.1 (show k < 1000 by omega)
    rw [gd_n (by omega), gd_n (by omega), hmb] at hb
    refine ⟨_, hb, ?_⟩
    rintro v M' ⟨hM, rfl⟩
    subst M'
    show (ev_cmp 1 (bi false) 0 = true → _) ∧ (ev_cmp 1 (bi false) 0 = false → _)
    refine ⟨fun hcctc => ?_, fun hcctc => ?_⟩
    · exact absurd hcctc (by decide)
    · show ∃ R, cm_Lc cm_ms 165 [.ref 124, .int 5] (gdM M) R ∧ ∀ v M', R v M' → _
      refine ⟨_, m_noG 5 (gdM M), ?_⟩
      rintro v Mz ⟨hG, rfl⟩
      subst hG
      exact ⟨rfl, rfl⟩
  · exact absurd hcc (by decide)
theorem m_put_k {a : Bool} {me mo : Nat} {M : cm_M} (hx : MTX a me mo M) {k : Nat} {co : Nat → Nat} {u : Nat} (hu : M.1 124 20 = Int32.ofNat u) (hu16 : u ≤ 16) (ha : a = true) (hk : k < mo) (hco : CO me (fun m => M.1 127 (11 + 3 * m)) co) (hmb : mbB (M.1 129 9) (M.1 127 (50 + k)) k = true) : cm_Lc cm_ms 288 [.ref 124, .int (Int32.ofNat k)] M (fun v M' => v = some (.int (bi (geB (voF (fun m => M.1 127 (13 + 3 * m)) (orF (fun m => syB (M.1 127 1) (M.1 127 (29 + 3 * k)) (M.1 127 (44 + m)) (M.1 129 m) k) me) me) (M.1 127 (30 + 3 * k))))) ∧ actM u M M' (ptR (geB (voF (fun m => M.1 127 (13 + 3 * m)) (orF (fun m => syB (M.1 127 1) (M.1 127 (29 + 3 * k)) (M.1 127 (44 + m)) (M.1 129 m) k) me) me) (M.1 127 (30 + 3 * k))) k (cuR (M.1 127 (29 + 3 * k)) (orF (fun m => syB (M.1 127 1) (M.1 127 (29 + 3 * k)) (M.1 127 (44 + m)) (M.1 129 m) k) me) co (M.1 129) me))) := by
  generalize hE : geB (voF (fun m => M.1 127 (13 + 3 * m)) (orF (fun m => syB (M.1 127 1) (M.1 127 (29 + 3 * k)) (M.1 127 (44 + m)) (M.1 129 m) k) me) me) (M.1 127 (30 + 3 * k)) = en
  generalize hY : orF (fun m => syB (M.1 127 1) (M.1 127 (29 + 3 * k)) (M.1 127 (44 + m)) (M.1 129 m) k) me = Y at hE ⊢
  refine lb_st0 (mi := mr_288) rfl 400 ?_
  show ∃ R, cm_Lc cm_ms 164 [.ref 124] M R ∧ ∀ v M', R v M' → _
  refine ⟨_, m_goodG M, ?_⟩
  rintro v M' ⟨rfl, rfl⟩
  have hg := MTX_gd hx
  show ∃ R, cm_Lc cm_ms 206 [.ref 124, .int (Int32.ofNat k)] (gdM M) R ∧ ∀ v M', R v M' → _
  have hm5 := hx.2.2.2.2.2.2
  have hl := m_isMot hg (Int32.ofNat k)
  rw [outB_lt hk (by omega), Bool.not_false] at hl
  refine ⟨_, hl, ?_⟩
  rintro v M' ⟨hM, rfl⟩
  subst M'
  show (ev_cmp 1 (bi true) 0 = true → _) ∧ (ev_cmp 1 (bi true) 0 = false → _)
  refine ⟨fun hcc => ?_, fun hcc => ?_⟩
  · first | refine lb_to (T := (20, [(0, .ref 124), (1, .int (Int32.ofNat k))], [.ref 124, .ref 124], (gdM M))) 20 [0, 1] rfl rfl rfl (fun J' h => h) (lb_g0 rfl rfl (by first | exact hx.2.1.2.1 | (rw [hnt.1]; exact hx.2.1.2.1) | (rw [hs.1, hnt.1]; exact hx.2.1.2.1) | (show Ma.2.2 124 17 = _; rw [hnt.1]; exact hx.2.1.2.1)) ?_) | refine lb_to0 (T := (20, [(0, .ref 124), (1, .int (Int32.ofNat k))], [.ref 124, .ref 124], (gdM M))) 20 [0, 1] rfl rfl rfl (fun J' h => h) (lb_g0 rfl rfl (by first | exact hx.2.1.2.1 | (rw [hnt.1]; exact hx.2.1.2.1) | (rw [hs.1, hnt.1]; exact hx.2.1.2.1) | (show Ma.2.2 124 17 = _; rw [hnt.1]; exact hx.2.1.2.1)) ?_)
    show ∃ R, cm_Lc cm_ms 216 [.ref 124, .ref 129, .int (Int32.ofNat k)] (gdM M) R ∧ ∀ v M', R v M' → _
    have hb := m_mayBe (M := gdM M) (d := 129) hx.2.1.1 (show k < 1000 by omega)
    rw [gd_n (by omega), gd_n (by omega), hmb] at hb
    refine ⟨_, hb, ?_⟩
    rintro v M' ⟨hM, rfl⟩
    subst M'
    show (ev_cmp 1 (bi true) 0 = true → _) ∧ (ev_cmp 1 (bi true) 0 = false → _)
    refine ⟨fun hcctc => ?_, fun hcctc => ?_⟩
    · show ∃ R, cm_Lc cm_ms 287 [.ref 124] (gdM M) R ∧ ∀ v M', R v M' → _
      refine ⟨_, m_note (M := gdM M) hx.2.1.2.1 hx.2.1.2.2.1 (by rw [gd_n (by omega)]; exact hu) hu16, ?_⟩
      rintro v Ma ⟨rfl, hnt⟩
      have e127 : Ma.1 127 = M.1 127 := funext fun j => (hnt.2.1 127 j (by omega) (by omega)).trans (gd_n (by omega))
      have e129 : Ma.1 129 = M.1 129 := funext fun j => (hnt.2.1 129 j (by omega) (by omega)).trans (gd_n (by omega))
      have hcf := m_putOf (M := Ma) (d := 129) (me := me) (k := k) (co := co) (by rw [hnt.1]; exact hx.2.1.1) (by omega) (by rw [e127]; exact (hx.2.2.1 ha).1) hx.2.2.2.2.2.1 (by omega) (by rw [e127]; exact hco)
      rw [e127, e129, hY, hE] at hcf
      first | refine lb_to (T := (42, [(0, .ref 124), (1, .int (Int32.ofNat k))], [.ref 124, .ref 124], Ma)) 42 [0, 1] rfl rfl rfl (fun J' h => h) (lb_g0 rfl rfl (by first | exact hx.2.1.2.1 | (rw [hnt.1]; exact hx.2.1.2.1) | (rw [hs.1, hnt.1]; exact hx.2.1.2.1) | (show Ma.2.2 124 17 = _; rw [hnt.1]; exact hx.2.1.2.1)) ?_) | refine lb_to0 (T := (42, [(0, .ref 124), (1, .int (Int32.ofNat k))], [.ref 124, .ref 124], Ma)) 42 [0, 1] rfl rfl rfl (fun J' h => h) (lb_g0 rfl rfl (by first | exact hx.2.1.2.1 | (rw [hnt.1]; exact hx.2.1.2.1) | (rw [hs.1, hnt.1]; exact hx.2.1.2.1) | (show Ma.2.2 124 17 = _; rw [hnt.1]; exact hx.2.1.2.1)) ?_)
      show ∃ R, cm_Lc cm_ms 218 [.ref 124, .ref 129, .int (Int32.ofNat k)] Ma R ∧ ∀ v M', R v M' → _
      refine ⟨_, hcf, ?_⟩
      rintro v Mb ⟨rfl, hs⟩
      show (ev_cmp 0 (bi en) 0 = true → _) ∧ (ev_cmp 0 (bi en) 0 = false → _)
      refine ⟨fun hcctctcc => ?_, fun hcctctcc => ?_⟩
      · refine ⟨?_, actM_of hnt hs⟩
        rw [bi_0 hcctctcc]
        try rfl
      · refine ⟨?_, actM_of hnt hs⟩
        rw [bi_1 hcctctcc]
        try rfl
    · exact absurd hcctc (by decide)
  · exact absurd hcc (by decide)
theorem m_week_out {a : Bool} {me mo : Nat} {M : cm_M} (hx : MTX a me mo M) (ha : a = false) : cm_Lc cm_ms 289 [.ref 124] M (fun v M' => v = some (.int (-1)) ∧ noM 1 M M') := by
  refine lb_st0 (mi := mr_289) rfl 400 ?_
  show ∃ R, cm_Lc cm_ms 164 [.ref 124] M R ∧ ∀ v M', R v M' → _
  refine ⟨_, m_goodG M, ?_⟩
  rintro v M' ⟨rfl, rfl⟩
  have hg := MTX_gd hx
  show (ev_cmp 1 ((gdM M).1 124 14) 0 = true → _) ∧ (ev_cmp 1 ((gdM M).1 124 14) 0 = false → _)
  refine ⟨fun hc => ?_, fun hc => ?_⟩
  · have q := fn_ne hc
    rw [gd_n (by omega), hx.1, ha] at q
    exact absurd rfl q
  · show ∃ R, cm_Lc cm_ms 165 [.ref 124, .int 1] (gdM M) R ∧ ∀ v M', R v M' → _
    refine ⟨_, m_noG 1 (gdM M), ?_⟩
    rintro v Mz ⟨hG, rfl⟩
    subst hG
    exact ⟨rfl, rfl⟩
theorem m_week_no {a : Bool} {me mo : Nat} {M : cm_M} (hx : MTX a me mo M) (ha : a = true) (h9 : M.1 129 10 = Int32.ofNat 999) : cm_Lc cm_ms 289 [.ref 124] M (fun v M' => v = some (.int (-1)) ∧ noM 3 M M') := by
  refine lb_st0 (mi := mr_289) rfl 400 ?_
  show ∃ R, cm_Lc cm_ms 164 [.ref 124] M R ∧ ∀ v M', R v M' → _
  refine ⟨_, m_goodG M, ?_⟩
  rintro v M' ⟨rfl, rfl⟩
  have hg := MTX_gd hx
  show (ev_cmp 1 ((gdM M).1 124 14) 0 = true → _) ∧ (ev_cmp 1 ((gdM M).1 124 14) 0 = false → _)
  refine ⟨fun hc => ?_, fun hc => ?_⟩
  · first | refine lb_to (T := (18, [(0, .ref 124)], [.ref 124], (gdM M))) 18 [0] rfl rfl rfl (fun J' h => h) (lb_g0 rfl rfl (by first | exact hx.2.1.2.1 | (rw [hnt.1]; exact hx.2.1.2.1) | (rw [hs.1, hnt.1]; exact hx.2.1.2.1) | (show Ma.2.2 124 17 = _; rw [hnt.1]; exact hx.2.1.2.1)) ?_) | refine lb_to0 (T := (18, [(0, .ref 124)], [.ref 124], (gdM M))) 18 [0] rfl rfl rfl (fun J' h => h) (lb_g0 rfl rfl (by first | exact hx.2.1.2.1 | (rw [hnt.1]; exact hx.2.1.2.1) | (rw [hs.1, hnt.1]; exact hx.2.1.2.1) | (show Ma.2.2 124 17 = _; rw [hnt.1]; exact hx.2.1.2.1)) ?_)
    show (ev_cmp 1 ((gdM M).1 129 10) 999 = true → _) ∧ (ev_cmp 1 ((gdM M).1 129 10) 999 = false → _)
    refine ⟨fun hct => ?_, fun hct => ?_⟩
    · have q := fn_ne hct
      rw [gd_n (by omega), h9] at q
      exact absurd rfl q
    · show ∃ R, cm_Lc cm_ms 165 [.ref 124, .int 3] (gdM M) R ∧ ∀ v M', R v M' → _
      refine ⟨_, m_noG 3 (gdM M), ?_⟩
      rintro v Mz ⟨hG, rfl⟩
      subst hG
      exact ⟨rfl, rfl⟩
  · have q := fn_eq hc
    rw [gd_n (by omega), hx.1, ha] at q
    exact absurd q (by decide)
theorem m_week_k {a : Bool} {me mo : Nat} {M : cm_M} (hx : MTX a me mo M) {w : Nat} {u : Nat} (hu : M.1 124 20 = Int32.ofNat u) (hu16 : u ≤ 16) (ha : a = true) (hw : M.1 129 10 = Int32.ofNat w) (hw9 : w < 999) : cm_Lc cm_ms 289 [.ref 124] M (fun v M' => v = some (.int (orF (fun m => bdB (M.1 127 1) (wkR (M.1 127 0) me (M.1 129) m)) me)) ∧ actM u M M' (wkR (M.1 127 0) me (M.1 129))) := by
  refine lb_st0 (mi := mr_289) rfl 400 ?_
  show ∃ R, cm_Lc cm_ms 164 [.ref 124] M R ∧ ∀ v M', R v M' → _
  refine ⟨_, m_goodG M, ?_⟩
  rintro v M' ⟨rfl, rfl⟩
  have hg := MTX_gd hx
  show (ev_cmp 1 ((gdM M).1 124 14) 0 = true → _) ∧ (ev_cmp 1 ((gdM M).1 124 14) 0 = false → _)
  refine ⟨fun hc => ?_, fun hc => ?_⟩
  · first | refine lb_to (T := (18, [(0, .ref 124)], [.ref 124], (gdM M))) 18 [0] rfl rfl rfl (fun J' h => h) (lb_g0 rfl rfl (by first | exact hx.2.1.2.1 | (rw [hnt.1]; exact hx.2.1.2.1) | (rw [hs.1, hnt.1]; exact hx.2.1.2.1) | (show Ma.2.2 124 17 = _; rw [hnt.1]; exact hx.2.1.2.1)) ?_) | refine lb_to0 (T := (18, [(0, .ref 124)], [.ref 124], (gdM M))) 18 [0] rfl rfl rfl (fun J' h => h) (lb_g0 rfl rfl (by first | exact hx.2.1.2.1 | (rw [hnt.1]; exact hx.2.1.2.1) | (rw [hs.1, hnt.1]; exact hx.2.1.2.1) | (show Ma.2.2 124 17 = _; rw [hnt.1]; exact hx.2.1.2.1)) ?_)
    show (ev_cmp 1 ((gdM M).1 129 10) 999 = true → _) ∧ (ev_cmp 1 ((gdM M).1 129 10) 999 = false → _)
    refine ⟨fun hct => ?_, fun hct => ?_⟩
    · show ∃ R, cm_Lc cm_ms 287 [.ref 124] (gdM M) R ∧ ∀ v M', R v M' → _
      refine ⟨_, m_note (M := gdM M) hx.2.1.2.1 hx.2.1.2.2.1 (by rw [gd_n (by omega)]; exact hu) hu16, ?_⟩
      rintro v Ma ⟨rfl, hnt⟩
      have e127 : Ma.1 127 = M.1 127 := funext fun j => (hnt.2.1 127 j (by omega) (by omega)).trans (gd_n (by omega))
      have e129 : Ma.1 129 = M.1 129 := funext fun j => (hnt.2.1 129 j (by omega) (by omega)).trans (gd_n (by omega))
      have hcw := m_weekOf (M := Ma) (d := 129) (me := me) (by rw [hnt.1]; exact hx.2.1.1) (by omega) (by rw [e127]; exact (hx.2.2.1 ha).1) hx.2.2.2.2.2.1
      rw [e127, e129] at hcw
      first | refine lb_to (T := (42, [(0, .ref 124)], [.ref 124, .ref 124], Ma)) 42 [0] rfl rfl rfl (fun J' h => h) (lb_g0 rfl rfl (by first | exact hx.2.1.2.1 | (rw [hnt.1]; exact hx.2.1.2.1) | (rw [hs.1, hnt.1]; exact hx.2.1.2.1) | (show Ma.2.2 124 17 = _; rw [hnt.1]; exact hx.2.1.2.1)) ?_) | refine lb_to0 (T := (42, [(0, .ref 124)], [.ref 124, .ref 124], Ma)) 42 [0] rfl rfl rfl (fun J' h => h) (lb_g0 rfl rfl (by first | exact hx.2.1.2.1 | (rw [hnt.1]; exact hx.2.1.2.1) | (rw [hs.1, hnt.1]; exact hx.2.1.2.1) | (show Ma.2.2 124 17 = _; rw [hnt.1]; exact hx.2.1.2.1)) ?_)
      show ∃ R, cm_Lc cm_ms 219 [.ref 124, .ref 129] Ma R ∧ ∀ v M', R v M' → _
      refine ⟨_, hcw, ?_⟩
      rintro v Mb ⟨rfl, hs⟩
      have f127 : Mb.1 127 = M.1 127 := (funext fun j => hs.2.1 127 j (by omega)).trans e127
      have h6 := hx.2.2.2.2.2.1
      have hbd := m_baldOf (M := Mb) (d := 129) (me := me) (by rw [hs.1, hnt.1]; exact hx.2.1.1) (by rw [f127]; exact (hx.2.2.1 ha).1) hx.2.2.2.2.2.1
      rw [f127, orF_cg (p := fun m => bdB (M.1 127 1) (wkR (M.1 127 0) me (M.1 129) m)) me (fun m hm => by rw [hs.2.2 m (by omega)])] at hbd
      first | refine lb_to (T := (50, [(0, .ref 124)], [.ref 124, .ref 124], Mb)) 50 [0] rfl rfl rfl (fun J' h => h) (lb_g0 rfl rfl (by first | exact hx.2.1.2.1 | (rw [hnt.1]; exact hx.2.1.2.1) | (rw [hs.1, hnt.1]; exact hx.2.1.2.1) | (show Ma.2.2 124 17 = _; rw [hnt.1]; exact hx.2.1.2.1)) ?_) | refine lb_to0 (T := (50, [(0, .ref 124)], [.ref 124, .ref 124], Mb)) 50 [0] rfl rfl rfl (fun J' h => h) (lb_g0 rfl rfl (by first | exact hx.2.1.2.1 | (rw [hnt.1]; exact hx.2.1.2.1) | (rw [hs.1, hnt.1]; exact hx.2.1.2.1) | (show Ma.2.2 124 17 = _; rw [hnt.1]; exact hx.2.1.2.1)) ?_)
      show ∃ R, cm_Lc cm_ms 210 [.ref 124, .ref 129] Mb R ∧ ∀ v M', R v M' → _
      refine ⟨_, hbd, ?_⟩
      rintro v M' ⟨hM, rfl⟩
      subst M'
      exact ⟨rfl, actM_of hnt hs⟩
    · have q := fn_eq hct
      rw [gd_n (by omega), hw, show (999 : Int32) = Int32.ofNat 999 from rfl] at q
      have := ofn_inj (by omega) (by omega) q
      omega
  · have q := fn_eq hc
    rw [gd_n (by omega), hx.1, ha] at q
    exact absurd q (by decide)
theorem m_shave_out {a : Bool} {me mo : Nat} {M : cm_M} (hx : MTX a me mo M) (x : Int32) (ho : outB x (Int32.ofNat me) = true) : cm_Lc cm_ms 290 [.ref 124, .int x] M (fun v M' => v = some (.int (-1)) ∧ noM 1 M M') := by
  refine lb_st0 (mi := mr_290) rfl 400 ?_
  show ∃ R, cm_Lc cm_ms 164 [.ref 124] M R ∧ ∀ v M', R v M' → _
  refine ⟨_, m_goodG M, ?_⟩
  rintro v M' ⟨rfl, rfl⟩
  have hg := MTX_gd hx
  show ∃ R, cm_Lc cm_ms 205 [.ref 124, .int x] (gdM M) R ∧ ∀ v M', R v M' → _
  have hl := m_isMn hg x
  rw [ho, Bool.not_true] at hl
  refine ⟨_, hl, ?_⟩
  rintro v M' ⟨hM, rfl⟩
  subst M'
  show (ev_cmp 1 (bi false) 0 = true → _) ∧ (ev_cmp 1 (bi false) 0 = false → _)
  refine ⟨fun hcc => ?_, fun hcc => ?_⟩
  · exact absurd hcc (by decide)
  · show ∃ R, cm_Lc cm_ms 165 [.ref 124, .int 1] (gdM M) R ∧ ∀ v M', R v M' → _
    refine ⟨_, m_noG 1 (gdM M), ?_⟩
    rintro v Mz ⟨hG, rfl⟩
    subst hG
    exact ⟨rfl, rfl⟩
theorem m_shave_no {a : Bool} {me mo : Nat} {M : cm_M} (hx : MTX a me mo M) {k : Nat} (hk : k < me) (hz : M.1 129 k = 0) : cm_Lc cm_ms 290 [.ref 124, .int (Int32.ofNat k)] M (fun v M' => v = some (.int (-1)) ∧ noM 5 M M') := by
  refine lb_st0 (mi := mr_290) rfl 400 ?_
  show ∃ R, cm_Lc cm_ms 164 [.ref 124] M R ∧ ∀ v M', R v M' → _
  refine ⟨_, m_goodG M, ?_⟩
  rintro v M' ⟨rfl, rfl⟩
  have hg := MTX_gd hx
  show ∃ R, cm_Lc cm_ms 205 [.ref 124, .int (Int32.ofNat k)] (gdM M) R ∧ ∀ v M', R v M' → _
  have hm6 := hx.2.2.2.2.2.1
  have hl := m_isMn hg (Int32.ofNat k)
  rw [outB_lt hk (by omega), Bool.not_false] at hl
  have ek := fn_nat (show k < 2147483648 by omega)
  refine ⟨_, hl, ?_⟩
  rintro v M' ⟨hM, rfl⟩
  subst M'
  show (ev_cmp 1 (bi true) 0 = true → _) ∧ (ev_cmp 1 (bi true) 0 = false → _)
  refine ⟨fun hcc => ?_, fun hcc => ?_⟩
  · first | refine lb_to (T := (19, [(0, .ref 124), (1, .int (Int32.ofNat k))], [.ref 124], (gdM M))) 19 [0, 1] rfl rfl rfl (fun J' h => h) (lb_g0 rfl rfl (by first | exact hx.2.1.2.1 | (rw [hnt.1]; exact hx.2.1.2.1) | (rw [hs.1, hnt.1]; exact hx.2.1.2.1) | (show Ma.2.2 124 17 = _; rw [hnt.1]; exact hx.2.1.2.1)) ?_) | refine lb_to0 (T := (19, [(0, .ref 124), (1, .int (Int32.ofNat k))], [.ref 124], (gdM M))) 19 [0, 1] rfl rfl rfl (fun J' h => h) (lb_g0 rfl rfl (by first | exact hx.2.1.2.1 | (rw [hnt.1]; exact hx.2.1.2.1) | (rw [hs.1, hnt.1]; exact hx.2.1.2.1) | (show Ma.2.2 124 17 = _; rw [hnt.1]; exact hx.2.1.2.1)) ?_)
    show (ev_cmp 1 ((gdM M).1 129 ((Int32.ofNat k).toNatClampNeg)) 0 = true → _) ∧ (ev_cmp 1 ((gdM M).1 129 ((Int32.ofNat k).toNatClampNeg)) 0 = false → _)
    refine ⟨fun hcct => ?_, fun hcct => ?_⟩
    · have q := fn_ne hcct
      rw [ek, gd_n (by omega)] at q
      exact absurd hz q
    · show ∃ R, cm_Lc cm_ms 165 [.ref 124, .int 5] (gdM M) R ∧ ∀ v M', R v M' → _
      refine ⟨_, m_noG 5 (gdM M), ?_⟩
      rintro v Mz ⟨hG, rfl⟩
      subst hG
      exact ⟨rfl, rfl⟩
  · exact absurd hcc (by decide)
/-- the row of who is shaved -/
noncomputable def svR (k q : Nat) (r : Nat → Int32) (j : Nat) : Int32 := if j = k then 0 else if j = 6 + q then r (6 + q) + r k else r j
theorem m_shave_k {a : Bool} {me mo : Nat} {M : cm_M} (hx : MTX a me mo M) {k q : Nat} {u : Nat} (hu : M.1 124 20 = Int32.ofNat u) (hu16 : u ≤ 16) (hk : k < me) (hz : M.1 129 k ≠ 0) (hq : M.1 127 (11 + 3 * k) = Int32.ofNat q) (hq3 : q < 3) : cm_Lc cm_ms 290 [.ref 124, .int (Int32.ofNat k)] M (fun v M' => v = some (.int (M.1 129 k)) ∧ actM u M M' (svR k q (M.1 129))) := by
  refine lb_st0 (mi := mr_290) rfl 400 ?_
  show ∃ R, cm_Lc cm_ms 164 [.ref 124] M R ∧ ∀ v M', R v M' → _
  refine ⟨_, m_goodG M, ?_⟩
  rintro v M' ⟨rfl, rfl⟩
  have hg := MTX_gd hx
  show ∃ R, cm_Lc cm_ms 205 [.ref 124, .int (Int32.ofNat k)] (gdM M) R ∧ ∀ v M', R v M' → _
  have hm6 := hx.2.2.2.2.2.1
  have hl := m_isMn hg (Int32.ofNat k)
  rw [outB_lt hk (by omega), Bool.not_false] at hl
  have ek := fn_nat (show k < 2147483648 by omega)
  refine ⟨_, hl, ?_⟩
  rintro v M' ⟨hM, rfl⟩
  subst M'
  show (ev_cmp 1 (bi true) 0 = true → _) ∧ (ev_cmp 1 (bi true) 0 = false → _)
  refine ⟨fun hcc => ?_, fun hcc => ?_⟩
  · first | refine lb_to (T := (19, [(0, .ref 124), (1, .int (Int32.ofNat k))], [.ref 124], (gdM M))) 19 [0, 1] rfl rfl rfl (fun J' h => h) (lb_g0 rfl rfl (by first | exact hx.2.1.2.1 | (rw [hnt.1]; exact hx.2.1.2.1) | (rw [hs.1, hnt.1]; exact hx.2.1.2.1) | (show Ma.2.2 124 17 = _; rw [hnt.1]; exact hx.2.1.2.1)) ?_) | refine lb_to0 (T := (19, [(0, .ref 124), (1, .int (Int32.ofNat k))], [.ref 124], (gdM M))) 19 [0, 1] rfl rfl rfl (fun J' h => h) (lb_g0 rfl rfl (by first | exact hx.2.1.2.1 | (rw [hnt.1]; exact hx.2.1.2.1) | (rw [hs.1, hnt.1]; exact hx.2.1.2.1) | (show Ma.2.2 124 17 = _; rw [hnt.1]; exact hx.2.1.2.1)) ?_)
    show (ev_cmp 1 ((gdM M).1 129 ((Int32.ofNat k).toNatClampNeg)) 0 = true → _) ∧ (ev_cmp 1 ((gdM M).1 129 ((Int32.ofNat k).toNatClampNeg)) 0 = false → _)
    refine ⟨fun hcct => ?_, fun hcct => ?_⟩
    · show ∃ R, cm_Lc cm_ms 287 [.ref 124] (gdM M) R ∧ ∀ v M', R v M' → _
      refine ⟨_, m_note (M := gdM M) hx.2.1.2.1 hx.2.1.2.2.1 (by rw [gd_n (by omega)]; exact hu) hu16, ?_⟩
      rintro v Ma ⟨rfl, hnt⟩
      have e127 : Ma.1 127 = M.1 127 := funext fun j => (hnt.2.1 127 j (by omega) (by omega)).trans (gd_n (by omega))
      have e129 : Ma.1 129 = M.1 129 := funext fun j => (hnt.2.1 129 j (by omega) (by omega)).trans (gd_n (by omega))
      have e11 : ((11 : Int32) + 3 * Int32.ofNat k).toNatClampNeg = 11 + 3 * k := ixr3 11 (by omega)
      first | refine lb_to (T := (38, [(0, .ref 124), (1, .int (Int32.ofNat k))], [.ref 124], Ma)) 38 [0, 1] rfl rfl rfl (fun J' h => h) (lb_g0 rfl rfl (by first | exact hx.2.1.2.1 | (rw [hnt.1]; exact hx.2.1.2.1) | (rw [hs.1, hnt.1]; exact hx.2.1.2.1) | (show Ma.2.2 124 17 = _; rw [hnt.1]; exact hx.2.1.2.1)) ?_) | refine lb_to0 (T := (38, [(0, .ref 124), (1, .int (Int32.ofNat k))], [.ref 124], Ma)) 38 [0, 1] rfl rfl rfl (fun J' h => h) (lb_g0 rfl rfl (by first | exact hx.2.1.2.1 | (rw [hnt.1]; exact hx.2.1.2.1) | (rw [hs.1, hnt.1]; exact hx.2.1.2.1) | (show Ma.2.2 124 17 = _; rw [hnt.1]; exact hx.2.1.2.1)) ?_)
      first | refine lb_to (T := (45, [(0, .ref 124), (1, .int (Int32.ofNat k)), (2, .int (Ma.1 129 ((Int32.ofNat k).toNatClampNeg)))], [.ref 124], Ma)) 45 [0, 1, 2] rfl rfl rfl (fun J' h => h) (lb_g0 rfl rfl (by first | exact hx.2.1.2.1 | (rw [hnt.1]; exact hx.2.1.2.1) | (rw [hs.1, hnt.1]; exact hx.2.1.2.1) | (show Ma.2.2 124 17 = _; rw [hnt.1]; exact hx.2.1.2.1)) ?_) | refine lb_to0 (T := (45, [(0, .ref 124), (1, .int (Int32.ofNat k)), (2, .int (Ma.1 129 ((Int32.ofNat k).toNatClampNeg)))], [.ref 124], Ma)) 45 [0, 1, 2] rfl rfl rfl (fun J' h => h) (lb_g0 rfl rfl (by first | exact hx.2.1.2.1 | (rw [hnt.1]; exact hx.2.1.2.1) | (rw [hs.1, hnt.1]; exact hx.2.1.2.1) | (show Ma.2.2 124 17 = _; rw [hnt.1]; exact hx.2.1.2.1)) ?_)
      first | refine lb_to (T := (52, [(0, .ref 124), (1, .int (Int32.ofNat k)), (2, .int (Ma.1 129 ((Int32.ofNat k).toNatClampNeg)))], [.ref 124], cm_wi Ma 129 ((Int32.ofNat k).toNatClampNeg) 0)) 52 [0, 1, 2] rfl rfl rfl (fun J' h => h) (lb_g0 rfl rfl (by first | exact hx.2.1.2.1 | (rw [hnt.1]; exact hx.2.1.2.1) | (rw [hs.1, hnt.1]; exact hx.2.1.2.1) | (show Ma.2.2 124 17 = _; rw [hnt.1]; exact hx.2.1.2.1)) ?_) | refine lb_to0 (T := (52, [(0, .ref 124), (1, .int (Int32.ofNat k)), (2, .int (Ma.1 129 ((Int32.ofNat k).toNatClampNeg)))], [.ref 124], cm_wi Ma 129 ((Int32.ofNat k).toNatClampNeg) 0)) 52 [0, 1, 2] rfl rfl rfl (fun J' h => h) (lb_g0 rfl rfl (by first | exact hx.2.1.2.1 | (rw [hnt.1]; exact hx.2.1.2.1) | (rw [hs.1, hnt.1]; exact hx.2.1.2.1) | (show Ma.2.2 124 17 = _; rw [hnt.1]; exact hx.2.1.2.1)) ?_)
      first | refine lb_to (T := (58, [(0, .ref 124), (1, .int (Int32.ofNat k)), (2, .int (Ma.1 129 ((Int32.ofNat k).toNatClampNeg)))], [.ref 124, .int 6, .ref 129], cm_wi Ma 129 ((Int32.ofNat k).toNatClampNeg) 0)) 58 [0, 1, 2] rfl rfl rfl (fun J' h => h) (lb_g0 rfl rfl (by first | exact hx.2.1.1 | (rw [hnt.1]; exact hx.2.1.1) | (rw [hs.1, hnt.1]; exact hx.2.1.1) | (show Ma.2.2 124 15 = _; rw [hnt.1]; exact hx.2.1.1)) ?_) | refine lb_to0 (T := (58, [(0, .ref 124), (1, .int (Int32.ofNat k)), (2, .int (Ma.1 129 ((Int32.ofNat k).toNatClampNeg)))], [.ref 124, .int 6, .ref 129], cm_wi Ma 129 ((Int32.ofNat k).toNatClampNeg) 0)) 58 [0, 1, 2] rfl rfl rfl (fun J' h => h) (lb_g0 rfl rfl (by first | exact hx.2.1.1 | (rw [hnt.1]; exact hx.2.1.1) | (rw [hs.1, hnt.1]; exact hx.2.1.1) | (show Ma.2.2 124 15 = _; rw [hnt.1]; exact hx.2.1.1)) ?_)
      have f127 : ∀ j, Ma.1 127 j = M.1 127 j := fun j => congrFun e127 j
      have f129 : ∀ j, Ma.1 129 j = M.1 129 j := fun j => congrFun e129 j
      have hs0 : rset 129 Ma (cm_wi Ma 129 k 0) (fun j => if j = k then 0 else M.1 129 j) := rset_w (rset_0 129 Ma) (if_pos rfl).symm (fun j _ w => by
        try dsimp only
        rw [if_neg w, f129])
      refine ⟨?_, ?_⟩
      · show some (Value.int (Ma.1 129 (Int32.ofNat k).toNatClampNeg)) = _
        rw [ek, f129]
      show actM u M (cm_wi (cm_wi Ma 129 ((Int32.ofNat k).toNatClampNeg) 0) 129 ((6 + ((cm_wi Ma 129 ((Int32.ofNat k).toNatClampNeg) 0).1 127 ((11 + (3 * (Int32.ofNat k))).toNatClampNeg))).toNatClampNeg) (((cm_wi Ma 129 ((Int32.ofNat k).toNatClampNeg) 0).1 129 ((6 + ((cm_wi Ma 129 ((Int32.ofNat k).toNatClampNeg) 0).1 127 ((11 + (3 * (Int32.ofNat k))).toNatClampNeg))).toNatClampNeg)) + (Ma.1 129 ((Int32.ofNat k).toNatClampNeg)))) _
      have n1 : ∀ j, (cm_wi Ma 129 k 0).1 127 j = M.1 127 j := fun j => (wi_n2 (by omega)).trans (f127 j)
      rw [ek, n1, e11, hq, show ((6 : Int32) + Int32.ofNat q).toNatClampNeg = 6 + q from ixn 6 (by omega), wi_n2 (M := Ma) (by omega), f129, f129]
      refine actM_of hnt (rset_w hs0 ?_ (fun j hj w => ?_))
      · unfold svR
        rw [if_neg (by omega), if_pos rfl]
      · unfold svR
        try dsimp only
        by_cases z : j = k
        · rw [if_pos z, if_pos z]
        · rw [if_neg z, if_neg z, if_neg w]
    · have z := fn_eq hcct
      rw [ek, gd_n (by omega)] at z
      exact absurd z hz
  · exact absurd hcc (by decide)
/-- the row as another one was -/
noncomputable def stM (src off : Nat) (M M' : cm_M) : Prop := M'.2 = M.2 ∧ (∀ d j, d ≠ 129 → ¬ (d = 124 ∧ (j = 0 ∨ j = 11 ∨ j = 20)) → M'.1 d j = M.1 d j) ∧ M'.1 124 11 = 0 ∧ ∀ j, j < 11 → M'.1 129 j = M.1 src (off + j)
theorem m_undo {a : Bool} {me mo : Nat} {M : cm_M} (hx : MTX a me mo M) {u : Nat} (hu : M.1 124 20 = Int32.ofNat u) (hu16 : u ≤ 16) : cm_Lc cm_ms 291 [.ref 124] M (fun v M' => v = some (.int (bi (decide (u ≠ 0)))) ∧ (u = 0 → noM 6 M M') ∧ (u ≠ 0 → stM 130 (11 * (u - 1)) M M' ∧ M'.1 124 20 = Int32.ofNat (u - 1))) := by
  refine lb_st0 (mi := mr_291) rfl 400 ?_
  show ∃ R, cm_Lc cm_ms 164 [.ref 124] M R ∧ ∀ v M', R v M' → _
  refine ⟨_, m_goodG M, ?_⟩
  rintro v M' ⟨rfl, rfl⟩
  have hg := MTX_gd hx
  show (ev_cmp 1 ((gdM M).1 124 20) 0 = true → _) ∧ (ev_cmp 1 ((gdM M).1 124 20) 0 = false → _)
  refine ⟨fun hc => ?_, fun hc => ?_⟩
  · have z := fn_ne hc
    rw [gd_n (by omega), hu, ne_eq, ofn_0 (by omega)] at z
    first | refine lb_to (T := (29, [(0, .ref 124)], [.ref 124], cm_wi (gdM M) 124 20 (((gdM M).1 124 20) - 1))) 29 [0] rfl rfl rfl (fun J' h => h) (lb_g0 rfl rfl (by first | exact hx.2.1.2.2.1 | (rw [hnt.1]; exact hx.2.1.2.2.1) | (rw [hs.1, hnt.1]; exact hx.2.1.2.2.1)) ?_) | refine lb_to0 (T := (29, [(0, .ref 124)], [.ref 124], cm_wi (gdM M) 124 20 (((gdM M).1 124 20) - 1))) 29 [0] rfl rfl rfl (fun J' h => h) (lb_g0 rfl rfl (by first | exact hx.2.1.2.2.1 | (rw [hnt.1]; exact hx.2.1.2.2.1) | (rw [hs.1, hnt.1]; exact hx.2.1.2.2.1)) ?_)
    first | refine lb_to (T := (40, [(0, .ref 124)], [.ref 124, .int (11 * (((gdM M).1 124 20) - 1)), .ref 130], cm_wi (gdM M) 124 20 (((gdM M).1 124 20) - 1))) 40 [0] rfl rfl rfl (fun J' h => h) (lb_g0 rfl rfl (by first | exact hx.2.1.2.1 | (rw [hnt.1]; exact hx.2.1.2.1) | (rw [hs.1, hnt.1]; exact hx.2.1.2.1) | (show Ma.2.2 124 17 = _; rw [hnt.1]; exact hx.2.1.2.1)) ?_) | refine lb_to0 (T := (40, [(0, .ref 124)], [.ref 124, .int (11 * (((gdM M).1 124 20) - 1)), .ref 130], cm_wi (gdM M) 124 20 (((gdM M).1 124 20) - 1))) 40 [0] rfl rfl rfl (fun J' h => h) (lb_g0 rfl rfl (by first | exact hx.2.1.2.1 | (rw [hnt.1]; exact hx.2.1.2.1) | (rw [hs.1, hnt.1]; exact hx.2.1.2.1) | (show Ma.2.2 124 17 = _; rw [hnt.1]; exact hx.2.1.2.1)) ?_)
    show ∃ R, cm_Lc cm_ms 170 [.ref 130, .int (11 * (((gdM M).1 124 20) - 1)), .ref 129, .int 0, .int 11] (cm_wi (gdM M) 124 20 (((gdM M).1 124 20) - 1)) R ∧ ∀ v M', R v M' → _
    have e20 : (gdM M).1 124 20 = Int32.ofNat u := (gd_n (by omega)).trans hu
    have e21 : (gdM M).1 124 20 - 1 = Int32.ofNat (u - 1) := by
      rw [e20]
      exact acts_m u (by omega) (by omega)
    have hc := m_copyR (M := cm_wi (gdM M) 124 20 (((gdM M).1 124 20) - 1)) (a := 130) (b := 129) (x := 11 * (u - 1)) (y := 0) (n := 11) (by decide) (by omega) (by omega)
    rw [← e11_t (u - 1) (by omega), ← e21] at hc
    refine ⟨_, hc, ?_⟩
    rintro v M' ⟨rfl, rfl⟩
    refine ⟨?_, fun q => absurd q z, fun _ => ⟨⟨rfl, fun d j b1 b2 => ?_, ?_, fun j hj => ?_⟩, ?_⟩⟩
    · rw [decide_eq_true z]
      try rfl
    · show (cm_cp (cm_wi (gdM M) 124 20 (((gdM M).1 124 20) - 1)) 130 (11 * (u - 1)) 129 0 11).1 d j = _
      rw [cp_ne (by omega), wi_n2 (by omega), gd_n (by omega)]
    · show (cm_cp (cm_wi (gdM M) 124 20 (((gdM M).1 124 20) - 1)) 130 (11 * (u - 1)) 129 0 11).1 124 11 = _
      rw [cp_ne (by omega), wi_n2 (by omega)]
      exact wi_at _ _ _ _
    · show (cm_cp (cm_wi (gdM M) 124 20 (((gdM M).1 124 20) - 1)) 130 (11 * (u - 1)) 129 0 11).1 129 j = _
      rw [cp_in (by omega) (by omega), wi_n2 (by omega), gd_n (by omega), Nat.sub_zero]
    · show (cm_cp (cm_wi (gdM M) 124 20 (((gdM M).1 124 20) - 1)) 130 (11 * (u - 1)) 129 0 11).1 124 20 = _
      rw [cp_ne (by omega), wi_at, e21]
  · show ∃ R, cm_Lc cm_ms 166 [.ref 124, .int 6] (gdM M) R ∧ ∀ v M', R v M' → _
    refine ⟨_, m_isNotG 6 (gdM M), ?_⟩
    rintro v Mz ⟨hG, rfl⟩
    have z := fn_eq hc
    rw [gd_n (by omega), hu, ofn_0 (by omega)] at z
    subst hG
    refine ⟨?_, fun _ => rfl, fun q => absurd z q⟩
    rw [z]
    try rfl
theorem m_image_out {a : Bool} {me mo : Nat} {M : cm_M} (hx : MTX a me mo M) (ha : a = false) : cm_Lc cm_ms 292 [.ref 124] M (fun v M' => v = some (.int (-1)) ∧ noM 1 M M') := by
  refine lb_st0 (mi := mr_292) rfl 400 ?_
  show ∃ R, cm_Lc cm_ms 164 [.ref 124] M R ∧ ∀ v M', R v M' → _
  refine ⟨_, m_goodG M, ?_⟩
  rintro v M' ⟨rfl, rfl⟩
  have hg := MTX_gd hx
  show (ev_cmp 1 ((gdM M).1 124 14) 0 = true → _) ∧ (ev_cmp 1 ((gdM M).1 124 14) 0 = false → _)
  refine ⟨fun hc => ?_, fun hc => ?_⟩
  · have q := fn_ne hc
    rw [gd_n (by omega), hx.1, ha] at q
    exact absurd rfl q
  · show ∃ R, cm_Lc cm_ms 165 [.ref 124, .int 1] (gdM M) R ∧ ∀ v M', R v M' → _
    refine ⟨_, m_noG 1 (gdM M), ?_⟩
    rintro v Mz ⟨hG, rfl⟩
    subst hG
    exact ⟨rfl, rfl⟩
/-- an image drawn -/
noncomputable def drawM (gi : Nat) (M M' : cm_M) : Prop := M'.2 = M.2 ∧ (∀ d j, d ≠ 131 → ¬ (d = 124 ∧ (j = 0 ∨ j = 11 ∨ j = 21)) → M'.1 d j = M.1 d j) ∧ M'.1 124 11 = 0 ∧ M'.1 124 21 = Int32.ofNat (gi + 1) ∧ (∀ i j, i < gi → j < 11 → M'.1 131 (11 * i + j) = M.1 131 (11 * i + j)) ∧ ∀ j, j < 11 → M'.1 131 (11 * gi + j) = M.1 129 j
theorem m_image {a : Bool} {me mo : Nat} {M : cm_M} (hx : MTX a me mo M) {gi : Nat} (hg : M.1 124 21 = Int32.ofNat gi) (hg3 : gi ≤ 3) (ha : a = true) : cm_Lc cm_ms 292 [.ref 124] M (fun v M' => (gi = 3 → v = some (.int (-1)) ∧ noM 3 M M') ∧ (gi < 3 → v = some (.int (Int32.ofNat gi)) ∧ drawM gi M M')) := by
  have hz := hg
  refine lb_st0 (mi := mr_292) rfl 400 ?_
  show ∃ R, cm_Lc cm_ms 164 [.ref 124] M R ∧ ∀ v M', R v M' → _
  refine ⟨_, m_goodG M, ?_⟩
  rintro v M' ⟨rfl, rfl⟩
  have e21 : (gdM M).1 124 21 = Int32.ofNat gi := (gd_n (by omega)).trans hz
  show (ev_cmp 1 ((gdM M).1 124 14) 0 = true → _) ∧ (ev_cmp 1 ((gdM M).1 124 14) 0 = false → _)
  refine ⟨fun hc => ?_, fun hc => ?_⟩
  · show (ev_cmp 1 ((gdM M).1 124 21) 3 = true → _) ∧ (ev_cmp 1 ((gdM M).1 124 21) 3 = false → _)
    refine ⟨fun hct => ?_, fun hct => ?_⟩
    · have q := fn_ne hct
      rw [e21] at q
      have g3 : gi ≠ 3 := fun w => q (by rw [w]; try rfl)
      first | refine lb_to (T := (32, [(0, .ref 124)], [.ref 124], (gdM M))) 32 [0] rfl rfl rfl (fun J' h => h) (lb_g0 rfl rfl (by first | exact hx.2.1.2.1 | (rw [hnt.1]; exact hx.2.1.2.1) | (rw [hs.1, hnt.1]; exact hx.2.1.2.1) | (show Ma.2.2 124 17 = _; rw [hnt.1]; exact hx.2.1.2.1)) ?_) | refine lb_to0 (T := (32, [(0, .ref 124)], [.ref 124], (gdM M))) 32 [0] rfl rfl rfl (fun J' h => h) (lb_g0 rfl rfl (by first | exact hx.2.1.2.1 | (rw [hnt.1]; exact hx.2.1.2.1) | (rw [hs.1, hnt.1]; exact hx.2.1.2.1) | (show Ma.2.2 124 17 = _; rw [hnt.1]; exact hx.2.1.2.1)) ?_)
      first | refine lb_to (T := (37, [(0, .ref 124)], [.ref 124, .int 0, .ref 129], (gdM M))) 37 [0] rfl rfl rfl (fun J' h => h) (lb_g0 rfl rfl (by first | exact hx.2.1.2.2.2.1 | (rw [hnt.1]; exact hx.2.1.2.2.2.1) | (rw [hs.1, hnt.1]; exact hx.2.1.2.2.2.1)) ?_) | refine lb_to0 (T := (37, [(0, .ref 124)], [.ref 124, .int 0, .ref 129], (gdM M))) 37 [0] rfl rfl rfl (fun J' h => h) (lb_g0 rfl rfl (by first | exact hx.2.1.2.2.2.1 | (rw [hnt.1]; exact hx.2.1.2.2.2.1) | (rw [hs.1, hnt.1]; exact hx.2.1.2.2.2.1)) ?_)
      show ∃ R, cm_Lc cm_ms 170 [.ref 129, .int 0, .ref 131, .int (11 * ((gdM M).1 124 21)), .int 11] (gdM M) R ∧ ∀ v M', R v M' → _
      have hc := m_copyR (M := gdM M) (a := 129) (b := 131) (x := 0) (y := 11 * gi) (n := 11) (by decide) (by omega) (by omega)
      rw [← e11_t gi (by omega), ← e21] at hc
      refine ⟨_, hc, ?_⟩
      rintro v M' ⟨rfl, rfl⟩
      have ek : (cm_cp (gdM M) 129 0 131 (11 * gi) 11).1 124 21 = Int32.ofNat gi := (cp_ne (by omega)).trans e21
      refine ⟨fun w => absurd w g3, fun _ => ⟨?_, ?_⟩⟩
      · show some (Value.int ((cm_cp (gdM M) 129 0 131 (11 * gi) 11).1 124 21 + 1 - 1)) = _
        rw [ek, (imgs_p gi (by omega)).2]
      show drawM gi M (cm_wi (cm_cp (gdM M) 129 0 131 (11 * gi) 11) 124 21 ((cm_cp (gdM M) 129 0 131 (11 * gi) 11).1 124 21 + 1))
      rw [ek, (imgs_p gi (by omega)).1]
      refine ⟨rfl, fun d j b1 b2 => ?_, ?_, wi_at _ _ _ _, fun i j hi hj => ?_, fun j hj => ?_⟩
      · rw [wi_n2 (by omega), cp_ne (by omega), gd_n (by omega)]
      · rw [wi_n2 (by omega), cp_ne (by omega)]
        exact wi_at _ _ _ _
      · rw [wi_n2 (by omega), cp_ne (by omega), gd_n (by omega)]
      · rw [wi_n2 (by omega), cp_in (by omega) (by omega), gd_n (by omega)]
        exact congrArg (M.1 129) (by omega)
    · show ∃ R, cm_Lc cm_ms 165 [.ref 124, .int 3] (gdM M) R ∧ ∀ v M', R v M' → _
      refine ⟨_, m_noG 3 (gdM M), ?_⟩
      rintro v Mz ⟨hG, rfl⟩
      have q := fn_eq hct
      rw [e21, show (3 : Int32) = Int32.ofNat 3 from rfl] at q
      have q3 := ofn_inj (by omega) (by omega) q
      subst hG
      exact ⟨fun _ => ⟨rfl, rfl⟩, fun w => by omega⟩
  · have q := fn_eq hc
    rw [gd_n (by omega), hx.1, ha] at q
    exact absurd q (by decide)
theorem m_back_out {a : Bool} {me mo : Nat} {M : cm_M} (hx : MTX a me mo M) {gi : Nat} (hg : M.1 124 21 = Int32.ofNat gi) (hg3 : gi ≤ 3) (x : Int32) (ho : outB x (Int32.ofNat gi) = true) : cm_Lc cm_ms 293 [.ref 124, .int x] M (fun v M' => v = some (.int 0) ∧ noM 1 M M') := by
  refine lb_st0 (mi := mr_293) rfl 400 ?_
  show ∃ R, cm_Lc cm_ms 164 [.ref 124] M R ∧ ∀ v M', R v M' → _
  refine ⟨_, m_goodG M, ?_⟩
  rintro v M' ⟨rfl, rfl⟩
  have e21 : (gdM M).1 124 21 = Int32.ofNat gi := (gd_n (by omega)).trans hg
  show ∃ R, cm_Lc cm_ms 167 [.int x, .int 0, .int (((gdM M).1 124 21) - 1)] (gdM M) R ∧ ∀ v M', R v M' → _
  have hl := m_in2 x 0 ((gdM M).1 124 21 - 1) (gdM M)
  rw [e21, out_in (by omega), ho, Bool.not_true, ← e21] at hl
  refine ⟨_, hl, ?_⟩
  rintro v M' ⟨hM, rfl⟩
  subst M'
  show (ev_cmp 1 (bi false) 0 = true → _) ∧ (ev_cmp 1 (bi false) 0 = false → _)
  refine ⟨fun hcc => ?_, fun hcc => ?_⟩
  · exact absurd hcc (by decide)
  · show ∃ R, cm_Lc cm_ms 166 [.ref 124, .int 1] (gdM M) R ∧ ∀ v M', R v M' → _
    refine ⟨_, m_isNotG 1 (gdM M), ?_⟩
    rintro v Mz ⟨hG, rfl⟩
    subst hG
    exact ⟨rfl, rfl⟩
theorem m_back_i {a : Bool} {me mo : Nat} {M : cm_M} (hx : MTX a me mo M) {gi : Nat} (hg : M.1 124 21 = Int32.ofNat gi) (hg3 : gi ≤ 3) {i : Nat} (hi : i < gi) : cm_Lc cm_ms 293 [.ref 124, .int (Int32.ofNat i)] M (fun v M' => v = some (.int 1) ∧ stM 131 (11 * i) M M' ∧ M'.1 124 20 = 0) := by
  refine lb_st0 (mi := mr_293) rfl 400 ?_
  show ∃ R, cm_Lc cm_ms 164 [.ref 124] M R ∧ ∀ v M', R v M' → _
  refine ⟨_, m_goodG M, ?_⟩
  rintro v M' ⟨rfl, rfl⟩
  have e21 : (gdM M).1 124 21 = Int32.ofNat gi := (gd_n (by omega)).trans hg
  show ∃ R, cm_Lc cm_ms 167 [.int (Int32.ofNat i), .int 0, .int (((gdM M).1 124 21) - 1)] (gdM M) R ∧ ∀ v M', R v M' → _
  have hl := m_in2 (Int32.ofNat i) 0 ((gdM M).1 124 21 - 1) (gdM M)
  rw [e21, out_in (by omega), outB_lt hi (by omega), Bool.not_false, ← e21] at hl
  refine ⟨_, hl, ?_⟩
  rintro v M' ⟨hM, rfl⟩
  subst M'
  show (ev_cmp 1 (bi true) 0 = true → _) ∧ (ev_cmp 1 (bi true) 0 = false → _)
  refine ⟨fun hcc => ?_, fun hcc => ?_⟩
  · first | refine lb_to (T := (25, [(0, .ref 124), (1, .int (Int32.ofNat i))], [.ref 124], (gdM M))) 25 [0, 1] rfl rfl rfl (fun J' h => h) (lb_g0 rfl rfl (by first | exact hx.2.1.2.2.2.1 | (rw [hnt.1]; exact hx.2.1.2.2.2.1) | (rw [hs.1, hnt.1]; exact hx.2.1.2.2.2.1)) ?_) | refine lb_to0 (T := (25, [(0, .ref 124), (1, .int (Int32.ofNat i))], [.ref 124], (gdM M))) 25 [0, 1] rfl rfl rfl (fun J' h => h) (lb_g0 rfl rfl (by first | exact hx.2.1.2.2.2.1 | (rw [hnt.1]; exact hx.2.1.2.2.2.1) | (rw [hs.1, hnt.1]; exact hx.2.1.2.2.2.1)) ?_)
    first | refine lb_to (T := (33, [(0, .ref 124), (1, .int (Int32.ofNat i))], [.ref 124, .int (11 * (Int32.ofNat i)), .ref 131], (gdM M))) 33 [0, 1] rfl rfl rfl (fun J' h => h) (lb_g0 rfl rfl (by first | exact hx.2.1.2.1 | (rw [hnt.1]; exact hx.2.1.2.1) | (rw [hs.1, hnt.1]; exact hx.2.1.2.1) | (show Ma.2.2 124 17 = _; rw [hnt.1]; exact hx.2.1.2.1)) ?_) | refine lb_to0 (T := (33, [(0, .ref 124), (1, .int (Int32.ofNat i))], [.ref 124, .int (11 * (Int32.ofNat i)), .ref 131], (gdM M))) 33 [0, 1] rfl rfl rfl (fun J' h => h) (lb_g0 rfl rfl (by first | exact hx.2.1.2.1 | (rw [hnt.1]; exact hx.2.1.2.1) | (rw [hs.1, hnt.1]; exact hx.2.1.2.1) | (show Ma.2.2 124 17 = _; rw [hnt.1]; exact hx.2.1.2.1)) ?_)
    show ∃ R, cm_Lc cm_ms 170 [.ref 131, .int (11 * (Int32.ofNat i)), .ref 129, .int 0, .int 11] (gdM M) R ∧ ∀ v M', R v M' → _
    have hc := m_copyR (M := gdM M) (a := 131) (b := 129) (x := 11 * i) (y := 0) (n := 11) (by decide) (by omega) (by omega)
    rw [← e11_t i (by omega)] at hc
    refine ⟨_, hc, ?_⟩
    rintro v M' ⟨rfl, rfl⟩
    refine ⟨rfl, ⟨rfl, fun d j b1 b2 => ?_, ?_, fun j hj => ?_⟩, wi_at _ _ _ _⟩
    · show (cm_wi (cm_cp (gdM M) 131 (11 * i) 129 0 11) 124 20 0).1 d j = _
      rw [wi_n2 (by omega), cp_ne (by omega), gd_n (by omega)]
    · show (cm_wi (cm_cp (gdM M) 131 (11 * i) 129 0 11) 124 20 0).1 124 11 = _
      rw [wi_n2 (by omega), cp_ne (by omega)]
      exact wi_at _ _ _ _
    · show (cm_wi (cm_cp (gdM M) 131 (11 * i) 129 0 11) 124 20 0).1 129 j = _
      rw [wi_n2 (by omega), cp_in (by omega) (by omega), gd_n (by omega), Nat.sub_zero]
  · exact absurd hcc (by decide)
