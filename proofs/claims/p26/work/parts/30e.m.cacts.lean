/-- the class where a town may be told -/
noncomputable def CTX (T' me mo : Nat) (M : cm_M) : Prop := (T' = 6 ∨ T' = 19) ∧ (M.2.2 0 3 = some T' ∧ M.2.2 0 5 = some 32 ∧ M.2.2 0 7 = some 38) ∧ PQ M ∧ (∀ f o, (f, o) ∈ [(4, 1), (5, 2), (6, 3), (7, 4), (8, 5), (10, 6), (11, 7), (12, 8), (13, 9), (14, 10), (16, 11), (17, 12)] → M.2.2 T' f = some (T' + o)) ∧ (M.1 T' 3 = Int32.ofNat me ∧ M.1 T' 9 = Int32.ofNat mo) ∧ me ≤ 6 ∧ mo ≤ 5
theorem outB_lt {k n : Nat} (h : k < n) (hn : n < 1000) : outB (Int32.ofNat k) (Int32.ofNat n) = false := by
  unfold outB
  rw [fn_toInt (by omega), fn_toInt (by omega), decide_eq_false (by omega), decide_eq_false (by omega)]
  try rfl
/-- an act of the class: what was is kept, now is .. -/
noncomputable def actC (nx u : Nat) (M M' : cm_M) (H F : Nat → Int32) (ca we : Int32) : Prop := M'.2 = M.2 ∧ (∀ d j, d ≠ 38 → d ≠ 32 → d ≠ 33 → d ≠ 34 → d ≠ 41 + 3 * nx → d ≠ 41 + 3 * nx + 1 → d ≠ 41 + 3 * nx + 2 → ¬ (d = 0 ∧ j = 14) → M'.1 d j = M.1 d j) ∧ ((∀ j, j < 6 → M'.1 (41 + 3 * nx + 1) j = M.1 33 j) ∧ (∀ q, q < 3 → M'.1 (41 + 3 * nx + 2) q = M.1 34 q) ∧ M'.1 (41 + 3 * nx) 2 = M.1 32 2 ∧ M'.1 (41 + 3 * nx) 3 = M.1 32 3) ∧ ((∀ j, j < 6 → M'.1 33 j = H j) ∧ (∀ q, q < 3 → M'.1 34 q = F q) ∧ M'.1 32 2 = ca ∧ M'.1 32 3 = we) ∧ M'.1 38 2 = Int32.ofNat ((nx + 1) % 16) ∧ M'.1 38 3 = Int32.ofNat (min 16 (u + 1)) ∧ M'.1 38 4 = M.1 38 4
theorem actC_of {nx u : Nat} {M Ma Mb : cm_M} {H F : Nat → Int32} {ca we : Int32} (hnx : nx < 16) (hk : keepR nx u M Ma) (hs : mset 32 Ma Mb H F ca we) : actC nx u M (cm_wi Mb 0 14 0) H F ca we := by
  obtain ⟨k1, k2, k3, k4, ⟨k5, k6⟩, k7, k8, k9⟩ := hk
  obtain ⟨s1, s2, s3, s4, s5, s6⟩ := hs
  refine ⟨s1.trans k1, fun d j b1 b2 b3 b4 b5 b6 b7 b8 => ?_, ⟨fun j hj => ?_, fun q hq => ?_, ?_, ?_⟩, ⟨fun j hj => ?_, fun q hq => ?_, ?_, ?_⟩, ?_, ?_, ?_⟩
  · rw [wi_n2 b8, s2 d j b2 b3 b4]
    exact k2 d j b1 b5 b6 b7
  · rw [wi_n2 (by omega), s2 _ j (by omega) (by omega) (by omega)]
    exact k3 j hj
  · rw [wi_n2 (by omega), s2 _ q (by omega) (by omega) (by omega)]
    exact k4 q hq
  · rw [wi_n2 (by omega), s2 _ 2 (by omega) (by omega) (by omega)]
    exact k5
  · rw [wi_n2 (by omega), s2 _ 3 (by omega) (by omega) (by omega)]
    exact k6
  · rw [wi_n2 (by omega)]
    exact s3 j hj
  · rw [wi_n2 (by omega)]
    exact s4 q hq
  · rw [wi_n2 (by omega)]
    exact s5
  · rw [wi_n2 (by omega)]
    exact s6
  · rw [wi_n2 (by omega), s2 _ 2 (by omega) (by omega) (by omega)]
    exact k7
  · rw [wi_n2 (by omega), s2 _ 3 (by omega) (by omega) (by omega)]
    exact k8
  · rw [wi_n2 (by omega), s2 _ 4 (by omega) (by omega) (by omega)]
    exact k9
theorem c_put_out {M : cm_M} {T' me mo : Nat} (hx : CTX T' me mo M) (x : Int32) (ho : outB x (Int32.ofNat mo) = true) : cm_Lc cm_ms 149 [.ref 0, .int x] M (fun v M' => v = some (.int (-1)) ∧ M' = cm_wi M 0 14 1) := by
  have hl := c_lacksMotion hx.2.1.1 x
  rw [hx.2.2.2.2.1.2, ho] at hl
  refine lb_st0 (mi := mr_149) rfl 400 ?_
  show ∃ R, cm_Lc cm_ms 162 [.ref 0, .int x] M R ∧ ∀ v M', R v M' → _
  refine ⟨_, hl, ?_⟩
  rintro v M' ⟨hM, rfl⟩
  subst M'
  show (ev_cmp 0 (bi true) 0 = true → _) ∧ (ev_cmp 0 (bi true) 0 = false → _)
  refine ⟨fun hc => ?_, fun hc => ?_⟩
  · exact absurd hc (by decide)
  · show ∃ R, cm_Lc cm_ms 157 [.ref 0, .int 1] M R ∧ ∀ v M', R v M' → _
    refine ⟨_, c_refused 1 M, ?_⟩
    rintro v M' ⟨hM, rfl⟩
    subst M'
    exact ⟨rfl, rfl⟩
theorem c_put_no {M : cm_M} {T' me mo : Nat} (hx : CTX T' me mo M) {k : Nat} (hk : k < mo) (hmb : mbB (M.1 32 2) (M.1 (T' + 9) k) k = false) : cm_Lc cm_ms 149 [.ref 0, .int (Int32.ofNat k)] M (fun v M' => v = some (.int (-1)) ∧ M' = cm_wi M 0 14 5) := by
  have hl := c_lacksMotion hx.2.1.1 (Int32.ofNat k)
  rw [hx.2.2.2.2.1.2, outB_lt hk (by have := hx.2.2.2.2.2.2; omega)] at hl
  have hm5 := hx.2.2.2.2.2.2
  have hb := c_mayBe (M := M) (c := 32) (T' := T') (hx.2.2.2.1 13 9 (by decide)) (show k < 1000 by omega)
  rw [hmb] at hb
  refine lb_st0 (mi := mr_149) rfl 400 ?_
  show ∃ R, cm_Lc cm_ms 162 [.ref 0, .int (Int32.ofNat k)] M R ∧ ∀ v M', R v M' → _
  refine ⟨_, hl, ?_⟩
  rintro v M' ⟨hM, rfl⟩
  subst M'
  show (ev_cmp 0 (bi false) 0 = true → _) ∧ (ev_cmp 0 (bi false) 0 = false → _)
  refine ⟨fun hc => ?_, fun hc => ?_⟩
  · first | refine lb_to (T := (15, [(0, .ref 0), (1, .int (Int32.ofNat k))], [.ref 0], M)) 15 [0, 1] rfl rfl rfl (fun J' h => h) (lb_g0 rfl rfl hx.2.1.2.1 ?_) | refine lb_to0 (T := (15, [(0, .ref 0), (1, .int (Int32.ofNat k))], [.ref 0], M)) 15 [0, 1] rfl rfl rfl (fun J' h => h) (lb_g0 rfl rfl hx.2.1.2.1 ?_)
    first | refine lb_to (T := (19, [(0, .ref 0), (1, .int (Int32.ofNat k))], [.ref 0, .ref 32], M)) 19 [0, 1] rfl rfl rfl (fun J' h => h) (lb_g0 rfl rfl hx.2.1.1 ?_) | refine lb_to0 (T := (19, [(0, .ref 0), (1, .int (Int32.ofNat k))], [.ref 0, .ref 32], M)) 19 [0, 1] rfl rfl rfl (fun J' h => h) (lb_g0 rfl rfl hx.2.1.1 ?_)
    show ∃ R, cm_Lc cm_ms 34 [.ref 32, .ref T', .int (Int32.ofNat k)] M R ∧ ∀ v M', R v M' → _
    refine ⟨_, hb, ?_⟩
    rintro v M' ⟨hM, rfl⟩
    subst M'
    show (ev_cmp 1 (bi false) 0 = true → _) ∧ (ev_cmp 1 (bi false) 0 = false → _)
    refine ⟨fun hctc => ?_, fun hctc => ?_⟩
    · exact absurd hctc (by decide)
    · show ∃ R, cm_Lc cm_ms 157 [.ref 0, .int 5] M R ∧ ∀ v M', R v M' → _
      refine ⟨_, c_refused 5 M, ?_⟩
      rintro v M' ⟨hM, rfl⟩
      subst M'
      exact ⟨rfl, rfl⟩
  · exact absurd hc (by decide)
theorem c_put_k {M : cm_M} {T' me mo : Nat} (hx : CTX T' me mo M) {k : Nat} {co : Nat → Nat} {nx u : Nat} (hn : M.1 38 2 = Int32.ofNat nx) (hnx : nx < 16) (hu : M.1 38 3 = Int32.ofNat u) (hu16 : u ≤ 16) (hk : k < mo) (hco : CO me (M.1 (T' + 1)) co) (hmb : mbB (M.1 32 2) (M.1 (T' + 9) k) k = true) : cm_Lc cm_ms 149 [.ref 0, .int (Int32.ofNat k)] M (fun v M' => v = some (.int (bi (geB (voF (M.1 (T' + 3)) (orF (fun m => syB (M.1 T' 1) (M.1 (T' + 6) k) (M.1 (T' + 4) m) (M.1 33 m) k) me) me) (M.1 (T' + 7) k)))) ∧ M'.1 0 14 = 0 ∧ actC nx u M M' (cuH (M.1 (T' + 6) k) (orF (fun m => syB (M.1 T' 1) (M.1 (T' + 6) k) (M.1 (T' + 4) m) (M.1 33 m) k) me) (M.1 33) me) (cuL (M.1 (T' + 6) k) (orF (fun m => syB (M.1 T' 1) (M.1 (T' + 6) k) (M.1 (T' + 4) m) (M.1 33 m) k) me) co (M.1 34) me) (if (geB (voF (M.1 (T' + 3)) (orF (fun m => syB (M.1 T' 1) (M.1 (T' + 6) k) (M.1 (T' + 4) m) (M.1 33 m) k) me) me) (M.1 (T' + 7) k)) = true then M.1 32 2 ||| sB k else M.1 32 2) (M.1 32 3)) := by
  have hl := c_lacksMotion hx.2.1.1 (Int32.ofNat k)
  rw [hx.2.2.2.2.1.2, outB_lt hk (by have := hx.2.2.2.2.2.2; omega)] at hl
  have hm5 := hx.2.2.2.2.2.2
  have hb := c_mayBe (M := M) (c := 32) (T' := T') (hx.2.2.2.1 13 9 (by decide)) (show k < 1000 by omega)
  rw [hmb] at hb
  have hT19 : T' ≤ 19 := by have := hx.1; omega
  have h6T : 6 ≤ T' := by have := hx.1; omega
  have hme6 := hx.2.2.2.2.2.1
  generalize hE : geB (voF (M.1 (T' + 3)) (orF (fun m => syB (M.1 T' 1) (M.1 (T' + 6) k) (M.1 (T' + 4) m) (M.1 33 m) k) me) me) (M.1 (T' + 7) k) = en
  generalize hY : orF (fun m => syB (M.1 T' 1) (M.1 (T' + 6) k) (M.1 (T' + 4) m) (M.1 33 m) k) me = Y at hE ⊢
  refine lb_st0 (mi := mr_149) rfl 400 ?_
  show ∃ R, cm_Lc cm_ms 162 [.ref 0, .int (Int32.ofNat k)] M R ∧ ∀ v M', R v M' → _
  refine ⟨_, hl, ?_⟩
  rintro v M' ⟨hM, rfl⟩
  subst M'
  show (ev_cmp 0 (bi false) 0 = true → _) ∧ (ev_cmp 0 (bi false) 0 = false → _)
  refine ⟨fun hc => ?_, fun hc => ?_⟩
  · first | refine lb_to (T := (15, [(0, .ref 0), (1, .int (Int32.ofNat k))], [.ref 0], M)) 15 [0, 1] rfl rfl rfl (fun J' h => h) (lb_g0 rfl rfl (by first | exact hx.2.1.2.1 | (rw [hkp.1]; exact hx.2.1.2.1) | (rw [hs.1, hkp.1]; exact hx.2.1.2.1)) ?_) | refine lb_to0 (T := (15, [(0, .ref 0), (1, .int (Int32.ofNat k))], [.ref 0], M)) 15 [0, 1] rfl rfl rfl (fun J' h => h) (lb_g0 rfl rfl (by first | exact hx.2.1.2.1 | (rw [hkp.1]; exact hx.2.1.2.1) | (rw [hs.1, hkp.1]; exact hx.2.1.2.1)) ?_)
    first | refine lb_to (T := (19, [(0, .ref 0), (1, .int (Int32.ofNat k))], [.ref 0, .ref 32], M)) 19 [0, 1] rfl rfl rfl (fun J' h => h) (lb_g0 rfl rfl (by first | exact hx.2.1.1 | (rw [hkp.1]; exact hx.2.1.1) | (rw [hs.1, hkp.1]; exact hx.2.1.1)) ?_) | refine lb_to0 (T := (19, [(0, .ref 0), (1, .int (Int32.ofNat k))], [.ref 0, .ref 32], M)) 19 [0, 1] rfl rfl rfl (fun J' h => h) (lb_g0 rfl rfl (by first | exact hx.2.1.1 | (rw [hkp.1]; exact hx.2.1.1) | (rw [hs.1, hkp.1]; exact hx.2.1.1)) ?_)
    show ∃ R, cm_Lc cm_ms 34 [.ref 32, .ref T', .int (Int32.ofNat k)] M R ∧ ∀ v M', R v M' → _
    refine ⟨_, hb, ?_⟩
    rintro v M' ⟨hM, rfl⟩
    subst M'
    show (ev_cmp 1 (bi true) 0 = true → _) ∧ (ev_cmp 1 (bi true) 0 = false → _)
    refine ⟨fun hctc => ?_, fun hctc => ?_⟩
    · first | refine lb_to (T := (36, [(0, .ref 0), (1, .int (Int32.ofNat k))], [.ref 0], M)) 36 [0, 1] rfl rfl rfl (fun J' h => h) (lb_g0 rfl rfl (by first | exact hx.2.1.2.2 | (rw [hkp.1]; exact hx.2.1.2.2) | (rw [hs.1, hkp.1]; exact hx.2.1.2.2)) ?_) | refine lb_to0 (T := (36, [(0, .ref 0), (1, .int (Int32.ofNat k))], [.ref 0], M)) 36 [0, 1] rfl rfl rfl (fun J' h => h) (lb_g0 rfl rfl (by first | exact hx.2.1.2.2 | (rw [hkp.1]; exact hx.2.1.2.2) | (rw [hs.1, hkp.1]; exact hx.2.1.2.2)) ?_)
      first | refine lb_to (T := (40, [(0, .ref 0), (1, .int (Int32.ofNat k))], [.ref 0, .ref 38], M)) 40 [0, 1] rfl rfl rfl (fun J' h => h) (lb_g0 rfl rfl (by first | exact hx.2.1.2.1 | (rw [hkp.1]; exact hx.2.1.2.1) | (rw [hs.1, hkp.1]; exact hx.2.1.2.1)) ?_) | refine lb_to0 (T := (40, [(0, .ref 0), (1, .int (Int32.ofNat k))], [.ref 0, .ref 38], M)) 40 [0, 1] rfl rfl rfl (fun J' h => h) (lb_g0 rfl rfl (by first | exact hx.2.1.2.1 | (rw [hkp.1]; exact hx.2.1.2.1) | (rw [hs.1, hkp.1]; exact hx.2.1.2.1)) ?_)
      show ∃ R, cm_Lc cm_ms 39 [.ref 38, .ref 32] M R ∧ ∀ v M', R v M' → _
      refine ⟨_, c_keep hx.2.2.1 hn hnx hu hu16, ?_⟩
      rintro v Ma ⟨rfl, hkp⟩
      have e33 : Ma.1 (32 + 1) = M.1 33 := funext fun j => hkp.2.1 33 j (by omega) (by omega) (by omega) (by omega)
      have e34 : Ma.1 (32 + 2) = M.1 34 := funext fun j => hkp.2.1 34 j (by omega) (by omega) (by omega) (by omega)
      have e32 : ∀ j, Ma.1 32 j = M.1 32 j := fun j => hkp.2.1 32 j (by omega) (by omega) (by omega) (by omega)
      have eT : ∀ i, i ≤ 12 → Ma.1 (T' + i) = M.1 (T' + i) := fun i hi => funext fun j => hkp.2.1 (T' + i) j (by omega) (by omega) (by omega) (by omega)
      have eT0 : Ma.1 T' = M.1 T' := eT 0 (by omega)
      have hcf := c_cutFor (M := Ma) (c := 32) (T' := T') (k := k) (me := me) (co := co) (by rw [hkp.1]; exact hx.2.2.1.2.2.1.1) (by rw [hkp.1]; exact hx.2.2.1.2.2.1.2) (by rw [hkp.1]; exact hx.2.2.2.1 4 1 (by decide)) (by rw [hkp.1]; exact hx.2.2.2.1 6 3 (by decide)) (by rw [hkp.1]; exact hx.2.2.2.1 7 4 (by decide)) (by rw [hkp.1]; exact hx.2.2.2.1 10 6 (by decide)) (by rw [hkp.1]; exact hx.2.2.2.1 11 7 (by decide)) (by omega) hT19 (by rw [eT0]; exact hx.2.2.2.2.1.1) hme6 (by omega) (by rw [eT 1 (by omega)]; exact hco)
      rw [eT0, eT 3 (by omega), eT 4 (by omega), eT 6 (by omega), eT 7 (by omega), e33, e34, e32, e32, hY, hE] at hcf
      first | refine lb_to (T := (48, [(0, .ref 0), (1, .int (Int32.ofNat k))], [.ref 0, .ref 0], Ma)) 48 [0, 1] rfl rfl rfl (fun J' h => h) (lb_g0 rfl rfl (by first | exact hx.2.1.2.1 | (rw [hkp.1]; exact hx.2.1.2.1) | (rw [hs.1, hkp.1]; exact hx.2.1.2.1)) ?_) | refine lb_to0 (T := (48, [(0, .ref 0), (1, .int (Int32.ofNat k))], [.ref 0, .ref 0], Ma)) 48 [0, 1] rfl rfl rfl (fun J' h => h) (lb_g0 rfl rfl (by first | exact hx.2.1.2.1 | (rw [hkp.1]; exact hx.2.1.2.1) | (rw [hs.1, hkp.1]; exact hx.2.1.2.1)) ?_)
      first | refine lb_to (T := (52, [(0, .ref 0), (1, .int (Int32.ofNat k))], [.ref 0, .ref 32, .ref 0], Ma)) 52 [0, 1] rfl rfl rfl (fun J' h => h) (lb_g0 rfl rfl (by first | exact hx.2.1.1 | (rw [hkp.1]; exact hx.2.1.1) | (rw [hs.1, hkp.1]; exact hx.2.1.1)) ?_) | refine lb_to0 (T := (52, [(0, .ref 0), (1, .int (Int32.ofNat k))], [.ref 0, .ref 32, .ref 0], Ma)) 52 [0, 1] rfl rfl rfl (fun J' h => h) (lb_g0 rfl rfl (by first | exact hx.2.1.1 | (rw [hkp.1]; exact hx.2.1.1) | (rw [hs.1, hkp.1]; exact hx.2.1.1)) ?_)
      show ∃ R, cm_Lc cm_ms 35 [.ref 32, .ref T', .int (Int32.ofNat k)] Ma R ∧ ∀ v M', R v M' → _
      refine ⟨_, hcf, ?_⟩
      rintro v Mb ⟨rfl, hs⟩
      show (ev_cmp 0 (bi en) 0 = true → _) ∧ (ev_cmp 0 (bi en) 0 = false → _)
      refine ⟨fun hctctcc => ?_, fun hctctcc => ?_⟩
      · show ∃ R, cm_Lc cm_ms 159 [.ref 0, .int 0] Mb R ∧ ∀ v M', R v M' → _
        refine ⟨_, c_granted _ _, ?_⟩
        rintro v Mc ⟨hG, rfl⟩
        subst hG
        refine ⟨?_, wi_at _ _ _ _, actC_of hnx hkp hs⟩
        rw [bi_0 hctctcc]
        try rfl
      · show ∃ R, cm_Lc cm_ms 159 [.ref 0, .int 1] Mb R ∧ ∀ v M', R v M' → _
        refine ⟨_, c_granted _ _, ?_⟩
        rintro v Mc ⟨hG, rfl⟩
        subst hG
        refine ⟨?_, wi_at _ _ _ _, actC_of hnx hkp hs⟩
        rw [bi_1 hctctcc]
        try rfl
    · exact absurd hctc (by decide)
  · exact absurd hc (by decide)
theorem c_week_out {M : cm_M} {T' me mo : Nat} (hx : CTX T' me mo M) (h0 : me = 0) : cm_Lc cm_ms 150 [.ref 0] M (fun v M' => v = some (.int (-1)) ∧ M' = cm_wi M 0 14 1) := by
  have hl := c_noTown hx.2.1.1
  rw [hx.2.2.2.2.1.1, h0, show decide (Int32.ofNat 0 = 0) = true from rfl] at hl
  refine lb_st0 (mi := mr_150) rfl 400 ?_
  show ∃ R, cm_Lc cm_ms 160 [.ref 0] M R ∧ ∀ v M', R v M' → _
  refine ⟨_, hl, ?_⟩
  rintro v M' ⟨hM, rfl⟩
  subst M'
  show (ev_cmp 0 (bi true) 0 = true → _) ∧ (ev_cmp 0 (bi true) 0 = false → _)
  refine ⟨fun hc => ?_, fun hc => ?_⟩
  · exact absurd hc (by decide)
  · show ∃ R, cm_Lc cm_ms 157 [.ref 0, .int 1] M R ∧ ∀ v M', R v M' → _
    refine ⟨_, c_refused 1 M, ?_⟩
    rintro v M' ⟨hM, rfl⟩
    subst M'
    exact ⟨rfl, rfl⟩
theorem c_week_no {M : cm_M} {T' me mo : Nat} (hx : CTX T' me mo M) {w : Nat} (h0 : 0 < me) (hw : M.1 32 3 = Int32.ofNat w) (hw9 : w ≤ 999) (h9 : w = 999) : cm_Lc cm_ms 150 [.ref 0] M (fun v M' => v = some (.int (-1)) ∧ M' = cm_wi M 0 14 3) := by
  have hme6 := hx.2.2.2.2.2.1
  have hl := c_noTown hx.2.1.1
  rw [hx.2.2.2.2.1.1, decide_eq_false (show ¬ Int32.ofNat me = 0 from fun q => by
    rw [ofn_0 (by omega)] at q
    omega)] at hl
  have z9 : (999 : Int32).toInt = 999 := by decide
  refine lb_st0 (mi := mr_150) rfl 400 ?_
  show ∃ R, cm_Lc cm_ms 160 [.ref 0] M R ∧ ∀ v M', R v M' → _
  refine ⟨_, hl, ?_⟩
  rintro v M' ⟨hM, rfl⟩
  subst M'
  show (ev_cmp 0 (bi false) 0 = true → _) ∧ (ev_cmp 0 (bi false) 0 = false → _)
  refine ⟨fun hc => ?_, fun hc => ?_⟩
  · first | refine lb_to (T := (14, [(0, .ref 0)], [.ref 0], M)) 14 [0] rfl rfl rfl (fun J' h => h) (lb_g0 rfl rfl hx.2.1.2.1 ?_) | refine lb_to0 (T := (14, [(0, .ref 0)], [.ref 0], M)) 14 [0] rfl rfl rfl (fun J' h => h) (lb_g0 rfl rfl hx.2.1.2.1 ?_)
    show (ev_cmp 2 (M.1 32 3) 999 = true → _) ∧ (ev_cmp 2 (M.1 32 3) 999 = false → _)
    refine ⟨fun hct => ?_, fun hct => ?_⟩
    · have q := fn_lt hct
      rw [hw, fn_toInt (by omega)] at q
      omega
    · show ∃ R, cm_Lc cm_ms 157 [.ref 0, .int 3] M R ∧ ∀ v M', R v M' → _
      refine ⟨_, c_refused 3 M, ?_⟩
      rintro v M' ⟨hM, rfl⟩
      subst M'
      exact ⟨rfl, rfl⟩
  · exact absurd hc (by decide)
theorem c_week_k {M : cm_M} {T' me mo : Nat} (hx : CTX T' me mo M) {w : Nat} {nx u : Nat} (hn : M.1 38 2 = Int32.ofNat nx) (hnx : nx < 16) (hu : M.1 38 3 = Int32.ofNat u) (hu16 : u ≤ 16) (h0 : 0 < me) (hw : M.1 32 3 = Int32.ofNat w) (hw9 : w < 999) : cm_Lc cm_ms 150 [.ref 0] M (fun v M' => v = some (.int (orF (fun m => bdB (M.1 T' 1) (wkH (M.1 T' 0) (M.1 33) me m)) me)) ∧ M'.1 0 14 = 0 ∧ actC nx u M M' (wkH (M.1 T' 0) (M.1 33) me) (M.1 34) (M.1 32 2) (M.1 32 3 + 1)) := by
  have hme6 := hx.2.2.2.2.2.1
  have hl := c_noTown hx.2.1.1
  rw [hx.2.2.2.2.1.1, decide_eq_false (show ¬ Int32.ofNat me = 0 from fun q => by
    rw [ofn_0 (by omega)] at q
    omega)] at hl
  have z9 : (999 : Int32).toInt = 999 := by decide
  have hT19 : T' ≤ 19 := by have := hx.1; omega
  have h6T : 6 ≤ T' := by have := hx.1; omega
  refine lb_st0 (mi := mr_150) rfl 400 ?_
  show ∃ R, cm_Lc cm_ms 160 [.ref 0] M R ∧ ∀ v M', R v M' → _
  refine ⟨_, hl, ?_⟩
  rintro v M' ⟨hM, rfl⟩
  subst M'
  show (ev_cmp 0 (bi false) 0 = true → _) ∧ (ev_cmp 0 (bi false) 0 = false → _)
  refine ⟨fun hc => ?_, fun hc => ?_⟩
  · first | refine lb_to (T := (14, [(0, .ref 0)], [.ref 0], M)) 14 [0] rfl rfl rfl (fun J' h => h) (lb_g0 rfl rfl (by first | exact hx.2.1.2.1 | (rw [hkp.1]; exact hx.2.1.2.1) | (rw [hs.1, hkp.1]; exact hx.2.1.2.1)) ?_) | refine lb_to0 (T := (14, [(0, .ref 0)], [.ref 0], M)) 14 [0] rfl rfl rfl (fun J' h => h) (lb_g0 rfl rfl (by first | exact hx.2.1.2.1 | (rw [hkp.1]; exact hx.2.1.2.1) | (rw [hs.1, hkp.1]; exact hx.2.1.2.1)) ?_)
    show (ev_cmp 2 (M.1 32 3) 999 = true → _) ∧ (ev_cmp 2 (M.1 32 3) 999 = false → _)
    refine ⟨fun hct => ?_, fun hct => ?_⟩
    · first | refine lb_to (T := (33, [(0, .ref 0)], [.ref 0], M)) 33 [0] rfl rfl rfl (fun J' h => h) (lb_g0 rfl rfl (by first | exact hx.2.1.2.2 | (rw [hkp.1]; exact hx.2.1.2.2) | (rw [hs.1, hkp.1]; exact hx.2.1.2.2)) ?_) | refine lb_to0 (T := (33, [(0, .ref 0)], [.ref 0], M)) 33 [0] rfl rfl rfl (fun J' h => h) (lb_g0 rfl rfl (by first | exact hx.2.1.2.2 | (rw [hkp.1]; exact hx.2.1.2.2) | (rw [hs.1, hkp.1]; exact hx.2.1.2.2)) ?_)
      first | refine lb_to (T := (37, [(0, .ref 0)], [.ref 0, .ref 38], M)) 37 [0] rfl rfl rfl (fun J' h => h) (lb_g0 rfl rfl (by first | exact hx.2.1.2.1 | (rw [hkp.1]; exact hx.2.1.2.1) | (rw [hs.1, hkp.1]; exact hx.2.1.2.1)) ?_) | refine lb_to0 (T := (37, [(0, .ref 0)], [.ref 0, .ref 38], M)) 37 [0] rfl rfl rfl (fun J' h => h) (lb_g0 rfl rfl (by first | exact hx.2.1.2.1 | (rw [hkp.1]; exact hx.2.1.2.1) | (rw [hs.1, hkp.1]; exact hx.2.1.2.1)) ?_)
      show ∃ R, cm_Lc cm_ms 39 [.ref 38, .ref 32] M R ∧ ∀ v M', R v M' → _
      refine ⟨_, c_keep hx.2.2.1 hn hnx hu hu16, ?_⟩
      rintro v Ma ⟨rfl, hkp⟩
      have e33 : Ma.1 (32 + 1) = M.1 33 := funext fun j => hkp.2.1 33 j (by omega) (by omega) (by omega) (by omega)
      have e34 : Ma.1 (32 + 2) = M.1 34 := funext fun j => hkp.2.1 34 j (by omega) (by omega) (by omega) (by omega)
      have e32 : ∀ j, Ma.1 32 j = M.1 32 j := fun j => hkp.2.1 32 j (by omega) (by omega) (by omega) (by omega)
      have eT : ∀ i, i ≤ 12 → Ma.1 (T' + i) = M.1 (T' + i) := fun i hi => funext fun j => hkp.2.1 (T' + i) j (by omega) (by omega) (by omega) (by omega)
      have eT0 : Ma.1 T' = M.1 T' := eT 0 (by omega)
      have hcw := c_week (M := Ma) (c := 32) (T' := T') (me := me) (by rw [hkp.1]; exact hx.2.2.1.2.2.1.1) (by omega) hT19 (by rw [eT0]; exact hx.2.2.2.2.1.1) hme6
      rw [eT0, e33, e34, e32, e32] at hcw
      first | refine lb_to (T := (44, [(0, .ref 0)], [.ref 0], Ma)) 44 [0] rfl rfl rfl (fun J' h => h) (lb_g0 rfl rfl (by first | exact hx.2.1.2.1 | (rw [hkp.1]; exact hx.2.1.2.1) | (rw [hs.1, hkp.1]; exact hx.2.1.2.1)) ?_) | refine lb_to0 (T := (44, [(0, .ref 0)], [.ref 0], Ma)) 44 [0] rfl rfl rfl (fun J' h => h) (lb_g0 rfl rfl (by first | exact hx.2.1.2.1 | (rw [hkp.1]; exact hx.2.1.2.1) | (rw [hs.1, hkp.1]; exact hx.2.1.2.1)) ?_)
      first | refine lb_to (T := (48, [(0, .ref 0)], [.ref 0, .ref 32], Ma)) 48 [0] rfl rfl rfl (fun J' h => h) (lb_g0 rfl rfl (by first | exact hx.2.1.1 | (rw [hkp.1]; exact hx.2.1.1) | (rw [hs.1, hkp.1]; exact hx.2.1.1)) ?_) | refine lb_to0 (T := (48, [(0, .ref 0)], [.ref 0, .ref 32], Ma)) 48 [0] rfl rfl rfl (fun J' h => h) (lb_g0 rfl rfl (by first | exact hx.2.1.1 | (rw [hkp.1]; exact hx.2.1.1) | (rw [hs.1, hkp.1]; exact hx.2.1.1)) ?_)
      show ∃ R, cm_Lc cm_ms 24 [.ref 32, .ref T'] Ma R ∧ ∀ v M', R v M' → _
      refine ⟨_, hcw, ?_⟩
      rintro v Mb ⟨rfl, hs⟩
      have fT0 : Mb.1 T' = M.1 T' := (funext fun j => hs.2.1 T' j (by omega) (by omega) (by omega)).trans eT0
      have hbd := c_baldMen (M := Mb) (c := 32) (T' := T') (me := me) (by rw [hs.1, hkp.1]; exact hx.2.2.1.2.2.1.1) (by rw [fT0]; exact hx.2.2.2.2.1.1) hme6
      rw [fT0, orF_cg (p := fun m => bdB (M.1 T' 1) (wkH (M.1 T' 0) (M.1 33) me m)) me (fun m hm => by rw [hs.2.2.1 m (by omega)])] at hbd
      first | refine lb_to (T := (56, [(0, .ref 0)], [.ref 0, .ref 0], Mb)) 56 [0] rfl rfl rfl (fun J' h => h) (lb_g0 rfl rfl (by first | exact hx.2.1.2.1 | (rw [hkp.1]; exact hx.2.1.2.1) | (rw [hs.1, hkp.1]; exact hx.2.1.2.1)) ?_) | refine lb_to0 (T := (56, [(0, .ref 0)], [.ref 0, .ref 0], Mb)) 56 [0] rfl rfl rfl (fun J' h => h) (lb_g0 rfl rfl (by first | exact hx.2.1.2.1 | (rw [hkp.1]; exact hx.2.1.2.1) | (rw [hs.1, hkp.1]; exact hx.2.1.2.1)) ?_)
      first | refine lb_to (T := (60, [(0, .ref 0)], [.ref 0, .ref 32, .ref 0], Mb)) 60 [0] rfl rfl rfl (fun J' h => h) (lb_g0 rfl rfl (by first | exact hx.2.1.1 | (rw [hkp.1]; exact hx.2.1.1) | (rw [hs.1, hkp.1]; exact hx.2.1.1)) ?_) | refine lb_to0 (T := (60, [(0, .ref 0)], [.ref 0, .ref 32, .ref 0], Mb)) 60 [0] rfl rfl rfl (fun J' h => h) (lb_g0 rfl rfl (by first | exact hx.2.1.1 | (rw [hkp.1]; exact hx.2.1.1) | (rw [hs.1, hkp.1]; exact hx.2.1.1)) ?_)
      show ∃ R, cm_Lc cm_ms 26 [.ref 32, .ref T'] Mb R ∧ ∀ v M', R v M' → _
      refine ⟨_, hbd, ?_⟩
      rintro v M' ⟨hM, rfl⟩
      subst M'
      show ∃ R, cm_Lc cm_ms 159 [.ref 0, .int (orF (fun m => bdB (M.1 T' 1) (wkH (M.1 T' 0) (M.1 33) me m)) me)] Mb R ∧ ∀ v M', R v M' → _
      refine ⟨_, c_granted _ _, ?_⟩
      rintro v Mc ⟨hG, rfl⟩
      subst hG
      exact ⟨rfl, wi_at _ _ _ _, actC_of hnx hkp hs⟩
    · have q := fn_nlt hct
      rw [hw, fn_toInt (by omega)] at q
      omega
  · exact absurd hc (by decide)
theorem c_lacksMan {M : cm_M} {T' : Nat} (h3 : M.2.2 0 3 = some T') (c : Int32) : cm_Lc cm_ms 161 [.ref 0, .int c] M (fun v M' => M' = M ∧ v = some (.int (bi (outB c (M.1 T' 3))))) := by
  have z : (0 : Int32).toInt = 0 := by decide
  refine lb_st0 (mi := mr_161) rfl 400 ?_
  show (ev_cmp 2 c 0 = true → _) ∧ (ev_cmp 2 c 0 = false → _)
  refine ⟨fun h => ⟨rfl, ?_⟩, fun h => lb_to (T := (6, [(0, .ref 0), (1, .int c)], [.ref 0, .int c], M)) 6 [0, 1] rfl rfl rfl (fun J' h => h) (lb_g0 rfl rfl h3 ?_)⟩
  · have := fn_lt h
    unfold outB
    rw [decide_eq_true (by omega), Bool.true_or]
    try rfl
  · show (ev_cmp 2 c (M.1 T' 3) = true → _) ∧ (ev_cmp 2 c (M.1 T' 3) = false → _)
    have g := fn_nlt h
    refine ⟨fun h2 => ⟨rfl, ?_⟩, fun h2 => ⟨rfl, ?_⟩⟩
    · have := fn_lt h2
      unfold outB
      rw [decide_eq_false (by omega), decide_eq_false (by omega)]
      try rfl
    · have := fn_nlt h2
      unfold outB
      rw [decide_eq_true (p := (M.1 T' 3).toInt ≤ c.toInt) (by omega), Bool.or_true]
      try rfl
theorem c_shave_out {M : cm_M} {T' me mo : Nat} (hx : CTX T' me mo M) (x : Int32) (ho : outB x (Int32.ofNat me) = true) : cm_Lc cm_ms 151 [.ref 0, .int x] M (fun v M' => v = some (.int (-1)) ∧ M' = cm_wi M 0 14 1) := by
  have hl := c_lacksMan hx.2.1.1 x
  rw [hx.2.2.2.2.1.1, ho] at hl
  refine lb_st0 (mi := mr_151) rfl 400 ?_
  show ∃ R, cm_Lc cm_ms 161 [.ref 0, .int x] M R ∧ ∀ v M', R v M' → _
  refine ⟨_, hl, ?_⟩
  rintro v M' ⟨hM, rfl⟩
  subst M'
  show (ev_cmp 0 (bi true) 0 = true → _) ∧ (ev_cmp 0 (bi true) 0 = false → _)
  refine ⟨fun hc => ?_, fun hc => ?_⟩
  · exact absurd hc (by decide)
  · show ∃ R, cm_Lc cm_ms 157 [.ref 0, .int 1] M R ∧ ∀ v M', R v M' → _
    refine ⟨_, c_refused 1 M, ?_⟩
    rintro v M' ⟨hM, rfl⟩
    subst M'
    exact ⟨rfl, rfl⟩
theorem c_shave_no {M : cm_M} {T' me mo : Nat} (hx : CTX T' me mo M) {k : Nat} (hk : k < me) (hz : M.1 33 k = 0) : cm_Lc cm_ms 151 [.ref 0, .int (Int32.ofNat k)] M (fun v M' => v = some (.int (-1)) ∧ M' = cm_wi M 0 14 5) := by
  have hme6 := hx.2.2.2.2.2.1
  have hl := c_lacksMan hx.2.1.1 (Int32.ofNat k)
  rw [hx.2.2.2.2.1.1, outB_lt hk (by omega)] at hl
  have ek := fn_nat (show k < 2147483648 by omega)
  refine lb_st0 (mi := mr_151) rfl 400 ?_
  show ∃ R, cm_Lc cm_ms 161 [.ref 0, .int (Int32.ofNat k)] M R ∧ ∀ v M', R v M' → _
  refine ⟨_, hl, ?_⟩
  rintro v M' ⟨hM, rfl⟩
  subst M'
  show (ev_cmp 0 (bi false) 0 = true → _) ∧ (ev_cmp 0 (bi false) 0 = false → _)
  refine ⟨fun hc => ?_, fun hc => ?_⟩
  · first | refine lb_to (T := (15, [(0, .ref 0), (1, .int (Int32.ofNat k))], [.ref 0], M)) 15 [0, 1] rfl rfl rfl (fun J' h => h) (lb_g0 rfl rfl hx.2.1.2.1 ?_) | refine lb_to0 (T := (15, [(0, .ref 0), (1, .int (Int32.ofNat k))], [.ref 0], M)) 15 [0, 1] rfl rfl rfl (fun J' h => h) (lb_g0 rfl rfl hx.2.1.2.1 ?_)
    first | refine lb_to (T := (18, [(0, .ref 0), (1, .int (Int32.ofNat k))], [.ref 32], M)) 18 [0, 1] rfl rfl rfl (fun J' h => h) (lb_g0 rfl rfl hx.2.2.1.2.2.1.1 ?_) | refine lb_to0 (T := (18, [(0, .ref 0), (1, .int (Int32.ofNat k))], [.ref 32], M)) 18 [0, 1] rfl rfl rfl (fun J' h => h) (lb_g0 rfl rfl hx.2.2.1.2.2.1.1 ?_)
    show (ev_cmp 1 (M.1 33 ((Int32.ofNat k).toNatClampNeg)) 0 = true → _) ∧ (ev_cmp 1 (M.1 33 ((Int32.ofNat k).toNatClampNeg)) 0 = false → _)
    refine ⟨fun hct => ?_, fun hct => ?_⟩
    · have q := fn_ne hct
      rw [ek] at q
      exact absurd hz q
    · show ∃ R, cm_Lc cm_ms 157 [.ref 0, .int 5] M R ∧ ∀ v M', R v M' → _
      refine ⟨_, c_refused 5 M, ?_⟩
      rintro v M' ⟨hM, rfl⟩
      subst M'
      exact ⟨rfl, rfl⟩
  · exact absurd hc (by decide)
theorem c_shave_k {M : cm_M} {T' me mo : Nat} (hx : CTX T' me mo M) {k q : Nat} {nx u : Nat} (hn : M.1 38 2 = Int32.ofNat nx) (hnx : nx < 16) (hu : M.1 38 3 = Int32.ofNat u) (hu16 : u ≤ 16) (hk : k < me) (hz : M.1 33 k ≠ 0) (hq : M.1 (T' + 1) k = Int32.ofNat q) (hq3 : q < 3) : cm_Lc cm_ms 151 [.ref 0, .int (Int32.ofNat k)] M (fun v M' => v = some (.int (M.1 33 k)) ∧ M'.1 0 14 = 0 ∧ actC nx u M M' (fun j => if j = k then 0 else M.1 33 j) (fun p => if p = q then M.1 34 q + M.1 33 k else M.1 34 p) (M.1 32 2) (M.1 32 3)) := by
  have hme6 := hx.2.2.2.2.2.1
  have hl := c_lacksMan hx.2.1.1 (Int32.ofNat k)
  rw [hx.2.2.2.2.1.1, outB_lt hk (by omega)] at hl
  have ek := fn_nat (show k < 2147483648 by omega)
  have hT19 : T' ≤ 19 := by have := hx.1; omega
  have h6T : 6 ≤ T' := by have := hx.1; omega
  refine lb_st0 (mi := mr_151) rfl 400 ?_
  show ∃ R, cm_Lc cm_ms 161 [.ref 0, .int (Int32.ofNat k)] M R ∧ ∀ v M', R v M' → _
  refine ⟨_, hl, ?_⟩
  rintro v M' ⟨hM, rfl⟩
  subst M'
  show (ev_cmp 0 (bi false) 0 = true → _) ∧ (ev_cmp 0 (bi false) 0 = false → _)
  refine ⟨fun hc => ?_, fun hc => ?_⟩
  · first | refine lb_to (T := (15, [(0, .ref 0), (1, .int (Int32.ofNat k))], [.ref 0], M)) 15 [0, 1] rfl rfl rfl (fun J' h => h) (lb_g0 rfl rfl (by first | exact hx.2.1.2.1 | (rw [hkp.1]; exact hx.2.1.2.1) | (rw [hs.1, hkp.1]; exact hx.2.1.2.1)) ?_) | refine lb_to0 (T := (15, [(0, .ref 0), (1, .int (Int32.ofNat k))], [.ref 0], M)) 15 [0, 1] rfl rfl rfl (fun J' h => h) (lb_g0 rfl rfl (by first | exact hx.2.1.2.1 | (rw [hkp.1]; exact hx.2.1.2.1) | (rw [hs.1, hkp.1]; exact hx.2.1.2.1)) ?_)
    first | refine lb_to (T := (18, [(0, .ref 0), (1, .int (Int32.ofNat k))], [.ref 32], M)) 18 [0, 1] rfl rfl rfl (fun J' h => h) (lb_g0 rfl rfl (by first | exact hx.2.2.1.2.2.1.1 | (rw [hkp.1]; exact hx.2.2.1.2.2.1.1) | (rw [hs.1, hkp.1]; exact hx.2.2.1.2.2.1.1)) ?_) | refine lb_to0 (T := (18, [(0, .ref 0), (1, .int (Int32.ofNat k))], [.ref 32], M)) 18 [0, 1] rfl rfl rfl (fun J' h => h) (lb_g0 rfl rfl (by first | exact hx.2.2.1.2.2.1.1 | (rw [hkp.1]; exact hx.2.2.1.2.2.1.1) | (rw [hs.1, hkp.1]; exact hx.2.2.1.2.2.1.1)) ?_)
    show (ev_cmp 1 (M.1 33 ((Int32.ofNat k).toNatClampNeg)) 0 = true → _) ∧ (ev_cmp 1 (M.1 33 ((Int32.ofNat k).toNatClampNeg)) 0 = false → _)
    refine ⟨fun hct => ?_, fun hct => ?_⟩
    · first | refine lb_to (T := (33, [(0, .ref 0), (1, .int (Int32.ofNat k))], [.ref 0], M)) 33 [0, 1] rfl rfl rfl (fun J' h => h) (lb_g0 rfl rfl (by first | exact hx.2.1.2.2 | (rw [hkp.1]; exact hx.2.1.2.2) | (rw [hs.1, hkp.1]; exact hx.2.1.2.2)) ?_) | refine lb_to0 (T := (33, [(0, .ref 0), (1, .int (Int32.ofNat k))], [.ref 0], M)) 33 [0, 1] rfl rfl rfl (fun J' h => h) (lb_g0 rfl rfl (by first | exact hx.2.1.2.2 | (rw [hkp.1]; exact hx.2.1.2.2) | (rw [hs.1, hkp.1]; exact hx.2.1.2.2)) ?_)
      first | refine lb_to (T := (37, [(0, .ref 0), (1, .int (Int32.ofNat k))], [.ref 0, .ref 38], M)) 37 [0, 1] rfl rfl rfl (fun J' h => h) (lb_g0 rfl rfl (by first | exact hx.2.1.2.1 | (rw [hkp.1]; exact hx.2.1.2.1) | (rw [hs.1, hkp.1]; exact hx.2.1.2.1)) ?_) | refine lb_to0 (T := (37, [(0, .ref 0), (1, .int (Int32.ofNat k))], [.ref 0, .ref 38], M)) 37 [0, 1] rfl rfl rfl (fun J' h => h) (lb_g0 rfl rfl (by first | exact hx.2.1.2.1 | (rw [hkp.1]; exact hx.2.1.2.1) | (rw [hs.1, hkp.1]; exact hx.2.1.2.1)) ?_)
      show ∃ R, cm_Lc cm_ms 39 [.ref 38, .ref 32] M R ∧ ∀ v M', R v M' → _
      refine ⟨_, c_keep hx.2.2.1 hn hnx hu hu16, ?_⟩
      rintro v Ma ⟨rfl, hkp⟩
      have e33 : Ma.1 (32 + 1) = M.1 33 := funext fun j => hkp.2.1 33 j (by omega) (by omega) (by omega) (by omega)
      have e34 : Ma.1 (32 + 2) = M.1 34 := funext fun j => hkp.2.1 34 j (by omega) (by omega) (by omega) (by omega)
      have e32 : ∀ j, Ma.1 32 j = M.1 32 j := fun j => hkp.2.1 32 j (by omega) (by omega) (by omega) (by omega)
      have eT : ∀ i, i ≤ 12 → Ma.1 (T' + i) = M.1 (T' + i) := fun i hi => funext fun j => hkp.2.1 (T' + i) j (by omega) (by omega) (by omega) (by omega)
      have eT0 : Ma.1 T' = M.1 T' := eT 0 (by omega)
      have hco := c_cutOff (M := Ma) (c := 32) (T' := T') (m := k) (q := q) (by rw [hkp.1]; exact hx.2.2.1.2.2.1.1) (by rw [hkp.1]; exact hx.2.2.1.2.2.1.2) (by rw [hkp.1]; exact hx.2.2.2.1 4 1 (by decide)) (by omega) hT19 (by omega) (by rw [eT 1 (by omega)]; exact hq) hq3 (Ma.1 33 (Int32.ofNat k).toNatClampNeg)
      first | refine lb_to (T := (44, [(0, .ref 0), (1, .int (Int32.ofNat k))], [.ref 0], Ma)) 44 [0, 1] rfl rfl rfl (fun J' h => h) (lb_g0 rfl rfl (by first | exact hx.2.1.2.1 | (rw [hkp.1]; exact hx.2.1.2.1) | (rw [hs.1, hkp.1]; exact hx.2.1.2.1)) ?_) | refine lb_to0 (T := (44, [(0, .ref 0), (1, .int (Int32.ofNat k))], [.ref 0], Ma)) 44 [0, 1] rfl rfl rfl (fun J' h => h) (lb_g0 rfl rfl (by first | exact hx.2.1.2.1 | (rw [hkp.1]; exact hx.2.1.2.1) | (rw [hs.1, hkp.1]; exact hx.2.1.2.1)) ?_)
      first | refine lb_to (T := (47, [(0, .ref 0), (1, .int (Int32.ofNat k))], [.ref 32], Ma)) 47 [0, 1] rfl rfl rfl (fun J' h => h) (lb_g0 rfl rfl (by first | exact hx.2.2.1.2.2.1.1 | (rw [hkp.1]; exact hx.2.2.1.2.2.1.1) | (rw [hs.1, hkp.1]; exact hx.2.2.1.2.2.1.1)) ?_) | refine lb_to0 (T := (47, [(0, .ref 0), (1, .int (Int32.ofNat k))], [.ref 32], Ma)) 47 [0, 1] rfl rfl rfl (fun J' h => h) (lb_g0 rfl rfl (by first | exact hx.2.2.1.2.2.1.1 | (rw [hkp.1]; exact hx.2.2.1.2.2.1.1) | (rw [hs.1, hkp.1]; exact hx.2.2.1.2.2.1.1)) ?_)
      first | refine lb_to (T := (54, [(0, .ref 0), (1, .int (Int32.ofNat k)), (2, .int (Ma.1 33 ((Int32.ofNat k).toNatClampNeg)))], [.ref 0], Ma)) 54 [0, 1, 2] rfl rfl rfl (fun J' h => h) (lb_g0 rfl rfl (by first | exact hx.2.1.2.1 | (rw [hkp.1]; exact hx.2.1.2.1) | (rw [hs.1, hkp.1]; exact hx.2.1.2.1)) ?_) | refine lb_to0 (T := (54, [(0, .ref 0), (1, .int (Int32.ofNat k)), (2, .int (Ma.1 33 ((Int32.ofNat k).toNatClampNeg)))], [.ref 0], Ma)) 54 [0, 1, 2] rfl rfl rfl (fun J' h => h) (lb_g0 rfl rfl (by first | exact hx.2.1.2.1 | (rw [hkp.1]; exact hx.2.1.2.1) | (rw [hs.1, hkp.1]; exact hx.2.1.2.1)) ?_)
      first | refine lb_to (T := (58, [(0, .ref 0), (1, .int (Int32.ofNat k)), (2, .int (Ma.1 33 ((Int32.ofNat k).toNatClampNeg)))], [.ref 0, .ref 32], Ma)) 58 [0, 1, 2] rfl rfl rfl (fun J' h => h) (lb_g0 rfl rfl (by first | exact hx.2.1.1 | (rw [hkp.1]; exact hx.2.1.1) | (rw [hs.1, hkp.1]; exact hx.2.1.1)) ?_) | refine lb_to0 (T := (58, [(0, .ref 0), (1, .int (Int32.ofNat k)), (2, .int (Ma.1 33 ((Int32.ofNat k).toNatClampNeg)))], [.ref 0, .ref 32], Ma)) 58 [0, 1, 2] rfl rfl rfl (fun J' h => h) (lb_g0 rfl rfl (by first | exact hx.2.1.1 | (rw [hkp.1]; exact hx.2.1.1) | (rw [hs.1, hkp.1]; exact hx.2.1.1)) ?_)
      show ∃ R, cm_Lc cm_ms 36 [.ref 32, .ref T', .int (Int32.ofNat k), .int (Ma.1 33 ((Int32.ofNat k).toNatClampNeg))] Ma R ∧ ∀ v M', R v M' → _
      refine ⟨_, hco, ?_⟩
      rintro v Mb ⟨rfl, hs⟩
      show ∃ R, cm_Lc cm_ms 159 [.ref 0, .int (Ma.1 33 ((Int32.ofNat k).toNatClampNeg))] Mb R ∧ ∀ v M', R v M' → _
      refine ⟨_, c_granted _ _, ?_⟩
      rintro v Mc ⟨hG, rfl⟩
      subst hG
      have e33' : ∀ j, Ma.1 33 j = M.1 33 j := fun j => congrFun e33 j
      have e34' : ∀ j, Ma.1 34 j = M.1 34 j := fun j => congrFun e34 j
      have hs' : mset 32 Ma Mb (fun j => if j = k then 0 else M.1 33 j) (fun p => if p = q then M.1 34 q + M.1 33 k else M.1 34 p) (M.1 32 2) (M.1 32 3) := by
        have z := mset_cg hs (H' := fun j => if j = k then 0 else M.1 33 j) (F' := fun p => if p = q then M.1 34 q + M.1 33 k else M.1 34 p) (fun j _ => ?_) (fun p _ => ?_)
        · rw [e32, e32] at z
          exact z
        · try dsimp only
          by_cases w : j = k
          · rw [if_pos w, if_pos w, ek]
            show 0 = Ma.1 33 k - Ma.1 33 k
            rw [Int32.sub_self]
          · rw [if_neg w, if_neg w]
            exact (e33' j).symm
        · try dsimp only
          by_cases w : p = q
          · rw [if_pos w, if_pos w, ek]
            show M.1 34 q + M.1 33 k = Ma.1 34 q + Ma.1 33 k
            rw [e33', e34']
          · rw [if_neg w, if_neg w]
            exact (e34' p).symm
      refine ⟨?_, wi_at _ _ _ _, actC_of hnx hkp hs'⟩
      show some (Value.int (Ma.1 33 (Int32.ofNat k).toNatClampNeg)) = _
      rw [ek, e33']
    · have z := fn_eq hct
      rw [ek] at z
      exact absurd z hz
  · exact absurd hc (by decide)
theorem c_undo {M : cm_M} {T' me mo : Nat} (hx : CTX T' me mo M) {nx u : Nat} (hn : M.1 38 2 = Int32.ofNat nx) (hnx : nx < 16) (hu : M.1 38 3 = Int32.ofNat u) (hu16 : u ≤ 16) : cm_Lc cm_ms 152 [.ref 0] M (fun v M' => v = some (.int (bi (decide (u ≠ 0)))) ∧ (u = 0 → M' = cm_wi M 0 14 6) ∧ (u ≠ 0 → ∃ Mb, nowR (41 + 3 * ((nx + 15) % 16)) M Mb ∧ Mb.1 38 2 = Int32.ofNat ((nx + 15) % 16) ∧ Mb.1 38 3 = Int32.ofNat (u - 1) ∧ Mb.1 38 4 = M.1 38 4 ∧ M' = cm_wi Mb 0 14 0)) := by
  refine lb_st0 (mi := mr_152) rfl 400 ?_
  first | refine lb_to (T := (1, [(0, .ref 0)], [.ref 0], M)) 1 [0] rfl rfl rfl (fun J' h => h) (lb_g0 rfl rfl hx.2.1.2.2 ?_) | refine lb_to0 (T := (1, [(0, .ref 0)], [.ref 0], M)) 1 [0] rfl rfl rfl (fun J' h => h) (lb_g0 rfl rfl hx.2.1.2.2 ?_)
  first | refine lb_to (T := (5, [(0, .ref 0)], [.ref 0, .ref 38], M)) 5 [0] rfl rfl rfl (fun J' h => h) (lb_g0 rfl rfl hx.2.1.2.1 ?_) | refine lb_to0 (T := (5, [(0, .ref 0)], [.ref 0, .ref 38], M)) 5 [0] rfl rfl rfl (fun J' h => h) (lb_g0 rfl rfl hx.2.1.2.1 ?_)
  show ∃ R, cm_Lc cm_ms 40 [.ref 38, .ref 32] M R ∧ ∀ v M', R v M' → _
  refine ⟨_, c_takeBack hx.2.2.1 hn hnx hu hu16, ?_⟩
  rintro v Mb ⟨rfl, hs0, hs1⟩
  show (ev_cmp 1 (bi (decide (u ≠ 0))) 0 = true → _) ∧ (ev_cmp 1 (bi (decide (u ≠ 0))) 0 = false → _)
  refine ⟨fun hc => ?_, fun hc => ?_⟩
  · show ∃ R, cm_Lc cm_ms 159 [.ref 0, .int 0] Mb R ∧ ∀ v M', R v M' → _
    refine ⟨_, c_granted 0 Mb, ?_⟩
    rintro v Mc ⟨hG, rfl⟩
    have e := bi_t hc
    have u0 : u ≠ 0 := of_decide_eq_true e
    subst hG
    refine ⟨?_, fun q => absurd q u0, fun _ => ⟨Mb, (hs1 u0).1, (hs1 u0).2.1, (hs1 u0).2.2.1, (hs1 u0).2.2.2, rfl⟩⟩
    rw [e]
    try rfl
  · show ∃ R, cm_Lc cm_ms 157 [.ref 0, .int 6] Mb R ∧ ∀ v M', R v M' → _
    refine ⟨_, c_refused 6 Mb, ?_⟩
    rintro v Mc ⟨hG, rfl⟩
    have e := bi_f hc
    have u0 : u = 0 := Classical.byContradiction (fun q => of_decide_eq_false e q)
    subst hG
    refine ⟨?_, fun _ => ?_, fun q => absurd u0 q⟩
    · rw [e]
      try rfl
    · rw [hs0 u0]; try rfl
theorem c_image_out {M : cm_M} {T' me mo : Nat} (hx : CTX T' me mo M) (h0 : me = 0) : cm_Lc cm_ms 153 [.ref 0] M (fun v M' => v = some (.int (-1)) ∧ M' = cm_wi M 0 14 1) := by
  have hl := c_noTown hx.2.1.1
  rw [hx.2.2.2.2.1.1, h0, show decide (Int32.ofNat 0 = 0) = true from rfl] at hl
  refine lb_st0 (mi := mr_153) rfl 400 ?_
  show ∃ R, cm_Lc cm_ms 160 [.ref 0] M R ∧ ∀ v M', R v M' → _
  refine ⟨_, hl, ?_⟩
  rintro v M' ⟨hM, rfl⟩
  subst M'
  show (ev_cmp 0 (bi true) 0 = true → _) ∧ (ev_cmp 0 (bi true) 0 = false → _)
  refine ⟨fun hc => ?_, fun hc => ?_⟩
  · exact absurd hc (by decide)
  · show ∃ R, cm_Lc cm_ms 157 [.ref 0, .int 1] M R ∧ ∀ v M', R v M' → _
    refine ⟨_, c_refused 1 M, ?_⟩
    rintro v M' ⟨hM, rfl⟩
    subst M'
    exact ⟨rfl, rfl⟩
theorem c_image {M : cm_M} {T' me mo : Nat} (hx : CTX T' me mo M) {gi : Nat} (h0 : 0 < me) (hg : M.1 38 4 = Int32.ofNat gi) (hg3 : gi ≤ 3) : cm_Lc cm_ms 153 [.ref 0] M (fun v M' => (gi = 3 → v = some (.int (-1)) ∧ M' = cm_wi M 0 14 3) ∧ (gi < 3 → v = some (.int (Int32.ofNat gi)) ∧ ∃ Mb, drawR gi M Mb ∧ M' = cm_wi Mb 0 14 0)) := by
  have hme6 := hx.2.2.2.2.2.1
  have hl := c_noTown hx.2.1.1
  rw [hx.2.2.2.2.1.1, decide_eq_false (show ¬ Int32.ofNat me = 0 from fun q => by
    rw [ofn_0 (by omega)] at q
    omega)] at hl
  have hd := c_draw hx.2.2.1 hg hg3
  have hd : cm_Lc cm_ms 41 [.ref 38, .ref 32] M (fun v M' => ∃ r, v = some (.int r) ∧ (gi = 3 → r = -1 ∧ M' = M) ∧ (gi < 3 → r = Int32.ofNat gi ∧ drawR gi M M')) := by
    refine cm_Lc_im hd (fun v M' q => ?_)
    rcases (by omega : gi = 3 ∨ gi < 3) with w | w
    · exact ⟨_, (q.1 w).1, fun _ => ⟨rfl, (q.1 w).2⟩, fun z => by omega⟩
    · exact ⟨_, (q.2 w).1, fun z => by omega, fun _ => ⟨rfl, (q.2 w).2⟩⟩
  have zm : (-1 : Int32).toInt = -1 := by decide
  refine lb_st0 (mi := mr_153) rfl 400 ?_
  show ∃ R, cm_Lc cm_ms 160 [.ref 0] M R ∧ ∀ v M', R v M' → _
  refine ⟨_, hl, ?_⟩
  rintro v M' ⟨hM, rfl⟩
  subst M'
  show (ev_cmp 0 (bi false) 0 = true → _) ∧ (ev_cmp 0 (bi false) 0 = false → _)
  refine ⟨fun hc => ?_, fun hc => ?_⟩
  · first | refine lb_to (T := (14, [(0, .ref 0)], [.ref 0], M)) 14 [0] rfl rfl rfl (fun J' h => h) (lb_g0 rfl rfl hx.2.1.2.2 ?_) | refine lb_to0 (T := (14, [(0, .ref 0)], [.ref 0], M)) 14 [0] rfl rfl rfl (fun J' h => h) (lb_g0 rfl rfl hx.2.1.2.2 ?_)
    first | refine lb_to (T := (18, [(0, .ref 0)], [.ref 0, .ref 38], M)) 18 [0] rfl rfl rfl (fun J' h => h) (lb_g0 rfl rfl hx.2.1.2.1 ?_) | refine lb_to0 (T := (18, [(0, .ref 0)], [.ref 0, .ref 38], M)) 18 [0] rfl rfl rfl (fun J' h => h) (lb_g0 rfl rfl hx.2.1.2.1 ?_)
    show ∃ R, cm_Lc cm_ms 41 [.ref 38, .ref 32] M R ∧ ∀ v M', R v M' → _
    refine ⟨_, hd, ?_⟩
    rintro v Mb ⟨r, rfl, hs0, hs1⟩
    show (ev_cmp 1 r (-1) = true → _) ∧ (ev_cmp 1 r (-1) = false → _)
    refine ⟨fun hctc => ?_, fun hctc => ?_⟩
    · show ∃ R, cm_Lc cm_ms 159 [.ref 0, .int r] Mb R ∧ ∀ v M', R v M' → _
      refine ⟨_, c_granted r Mb, ?_⟩
      rintro v Mc ⟨hG, rfl⟩
      have e : r ≠ -1 := fn_ne hctc
      subst hG
      refine ⟨fun w => absurd (hs0 w).1 e, fun w => ⟨?_, Mb, (hs1 w).2, rfl⟩⟩
      rw [(hs1 w).1]
    · show ∃ R, cm_Lc cm_ms 157 [.ref 0, .int 3] Mb R ∧ ∀ v M', R v M' → _
      refine ⟨_, c_refused 3 Mb, ?_⟩
      rintro v Mc ⟨hG, rfl⟩
      have e : r = -1 := fn_eq hctc
      subst hG
      refine ⟨fun w => ⟨rfl, ?_⟩, fun w => ?_⟩
      · rw [(hs0 w).2]
      · have q := congrArg Int32.toInt ((hs1 w).1.symm.trans e)
        rw [fn_toInt (by omega), zm] at q
        omega
  · exact absurd hc (by decide)
theorem c_back {M : cm_M} {T' me mo : Nat} (hx : CTX T' me mo M) {gi : Nat} (hg : M.1 38 4 = Int32.ofNat gi) (hg3 : gi ≤ 3) (x : Int32) : cm_Lc cm_ms 154 [.ref 0, .int x] M (fun v M' => v = some (.int (bi !outB x (Int32.ofNat gi))) ∧ (outB x (Int32.ofNat gi) = true → M' = cm_wi M 0 14 1) ∧ (∀ i, i < gi → x = Int32.ofNat i → ∃ Mb, nowR (89 + 3 * i) M Mb ∧ Mb.1 38 2 = M.1 38 2 ∧ Mb.1 38 3 = 0 ∧ Mb.1 38 4 = M.1 38 4 ∧ M' = cm_wi Mb 0 14 0)) := by
  refine lb_st0 (mi := mr_154) rfl 400 ?_
  first | refine lb_to (T := (1, [(0, .ref 0), (1, .int x)], [.ref 0], M)) 1 [0, 1] rfl rfl rfl (fun J' h => h) (lb_g0 rfl rfl hx.2.1.2.2 ?_) | refine lb_to0 (T := (1, [(0, .ref 0), (1, .int x)], [.ref 0], M)) 1 [0, 1] rfl rfl rfl (fun J' h => h) (lb_g0 rfl rfl hx.2.1.2.2 ?_)
  first | refine lb_to (T := (6, [(0, .ref 0), (1, .int x)], [.ref 0, .int x, .ref 38], M)) 6 [0, 1] rfl rfl rfl (fun J' h => h) (lb_g0 rfl rfl hx.2.1.2.1 ?_) | refine lb_to0 (T := (6, [(0, .ref 0), (1, .int x)], [.ref 0, .int x, .ref 38], M)) 6 [0, 1] rfl rfl rfl (fun J' h => h) (lb_g0 rfl rfl hx.2.1.2.1 ?_)
  show ∃ R, cm_Lc cm_ms 42 [.ref 38, .int x, .ref 32] M R ∧ ∀ v M', R v M' → _
  refine ⟨_, c_restore hx.2.2.1 hg hg3 x, ?_⟩
  rintro v Mb ⟨rfl, hs0, hs1⟩
  show (ev_cmp 1 (bi !outB x (Int32.ofNat gi)) 0 = true → _) ∧ (ev_cmp 1 (bi !outB x (Int32.ofNat gi)) 0 = false → _)
  refine ⟨fun hc => ?_, fun hc => ?_⟩
  · show ∃ R, cm_Lc cm_ms 159 [.ref 0, .int 0] Mb R ∧ ∀ v M', R v M' → _
    refine ⟨_, c_granted 0 Mb, ?_⟩
    rintro v Mc ⟨hG, rfl⟩
    have e := bi_t hc
    rw [Bool.not_eq_true'] at e
    subst hG
    refine ⟨?_, fun q => ?_, fun i hi hxi => ⟨Mb, (hs1 i hi hxi).1, (hs1 i hi hxi).2.1, (hs1 i hi hxi).2.2.1, (hs1 i hi hxi).2.2.2, rfl⟩⟩
    · rw [e]
      try rfl
    · rw [e] at q
      cases q
  · show ∃ R, cm_Lc cm_ms 157 [.ref 0, .int 1] Mb R ∧ ∀ v M', R v M' → _
    refine ⟨_, c_refused 1 Mb, ?_⟩
    rintro v Mc ⟨hG, rfl⟩
    have e := bi_f hc
    rw [Bool.not_eq_false'] at e
    subst hG
    refine ⟨?_, fun _ => ?_, fun i hi hxi => ?_⟩
    · rw [e]
      try rfl
    · rw [hs0 e]; try rfl
    · rw [hxi, outB_lt hi (by omega)] at e
      cases e
