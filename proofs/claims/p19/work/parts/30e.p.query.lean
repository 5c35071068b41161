/-! QUERIES OVER NOW -/
theorem c_bald_no {M : cm_M} {T' me mo : Nat} (hx : CTX T' me mo M) (h0 : me = 0) : cm_Lc cm_ms 101 [.ref 0] M (fun v _ => v = some (.int (-1))) := by
  have hl := c_noTown hx.2.1.1
  rw [hx.2.2.2.2.1.1, h0, show decide (Int32.ofNat 0 = 0) = true from rfl] at hl
  refine lb_st0 (mi := mr_101) rfl 400 ?_
  show ∃ R, cm_Lc cm_ms 160 [.ref 0] M R ∧ ∀ v M', R v M' → _
  refine ⟨_, hl, ?_⟩
  rintro v M' ⟨hM, rfl⟩
  subst M'
  show (ev_cmp 0 (bi true) 0 = true → _) ∧ (ev_cmp 0 (bi true) 0 = false → _)
  refine ⟨fun hc => ?_, fun hc => ?_⟩
  · exact absurd hc (by decide)
  · show ∃ R, cm_Lc cm_ms 157 [.ref 0, .int 1] M R ∧ ∀ v M', R v M' → _
    refine ⟨_, c_refused 1 M, ?_⟩
    rintro v M' ⟨hM, rfl⟩
    subst M'
    exact rfl
theorem c_bald_k {M : cm_M} {T' me mo : Nat} (hx : CTX T' me mo M) (h0 : 0 < me) : cm_Lc cm_ms 101 [.ref 0] M (fun v _ => v = some (.int (orF (fun m => bdB (M.1 T' 1) (M.1 33 m)) me))) := by
  have hme6 := hx.2.2.2.2.2.1
  have hmo5 := hx.2.2.2.2.2.2
  have hl := c_noTown hx.2.1.1
  rw [hx.2.2.2.2.1.1, decide_eq_false (show ¬ Int32.ofNat me = 0 from fun q => by
    rw [ofn_0 (by omega)] at q
    omega)] at hl
  refine lb_st0 (mi := mr_101) rfl 400 ?_
  show ∃ R, cm_Lc cm_ms 160 [.ref 0] M R ∧ ∀ v M', R v M' → _
  refine ⟨_, hl, ?_⟩
  rintro v M' ⟨hM, rfl⟩
  subst M'
  show (ev_cmp 0 (bi false) 0 = true → _) ∧ (ev_cmp 0 (bi false) 0 = false → _)
  refine ⟨fun hc => ?_, fun hc => ?_⟩
  · first | refine lb_to (T := (17, [(0, .ref 0)], [.ref 0, .ref 0], M)) 17 [0] rfl rfl rfl (fun J' h => h) (lb_g0 rfl rfl hx.2.1.2.1 ?_) | refine lb_to0 (T := (17, [(0, .ref 0)], [.ref 0, .ref 0], M)) 17 [0] rfl rfl rfl (fun J' h => h) (lb_g0 rfl rfl hx.2.1.2.1 ?_)
    first | refine lb_to (T := (21, [(0, .ref 0)], [.ref 0, .ref 32, .ref 0], M)) 21 [0] rfl rfl rfl (fun J' h => h) (lb_g0 rfl rfl hx.2.1.1 ?_) | refine lb_to0 (T := (21, [(0, .ref 0)], [.ref 0, .ref 32, .ref 0], M)) 21 [0] rfl rfl rfl (fun J' h => h) (lb_g0 rfl rfl hx.2.1.1 ?_)
    show ∃ R, cm_Lc cm_ms 26 [.ref 32, .ref T'] M R ∧ ∀ v M', R v M' → _
    refine ⟨_, c_baldMen (c := 32) hx.2.2.1.2.2.1.1 hx.2.2.2.2.1.1 hme6, ?_⟩
    rintro v M' ⟨hM, rfl⟩
    subst M'
    show ∃ R, cm_Lc cm_ms 159 [.ref 0, .int (orF (fun m => bdB (M.1 T' 1) (M.1 33 m)) me)] M R ∧ ∀ v M', R v M' → _
    refine ⟨_, c_granted _ _, ?_⟩
    rintro v Mc ⟨hG, rfl⟩
    exact rfl
  · exact absurd hc (by decide)
theorem m_bald_no {a : Bool} {me mo : Nat} {M : cm_M} (hx : MTX a me mo M) (ha : a = false) : cm_Lc cm_ms 225 [.ref 124] M (fun v _ => v = some (.int (-1))) := by
  refine lb_st0 (mi := mr_225) rfl 400 ?_
  show ∃ R, cm_Lc cm_ms 164 [.ref 124] M R ∧ ∀ v M', R v M' → _
  refine ⟨_, m_goodG M, ?_⟩
  rintro v M' ⟨rfl, rfl⟩
  have hg := MTX_gd hx
  show (ev_cmp 0 ((gdM M).1 124 14) 0 = true → _) ∧ (ev_cmp 0 ((gdM M).1 124 14) 0 = false → _)
  refine ⟨fun hc => ?_, fun hc => ?_⟩
  · show ∃ R, cm_Lc cm_ms 165 [.ref 124, .int 1] (gdM M) R ∧ ∀ v M', R v M' → _
    refine ⟨_, m_noG 1 (gdM M), ?_⟩
    rintro v Mz ⟨hG, rfl⟩
    exact rfl
  · have q := fn_ne0 hc
    rw [gd_n (by omega), hx.1, ha] at q
    exact absurd rfl q
theorem m_bald_k {a : Bool} {me mo : Nat} {M : cm_M} (hx : MTX a me mo M) (ha : a = true) : cm_Lc cm_ms 225 [.ref 124] M (fun v _ => v = some (.int (orF (fun m => bdB (M.1 127 1) (M.1 129 m)) me))) := by
  refine lb_st0 (mi := mr_225) rfl 400 ?_
  show ∃ R, cm_Lc cm_ms 164 [.ref 124] M R ∧ ∀ v M', R v M' → _
  refine ⟨_, m_goodG M, ?_⟩
  rintro v M' ⟨rfl, rfl⟩
  have hg := MTX_gd hx
  have hme6 := hx.2.2.2.2.2.1
  have hmo5 := hx.2.2.2.2.2.2
  have e127 : (gdM M).1 127 = M.1 127 := funext fun j => gd_n (by omega)
  have e129 : (gdM M).1 129 = M.1 129 := funext fun j => gd_n (by omega)
  show (ev_cmp 0 ((gdM M).1 124 14) 0 = true → _) ∧ (ev_cmp 0 ((gdM M).1 124 14) 0 = false → _)
  refine ⟨fun hc => ?_, fun hc => ?_⟩
  · have q := fn_eq0 hc
    rw [gd_n (by omega), hx.1, ha] at q
    exact absurd q (by decide)
  · first | refine lb_to (T := (13, [(0, .ref 124)], [.ref 124, .ref 124], (gdM M))) 13 [0] rfl rfl rfl (fun J' h => h) (lb_g0 rfl rfl (by first | exact hx.2.1.2.1 | (rw [hnt.1]; exact hx.2.1.2.1) | (rw [hs.1, hnt.1]; exact hx.2.1.2.1)) ?_) | refine lb_to0 (T := (13, [(0, .ref 124)], [.ref 124, .ref 124], (gdM M))) 13 [0] rfl rfl rfl (fun J' h => h) (lb_g0 rfl rfl (by first | exact hx.2.1.2.1 | (rw [hnt.1]; exact hx.2.1.2.1) | (rw [hs.1, hnt.1]; exact hx.2.1.2.1)) ?_)
    show ∃ R, cm_Lc cm_ms 210 [.ref 124, .ref 129] (gdM M) R ∧ ∀ v M', R v M' → _
    have hb := m_baldOf (M := gdM M) (d := 129) (me := me) hx.2.1.1 (by rw [e127]; exact (hx.2.2.1 ha).1) hme6
    rw [e127, e129] at hb
    refine ⟨_, hb, ?_⟩
    rintro v M' ⟨hM, rfl⟩
    subst M'
    exact rfl
theorem c_quorum_no {M : cm_M} {T' me mo : Nat} (hx : CTX T' me mo M) (h0 : me = 0) : cm_Lc cm_ms 104 [.ref 0] M (fun v _ => v = some (.int (-1))) := by
  have hl := c_noTown hx.2.1.1
  rw [hx.2.2.2.2.1.1, h0, show decide (Int32.ofNat 0 = 0) = true from rfl] at hl
  refine lb_st0 (mi := mr_104) rfl 400 ?_
  show ∃ R, cm_Lc cm_ms 160 [.ref 0] M R ∧ ∀ v M', R v M' → _
  refine ⟨_, hl, ?_⟩
  rintro v M' ⟨hM, rfl⟩
  subst M'
  show (ev_cmp 0 (bi true) 0 = true → _) ∧ (ev_cmp 0 (bi true) 0 = false → _)
  refine ⟨fun hc => ?_, fun hc => ?_⟩
  · exact absurd hc (by decide)
  · show ∃ R, cm_Lc cm_ms 157 [.ref 0, .int 1] M R ∧ ∀ v M', R v M' → _
    refine ⟨_, c_refused 1 M, ?_⟩
    rintro v M' ⟨hM, rfl⟩
    subst M'
    exact rfl
theorem c_quorum_k {M : cm_M} {T' me mo : Nat} (hx : CTX T' me mo M) (h0 : 0 < me) : cm_Lc cm_ms 104 [.ref 0] M (fun v _ => v = some (.int (voF (M.1 (T' + 3)) (Int32.ofNat (2 ^ me - 1) &&& (orF (fun m => bdB (M.1 T' 1) (M.1 33 m)) me ^^^ -1)) me))) := by
  have hme6 := hx.2.2.2.2.2.1
  have hmo5 := hx.2.2.2.2.2.2
  have hl := c_noTown hx.2.1.1
  rw [hx.2.2.2.2.1.1, decide_eq_false (show ¬ Int32.ofNat me = 0 from fun q => by
    rw [ofn_0 (by omega)] at q
    omega)] at hl
  refine lb_st0 (mi := mr_104) rfl 400 ?_
  show ∃ R, cm_Lc cm_ms 160 [.ref 0] M R ∧ ∀ v M', R v M' → _
  refine ⟨_, hl, ?_⟩
  rintro v M' ⟨hM, rfl⟩
  subst M'
  show (ev_cmp 0 (bi false) 0 = true → _) ∧ (ev_cmp 0 (bi false) 0 = false → _)
  refine ⟨fun hc => ?_, fun hc => ?_⟩
  · first | refine lb_to (T := (17, [(0, .ref 0)], [.ref 0, .ref 0], M)) 17 [0] rfl rfl rfl (fun J' h => h) (lb_g0 rfl rfl hx.2.1.1 ?_) | refine lb_to0 (T := (17, [(0, .ref 0)], [.ref 0, .ref 0], M)) 17 [0] rfl rfl rfl (fun J' h => h) (lb_g0 rfl rfl hx.2.1.1 ?_)
    first | refine lb_to (T := (21, [(0, .ref 0)], [.ref 0, .ref T', .ref 0], M)) 21 [0] rfl rfl rfl (fun J' h => h) (lb_g0 rfl rfl hx.2.1.2.1 ?_) | refine lb_to0 (T := (21, [(0, .ref 0)], [.ref 0, .ref T', .ref 0], M)) 21 [0] rfl rfl rfl (fun J' h => h) (lb_g0 rfl rfl hx.2.1.2.1 ?_)
    first | refine lb_to (T := (25, [(0, .ref 0)], [.ref 0, .ref 32, .ref T', .ref 0], M)) 25 [0] rfl rfl rfl (fun J' h => h) (lb_g0 rfl rfl hx.2.1.1 ?_) | refine lb_to0 (T := (25, [(0, .ref 0)], [.ref 0, .ref 32, .ref T', .ref 0], M)) 25 [0] rfl rfl rfl (fun J' h => h) (lb_g0 rfl rfl hx.2.1.1 ?_)
    show ∃ R, cm_Lc cm_ms 27 [.ref 32, .ref T'] M R ∧ ∀ v M', R v M' → _
    refine ⟨_, c_hairy (c := 32) hx.2.2.1.2.2.1.1 hx.2.2.2.2.1.1 hme6, ?_⟩
    rintro v M' ⟨hM, rfl⟩
    subst M'
    show ∃ R, cm_Lc cm_ms 13 [.ref T', .int (Int32.ofNat (2 ^ me - 1) &&& (orF (fun m => bdB (M.1 T' 1) (M.1 33 m)) me ^^^ -1))] M R ∧ ∀ v M', R v M' → _
    refine ⟨_, c_votes (hx.2.2.2.1 6 3 (by decide)) hx.2.2.2.2.1.1 hme6 _, ?_⟩
    rintro v M' ⟨hM, rfl⟩
    subst M'
    show ∃ R, cm_Lc cm_ms 159 [.ref 0, .int (voF (M.1 (T' + 3)) (Int32.ofNat (2 ^ me - 1) &&& (orF (fun m => bdB (M.1 T' 1) (M.1 33 m)) me ^^^ -1)) me)] M R ∧ ∀ v M', R v M' → _
    refine ⟨_, c_granted _ _, ?_⟩
    rintro v Mc ⟨hG, rfl⟩
    exact rfl
  · exact absurd hc (by decide)
theorem m_quorum_no {a : Bool} {me mo : Nat} {M : cm_M} (hx : MTX a me mo M) (ha : a = false) : cm_Lc cm_ms 229 [.ref 124] M (fun v _ => v = some (.int (-1))) := by
  refine lb_st0 (mi := mr_229) rfl 400 ?_
  show ∃ R, cm_Lc cm_ms 164 [.ref 124] M R ∧ ∀ v M', R v M' → _
  refine ⟨_, m_goodG M, ?_⟩
  rintro v M' ⟨rfl, rfl⟩
  have hg := MTX_gd hx
  show (ev_cmp 0 ((gdM M).1 124 14) 0 = true → _) ∧ (ev_cmp 0 ((gdM M).1 124 14) 0 = false → _)
  refine ⟨fun hc => ?_, fun hc => ?_⟩
  · show ∃ R, cm_Lc cm_ms 165 [.ref 124, .int 1] (gdM M) R ∧ ∀ v M', R v M' → _
    refine ⟨_, m_noG 1 (gdM M), ?_⟩
    rintro v Mz ⟨hG, rfl⟩
    exact rfl
  · have q := fn_ne0 hc
    rw [gd_n (by omega), hx.1, ha] at q
    exact absurd rfl q
theorem m_hairy {M : cm_M} {me : Nat} (h15 : M.2.2 124 15 = some 127) (h17 : M.2.2 124 17 = some 129) (h3 : M.1 127 3 = Int32.ofNat me) (hme : me ≤ 6) : cm_Lc cm_ms 228 [.ref 124] M (fun v M' => M' = M ∧ v = some (.int (Int32.ofNat (2 ^ me - 1) &&& (orF (fun m => bdB (M.1 127 1) (M.1 129 m)) me ^^^ -1)))) := by
  refine lb_st0 (mi := mr_228) rfl 400 ?_
  show ∃ R, cm_Lc cm_ms 208 [.ref 124] M R ∧ ∀ v M', R v M' → _
  refine ⟨_, m_allMen h15 h3 hme, ?_⟩
  rintro v M' ⟨hM, rfl⟩
  subst M'
  first | refine lb_to (T := (6, [(0, .ref 124)], [.ref 124, .ref 124, .int (Int32.ofNat (2 ^ me - 1))], M)) 6 [0] rfl rfl rfl (fun J' h => h) (lb_g0 rfl rfl h17 ?_) | refine lb_to0 (T := (6, [(0, .ref 124)], [.ref 124, .ref 124, .int (Int32.ofNat (2 ^ me - 1))], M)) 6 [0] rfl rfl rfl (fun J' h => h) (lb_g0 rfl rfl h17 ?_)
  show ∃ R, cm_Lc cm_ms 210 [.ref 124, .ref 129] M R ∧ ∀ v M', R v M' → _
  refine ⟨_, m_baldOf (d := 129) h15 h3 hme, ?_⟩
  rintro v M' ⟨hM, rfl⟩
  subst M'
  exact ⟨rfl, rfl⟩
theorem m_quorum_k {a : Bool} {me mo : Nat} {M : cm_M} (hx : MTX a me mo M) (ha : a = true) : cm_Lc cm_ms 229 [.ref 124] M (fun v _ => v = some (.int (voF (fun m => M.1 127 (13 + 3 * m)) (Int32.ofNat (2 ^ me - 1) &&& (orF (fun m => bdB (M.1 127 1) (M.1 129 m)) me ^^^ -1)) me))) := by
  refine lb_st0 (mi := mr_229) rfl 400 ?_
  show ∃ R, cm_Lc cm_ms 164 [.ref 124] M R ∧ ∀ v M', R v M' → _
  refine ⟨_, m_goodG M, ?_⟩
  rintro v M' ⟨rfl, rfl⟩
  have hg := MTX_gd hx
  have hme6 := hx.2.2.2.2.2.1
  have hmo5 := hx.2.2.2.2.2.2
  have e127 : (gdM M).1 127 = M.1 127 := funext fun j => gd_n (by omega)
  have e129 : (gdM M).1 129 = M.1 129 := funext fun j => gd_n (by omega)
  show (ev_cmp 0 ((gdM M).1 124 14) 0 = true → _) ∧ (ev_cmp 0 ((gdM M).1 124 14) 0 = false → _)
  refine ⟨fun hc => ?_, fun hc => ?_⟩
  · have q := fn_eq0 hc
    rw [gd_n (by omega), hx.1, ha] at q
    exact absurd q (by decide)
  · show ∃ R, cm_Lc cm_ms 228 [.ref 124] (gdM M) R ∧ ∀ v M', R v M' → _
    have hb := m_hairy (M := gdM M) (me := me) hx.2.1.1 hx.2.1.2.1 (by rw [e127]; exact (hx.2.2.1 ha).1) hme6
    rw [e127, e129] at hb
    have hv := m_votes (M := gdM M) (me := me) hx.2.1.1 (by rw [e127]; exact (hx.2.2.1 ha).1) hme6 (Int32.ofNat (2 ^ me - 1) &&& (orF (fun m => bdB (M.1 127 1) (M.1 129 m)) me ^^^ -1))
    rw [e127] at hv
    refine ⟨_, hb, ?_⟩
    rintro v M' ⟨hM, rfl⟩
    subst M'
    show ∃ R, cm_Lc cm_ms 213 [.ref 124, .int (Int32.ofNat (2 ^ me - 1) &&& (orF (fun m => bdB (M.1 127 1) (M.1 129 m)) me ^^^ -1))] (gdM M) R ∧ ∀ v M', R v M' → _
    refine ⟨_, hv, ?_⟩
    rintro v M' ⟨hM, rfl⟩
    subst M'
    exact rfl
/-- the longest hair's man -/
def loF (h : Nat → Int32) : Nat → Nat
  | 0 => 0
  | m + 1 => if (h (loF h m)).toInt < (h m).toInt then m else loF h m
theorem loF_le (h : Nat → Int32) : ∀ m, loF h m ≤ m
  | 0 => Nat.le_refl _
  | m + 1 => by
    have := loF_le h m
    unfold loF
    split <;> omega
theorem loF_lt (h : Nat → Int32) {m : Nat} (q : 0 < m) : loF h m < m := by
  match m, q with
  | m + 1, _ =>
    have := loF_le h m
    unfold loF
    split <;> omega
theorem loF_1 (h : Nat → Int32) : loF h 1 = 0 := by
  show (if (h 0).toInt < (h 0).toInt then 0 else 0) = 0
  rw [if_neg (by omega)]
theorem loF_t {h : Nat → Int32} {m : Nat} (q : (h (loF h m)).toInt < (h m).toInt) : loF h (m + 1) = m := if_pos q
theorem loF_f {h : Nat → Int32} {m : Nat} (q : (h m).toInt ≤ (h (loF h m)).toInt) : loF h (m + 1) = loF h m := if_neg (by omega)
theorem loF_cg {h h' : Nat → Int32} : ∀ n, (∀ m, m < n → h' m = h m) → loF h' n = loF h n
  | 0, _ => rfl
  | n + 1, q => by
    have e := loF_cg (h := h) (h' := h') n (fun m hm => q m (by omega))
    unfold loF
    rw [e]
    rcases Nat.eq_zero_or_pos n with z | z
    · subst z
      rw [show loF h 0 = 0 from rfl, q 0 (by omega)]
    · rw [q n (by omega), q _ (by have := loF_lt h z; omega)]
theorem c_longest_no {M : cm_M} {T' me mo : Nat} (hx : CTX T' me mo M) (h0 : me = 0) : cm_Lc cm_ms 102 [.ref 0] M (fun v _ => v = some (.int (-1))) := by
  have hl := c_noTown hx.2.1.1
  rw [hx.2.2.2.2.1.1, h0, show decide (Int32.ofNat 0 = 0) = true from rfl] at hl
  refine lb_st0 (mi := mr_102) rfl 400 ?_
  show ∃ R, cm_Lc cm_ms 160 [.ref 0] M R ∧ ∀ v M', R v M' → _
  refine ⟨_, hl, ?_⟩
  rintro v M' ⟨hM, rfl⟩
  subst M'
  show (ev_cmp 0 (bi true) 0 = true → _) ∧ (ev_cmp 0 (bi true) 0 = false → _)
  refine ⟨fun hc => ?_, fun hc => ?_⟩
  · exact absurd hc (by decide)
  · show ∃ R, cm_Lc cm_ms 157 [.ref 0, .int 1] M R ∧ ∀ v M', R v M' → _
    refine ⟨_, c_refused 1 M, ?_⟩
    rintro v M' ⟨hM, rfl⟩
    subst M'
    exact rfl
set_option maxRecDepth 100000 in
theorem c_longest_k {M : cm_M} {T' me mo : Nat} (hx : CTX T' me mo M) (h0 : 0 < me) : cm_Lc cm_ms 102 [.ref 0] M (fun v _ => v = some (.int (Int32.ofNat (loF (M.1 33) me)))) := by
  have hme6 := hx.2.2.2.2.2.1
  have hmo5 := hx.2.2.2.2.2.2
  have hl := c_noTown hx.2.1.1
  rw [hx.2.2.2.2.1.1, decide_eq_false (show ¬ Int32.ofNat me = 0 from fun q => by
    rw [ofn_0 (by omega)] at q
    omega)] at hl
  refine lb_of (mi := mr_102) rfl [(17, [0, 1, 2])] (fun S => ∃ m, 1 ≤ m ∧ m ≤ me ∧ S = (17, [(0, .ref 0), (1, .int (Int32.ofNat (loF (M.1 33) m))), (2, .int (Int32.ofNat m))], [], M)) 400 (fun S hS => ?_) 400 ?_
  · obtain ⟨m, hm1, hm, rfl⟩ := hS
    first | refine lb_to (T := (19, [(0, .ref 0), (1, .int (Int32.ofNat (loF (M.1 33) m))), (2, .int (Int32.ofNat m))], [.ref 0, .int (Int32.ofNat m)], M)) 19 [0, 1, 2] rfl rfl rfl (fun J' h => h) (lb_g0 rfl rfl hx.2.1.1 ?_) | refine lb_to0 (T := (19, [(0, .ref 0), (1, .int (Int32.ofNat (loF (M.1 33) m))), (2, .int (Int32.ofNat m))], [.ref 0, .int (Int32.ofNat m)], M)) 19 [0, 1, 2] rfl rfl rfl (fun J' h => h) (lb_g0 rfl rfl hx.2.1.1 ?_)
    show (ev_cmp 3 (Int32.ofNat m) (M.1 T' 3) = true → _) ∧ (ev_cmp 3 (Int32.ofNat m) (M.1 T' 3) = false → _)
    refine ⟨fun hL => ?_, fun hL => ?_⟩
    · have g := fn_ge hL
      rw [hx.2.2.2.2.1.1, fn_toInt (by omega), fn_toInt (by omega)] at g
      have : m = me := by omega
      subst this
      show ∃ R, cm_Lc cm_ms 159 [.ref 0, .int (Int32.ofNat (loF (M.1 33) m))] M R ∧ ∀ v M', R v M' → _
      refine ⟨_, c_granted _ _, ?_⟩
      rintro v Mc ⟨hG, rfl⟩
      exact rfl
    · have gi := fn_nge hL
      rw [hx.2.2.2.2.1.1, fn_toInt (by omega), fn_toInt (by omega)] at gi
      have em := fn_nat (show m < 2147483648 by omega)
      have el := fn_nat (show loF (M.1 33) m < 2147483648 by have := loF_lt (M.1 33) (show 0 < m by omega); omega)
      first | refine lb_to (T := (29, [(0, .ref 0), (1, .int (Int32.ofNat (loF (M.1 33) m))), (2, .int (Int32.ofNat m))], [.ref 0], M)) 29 [0, 1, 2] rfl rfl rfl (fun J' h => h) (lb_g0 rfl rfl hx.2.1.2.1 ?_) | refine lb_to0 (T := (29, [(0, .ref 0), (1, .int (Int32.ofNat (loF (M.1 33) m))), (2, .int (Int32.ofNat m))], [.ref 0], M)) 29 [0, 1, 2] rfl rfl rfl (fun J' h => h) (lb_g0 rfl rfl hx.2.1.2.1 ?_)
      first | refine lb_to (T := (32, [(0, .ref 0), (1, .int (Int32.ofNat (loF (M.1 33) m))), (2, .int (Int32.ofNat m))], [.ref 32], M)) 32 [0, 1, 2] rfl rfl rfl (fun J' h => h) (lb_g0 rfl rfl hx.2.2.1.2.2.1.1 ?_) | refine lb_to0 (T := (32, [(0, .ref 0), (1, .int (Int32.ofNat (loF (M.1 33) m))), (2, .int (Int32.ofNat m))], [.ref 32], M)) 32 [0, 1, 2] rfl rfl rfl (fun J' h => h) (lb_g0 rfl rfl hx.2.2.1.2.2.1.1 ?_)
      first | refine lb_to (T := (38, [(0, .ref 0), (1, .int (Int32.ofNat (loF (M.1 33) m))), (2, .int (Int32.ofNat m))], [.ref 0, .int (M.1 33 ((Int32.ofNat m).toNatClampNeg))], M)) 38 [0, 1, 2] rfl rfl rfl (fun J' h => h) (lb_g0 rfl rfl hx.2.1.2.1 ?_) | refine lb_to0 (T := (38, [(0, .ref 0), (1, .int (Int32.ofNat (loF (M.1 33) m))), (2, .int (Int32.ofNat m))], [.ref 0, .int (M.1 33 ((Int32.ofNat m).toNatClampNeg))], M)) 38 [0, 1, 2] rfl rfl rfl (fun J' h => h) (lb_g0 rfl rfl hx.2.1.2.1 ?_)
      first | refine lb_to (T := (41, [(0, .ref 0), (1, .int (Int32.ofNat (loF (M.1 33) m))), (2, .int (Int32.ofNat m))], [.ref 32, .int (M.1 33 ((Int32.ofNat m).toNatClampNeg))], M)) 41 [0, 1, 2] rfl rfl rfl (fun J' h => h) (lb_g0 rfl rfl hx.2.2.1.2.2.1.1 ?_) | refine lb_to0 (T := (41, [(0, .ref 0), (1, .int (Int32.ofNat (loF (M.1 33) m))), (2, .int (Int32.ofNat m))], [.ref 32, .int (M.1 33 ((Int32.ofNat m).toNatClampNeg))], M)) 41 [0, 1, 2] rfl rfl rfl (fun J' h => h) (lb_g0 rfl rfl hx.2.2.1.2.2.1.1 ?_)
      show (ev_cmp 5 (M.1 33 ((Int32.ofNat m).toNatClampNeg)) (M.1 33 ((Int32.ofNat (loF (M.1 33) m)).toNatClampNeg)) = true → _) ∧ (ev_cmp 5 (M.1 33 ((Int32.ofNat m).toNatClampNeg)) (M.1 33 ((Int32.ofNat (loF (M.1 33) m)).toNatClampNeg)) = false → _)
      refine ⟨fun hLf => ?_, fun hLf => ?_⟩
      · show (fun (S : cm_S) => ∃ m, 1 ≤ m ∧ m ≤ me ∧ S = (17, [(0, .ref 0), (1, .int (Int32.ofNat (loF (M.1 33) m))), (2, .int (Int32.ofNat m))], [], M)) (17, [(0, .ref 0), (1, .int (Int32.ofNat (loF (M.1 33) m))), (2, .int ((Int32.ofNat m) + 1))], [], M)
        have q := fn_le hLf
        rw [em, el] at q
        refine ⟨m + 1, by omega, by omega, ?_⟩
        rw [ofn_s1, loF_f q]
      · show (fun (S : cm_S) => ∃ m, 1 ≤ m ∧ m ≤ me ∧ S = (17, [(0, .ref 0), (1, .int (Int32.ofNat (loF (M.1 33) m))), (2, .int (Int32.ofNat m))], [], M)) (17, [(0, .ref 0), (1, .int (Int32.ofNat m)), (2, .int ((Int32.ofNat m) + 1))], [], M)
        have q := fn_nle hLf
        rw [em, el] at q
        refine ⟨m + 1, by omega, by omega, ?_⟩
        rw [ofn_s1, loF_t q]
  · show ∃ R, cm_Lc cm_ms 160 [.ref 0] M R ∧ ∀ v M', R v M' → _
    refine ⟨_, hl, ?_⟩
    rintro v M' ⟨hM, rfl⟩
    subst M'
    show (ev_cmp 0 (bi false) 0 = true → _) ∧ (ev_cmp 0 (bi false) 0 = false → _)
    refine ⟨fun hc => ?_, fun hc => ?_⟩
    · show (fun (S : cm_S) => ∃ m, 1 ≤ m ∧ m ≤ me ∧ S = (17, [(0, .ref 0), (1, .int (Int32.ofNat (loF (M.1 33) m))), (2, .int (Int32.ofNat m))], [], M)) (17, [(0, .ref 0), (1, .int 0), (2, .int 1)], [], M)
      refine ⟨1, Nat.le_refl _, by omega, ?_⟩
      rw [loF_1]
      try rfl
    · exact absurd hc (by decide)
theorem m_longest_no {a : Bool} {me mo : Nat} {M : cm_M} (hx : MTX a me mo M) (ha : a = false) : cm_Lc cm_ms 226 [.ref 124] M (fun v _ => v = some (.int (-1))) := by
  refine lb_st0 (mi := mr_226) rfl 400 ?_
  show ∃ R, cm_Lc cm_ms 164 [.ref 124] M R ∧ ∀ v M', R v M' → _
  refine ⟨_, m_goodG M, ?_⟩
  rintro v M' ⟨rfl, rfl⟩
  have hg := MTX_gd hx
  show (ev_cmp 1 ((gdM M).1 124 14) 0 = true → _) ∧ (ev_cmp 1 ((gdM M).1 124 14) 0 = false → _)
  refine ⟨fun hc => ?_, fun hc => ?_⟩
  · have q := fn_ne hc
    rw [gd_n (by omega), hx.1, ha] at q
    exact absurd rfl q
  · show ∃ R, cm_Lc cm_ms 165 [.ref 124, .int 1] (gdM M) R ∧ ∀ v M', R v M' → _
    refine ⟨_, m_noG 1 (gdM M), ?_⟩
    rintro v Mz ⟨hG, rfl⟩
    exact rfl
set_option maxRecDepth 100000 in
theorem m_longest_k {a : Bool} {me mo : Nat} {M : cm_M} (hx : MTX a me mo M) (ha : a = true) : cm_Lc cm_ms 226 [.ref 124] M (fun v _ => v = some (.int (Int32.ofNat (loF (M.1 129) me)))) := by
  have hme6 := hx.2.2.2.2.2.1
  have hg := MTX_gd hx
  have e127 : (gdM M).1 127 = M.1 127 := funext fun j => gd_n (by omega)
  have e129 : (gdM M).1 129 = M.1 129 := funext fun j => gd_n (by omega)
  have h3 : (gdM M).1 127 3 = Int32.ofNat me := by rw [e127]; exact (hx.2.2.1 ha).1
  have h0 := hx.2.2.2.2.1 ha
  refine lb_of (mi := mr_226) rfl [(21, [0, 1, 2])] (fun S => ∃ m, 1 ≤ m ∧ m ≤ me ∧ S = (21, [(0, .ref 124), (1, .int (Int32.ofNat (loF (M.1 129) m))), (2, .int (Int32.ofNat m))], [], (gdM M))) 400 (fun S hS => ?_) 400 ?_
  · obtain ⟨m, hm1, hm, rfl⟩ := hS
    first | refine lb_to (T := (23, [(0, .ref 124), (1, .int (Int32.ofNat (loF (M.1 129) m))), (2, .int (Int32.ofNat m))], [.ref 124, .int (Int32.ofNat m)], (gdM M))) 23 [0, 1, 2] rfl rfl rfl (fun J' h => h) (lb_g0 rfl rfl (by first | exact hx.2.1.1 | (rw [hnt.1]; exact hx.2.1.1) | (rw [hs.1, hnt.1]; exact hx.2.1.1)) ?_) | refine lb_to0 (T := (23, [(0, .ref 124), (1, .int (Int32.ofNat (loF (M.1 129) m))), (2, .int (Int32.ofNat m))], [.ref 124, .int (Int32.ofNat m)], (gdM M))) 23 [0, 1, 2] rfl rfl rfl (fun J' h => h) (lb_g0 rfl rfl (by first | exact hx.2.1.1 | (rw [hnt.1]; exact hx.2.1.1) | (rw [hs.1, hnt.1]; exact hx.2.1.1)) ?_)
    show (ev_cmp 3 (Int32.ofNat m) ((gdM M).1 127 3) = true → _) ∧ (ev_cmp 3 (Int32.ofNat m) ((gdM M).1 127 3) = false → _)
    refine ⟨fun hL => ?_, fun hL => ?_⟩
    · have g := fn_ge hL
      rw [h3, fn_toInt (by omega), fn_toInt (by omega)] at g
      have : m = me := by omega
      subst this
      exact rfl
    · have gi := fn_nge hL
      rw [h3, fn_toInt (by omega), fn_toInt (by omega)] at gi
      have em := fn_nat (show m < 2147483648 by omega)
      have el := fn_nat (show loF (M.1 129) m < 2147483648 by have := loF_lt (M.1 129) (show 0 < m by omega); omega)
      first | refine lb_to (T := (32, [(0, .ref 124), (1, .int (Int32.ofNat (loF (M.1 129) m))), (2, .int (Int32.ofNat m))], [.ref 124], (gdM M))) 32 [0, 1, 2] rfl rfl rfl (fun J' h => h) (lb_g0 rfl rfl (by first | exact hx.2.1.2.1 | (rw [hnt.1]; exact hx.2.1.2.1) | (rw [hs.1, hnt.1]; exact hx.2.1.2.1)) ?_) | refine lb_to0 (T := (32, [(0, .ref 124), (1, .int (Int32.ofNat (loF (M.1 129) m))), (2, .int (Int32.ofNat m))], [.ref 124], (gdM M))) 32 [0, 1, 2] rfl rfl rfl (fun J' h => h) (lb_g0 rfl rfl (by first | exact hx.2.1.2.1 | (rw [hnt.1]; exact hx.2.1.2.1) | (rw [hs.1, hnt.1]; exact hx.2.1.2.1)) ?_)
      first | refine lb_to (T := (38, [(0, .ref 124), (1, .int (Int32.ofNat (loF (M.1 129) m))), (2, .int (Int32.ofNat m))], [.ref 124, .int ((gdM M).1 129 ((Int32.ofNat m).toNatClampNeg))], (gdM M))) 38 [0, 1, 2] rfl rfl rfl (fun J' h => h) (lb_g0 rfl rfl (by first | exact hx.2.1.2.1 | (rw [hnt.1]; exact hx.2.1.2.1) | (rw [hs.1, hnt.1]; exact hx.2.1.2.1)) ?_) | refine lb_to0 (T := (38, [(0, .ref 124), (1, .int (Int32.ofNat (loF (M.1 129) m))), (2, .int (Int32.ofNat m))], [.ref 124, .int ((gdM M).1 129 ((Int32.ofNat m).toNatClampNeg))], (gdM M))) 38 [0, 1, 2] rfl rfl rfl (fun J' h => h) (lb_g0 rfl rfl (by first | exact hx.2.1.2.1 | (rw [hnt.1]; exact hx.2.1.2.1) | (rw [hs.1, hnt.1]; exact hx.2.1.2.1)) ?_)
      show (ev_cmp 5 ((gdM M).1 129 ((Int32.ofNat m).toNatClampNeg)) ((gdM M).1 129 ((Int32.ofNat (loF (M.1 129) m)).toNatClampNeg)) = true → _) ∧ (ev_cmp 5 ((gdM M).1 129 ((Int32.ofNat m).toNatClampNeg)) ((gdM M).1 129 ((Int32.ofNat (loF (M.1 129) m)).toNatClampNeg)) = false → _)
      refine ⟨fun hLf => ?_, fun hLf => ?_⟩
      · show (fun (S : cm_S) => ∃ m, 1 ≤ m ∧ m ≤ me ∧ S = (21, [(0, .ref 124), (1, .int (Int32.ofNat (loF (M.1 129) m))), (2, .int (Int32.ofNat m))], [], (gdM M))) (21, [(0, .ref 124), (1, .int (Int32.ofNat (loF (M.1 129) m))), (2, .int ((Int32.ofNat m) + 1))], [], (gdM M))
        have q := fn_le hLf
        rw [em, el, e129] at q
        refine ⟨m + 1, by omega, by omega, ?_⟩
        rw [ofn_s1, loF_f q]
      · show (fun (S : cm_S) => ∃ m, 1 ≤ m ∧ m ≤ me ∧ S = (21, [(0, .ref 124), (1, .int (Int32.ofNat (loF (M.1 129) m))), (2, .int (Int32.ofNat m))], [], (gdM M))) (21, [(0, .ref 124), (1, .int (Int32.ofNat m)), (2, .int ((Int32.ofNat m) + 1))], [], (gdM M))
        have q := fn_nle hLf
        rw [em, el, e129] at q
        refine ⟨m + 1, by omega, by omega, ?_⟩
        rw [ofn_s1, loF_t q]
  · show ∃ R, cm_Lc cm_ms 164 [.ref 124] M R ∧ ∀ v M', R v M' → _
    refine ⟨_, m_goodG M, ?_⟩
    rintro v M' ⟨rfl, rfl⟩
    show (ev_cmp 1 ((gdM M).1 124 14) 0 = true → _) ∧ (ev_cmp 1 ((gdM M).1 124 14) 0 = false → _)
    refine ⟨fun hc => ?_, fun hc => ?_⟩
    · show (fun (S : cm_S) => ∃ m, 1 ≤ m ∧ m ≤ me ∧ S = (21, [(0, .ref 124), (1, .int (Int32.ofNat (loF (M.1 129) m))), (2, .int (Int32.ofNat m))], [], (gdM M))) (21, [(0, .ref 124), (1, .int 0), (2, .int 1)], [], (gdM M))
      refine ⟨1, Nat.le_refl _, by omega, ?_⟩
      rw [loF_1]
      try rfl
    · have q := fn_eq hc
      rw [gd_n (by omega), hx.1, ha] at q
      exact absurd q (by decide)
/-- what lies on the floor -/
def flF (z : Bool) (x : Int32) (F : Nat → Int32) : Int32 := if (z || outB x 3) = true then -1 else F x.toNatClampNeg
def flM (a : Bool) (x : Int32) (r : Nat → Int32) : Int32 := if (a && inB x 0 2) = true then r (6 + x).toNatClampNeg else -1
theorem c_floor {M : cm_M} {T' me mo : Nat} (hx : CTX T' me mo M) (x : Int32) : cm_Lc cm_ms 100 [.ref 0, .int x] M (fun v _ => v = some (.int (flF (decide (M.1 T' 3 = 0)) x (M.1 34)))) := by
  have z0 : (0 : Int32).toInt = 0 := by decide
  have z3 : (3 : Int32).toInt = 3 := by decide
  refine lb_st0 (mi := mr_100) rfl 400 ?_
  show ∃ R, cm_Lc cm_ms 160 [.ref 0] M R ∧ ∀ v M', R v M' → _
  refine ⟨_, c_noTown hx.2.1.1, ?_⟩
  rintro v M' ⟨hM, rfl⟩
  subst M'
  show (ev_cmp 1 (bi (decide (M.1 T' 3 = 0))) 0 = true → _) ∧ (ev_cmp 1 (bi (decide (M.1 T' 3 = 0))) 0 = false → _)
  refine ⟨fun hc => ?_, fun hc => ?_⟩
  · show ∃ R, cm_Lc cm_ms 157 [.ref 0, .int 1] M R ∧ ∀ v M', R v M' → _
    refine ⟨_, c_refused 1 M, ?_⟩
    rintro v M' ⟨hM, rfl⟩
    subst M'
    show some (Value.int (-1)) = some (Value.int (flF (decide (M.1 T' 3 = 0)) x (M.1 34)))
    unfold flF outB
    rw [bi_t hc, Bool.true_or, if_pos rfl]
  · have hz := bi_f hc
    show (ev_cmp 2 x 0 = true → _) ∧ (ev_cmp 2 x 0 = false → _)
    refine ⟨fun hcf => ?_, fun hcf => ?_⟩
    · show ∃ R, cm_Lc cm_ms 157 [.ref 0, .int 1] M R ∧ ∀ v M', R v M' → _
      refine ⟨_, c_refused 1 M, ?_⟩
      rintro v M' ⟨hM, rfl⟩
      subst M'
      have q := fn_lt hcf
      rw [z0] at q
      show some (Value.int (-1)) = some (Value.int (flF (decide (M.1 T' 3 = 0)) x (M.1 34)))
      unfold flF outB
      rw [decide_eq_true q, Bool.true_or, Bool.or_true, if_pos rfl]
    · have q := fn_nlt hcf
      rw [z0] at q
      show (ev_cmp 2 x 3 = true → _) ∧ (ev_cmp 2 x 3 = false → _)
      refine ⟨fun hcff => ?_, fun hcff => ?_⟩
      · first | refine lb_to (T := (24, [(0, .ref 0), (1, .int x)], [.ref 0, .ref 0], M)) 24 [0, 1] rfl rfl rfl (fun J' h => h) (lb_g0 rfl rfl hx.2.1.2.1 ?_) | refine lb_to0 (T := (24, [(0, .ref 0), (1, .int x)], [.ref 0, .ref 0], M)) 24 [0, 1] rfl rfl rfl (fun J' h => h) (lb_g0 rfl rfl hx.2.1.2.1 ?_)
        first | refine lb_to (T := (27, [(0, .ref 0), (1, .int x)], [.ref 32, .ref 0], M)) 27 [0, 1] rfl rfl rfl (fun J' h => h) (lb_g0 rfl rfl hx.2.2.1.2.2.1.2 ?_) | refine lb_to0 (T := (27, [(0, .ref 0), (1, .int x)], [.ref 32, .ref 0], M)) 27 [0, 1] rfl rfl rfl (fun J' h => h) (lb_g0 rfl rfl hx.2.2.1.2.2.1.2 ?_)
        show ∃ R, cm_Lc cm_ms 159 [.ref 0, .int (M.1 34 x.toNatClampNeg)] M R ∧ ∀ v M', R v M' → _
        refine ⟨_, c_granted _ _, ?_⟩
        rintro v Mc ⟨hG, rfl⟩
        have q2 := fn_lt hcff
        rw [z3] at q2
        show some (Value.int (M.1 34 x.toNatClampNeg)) = some (Value.int (flF (decide (M.1 T' 3 = 0)) x (M.1 34)))
        unfold flF outB
        rw [hz, decide_eq_false (show ¬ x.toInt < 0 by omega), decide_eq_false (show ¬ (3 : Int32).toInt ≤ x.toInt by rw [z3]; omega), if_neg (by decide)]
      · show ∃ R, cm_Lc cm_ms 157 [.ref 0, .int 1] M R ∧ ∀ v M', R v M' → _
        refine ⟨_, c_refused 1 M, ?_⟩
        rintro v M' ⟨hM, rfl⟩
        subst M'
        have q2 := fn_nlt hcff
        show some (Value.int (-1)) = some (Value.int (flF (decide (M.1 T' 3 = 0)) x (M.1 34)))
        unfold flF outB
        rw [decide_eq_true q2, Bool.or_true, Bool.or_true, if_pos rfl]
theorem m_floor {a : Bool} {me mo : Nat} {M : cm_M} (hx : MTX a me mo M) (x : Int32) : cm_Lc cm_ms 224 [.ref 124, .int x] M (fun v _ => v = some (.int (flM a x (M.1 129)))) := by
  refine lb_st0 (mi := mr_224) rfl 400 ?_
  show ∃ R, cm_Lc cm_ms 164 [.ref 124] M R ∧ ∀ v M', R v M' → _
  refine ⟨_, m_goodG M, ?_⟩
  rintro v M' ⟨rfl, rfl⟩
  have hg := MTX_gd hx
  have hme6 := hx.2.2.2.2.2.1
  have hmo5 := hx.2.2.2.2.2.2
  have e127 : (gdM M).1 127 = M.1 127 := funext fun j => gd_n (by omega)
  have e129 : (gdM M).1 129 = M.1 129 := funext fun j => gd_n (by omega)
  show (ev_cmp 0 ((gdM M).1 124 14) 0 = true → _) ∧ (ev_cmp 0 ((gdM M).1 124 14) 0 = false → _)
  refine ⟨fun hc => ?_, fun hc => ?_⟩
  · have q := fn_eq0 hc
    rw [gd_n (by omega), hx.1] at q
    have ha : a = false := by
      cases a with
      | false => rfl
      | true => exact absurd q (by decide)
    show ∃ R, cm_Lc cm_ms 165 [.ref 124, .int 1] (gdM M) R ∧ ∀ v M', R v M' → _
    refine ⟨_, m_noG 1 (gdM M), ?_⟩
    rintro v Mz ⟨hG, rfl⟩
    show some (Value.int (-1)) = some (Value.int (flM a x (M.1 129)))
    unfold flM
    rw [ha, Bool.false_and, if_neg (by decide)]
  · have q := fn_ne0 hc
    rw [gd_n (by omega), hx.1] at q
    have ha : a = true := by
      cases a with
      | true => rfl
      | false => exact absurd rfl q
    show ∃ R, cm_Lc cm_ms 167 [.int x, .int 0, .int 2] (gdM M) R ∧ ∀ v M', R v M' → _
    refine ⟨_, m_in2 x 0 2 (gdM M), ?_⟩
    rintro v M' ⟨hM, rfl⟩
    subst M'
    show (ev_cmp 0 (bi (inB x 0 2)) 0 = true → _) ∧ (ev_cmp 0 (bi (inB x 0 2)) 0 = false → _)
    refine ⟨fun hcfc => ?_, fun hcfc => ?_⟩
    · show ∃ R, cm_Lc cm_ms 165 [.ref 124, .int 1] (gdM M) R ∧ ∀ v M', R v M' → _
      refine ⟨_, m_noG 1 (gdM M), ?_⟩
      rintro v Mz ⟨hG, rfl⟩
      show some (Value.int (-1)) = some (Value.int (flM a x (M.1 129)))
      unfold flM
      rw [bi_0 hcfc, Bool.and_false, if_neg (by decide)]
    · first | refine lb_to (T := (21, [(0, .ref 124), (1, .int x)], [.ref 124], (gdM M))) 21 [0, 1] rfl rfl rfl (fun J' h => h) (lb_g0 rfl rfl (by first | exact hx.2.1.2.1 | (rw [hnt.1]; exact hx.2.1.2.1) | (rw [hs.1, hnt.1]; exact hx.2.1.2.1)) ?_) | refine lb_to0 (T := (21, [(0, .ref 124), (1, .int x)], [.ref 124], (gdM M))) 21 [0, 1] rfl rfl rfl (fun J' h => h) (lb_g0 rfl rfl (by first | exact hx.2.1.2.1 | (rw [hnt.1]; exact hx.2.1.2.1) | (rw [hs.1, hnt.1]; exact hx.2.1.2.1)) ?_)
      show some (Value.int ((gdM M).1 129 (6 + x).toNatClampNeg)) = some (Value.int (flM a x (M.1 129)))
      unfold flM
      rw [ha, bi_1 hcfc, if_pos (by decide), e129]
theorem c_ready_no {M : cm_M} {T' me mo : Nat} (hx : CTX T' me mo M) (h0 : me = 0) : cm_Lc cm_ms 103 [.ref 0] M (fun v _ => v = some (.int (-1))) := by
  have hl := c_noTown hx.2.1.1
  rw [hx.2.2.2.2.1.1, h0, show decide (Int32.ofNat 0 = 0) = true from rfl] at hl
  refine lb_st0 (mi := mr_103) rfl 400 ?_
  show ∃ R, cm_Lc cm_ms 160 [.ref 0] M R ∧ ∀ v M', R v M' → _
  refine ⟨_, hl, ?_⟩
  rintro v M' ⟨hM, rfl⟩
  subst M'
  show (ev_cmp 0 (bi true) 0 = true → _) ∧ (ev_cmp 0 (bi true) 0 = false → _)
  refine ⟨fun hc => ?_, fun hc => ?_⟩
  · exact absurd hc (by decide)
  · show ∃ R, cm_Lc cm_ms 157 [.ref 0, .int 1] M R ∧ ∀ v M', R v M' → _
    refine ⟨_, c_refused 1 M, ?_⟩
    rintro v M' ⟨hM, rfl⟩
    subst M'
    exact rfl
set_option maxRecDepth 100000 in
theorem c_ready_k {M : cm_M} {T' me mo : Nat} (hx : CTX T' me mo M) (h0 : 0 < me) : cm_Lc cm_ms 103 [.ref 0] M (fun v _ => v = some (.int (orF (fun m => mbB (M.1 32 2) (M.1 (T' + 9) m) m && geB (voF (M.1 (T' + 3)) (orF (fun j => syB (M.1 T' 1) (M.1 (T' + 6) m) (M.1 (T' + 4) j) (M.1 33 j) m) me) me) (M.1 (T' + 7) m)) mo))) := by
  have hme6 := hx.2.2.2.2.2.1
  have hmo5 := hx.2.2.2.2.2.2
  have hl := c_noTown hx.2.1.1
  rw [hx.2.2.2.2.1.1, decide_eq_false (show ¬ Int32.ofNat me = 0 from fun q => by
    rw [ofn_0 (by omega)] at q
    omega)] at hl
  refine lb_of (mi := mr_103) rfl [(17, [0, 1, 2])] (fun S => ∃ m, m ≤ mo ∧ S = (17, [(0, .ref 0), (1, .int (orF (fun m => mbB (M.1 32 2) (M.1 (T' + 9) m) m && geB (voF (M.1 (T' + 3)) (orF (fun j => syB (M.1 T' 1) (M.1 (T' + 6) m) (M.1 (T' + 4) j) (M.1 33 j) m) me) me) (M.1 (T' + 7) m)) m)), (2, .int (Int32.ofNat m))], [], M)) 400 (fun S hS => ?_) 400 ?_
  · obtain ⟨m, hm, rfl⟩ := hS
    first | refine lb_to (T := (19, [(0, .ref 0), (1, .int (orF (fun m => mbB (M.1 32 2) (M.1 (T' + 9) m) m && geB (voF (M.1 (T' + 3)) (orF (fun j => syB (M.1 T' 1) (M.1 (T' + 6) m) (M.1 (T' + 4) j) (M.1 33 j) m) me) me) (M.1 (T' + 7) m)) m)), (2, .int (Int32.ofNat m))], [.ref 0, .int (Int32.ofNat m)], M)) 19 [0, 1, 2] rfl rfl rfl (fun J' h => h) (lb_g0 rfl rfl hx.2.1.1 ?_) | refine lb_to0 (T := (19, [(0, .ref 0), (1, .int (orF (fun m => mbB (M.1 32 2) (M.1 (T' + 9) m) m && geB (voF (M.1 (T' + 3)) (orF (fun j => syB (M.1 T' 1) (M.1 (T' + 6) m) (M.1 (T' + 4) j) (M.1 33 j) m) me) me) (M.1 (T' + 7) m)) m)), (2, .int (Int32.ofNat m))], [.ref 0, .int (Int32.ofNat m)], M)) 19 [0, 1, 2] rfl rfl rfl (fun J' h => h) (lb_g0 rfl rfl hx.2.1.1 ?_)
    show (ev_cmp 3 (Int32.ofNat m) (M.1 T' 9) = true → _) ∧ (ev_cmp 3 (Int32.ofNat m) (M.1 T' 9) = false → _)
    refine ⟨fun hL => ?_, fun hL => ?_⟩
    · have g := fn_ge hL
      rw [hx.2.2.2.2.1.2, fn_toInt (by omega), fn_toInt (by omega)] at g
      have : m = mo := by omega
      subst this
      show ∃ R, cm_Lc cm_ms 159 [.ref 0, .int (orF (fun m => mbB (M.1 32 2) (M.1 (T' + 9) m) m && geB (voF (M.1 (T' + 3)) (orF (fun j => syB (M.1 T' 1) (M.1 (T' + 6) m) (M.1 (T' + 4) j) (M.1 33 j) m) me) me) (M.1 (T' + 7) m)) m)] M R ∧ ∀ v M', R v M' → _
      refine ⟨_, c_granted _ _, ?_⟩
      rintro v Mc ⟨hG, rfl⟩
      exact rfl
    · have gi := fn_nge hL
      rw [hx.2.2.2.2.1.2, fn_toInt (by omega), fn_toInt (by omega)] at gi
      have hb := c_mayBe (M := M) (c := 32) (T' := T') (k := m) (hx.2.2.2.1 13 9 (by decide)) (by omega)
      have he := c_enough (M := M) (c := 32) (T' := T') (me := me) (k := m) hx.2.2.1.2.2.1.1 (hx.2.2.2.1 10 6 (by decide)) (hx.2.2.2.1 7 4 (by decide)) (hx.2.2.2.1 6 3 (by decide)) hx.2.2.2.2.1.1 hme6 (by omega) (hx.2.2.2.1 11 7 (by decide))
      first | refine lb_to (T := (29, [(0, .ref 0), (1, .int (orF (fun m => mbB (M.1 32 2) (M.1 (T' + 9) m) m && geB (voF (M.1 (T' + 3)) (orF (fun j => syB (M.1 T' 1) (M.1 (T' + 6) m) (M.1 (T' + 4) j) (M.1 33 j) m) me) me) (M.1 (T' + 7) m)) m)), (2, .int (Int32.ofNat m))], [.ref 0], M)) 29 [0, 1, 2] rfl rfl rfl (fun J' h => h) (lb_g0 rfl rfl hx.2.1.2.1 ?_) | refine lb_to0 (T := (29, [(0, .ref 0), (1, .int (orF (fun m => mbB (M.1 32 2) (M.1 (T' + 9) m) m && geB (voF (M.1 (T' + 3)) (orF (fun j => syB (M.1 T' 1) (M.1 (T' + 6) m) (M.1 (T' + 4) j) (M.1 33 j) m) me) me) (M.1 (T' + 7) m)) m)), (2, .int (Int32.ofNat m))], [.ref 0], M)) 29 [0, 1, 2] rfl rfl rfl (fun J' h => h) (lb_g0 rfl rfl hx.2.1.2.1 ?_)
      first | refine lb_to (T := (33, [(0, .ref 0), (1, .int (orF (fun m => mbB (M.1 32 2) (M.1 (T' + 9) m) m && geB (voF (M.1 (T' + 3)) (orF (fun j => syB (M.1 T' 1) (M.1 (T' + 6) m) (M.1 (T' + 4) j) (M.1 33 j) m) me) me) (M.1 (T' + 7) m)) m)), (2, .int (Int32.ofNat m))], [.ref 0, .ref 32], M)) 33 [0, 1, 2] rfl rfl rfl (fun J' h => h) (lb_g0 rfl rfl hx.2.1.1 ?_) | refine lb_to0 (T := (33, [(0, .ref 0), (1, .int (orF (fun m => mbB (M.1 32 2) (M.1 (T' + 9) m) m && geB (voF (M.1 (T' + 3)) (orF (fun j => syB (M.1 T' 1) (M.1 (T' + 6) m) (M.1 (T' + 4) j) (M.1 33 j) m) me) me) (M.1 (T' + 7) m)) m)), (2, .int (Int32.ofNat m))], [.ref 0, .ref 32], M)) 33 [0, 1, 2] rfl rfl rfl (fun J' h => h) (lb_g0 rfl rfl hx.2.1.1 ?_)
      show ∃ R, cm_Lc cm_ms 34 [.ref 32, .ref T', .int (Int32.ofNat m)] M R ∧ ∀ v M', R v M' → _
      refine ⟨_, hb, ?_⟩
      rintro v M' ⟨hM, rfl⟩
      subst M'
      show (ev_cmp 0 (bi (mbB (M.1 32 2) (M.1 (T' + 9) m) m)) 0 = true → _) ∧ (ev_cmp 0 (bi (mbB (M.1 32 2) (M.1 (T' + 9) m) m)) 0 = false → _)
      refine ⟨fun hLfc => ?_, fun hLfc => ?_⟩
      · show (fun (S : cm_S) => ∃ m, m ≤ mo ∧ S = (17, [(0, .ref 0), (1, .int (orF (fun m => mbB (M.1 32 2) (M.1 (T' + 9) m) m && geB (voF (M.1 (T' + 3)) (orF (fun j => syB (M.1 T' 1) (M.1 (T' + 6) m) (M.1 (T' + 4) j) (M.1 33 j) m) me) me) (M.1 (T' + 7) m)) m)), (2, .int (Int32.ofNat m))], [], M)) (17, [(0, .ref 0), (1, .int (orF (fun m => mbB (M.1 32 2) (M.1 (T' + 9) m) m && geB (voF (M.1 (T' + 3)) (orF (fun j => syB (M.1 T' 1) (M.1 (T' + 6) m) (M.1 (T' + 4) j) (M.1 33 j) m) me) me) (M.1 (T' + 7) m)) m)), (2, .int ((Int32.ofNat m) + 1))], [], M)
        refine ⟨m + 1, by omega, ?_⟩
        rw [ofn_s1, orF_f (p := fun m => mbB (M.1 32 2) (M.1 (T' + 9) m) m && geB (voF (M.1 (T' + 3)) (orF (fun j => syB (M.1 T' 1) (M.1 (T' + 6) m) (M.1 (T' + 4) j) (M.1 33 j) m) me) me) (M.1 (T' + 7) m)) (m := m) (by
          show (mbB (M.1 32 2) (M.1 (T' + 9) m) m && geB (voF (M.1 (T' + 3)) (orF (fun j => syB (M.1 T' 1) (M.1 (T' + 6) m) (M.1 (T' + 4) j) (M.1 33 j) m) me) me) (M.1 (T' + 7) m)) = false
          rw [bi_0 hLfc]
          rfl)]
      · first | refine lb_to (T := (44, [(0, .ref 0), (1, .int (orF (fun m => mbB (M.1 32 2) (M.1 (T' + 9) m) m && geB (voF (M.1 (T' + 3)) (orF (fun j => syB (M.1 T' 1) (M.1 (T' + 6) m) (M.1 (T' + 4) j) (M.1 33 j) m) me) me) (M.1 (T' + 7) m)) m)), (2, .int (Int32.ofNat m))], [.ref 0], M)) 44 [0, 1, 2] rfl rfl rfl (fun J' h => h) (lb_g0 rfl rfl hx.2.1.2.1 ?_) | refine lb_to0 (T := (44, [(0, .ref 0), (1, .int (orF (fun m => mbB (M.1 32 2) (M.1 (T' + 9) m) m && geB (voF (M.1 (T' + 3)) (orF (fun j => syB (M.1 T' 1) (M.1 (T' + 6) m) (M.1 (T' + 4) j) (M.1 33 j) m) me) me) (M.1 (T' + 7) m)) m)), (2, .int (Int32.ofNat m))], [.ref 0], M)) 44 [0, 1, 2] rfl rfl rfl (fun J' h => h) (lb_g0 rfl rfl hx.2.1.2.1 ?_)
        first | refine lb_to (T := (48, [(0, .ref 0), (1, .int (orF (fun m => mbB (M.1 32 2) (M.1 (T' + 9) m) m && geB (voF (M.1 (T' + 3)) (orF (fun j => syB (M.1 T' 1) (M.1 (T' + 6) m) (M.1 (T' + 4) j) (M.1 33 j) m) me) me) (M.1 (T' + 7) m)) m)), (2, .int (Int32.ofNat m))], [.ref 0, .ref 32], M)) 48 [0, 1, 2] rfl rfl rfl (fun J' h => h) (lb_g0 rfl rfl hx.2.1.1 ?_) | refine lb_to0 (T := (48, [(0, .ref 0), (1, .int (orF (fun m => mbB (M.1 32 2) (M.1 (T' + 9) m) m && geB (voF (M.1 (T' + 3)) (orF (fun j => syB (M.1 T' 1) (M.1 (T' + 6) m) (M.1 (T' + 4) j) (M.1 33 j) m) me) me) (M.1 (T' + 7) m)) m)), (2, .int (Int32.ofNat m))], [.ref 0, .ref 32], M)) 48 [0, 1, 2] rfl rfl rfl (fun J' h => h) (lb_g0 rfl rfl hx.2.1.1 ?_)
        show ∃ R, cm_Lc cm_ms 32 [.ref 32, .ref T', .int (Int32.ofNat m)] M R ∧ ∀ v M', R v M' → _
        refine ⟨_, he, ?_⟩
        rintro v M' ⟨hM, rfl⟩
        subst M'
        show (ev_cmp 0 (bi (geB (voF (M.1 (T' + 3)) (orF (fun j => syB (M.1 T' 1) (M.1 (T' + 6) m) (M.1 (T' + 4) j) (M.1 33 j) m) me) me) (M.1 (T' + 7) m))) 0 = true → _) ∧ (ev_cmp 0 (bi (geB (voF (M.1 (T' + 3)) (orF (fun j => syB (M.1 T' 1) (M.1 (T' + 6) m) (M.1 (T' + 4) j) (M.1 33 j) m) me) me) (M.1 (T' + 7) m))) 0 = false → _)
        refine ⟨fun hLfcfc => ?_, fun hLfcfc => ?_⟩
        · show (fun (S : cm_S) => ∃ m, m ≤ mo ∧ S = (17, [(0, .ref 0), (1, .int (orF (fun m => mbB (M.1 32 2) (M.1 (T' + 9) m) m && geB (voF (M.1 (T' + 3)) (orF (fun j => syB (M.1 T' 1) (M.1 (T' + 6) m) (M.1 (T' + 4) j) (M.1 33 j) m) me) me) (M.1 (T' + 7) m)) m)), (2, .int (Int32.ofNat m))], [], M)) (17, [(0, .ref 0), (1, .int (orF (fun m => mbB (M.1 32 2) (M.1 (T' + 9) m) m && geB (voF (M.1 (T' + 3)) (orF (fun j => syB (M.1 T' 1) (M.1 (T' + 6) m) (M.1 (T' + 4) j) (M.1 33 j) m) me) me) (M.1 (T' + 7) m)) m)), (2, .int ((Int32.ofNat m) + 1))], [], M)
          refine ⟨m + 1, by omega, ?_⟩
          rw [ofn_s1, orF_f (p := fun m => mbB (M.1 32 2) (M.1 (T' + 9) m) m && geB (voF (M.1 (T' + 3)) (orF (fun j => syB (M.1 T' 1) (M.1 (T' + 6) m) (M.1 (T' + 4) j) (M.1 33 j) m) me) me) (M.1 (T' + 7) m)) (m := m) (by
            show (mbB (M.1 32 2) (M.1 (T' + 9) m) m && geB (voF (M.1 (T' + 3)) (orF (fun j => syB (M.1 T' 1) (M.1 (T' + 6) m) (M.1 (T' + 4) j) (M.1 33 j) m) me) me) (M.1 (T' + 7) m)) = false
            rw [bi_0 hLfcfc]
            exact Bool.and_false _)]
        · show (fun (S : cm_S) => ∃ m, m ≤ mo ∧ S = (17, [(0, .ref 0), (1, .int (orF (fun m => mbB (M.1 32 2) (M.1 (T' + 9) m) m && geB (voF (M.1 (T' + 3)) (orF (fun j => syB (M.1 T' 1) (M.1 (T' + 6) m) (M.1 (T' + 4) j) (M.1 33 j) m) me) me) (M.1 (T' + 7) m)) m)), (2, .int (Int32.ofNat m))], [], M)) (17, [(0, .ref 0), (1, .int ((orF (fun m => mbB (M.1 32 2) (M.1 (T' + 9) m) m && geB (voF (M.1 (T' + 3)) (orF (fun j => syB (M.1 T' 1) (M.1 (T' + 6) m) (M.1 (T' + 4) j) (M.1 33 j) m) me) me) (M.1 (T' + 7) m)) m) ||| (1 <<< ((Int32.ofNat m) &&& 31)))), (2, .int ((Int32.ofNat m) + 1))], [], M)
          refine ⟨m + 1, by omega, ?_⟩
          rw [ofn_s1, orF_t (p := fun m => mbB (M.1 32 2) (M.1 (T' + 9) m) m && geB (voF (M.1 (T' + 3)) (orF (fun j => syB (M.1 T' 1) (M.1 (T' + 6) m) (M.1 (T' + 4) j) (M.1 33 j) m) me) me) (M.1 (T' + 7) m)) (m := m) (by
            show (mbB (M.1 32 2) (M.1 (T' + 9) m) m && geB (voF (M.1 (T' + 3)) (orF (fun j => syB (M.1 T' 1) (M.1 (T' + 6) m) (M.1 (T' + 4) j) (M.1 33 j) m) me) me) (M.1 (T' + 7) m)) = true
            rw [bi_1 hLfc, bi_1 hLfcfc]
            rfl)]
          rfl
  · show ∃ R, cm_Lc cm_ms 160 [.ref 0] M R ∧ ∀ v M', R v M' → _
    refine ⟨_, hl, ?_⟩
    rintro v M' ⟨hM, rfl⟩
    subst M'
    show (ev_cmp 0 (bi false) 0 = true → _) ∧ (ev_cmp 0 (bi false) 0 = false → _)
    refine ⟨fun hc => ?_, fun hc => ?_⟩
    · show (fun (S : cm_S) => ∃ m, m ≤ mo ∧ S = (17, [(0, .ref 0), (1, .int (orF (fun m => mbB (M.1 32 2) (M.1 (T' + 9) m) m && geB (voF (M.1 (T' + 3)) (orF (fun j => syB (M.1 T' 1) (M.1 (T' + 6) m) (M.1 (T' + 4) j) (M.1 33 j) m) me) me) (M.1 (T' + 7) m)) m)), (2, .int (Int32.ofNat m))], [], M)) (17, [(0, .ref 0), (1, .int 0), (2, .int 0)], [], M)
      refine ⟨0, by omega, ?_⟩
      rfl
    · exact absurd hc (by decide)
theorem m_ready_no {a : Bool} {me mo : Nat} {M : cm_M} (hx : MTX a me mo M) (ha : a = false) : cm_Lc cm_ms 227 [.ref 124] M (fun v _ => v = some (.int (-1))) := by
  refine lb_st0 (mi := mr_227) rfl 400 ?_
  show ∃ R, cm_Lc cm_ms 164 [.ref 124] M R ∧ ∀ v M', R v M' → _
  refine ⟨_, m_goodG M, ?_⟩
  rintro v M' ⟨rfl, rfl⟩
  have hg := MTX_gd hx
  show (ev_cmp 1 ((gdM M).1 124 14) 0 = true → _) ∧ (ev_cmp 1 ((gdM M).1 124 14) 0 = false → _)
  refine ⟨fun hc => ?_, fun hc => ?_⟩
  · have q := fn_ne hc
    rw [gd_n (by omega), hx.1, ha] at q
    exact absurd rfl q
  · show ∃ R, cm_Lc cm_ms 165 [.ref 124, .int 1] (gdM M) R ∧ ∀ v M', R v M' → _
    refine ⟨_, m_noG 1 (gdM M), ?_⟩
    rintro v Mz ⟨hG, rfl⟩
    exact rfl
set_option maxRecDepth 100000 in
theorem m_ready_k {a : Bool} {me mo : Nat} {M : cm_M} (hx : MTX a me mo M) (ha : a = true) : cm_Lc cm_ms 227 [.ref 124] M (fun v _ => v = some (.int (orF (fun m => mbB (M.1 129 9) (M.1 127 (50 + m)) m && geB (voF (fun j => M.1 127 (13 + 3 * j)) (orF (fun j => syB (M.1 127 1) (M.1 127 (29 + 3 * m)) (M.1 127 (44 + j)) (M.1 129 j) m) me) me) (M.1 127 (30 + 3 * m))) mo))) := by
  have hme6 := hx.2.2.2.2.2.1
  have hmo5 := hx.2.2.2.2.2.2
  have hg := MTX_gd hx
  have e127 : (gdM M).1 127 = M.1 127 := funext fun j => gd_n (by omega)
  have e129 : (gdM M).1 129 = M.1 129 := funext fun j => gd_n (by omega)
  have h3 : (gdM M).1 127 3 = Int32.ofNat me := by rw [e127]; exact (hx.2.2.1 ha).1
  have h4 : (gdM M).1 127 4 = Int32.ofNat mo := by rw [e127]; exact (hx.2.2.1 ha).2
  refine lb_of (mi := mr_227) rfl [(21, [0, 1, 2])] (fun S => ∃ m, m ≤ mo ∧ S = (21, [(0, .ref 124), (1, .int (orF (fun m => mbB (M.1 129 9) (M.1 127 (50 + m)) m && geB (voF (fun j => M.1 127 (13 + 3 * j)) (orF (fun j => syB (M.1 127 1) (M.1 127 (29 + 3 * m)) (M.1 127 (44 + j)) (M.1 129 j) m) me) me) (M.1 127 (30 + 3 * m))) m)), (2, .int (Int32.ofNat m))], [], (gdM M))) 400 (fun S hS => ?_) 400 ?_
  · obtain ⟨m, hm, rfl⟩ := hS
    first | refine lb_to (T := (23, [(0, .ref 124), (1, .int (orF (fun m => mbB (M.1 129 9) (M.1 127 (50 + m)) m && geB (voF (fun j => M.1 127 (13 + 3 * j)) (orF (fun j => syB (M.1 127 1) (M.1 127 (29 + 3 * m)) (M.1 127 (44 + j)) (M.1 129 j) m) me) me) (M.1 127 (30 + 3 * m))) m)), (2, .int (Int32.ofNat m))], [.ref 124, .int (Int32.ofNat m)], (gdM M))) 23 [0, 1, 2] rfl rfl rfl (fun J' h => h) (lb_g0 rfl rfl (by first | exact hx.2.1.1 | (rw [hnt.1]; exact hx.2.1.1) | (rw [hs.1, hnt.1]; exact hx.2.1.1)) ?_) | refine lb_to0 (T := (23, [(0, .ref 124), (1, .int (orF (fun m => mbB (M.1 129 9) (M.1 127 (50 + m)) m && geB (voF (fun j => M.1 127 (13 + 3 * j)) (orF (fun j => syB (M.1 127 1) (M.1 127 (29 + 3 * m)) (M.1 127 (44 + j)) (M.1 129 j) m) me) me) (M.1 127 (30 + 3 * m))) m)), (2, .int (Int32.ofNat m))], [.ref 124, .int (Int32.ofNat m)], (gdM M))) 23 [0, 1, 2] rfl rfl rfl (fun J' h => h) (lb_g0 rfl rfl (by first | exact hx.2.1.1 | (rw [hnt.1]; exact hx.2.1.1) | (rw [hs.1, hnt.1]; exact hx.2.1.1)) ?_)
    show (ev_cmp 3 (Int32.ofNat m) ((gdM M).1 127 4) = true → _) ∧ (ev_cmp 3 (Int32.ofNat m) ((gdM M).1 127 4) = false → _)
    refine ⟨fun hL => ?_, fun hL => ?_⟩
    · have g := fn_ge hL
      rw [h4, fn_toInt (by omega), fn_toInt (by omega)] at g
      have : m = mo := by omega
      subst this
      exact rfl
    · have gi := fn_nge hL
      rw [h4, fn_toInt (by omega), fn_toInt (by omega)] at gi
      have hb := m_mayBe (M := gdM M) (d := 129) (k := m) hx.2.1.1 (by omega)
      rw [e127, e129] at hb
      have he := m_enough (M := gdM M) (d := 129) (me := me) (k := m) hx.2.1.1 h3 hme6 (by omega)
      rw [e127, e129] at he
      first | refine lb_to (T := (34, [(0, .ref 124), (1, .int (orF (fun m => mbB (M.1 129 9) (M.1 127 (50 + m)) m && geB (voF (fun j => M.1 127 (13 + 3 * j)) (orF (fun j => syB (M.1 127 1) (M.1 127 (29 + 3 * m)) (M.1 127 (44 + j)) (M.1 129 j) m) me) me) (M.1 127 (30 + 3 * m))) m)), (2, .int (Int32.ofNat m))], [.ref 124, .ref 124, .int (orF (fun m => mbB (M.1 129 9) (M.1 127 (50 + m)) m && geB (voF (fun j => M.1 127 (13 + 3 * j)) (orF (fun j => syB (M.1 127 1) (M.1 127 (29 + 3 * m)) (M.1 127 (44 + j)) (M.1 129 j) m) me) me) (M.1 127 (30 + 3 * m))) m)], (gdM M))) 34 [0, 1, 2] rfl rfl rfl (fun J' h => h) (lb_g0 rfl rfl (by first | exact hx.2.1.2.1 | (rw [hnt.1]; exact hx.2.1.2.1) | (rw [hs.1, hnt.1]; exact hx.2.1.2.1)) ?_) | refine lb_to0 (T := (34, [(0, .ref 124), (1, .int (orF (fun m => mbB (M.1 129 9) (M.1 127 (50 + m)) m && geB (voF (fun j => M.1 127 (13 + 3 * j)) (orF (fun j => syB (M.1 127 1) (M.1 127 (29 + 3 * m)) (M.1 127 (44 + j)) (M.1 129 j) m) me) me) (M.1 127 (30 + 3 * m))) m)), (2, .int (Int32.ofNat m))], [.ref 124, .ref 124, .int (orF (fun m => mbB (M.1 129 9) (M.1 127 (50 + m)) m && geB (voF (fun j => M.1 127 (13 + 3 * j)) (orF (fun j => syB (M.1 127 1) (M.1 127 (29 + 3 * m)) (M.1 127 (44 + j)) (M.1 129 j) m) me) me) (M.1 127 (30 + 3 * m))) m)], (gdM M))) 34 [0, 1, 2] rfl rfl rfl (fun J' h => h) (lb_g0 rfl rfl (by first | exact hx.2.1.2.1 | (rw [hnt.1]; exact hx.2.1.2.1) | (rw [hs.1, hnt.1]; exact hx.2.1.2.1)) ?_)
      show ∃ R, cm_Lc cm_ms 216 [.ref 124, .ref 129, .int (Int32.ofNat m)] (gdM M) R ∧ ∀ v M', R v M' → _
      refine ⟨_, hb, ?_⟩
      rintro v M' ⟨hM, rfl⟩
      subst M'
      show (ev_cmp 0 (bi (mbB (M.1 129 9) (M.1 127 (50 + m)) m)) 0 = true → _) ∧ (ev_cmp 0 (bi (mbB (M.1 129 9) (M.1 127 (50 + m)) m)) 0 = false → _)
      refine ⟨fun hLfc => ?_, fun hLfc => ?_⟩
      · show (fun (S : cm_S) => ∃ m, m ≤ mo ∧ S = (21, [(0, .ref 124), (1, .int (orF (fun m => mbB (M.1 129 9) (M.1 127 (50 + m)) m && geB (voF (fun j => M.1 127 (13 + 3 * j)) (orF (fun j => syB (M.1 127 1) (M.1 127 (29 + 3 * m)) (M.1 127 (44 + j)) (M.1 129 j) m) me) me) (M.1 127 (30 + 3 * m))) m)), (2, .int (Int32.ofNat m))], [], (gdM M))) (21, [(0, .ref 124), (1, .int ((orF (fun m => mbB (M.1 129 9) (M.1 127 (50 + m)) m && geB (voF (fun j => M.1 127 (13 + 3 * j)) (orF (fun j => syB (M.1 127 1) (M.1 127 (29 + 3 * m)) (M.1 127 (44 + j)) (M.1 129 j) m) me) me) (M.1 127 (30 + 3 * m))) m) ||| 0)), (2, .int ((Int32.ofNat m) + 1))], [], (gdM M))
        refine ⟨m + 1, by omega, ?_⟩
        rw [ofn_s1, orF_f (p := fun m => mbB (M.1 129 9) (M.1 127 (50 + m)) m && geB (voF (fun j => M.1 127 (13 + 3 * j)) (orF (fun j => syB (M.1 127 1) (M.1 127 (29 + 3 * m)) (M.1 127 (44 + j)) (M.1 129 j) m) me) me) (M.1 127 (30 + 3 * m))) (m := m) (by
          show (mbB (M.1 129 9) (M.1 127 (50 + m)) m && geB (voF (fun j => M.1 127 (13 + 3 * j)) (orF (fun j => syB (M.1 127 1) (M.1 127 (29 + 3 * m)) (M.1 127 (44 + j)) (M.1 129 j) m) me) me) (M.1 127 (30 + 3 * m))) = false
          rw [bi_0 hLfc]
          rfl), Int32.or_zero]
      · first | refine lb_to (T := (46, [(0, .ref 124), (1, .int (orF (fun m => mbB (M.1 129 9) (M.1 127 (50 + m)) m && geB (voF (fun j => M.1 127 (13 + 3 * j)) (orF (fun j => syB (M.1 127 1) (M.1 127 (29 + 3 * m)) (M.1 127 (44 + j)) (M.1 129 j) m) me) me) (M.1 127 (30 + 3 * m))) m)), (2, .int (Int32.ofNat m))], [.ref 124, .ref 124, .int (orF (fun m => mbB (M.1 129 9) (M.1 127 (50 + m)) m && geB (voF (fun j => M.1 127 (13 + 3 * j)) (orF (fun j => syB (M.1 127 1) (M.1 127 (29 + 3 * m)) (M.1 127 (44 + j)) (M.1 129 j) m) me) me) (M.1 127 (30 + 3 * m))) m)], (gdM M))) 46 [0, 1, 2] rfl rfl rfl (fun J' h => h) (lb_g0 rfl rfl (by first | exact hx.2.1.2.1 | (rw [hnt.1]; exact hx.2.1.2.1) | (rw [hs.1, hnt.1]; exact hx.2.1.2.1)) ?_) | refine lb_to0 (T := (46, [(0, .ref 124), (1, .int (orF (fun m => mbB (M.1 129 9) (M.1 127 (50 + m)) m && geB (voF (fun j => M.1 127 (13 + 3 * j)) (orF (fun j => syB (M.1 127 1) (M.1 127 (29 + 3 * m)) (M.1 127 (44 + j)) (M.1 129 j) m) me) me) (M.1 127 (30 + 3 * m))) m)), (2, .int (Int32.ofNat m))], [.ref 124, .ref 124, .int (orF (fun m => mbB (M.1 129 9) (M.1 127 (50 + m)) m && geB (voF (fun j => M.1 127 (13 + 3 * j)) (orF (fun j => syB (M.1 127 1) (M.1 127 (29 + 3 * m)) (M.1 127 (44 + j)) (M.1 129 j) m) me) me) (M.1 127 (30 + 3 * m))) m)], (gdM M))) 46 [0, 1, 2] rfl rfl rfl (fun J' h => h) (lb_g0 rfl rfl (by first | exact hx.2.1.2.1 | (rw [hnt.1]; exact hx.2.1.2.1) | (rw [hs.1, hnt.1]; exact hx.2.1.2.1)) ?_)
        show ∃ R, cm_Lc cm_ms 215 [.ref 124, .ref 129, .int (Int32.ofNat m)] (gdM M) R ∧ ∀ v M', R v M' → _
        refine ⟨_, he, ?_⟩
        rintro v M' ⟨hM, rfl⟩
        subst M'
        show (ev_cmp 0 (bi (geB (voF (fun j => M.1 127 (13 + 3 * j)) (orF (fun j => syB (M.1 127 1) (M.1 127 (29 + 3 * m)) (M.1 127 (44 + j)) (M.1 129 j) m) me) me) (M.1 127 (30 + 3 * m)))) 0 = true → _) ∧ (ev_cmp 0 (bi (geB (voF (fun j => M.1 127 (13 + 3 * j)) (orF (fun j => syB (M.1 127 1) (M.1 127 (29 + 3 * m)) (M.1 127 (44 + j)) (M.1 129 j) m) me) me) (M.1 127 (30 + 3 * m)))) 0 = false → _)
        refine ⟨fun hLfcfc => ?_, fun hLfcfc => ?_⟩
        · show (fun (S : cm_S) => ∃ m, m ≤ mo ∧ S = (21, [(0, .ref 124), (1, .int (orF (fun m => mbB (M.1 129 9) (M.1 127 (50 + m)) m && geB (voF (fun j => M.1 127 (13 + 3 * j)) (orF (fun j => syB (M.1 127 1) (M.1 127 (29 + 3 * m)) (M.1 127 (44 + j)) (M.1 129 j) m) me) me) (M.1 127 (30 + 3 * m))) m)), (2, .int (Int32.ofNat m))], [], (gdM M))) (21, [(0, .ref 124), (1, .int ((orF (fun m => mbB (M.1 129 9) (M.1 127 (50 + m)) m && geB (voF (fun j => M.1 127 (13 + 3 * j)) (orF (fun j => syB (M.1 127 1) (M.1 127 (29 + 3 * m)) (M.1 127 (44 + j)) (M.1 129 j) m) me) me) (M.1 127 (30 + 3 * m))) m) ||| 0)), (2, .int ((Int32.ofNat m) + 1))], [], (gdM M))
          refine ⟨m + 1, by omega, ?_⟩
          rw [ofn_s1, orF_f (p := fun m => mbB (M.1 129 9) (M.1 127 (50 + m)) m && geB (voF (fun j => M.1 127 (13 + 3 * j)) (orF (fun j => syB (M.1 127 1) (M.1 127 (29 + 3 * m)) (M.1 127 (44 + j)) (M.1 129 j) m) me) me) (M.1 127 (30 + 3 * m))) (m := m) (by
            show (mbB (M.1 129 9) (M.1 127 (50 + m)) m && geB (voF (fun j => M.1 127 (13 + 3 * j)) (orF (fun j => syB (M.1 127 1) (M.1 127 (29 + 3 * m)) (M.1 127 (44 + j)) (M.1 129 j) m) me) me) (M.1 127 (30 + 3 * m))) = false
            rw [bi_0 hLfcfc]
            exact Bool.and_false _), Int32.or_zero]
        · show (fun (S : cm_S) => ∃ m, m ≤ mo ∧ S = (21, [(0, .ref 124), (1, .int (orF (fun m => mbB (M.1 129 9) (M.1 127 (50 + m)) m && geB (voF (fun j => M.1 127 (13 + 3 * j)) (orF (fun j => syB (M.1 127 1) (M.1 127 (29 + 3 * m)) (M.1 127 (44 + j)) (M.1 129 j) m) me) me) (M.1 127 (30 + 3 * m))) m)), (2, .int (Int32.ofNat m))], [], (gdM M))) (21, [(0, .ref 124), (1, .int ((orF (fun m => mbB (M.1 129 9) (M.1 127 (50 + m)) m && geB (voF (fun j => M.1 127 (13 + 3 * j)) (orF (fun j => syB (M.1 127 1) (M.1 127 (29 + 3 * m)) (M.1 127 (44 + j)) (M.1 129 j) m) me) me) (M.1 127 (30 + 3 * m))) m) ||| (1 <<< ((Int32.ofNat m) &&& 31)))), (2, .int ((Int32.ofNat m) + 1))], [], (gdM M))
          refine ⟨m + 1, by omega, ?_⟩
          rw [ofn_s1, orF_t (p := fun m => mbB (M.1 129 9) (M.1 127 (50 + m)) m && geB (voF (fun j => M.1 127 (13 + 3 * j)) (orF (fun j => syB (M.1 127 1) (M.1 127 (29 + 3 * m)) (M.1 127 (44 + j)) (M.1 129 j) m) me) me) (M.1 127 (30 + 3 * m))) (m := m) (by
            show (mbB (M.1 129 9) (M.1 127 (50 + m)) m && geB (voF (fun j => M.1 127 (13 + 3 * j)) (orF (fun j => syB (M.1 127 1) (M.1 127 (29 + 3 * m)) (M.1 127 (44 + j)) (M.1 129 j) m) me) me) (M.1 127 (30 + 3 * m))) = true
            rw [bi_1 hLfc, bi_1 hLfcfc]
            rfl)]
          rfl
  · show ∃ R, cm_Lc cm_ms 164 [.ref 124] M R ∧ ∀ v M', R v M' → _
    refine ⟨_, m_goodG M, ?_⟩
    rintro v M' ⟨rfl, rfl⟩
    show (ev_cmp 1 ((gdM M).1 124 14) 0 = true → _) ∧ (ev_cmp 1 ((gdM M).1 124 14) 0 = false → _)
    refine ⟨fun hc => ?_, fun hc => ?_⟩
    · show (fun (S : cm_S) => ∃ m, m ≤ mo ∧ S = (21, [(0, .ref 124), (1, .int (orF (fun m => mbB (M.1 129 9) (M.1 127 (50 + m)) m && geB (voF (fun j => M.1 127 (13 + 3 * j)) (orF (fun j => syB (M.1 127 1) (M.1 127 (29 + 3 * m)) (M.1 127 (44 + j)) (M.1 129 j) m) me) me) (M.1 127 (30 + 3 * m))) m)), (2, .int (Int32.ofNat m))], [], (gdM M))) (21, [(0, .ref 124), (1, .int 0), (2, .int 0)], [], (gdM M))
      refine ⟨0, by omega, ?_⟩
      rfl
    · have q := fn_eq hc
      rw [gd_n (by omega), hx.1, ha] at q
      exact absurd q (by decide)
