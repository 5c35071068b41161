noncomputable def drF (s : Int32) : Int32 := (75 * s + 74) - (75 * s + 74) / 65537 * 65537
noncomputable def h100 (d : Int32) : Int32 := d - d / 100 * 100
/-- behind the draws for so many men: hair, seed -/
noncomputable def svN (sv : Int32) (h : Nat → Int32) (sd : Int32) : Nat → (Nat → Int32) × Int32
  | 0 => (h, sd)
  | m + 1 => (fun j => if j = m ∧ bdB sv (h100 (drF (svN sv h sd m).2)) = true then 0 else (svN sv h sd m).1 j, drF (svN sv h sd m).2)
theorem svN_cg {sv sd : Int32} {h h' : Nat → Int32} {N : Nat} (e : ∀ j, j < N → h' j = h j) : ∀ m, (∀ j, j < N → (svN sv h' sd m).1 j = (svN sv h sd m).1 j) ∧ (svN sv h' sd m).2 = (svN sv h sd m).2
  | 0 => ⟨e, rfl⟩
  | m + 1 => by
    obtain ⟨a, b⟩ := svN_cg (sv := sv) (sd := sd) e m
    refine ⟨fun j hj => ?_, ?_⟩
    · show (if j = m ∧ bdB sv (h100 (drF (svN sv h' sd m).2)) = true then 0 else (svN sv h' sd m).1 j) = (if j = m ∧ bdB sv (h100 (drF (svN sv h sd m).2)) = true then 0 else (svN sv h sd m).1 j)
      rw [b, a j hj]
    · show drF (svN sv h' sd m).2 = drF (svN sv h sd m).2
      rw [b]
/-- behind so many weeks of them: the class, the reference -/
noncomputable def ssN (gr sv : Int32) (me : Nat) (h : Nat → Int32) (sd : Int32) : Nat → (Nat → Int32) × Int32
  | 0 => (h, sd)
  | n + 1 => svN sv (wkH gr (ssN gr sv me h sd n).1 me) (ssN gr sv me h sd n).2 me
noncomputable def ssR (gr sv : Int32) (me : Nat) (r : Nat → Int32) (sd : Int32) : Nat → (Nat → Int32) × Int32
  | 0 => (r, sd)
  | n + 1 => svN sv (wkR gr me (ssR gr sv me r sd n).1) (ssR gr sv me r sd n).2 me
theorem ss_eq {gr sv : Int32} {me : Nat} {h r : Nat → Int32} {sd : Int32} (hme : me ≤ 6) (e : ∀ j, j < me → r j = h j) : ∀ n, (∀ j, j < me → (ssR gr sv me r sd n).1 j = (ssN gr sv me h sd n).1 j) ∧ (ssR gr sv me r sd n).2 = (ssN gr sv me h sd n).2
  | 0 => ⟨e, rfl⟩
  | n + 1 => by
    obtain ⟨a, b⟩ := ss_eq (gr := gr) (sv := sv) (sd := sd) hme e n
    show (∀ j, j < me → (svN sv (wkR gr me (ssR gr sv me r sd n).1) (ssR gr sv me r sd n).2 me).1 j = (svN sv (wkH gr (ssN gr sv me h sd n).1 me) (ssN gr sv me h sd n).2 me).1 j) ∧ (svN sv (wkR gr me (ssR gr sv me r sd n).1) (ssR gr sv me r sd n).2 me).2 = (svN sv (wkH gr (ssN gr sv me h sd n).1 me) (ssN gr sv me h sd n).2 me).2
    rw [b]
    refine svN_cg (fun j hj => ?_) me
    unfold wkR
    rw [if_neg (by omega)]
    unfold wkH
    rw [a j hj]
/-- the class, behind the draws of so many men -/
noncomputable def shC (T' me : Nat) (M M1 : cm_M) (m : Nat) : Prop := M1.2 = M.2 ∧ (∀ d j, d ≠ 35 → d ≠ 36 → d ≠ 37 → ¬ (d = 123 ∧ j = 2) → M1.1 d j = M.1 d j) ∧ (∀ j, j < 6 → M1.1 36 j = (svN (M.1 T' 2) (wkH (M.1 T' 0) (M.1 36) me) (M.1 123 2) m).1 j) ∧ M1.1 123 2 = (svN (M.1 T' 2) (wkH (M.1 T' 0) (M.1 36) me) (M.1 123 2) m).2
theorem shC_0 {T' me : Nat} {M M1 : cm_M} {F : Nat → Int32} {ca we : Int32} (h : mset 35 M M1 (wkH (M.1 T' 0) (M.1 (35 + 1)) me) F ca we) : shC T' me M M1 0 := ⟨h.1, fun d j a b c _ => h.2.1 d j a b c, fun j hj => h.2.2.1 j hj, h.2.1 123 2 (by decide) (by decide) (by decide)⟩
theorem shC_n {T' me m : Nat} {M M1 : cm_M} {x : Int32} (h : shC T' me M M1 m) (hx : x = drF (M1.1 123 2)) (hb : bdB (M.1 T' 2) (h100 x) = false) : shC T' me M (cm_wi M1 123 2 x) (m + 1) := by
  obtain ⟨a1, a2, a3, a4⟩ := h
  rw [a4] at hx
  refine ⟨a1, fun d j b1 b2 b3 b4 => ?_, fun j hj => ?_, ?_⟩
  · rw [wi_n2 b4]
    exact a2 d j b1 b2 b3 b4
  · rw [wi_n2 (by omega), a3 j hj]
    show _ = (if j = m ∧ bdB (M.1 T' 2) (h100 (drF (svN (M.1 T' 2) (wkH (M.1 T' 0) (M.1 36) me) (M.1 123 2) m).2)) = true then 0 else (svN (M.1 T' 2) (wkH (M.1 T' 0) (M.1 36) me) (M.1 123 2) m).1 j)
    rw [← hx, hb, if_neg (fun q => absurd q.2 (by decide))]
  · rw [wi_at]
    exact hx
theorem shC_y {T' me m : Nat} {M M1 : cm_M} {x : Int32} (h : shC T' me M M1 m) (hx : x = drF (M1.1 123 2)) (hb : bdB (M.1 T' 2) (h100 x) = true) : shC T' me M (cm_wi (cm_wi M1 123 2 x) 36 m 0) (m + 1) := by
  obtain ⟨a1, a2, a3, a4⟩ := h
  rw [a4] at hx
  refine ⟨a1, fun d j b1 b2 b3 b4 => ?_, fun j hj => ?_, ?_⟩
  · rw [wi_n2 (by omega), wi_n2 b4]
    exact a2 d j b1 b2 b3 b4
  · show _ = (if j = m ∧ bdB (M.1 T' 2) (h100 (drF (svN (M.1 T' 2) (wkH (M.1 T' 0) (M.1 36) me) (M.1 123 2) m).2)) = true then 0 else (svN (M.1 T' 2) (wkH (M.1 T' 0) (M.1 36) me) (M.1 123 2) m).1 j)
    rw [← hx, hb]
    by_cases e : j = m
    · subst e
      rw [wi_at, if_pos ⟨rfl, rfl⟩]
    · rw [wi_n2 (by omega), wi_n2 (by omega), a3 j hj, if_neg (fun q => e q.1)]
  · rw [wi_n2 (by omega), wi_at]
    exact hx
/-- .. behind so many weeks -/
noncomputable def weC (T' me : Nat) (M0 M1 : cm_M) (sd : Int32) (w : Nat) : Prop := M1.2 = M0.2 ∧ (∀ d j, d ≠ 35 → d ≠ 36 → d ≠ 37 → ¬ (d = 123 ∧ j = 2) → M1.1 d j = M0.1 d j) ∧ (∀ j, j < 6 → M1.1 36 j = (ssN (M0.1 T' 0) (M0.1 T' 2) me (M0.1 33) sd w).1 j) ∧ M1.1 123 2 = (ssN (M0.1 T' 0) (M0.1 T' 2) me (M0.1 33) sd w).2
theorem weC_s {T' me w : Nat} {M0 M1 M2 : cm_M} {sd : Int32} (hT : T' ≤ 19) (h : weC T' me M0 M1 sd w) (g : shC T' me M1 M2 me) : weC T' me M0 M2 sd (w + 1) := by
  obtain ⟨a1, a2, a3, a4⟩ := h
  obtain ⟨b1, b2, b3, b4⟩ := g
  have e0 : M1.1 T' 0 = M0.1 T' 0 := a2 T' 0 (by omega) (by omega) (by omega) (by omega)
  have e2 : M1.1 T' 2 = M0.1 T' 2 := a2 T' 2 (by omega) (by omega) (by omega) (by omega)
  rw [e0, e2, a4] at b3 b4
  have k := svN_cg (sv := M0.1 T' 2) (sd := (ssN (M0.1 T' 0) (M0.1 T' 2) me (M0.1 33) sd w).2) (h := wkH (M0.1 T' 0) (ssN (M0.1 T' 0) (M0.1 T' 2) me (M0.1 33) sd w).1 me) (h' := wkH (M0.1 T' 0) (M1.1 36) me) (N := 6) (fun j hj => by
    unfold wkH
    rw [a3 j hj]) me
  exact ⟨b1.trans a1, fun d j c1 c2 c3 c4 => (b2 d j c1 c2 c3 c4).trans (a2 d j c1 c2 c3 c4), fun j hj => (b3 j hj).trans (k.1 j hj), b4.trans k.2⟩
set_option maxRecDepth 100000 in
theorem c_passShav {M : cm_M} {T' me : Nat} (r36 : M.2.2 35 0 = some 36) (hT19 : T' ≤ 19) (h3 : M.1 T' 3 = Int32.ofNat me) (hme : me ≤ 6) : cm_Lc cm_ms 63 [.ref 123, .ref T', .ref 35] M (fun v M' => v = none ∧ shC T' me M M' me) := by
  refine lb_of (mi := mr_63) rfl [(7, [0, 1, 2, 3])] (fun S => ∃ m M1, m ≤ me ∧ shC T' me M M1 m ∧ S = (7, [(0, .ref 123), (1, .ref T'), (2, .ref 35), (3, .int (Int32.ofNat m))], [], M1)) 400 (fun S hS => ?_) 400 ?_
  · obtain ⟨m, M1, hm, hs, rfl⟩ := hS
    have r36 : M1.2.2 35 0 = some 36 := by rw [hs.1]; exact r36
    have k3 : M1.1 T' 3 = Int32.ofNat me := (hs.2.1 T' 3 (by omega) (by omega) (by omega) (by omega)).trans h3
    have k2 : ∀ x, (cm_wi M1 123 2 x).1 T' 2 = M.1 T' 2 := fun x => (wi_n2 (by omega)).trans (hs.2.1 T' 2 (by omega) (by omega) (by omega) (by omega))
    show (ev_cmp 3 (Int32.ofNat m) (M1.1 T' 3) = true → _) ∧ (ev_cmp 3 (Int32.ofNat m) (M1.1 T' 3) = false → _)
    refine ⟨fun hL => ?_, fun hL => ?_⟩
    · have g := fn_ge hL
      rw [k3, fn_toInt (by omega), fn_toInt (by omega)] at g
      have : m = me := by omega
      subst this
      exact ⟨rfl, hs⟩
    · have g := fn_nge hL
      rw [k3, fn_toInt (by omega), fn_toInt (by omega)] at g
      show (ev_cmp 3 ((((75 * (M1.1 123 2)) + 74) - ((75 * (M1.1 123 2)) + 74) / 65537 * 65537) - (((75 * (M1.1 123 2)) + 74) - ((75 * (M1.1 123 2)) + 74) / 65537 * 65537) / 100 * 100) ((cm_wi M1 123 2 (((75 * (M1.1 123 2)) + 74) - ((75 * (M1.1 123 2)) + 74) / 65537 * 65537)).1 T' 2) = true → _) ∧ (ev_cmp 3 ((((75 * (M1.1 123 2)) + 74) - ((75 * (M1.1 123 2)) + 74) / 65537 * 65537) - (((75 * (M1.1 123 2)) + 74) - ((75 * (M1.1 123 2)) + 74) / 65537 * 65537) / 100 * 100) ((cm_wi M1 123 2 (((75 * (M1.1 123 2)) + 74) - ((75 * (M1.1 123 2)) + 74) / 65537 * 65537)).1 T' 2) = false → _)
      refine ⟨fun hLf => ?_, fun hLf => ?_⟩
      · show (fun (S : cm_S) => ∃ m M1, m ≤ me ∧ shC T' me M M1 m ∧ S = (7, [(0, .ref 123), (1, .ref T'), (2, .ref 35), (3, .int (Int32.ofNat m))], [], M1)) (7, [(0, .ref 123), (1, .ref T'), (2, .ref 35), (3, .int ((Int32.ofNat m) + 1))], [], cm_wi M1 123 2 (((75 * (M1.1 123 2)) + 74) - ((75 * (M1.1 123 2)) + 74) / 65537 * 65537))
        have q := fn_ge hLf
        rw [k2] at q
        exact ⟨m + 1, _, by omega, shC_n hs rfl (bd_0 q), by rw [ofn_s1]; try rfl⟩
      · first | refine lb_to (T := (47, [(0, .ref 123), (1, .ref T'), (2, .ref 35), (3, .int (Int32.ofNat m))], [.ref 35], cm_wi M1 123 2 (((75 * (M1.1 123 2)) + 74) - ((75 * (M1.1 123 2)) + 74) / 65537 * 65537))) 47 [0, 1, 2, 3] rfl rfl rfl (fun J' h => h) (lb_g0 rfl rfl r36 ?_) | refine lb_to0 (T := (47, [(0, .ref 123), (1, .ref T'), (2, .ref 35), (3, .int (Int32.ofNat m))], [.ref 35], cm_wi M1 123 2 (((75 * (M1.1 123 2)) + 74) - ((75 * (M1.1 123 2)) + 74) / 65537 * 65537))) 47 [0, 1, 2, 3] rfl rfl rfl (fun J' h => h) (lb_g0 rfl rfl r36 ?_)
        show (fun (S : cm_S) => ∃ m M1, m ≤ me ∧ shC T' me M M1 m ∧ S = (7, [(0, .ref 123), (1, .ref T'), (2, .ref 35), (3, .int (Int32.ofNat m))], [], M1)) (7, [(0, .ref 123), (1, .ref T'), (2, .ref 35), (3, .int ((Int32.ofNat m) + 1))], [], cm_wi (cm_wi M1 123 2 (((75 * (M1.1 123 2)) + 74) - ((75 * (M1.1 123 2)) + 74) / 65537 * 65537)) 36 ((Int32.ofNat m).toNatClampNeg) 0)
        have q := fn_nge hLf
        rw [k2] at q
        exact ⟨m + 1, _, by omega, shC_y hs rfl (bd_1 q), by rw [ofn_s1, fn_nat (show m < 2147483648 by omega)]; try rfl⟩
  · show ∃ R, cm_Lc cm_ms 24 [.ref 35, .ref T'] M R ∧ ∀ v M', R v M' → _
    refine ⟨_, c_week (M := M) (c := 35) (T' := T') (me := me) r36 (by omega) hT19 h3 hme, ?_⟩
    rintro v Mb ⟨rfl, hw⟩
    show (fun (S : cm_S) => ∃ m M1, m ≤ me ∧ shC T' me M M1 m ∧ S = (7, [(0, .ref 123), (1, .ref T'), (2, .ref 35), (3, .int (Int32.ofNat m))], [], M1)) (7, [(0, .ref 123), (1, .ref T'), (2, .ref 35), (3, .int 0)], [], Mb)
    exact ⟨0, Mb, Nat.zero_le _, shC_0 hw, rfl⟩
noncomputable def dwB (s n : Int32) : Bool := inB s 0 65536 && inB n 0 60
theorem inB_1 {v b : Int32} (h0 : 0 ≤ v.toInt) (h1 : v.toInt ≤ b.toInt) : inB v 0 b = true := by
  unfold inB
  rw [show (0 : Int32).toInt = 0 by decide, decide_eq_true h0, decide_eq_true h1]
  try rfl
theorem inB_0 {v b : Int32} (h : v.toInt < 0 ∨ b.toInt < v.toInt) : inB v 0 b = false := by
  unfold inB
  rw [show (0 : Int32).toInt = 0 by decide, Bool.and_eq_false_iff, decide_eq_false_iff_not, decide_eq_false_iff_not]
  omega
theorem c_lacksDraws {M : cm_M} (s n : Int32) : cm_Lc cm_ms 148 [.ref 0, .int s, .int n] M (fun v M' => M' = M ∧ v = some (.int (bi (!dwB s n)))) := by
  have z0 : (0 : Int32).toInt = 0 := by decide
  have z60 : (60 : Int32).toInt = 60 := by decide
  have z5 : (65537 : Int32).toInt = 65537 := by decide
  have z6 : (65536 : Int32).toInt = 65536 := by decide
  refine lb_st0 (mi := mr_148) rfl 400 ?_
  show (ev_cmp 2 s 0 = true → _) ∧ (ev_cmp 2 s 0 = false → _)
  refine ⟨fun h => ?_, fun h => ?_⟩
  · have q := fn_lt h
    rw [z0] at q
    refine ⟨rfl, ?_⟩
    unfold dwB
    rw [inB_0 (Or.inl q)]
    try rfl
  · have q := fn_nlt h
    rw [z0] at q
    show (ev_cmp 3 s 65537 = true → _) ∧ (ev_cmp 3 s 65537 = false → _)
    refine ⟨fun hf => ?_, fun hf => ?_⟩
    · have q2 := fn_ge hf
      rw [z5] at q2
      refine ⟨rfl, ?_⟩
      unfold dwB
      rw [inB_0 (Or.inr (by rw [z6]; omega))]
      try rfl
    · have q2 := fn_nge hf
      rw [z5] at q2
      show (ev_cmp 2 n 0 = true → _) ∧ (ev_cmp 2 n 0 = false → _)
      refine ⟨fun hff => ?_, fun hff => ?_⟩
      · have q3 := fn_lt hff
        rw [z0] at q3
        refine ⟨rfl, ?_⟩
        unfold dwB
        rw [inB_0 (v := n) (Or.inl q3), Bool.and_false]
        try rfl
      · have q3 := fn_nlt hff
        rw [z0] at q3
        show (ev_cmp 5 n 60 = true → _) ∧ (ev_cmp 5 n 60 = false → _)
        refine ⟨fun hfff => ?_, fun hfff => ?_⟩
        · have q4 := fn_le hfff
          refine ⟨rfl, ?_⟩
          unfold dwB
          rw [inB_1 q (by rw [z6]; omega), inB_1 q3 q4]
          try rfl
        · have q4 := fn_nle hfff
          refine ⟨rfl, ?_⟩
          unfold dwB
          rw [inB_0 (v := n) (Or.inr q4), Bool.and_false]
          try rfl
theorem c_shaves_out {M : cm_M} {T' me mo : Nat} (hx : CTX T' me mo M) (x s y : Int32) (ho : outB x (Int32.ofNat me) = true) : cm_Lc cm_ms 146 [.ref 0, .int x, .int s, .int y] M (fun v _ => v = some (.int (-1))) := by
  have hl := c_lacksMan hx.2.1.1 x
  rw [hx.2.2.2.2.1.1, ho] at hl
  refine lb_st0 (mi := mr_146) rfl 400 ?_
  show ∃ R, cm_Lc cm_ms 161 [.ref 0, .int x] M R ∧ ∀ v M', R v M' → _
  refine ⟨_, hl, ?_⟩
  rintro v M' ⟨hM, rfl⟩
  subst M'
  show (ev_cmp 0 (bi true) 0 = true → _) ∧ (ev_cmp 0 (bi true) 0 = false → _)
  refine ⟨fun hc => ?_, fun hc => ?_⟩
  · exact absurd hc (by decide)
  · show ∃ R, cm_Lc cm_ms 157 [.ref 0, .int 1] M R ∧ ∀ v M', R v M' → _
    refine ⟨_, c_refused 1 M, ?_⟩
    rintro v M' ⟨hM, rfl⟩
    subst M'
    exact rfl
theorem c_shaves_bad {M : cm_M} {T' me mo : Nat} (hx : CTX T' me mo M) {k : Nat} (hk : k < me) (s y : Int32) (hy : dwB s y = false) : cm_Lc cm_ms 146 [.ref 0, .int (Int32.ofNat k), .int s, .int y] M (fun v _ => v = some (.int (-1))) := by
  have hme6 := hx.2.2.2.2.2.1
  have hl := c_lacksMan hx.2.1.1 (Int32.ofNat k)
  rw [hx.2.2.2.2.1.1, outB_lt hk (by omega)] at hl
  refine lb_st0 (mi := mr_146) rfl 400 ?_
  show ∃ R, cm_Lc cm_ms 161 [.ref 0, .int (Int32.ofNat k)] M R ∧ ∀ v M', R v M' → _
  refine ⟨_, hl, ?_⟩
  rintro v M' ⟨hM, rfl⟩
  subst M'
  show (ev_cmp 0 (bi false) 0 = true → _) ∧ (ev_cmp 0 (bi false) 0 = false → _)
  refine ⟨fun hc => ?_, fun hc => ?_⟩
  · show ∃ R, cm_Lc cm_ms 148 [.ref 0, .int s, .int y] M R ∧ ∀ v M', R v M' → _
    have hn := c_lacksDraws (M := M) s y
    rw [hy, Bool.not_false] at hn
    refine ⟨_, hn, ?_⟩
    rintro v M' ⟨hM, rfl⟩
    subst M'
    show (ev_cmp 0 (bi true) 0 = true → _) ∧ (ev_cmp 0 (bi true) 0 = false → _)
    refine ⟨fun hctc => ?_, fun hctc => ?_⟩
    · exact absurd hctc (by decide)
    · show ∃ R, cm_Lc cm_ms 157 [.ref 0, .int 2] M R ∧ ∀ v M', R v M' → _
      refine ⟨_, c_refused 2 M, ?_⟩
      rintro v M' ⟨hM, rfl⟩
      subst M'
      exact rfl
  · exact absurd hc (by decide)
set_option maxRecDepth 100000 in
theorem c_shaves_k {M : cm_M} {T' me mo : Nat} (hx : CTX T' me mo M) (ht : TRX M) (h11 : M.2.2 0 11 = some 123) {k n : Nat} (hk : k < me) (s : Int32) (hn60 : n ≤ 60) (hy : dwB s (Int32.ofNat n) = true) : cm_Lc cm_ms 146 [.ref 0, .int (Int32.ofNat k), .int s, .int (Int32.ofNat n)] M (fun v _ => v = some (.int ((ssN (M.1 T' 0) (M.1 T' 2) me (M.1 33) s n).1 k))) := by
  have hT19 : T' ≤ 19 := by have := hx.1; omega
  have hme6 := hx.2.2.2.2.2.1
  have hl := c_lacksMan hx.2.1.1 (Int32.ofNat k)
  rw [hx.2.2.2.2.1.1, outB_lt hk (by omega)] at hl
  have r3 : M.2.2 0 3 = some T' := hx.2.1.1
  have r5 : M.2.2 0 5 = some 32 := hx.2.1.2.1
  have r6 : M.2.2 0 6 = some 35 := ht.1
  have r11 : M.2.2 0 11 = some 123 := h11
  have r33 : M.2.2 32 0 = some 33 := hx.2.2.1.2.2.1.1
  have r36 : M.2.2 35 0 = some 36 := ht.2.1
  have r37 : M.2.2 35 1 = some 37 := ht.2.2
  refine lb_of (mi := mr_146) rfl [(51, [0, 1, 2, 3, 4])] (fun S => ∃ w M1, w ≤ n ∧ weC T' me M M1 s w ∧ S = (51, [(0, .ref 0), (1, .int (Int32.ofNat k)), (2, .int s), (3, .int (Int32.ofNat n)), (4, .int (Int32.ofNat w))], [], M1)) 400 (fun S hS => ?_) 400 ?_
  · obtain ⟨w, M1, hw, hs, rfl⟩ := hS
    have r3 : M1.2.2 0 3 = some T' := by rw [hs.1]; exact hx.2.1.1
    have r5 : M1.2.2 0 5 = some 32 := by rw [hs.1]; exact hx.2.1.2.1
    have r6 : M1.2.2 0 6 = some 35 := by rw [hs.1]; exact ht.1
    have r11 : M1.2.2 0 11 = some 123 := by rw [hs.1]; exact h11
    have r33 : M1.2.2 32 0 = some 33 := by rw [hs.1]; exact hx.2.2.1.2.2.1.1
    have r36 : M1.2.2 35 0 = some 36 := by rw [hs.1]; exact ht.2.1
    have r37 : M1.2.2 35 1 = some 37 := by rw [hs.1]; exact ht.2.2
    have k3 : M1.1 T' 3 = Int32.ofNat me := (hs.2.1 T' 3 (by omega) (by omega) (by omega) (by omega)).trans hx.2.2.2.2.1.1
    show (ev_cmp 3 (Int32.ofNat w) (Int32.ofNat n) = true → _) ∧ (ev_cmp 3 (Int32.ofNat w) (Int32.ofNat n) = false → _)
    refine ⟨fun hL => ?_, fun hL => ?_⟩
    · have g := fn_ge hL
      rw [fn_toInt (by omega), fn_toInt (by omega)] at g
      have : w = n := by omega
      rw [this] at hs
      first | refine lb_to (T := (80, [(0, .ref 0), (1, .int (Int32.ofNat k)), (2, .int s), (3, .int (Int32.ofNat n)), (4, .int (Int32.ofNat w))], [.ref 0, .ref 0], M1)) 80 [0, 1, 2, 3, 4] rfl rfl rfl (fun J' h => h) (lb_g0 rfl rfl r6 ?_) | refine lb_to0 (T := (80, [(0, .ref 0), (1, .int (Int32.ofNat k)), (2, .int s), (3, .int (Int32.ofNat n)), (4, .int (Int32.ofNat w))], [.ref 0, .ref 0], M1)) 80 [0, 1, 2, 3, 4] rfl rfl rfl (fun J' h => h) (lb_g0 rfl rfl r6 ?_)
      first | refine lb_to (T := (83, [(0, .ref 0), (1, .int (Int32.ofNat k)), (2, .int s), (3, .int (Int32.ofNat n)), (4, .int (Int32.ofNat w))], [.ref 35, .ref 0], M1)) 83 [0, 1, 2, 3, 4] rfl rfl rfl (fun J' h => h) (lb_g0 rfl rfl r36 ?_) | refine lb_to0 (T := (83, [(0, .ref 0), (1, .int (Int32.ofNat k)), (2, .int s), (3, .int (Int32.ofNat n)), (4, .int (Int32.ofNat w))], [.ref 35, .ref 0], M1)) 83 [0, 1, 2, 3, 4] rfl rfl rfl (fun J' h => h) (lb_g0 rfl rfl r36 ?_)
      show ∃ R, cm_Lc cm_ms 159 [.ref 0, .int (M1.1 36 ((Int32.ofNat k).toNatClampNeg))] M1 R ∧ ∀ v M', R v M' → _
      refine ⟨_, c_granted _ _, ?_⟩
      rintro v Mc ⟨hG, rfl⟩
      show some (Value.int (M1.1 36 (Int32.ofNat k).toNatClampNeg)) = _
      rw [fn_nat (show k < 2147483648 by omega)]
      exact congrArg (fun b => some (Value.int b)) (hs.2.2.1 k (by omega))
    · have g := fn_nge hL
      rw [fn_toInt (by omega), fn_toInt (by omega)] at g
      first | refine lb_to (T := (58, [(0, .ref 0), (1, .int (Int32.ofNat k)), (2, .int s), (3, .int (Int32.ofNat n)), (4, .int (Int32.ofNat w))], [.ref 0], M1)) 58 [0, 1, 2, 3, 4] rfl rfl rfl (fun J' h => h) (lb_g0 rfl rfl r11 ?_) | refine lb_to0 (T := (58, [(0, .ref 0), (1, .int (Int32.ofNat k)), (2, .int s), (3, .int (Int32.ofNat n)), (4, .int (Int32.ofNat w))], [.ref 0], M1)) 58 [0, 1, 2, 3, 4] rfl rfl rfl (fun J' h => h) (lb_g0 rfl rfl r11 ?_)
      first | refine lb_to (T := (62, [(0, .ref 0), (1, .int (Int32.ofNat k)), (2, .int s), (3, .int (Int32.ofNat n)), (4, .int (Int32.ofNat w))], [.ref 0, .ref 123], M1)) 62 [0, 1, 2, 3, 4] rfl rfl rfl (fun J' h => h) (lb_g0 rfl rfl r3 ?_) | refine lb_to0 (T := (62, [(0, .ref 0), (1, .int (Int32.ofNat k)), (2, .int s), (3, .int (Int32.ofNat n)), (4, .int (Int32.ofNat w))], [.ref 0, .ref 123], M1)) 62 [0, 1, 2, 3, 4] rfl rfl rfl (fun J' h => h) (lb_g0 rfl rfl r3 ?_)
      first | refine lb_to (T := (66, [(0, .ref 0), (1, .int (Int32.ofNat k)), (2, .int s), (3, .int (Int32.ofNat n)), (4, .int (Int32.ofNat w))], [.ref 0, .ref T', .ref 123], M1)) 66 [0, 1, 2, 3, 4] rfl rfl rfl (fun J' h => h) (lb_g0 rfl rfl r6 ?_) | refine lb_to0 (T := (66, [(0, .ref 0), (1, .int (Int32.ofNat k)), (2, .int s), (3, .int (Int32.ofNat n)), (4, .int (Int32.ofNat w))], [.ref 0, .ref T', .ref 123], M1)) 66 [0, 1, 2, 3, 4] rfl rfl rfl (fun J' h => h) (lb_g0 rfl rfl r6 ?_)
      show ∃ R, cm_Lc cm_ms 63 [.ref 123, .ref T', .ref 35] M1 R ∧ ∀ v M', R v M' → _
      refine ⟨_, c_passShav (M := M1) (T' := T') (me := me) r36 hT19 k3 hme6, ?_⟩
      rintro v Mb ⟨rfl, hs2⟩
      show (fun (S : cm_S) => ∃ w M1, w ≤ n ∧ weC T' me M M1 s w ∧ S = (51, [(0, .ref 0), (1, .int (Int32.ofNat k)), (2, .int s), (3, .int (Int32.ofNat n)), (4, .int (Int32.ofNat w))], [], M1)) (51, [(0, .ref 0), (1, .int (Int32.ofNat k)), (2, .int s), (3, .int (Int32.ofNat n)), (4, .int ((Int32.ofNat w) + 1))], [], Mb)
      exact ⟨w + 1, Mb, by omega, weC_s hT19 hs hs2, by rw [ofn_s1]⟩
  · show ∃ R, cm_Lc cm_ms 161 [.ref 0, .int (Int32.ofNat k)] M R ∧ ∀ v M', R v M' → _
    refine ⟨_, hl, ?_⟩
    rintro v M' ⟨hM, rfl⟩
    subst M'
    show (ev_cmp 0 (bi false) 0 = true → _) ∧ (ev_cmp 0 (bi false) 0 = false → _)
    refine ⟨fun hc => ?_, fun hc => ?_⟩
    · show ∃ R, cm_Lc cm_ms 148 [.ref 0, .int s, .int (Int32.ofNat n)] M R ∧ ∀ v M', R v M' → _
      have hn := c_lacksDraws (M := M) s (Int32.ofNat n)
      rw [hy, Bool.not_true] at hn
      refine ⟨_, hn, ?_⟩
      rintro v M' ⟨hM, rfl⟩
      subst M'
      show (ev_cmp 0 (bi false) 0 = true → _) ∧ (ev_cmp 0 (bi false) 0 = false → _)
      refine ⟨fun hctc => ?_, fun hctc => ?_⟩
      · first | refine lb_to (T := (30, [(0, .ref 0), (1, .int (Int32.ofNat k)), (2, .int s), (3, .int (Int32.ofNat n))], [.ref 0], M)) 30 [0, 1, 2, 3] rfl rfl rfl (fun J' h => h) (lb_g0 rfl rfl r6 ?_) | refine lb_to0 (T := (30, [(0, .ref 0), (1, .int (Int32.ofNat k)), (2, .int s), (3, .int (Int32.ofNat n))], [.ref 0], M)) 30 [0, 1, 2, 3] rfl rfl rfl (fun J' h => h) (lb_g0 rfl rfl r6 ?_)
        first | refine lb_to (T := (34, [(0, .ref 0), (1, .int (Int32.ofNat k)), (2, .int s), (3, .int (Int32.ofNat n))], [.ref 0, .ref 35], M)) 34 [0, 1, 2, 3] rfl rfl rfl (fun J' h => h) (lb_g0 rfl rfl r5 ?_) | refine lb_to0 (T := (34, [(0, .ref 0), (1, .int (Int32.ofNat k)), (2, .int s), (3, .int (Int32.ofNat n))], [.ref 0, .ref 35], M)) 34 [0, 1, 2, 3] rfl rfl rfl (fun J' h => h) (lb_g0 rfl rfl r5 ?_)
        show ∃ R, cm_Lc cm_ms 23 [.ref 35, .ref 32] M R ∧ ∀ v M', R v M' → _
        refine ⟨_, c_copy (c := 35) (d := 32) r36 r37 r33 hx.2.2.1.2.2.1.2 (by omega), ?_⟩
        rintro v Mb ⟨rfl, hs⟩
        have r3 : Mb.2.2 0 3 = some T' := by rw [hs.1]; exact hx.2.1.1
        have r5 : Mb.2.2 0 5 = some 32 := by rw [hs.1]; exact hx.2.1.2.1
        have r6 : Mb.2.2 0 6 = some 35 := by rw [hs.1]; exact ht.1
        have r11 : Mb.2.2 0 11 = some 123 := by rw [hs.1]; exact h11
        have r33 : Mb.2.2 32 0 = some 33 := by rw [hs.1]; exact hx.2.2.1.2.2.1.1
        have r36 : Mb.2.2 35 0 = some 36 := by rw [hs.1]; exact ht.2.1
        have r37 : Mb.2.2 35 1 = some 37 := by rw [hs.1]; exact ht.2.2
        first | refine lb_to (T := (41, [(0, .ref 0), (1, .int (Int32.ofNat k)), (2, .int s), (3, .int (Int32.ofNat n))], [.ref 0], Mb)) 41 [0, 1, 2, 3] rfl rfl rfl (fun J' h => h) (lb_g0 rfl rfl r11 ?_) | refine lb_to0 (T := (41, [(0, .ref 0), (1, .int (Int32.ofNat k)), (2, .int s), (3, .int (Int32.ofNat n))], [.ref 0], Mb)) 41 [0, 1, 2, 3] rfl rfl rfl (fun J' h => h) (lb_g0 rfl rfl r11 ?_)
        show (fun (S : cm_S) => ∃ w M1, w ≤ n ∧ weC T' me M M1 s w ∧ S = (51, [(0, .ref 0), (1, .int (Int32.ofNat k)), (2, .int s), (3, .int (Int32.ofNat n)), (4, .int (Int32.ofNat w))], [], M1)) (51, [(0, .ref 0), (1, .int (Int32.ofNat k)), (2, .int s), (3, .int (Int32.ofNat n)), (4, .int 0)], [], cm_wi Mb 123 2 s)
        refine ⟨0, cm_wi Mb 123 2 s, Nat.zero_le _, ⟨hs.1, fun d j a b c e => ?_, fun j hj => ?_, ?_⟩, rfl⟩
        · show (cm_wi Mb 123 2 s).1 d j = _
          rw [wi_n2 e]
          exact hs.2.1 d j a b c
        · show (cm_wi Mb 123 2 s).1 36 j = _
          rw [wi_n2 (by omega)]
          exact hs.2.2.1 j hj
        · exact wi_at _ _ _ _
      · exact absurd hctc (by decide)
    · exact absurd hc (by decide)
noncomputable def weM (M0 M1 : cm_M) (r : Nat → Int32) : Prop := M1.2 = M0.2 ∧ (∀ d j, d ≠ 132 → ¬ (d = 124 ∧ j = 34) → M1.1 d j = M0.1 d j) ∧ (∀ j, j < 11 → M1.1 132 j = r j) ∧ M1.1 124 34 = 0
theorem weM_cg {M0 M1 : cm_M} {r r' : Nat → Int32} (h : weM M0 M1 r) (e : ∀ j, j < 11 → r' j = r j) : weM M0 M1 r' := ⟨h.1, h.2.1, fun j hj => (h.2.2.1 j hj).trans (e j hj).symm, h.2.2.2⟩
theorem weM_w {M0 M1 M2 : cm_M} {r r' : Nat → Int32} (h : weM M0 M1 r) (g : rset 132 M1 M2 r') : weM M0 M2 r' := ⟨g.1.trans h.1, fun d j a b => (g.2.1 d j a).trans (h.2.1 d j a b), g.2.2, (g.2.1 124 34 (by decide)).trans h.2.2.2⟩
theorem svN_n {sv sd : Int32} {h : Nat → Int32} {m : Nat} (hb : bdB sv (h100 (drF (svN sv h sd m).2)) = false) (j : Nat) : (svN sv h sd (m + 1)).1 j = (svN sv h sd m).1 j := if_neg (fun q => by
  have q2 : bdB sv (h100 (drF (svN sv h sd m).2)) = true := q.2
  rw [hb] at q2
  cases q2)
theorem weM_y {M0 M1 : cm_M} {sv sd : Int32} {h : Nat → Int32} {m : Nat} (hs : weM M0 M1 (svN sv h sd m).1) (hb : bdB sv (h100 (drF (svN sv h sd m).2)) = true) : weM M0 (cm_wi M1 132 m 0) (svN sv h sd (m + 1)).1 := by
  obtain ⟨a1, a2, a3, a4⟩ := hs
  refine ⟨a1, fun d j b1 b2 => ?_, fun j hj => ?_, ?_⟩
  · rw [wi_n2 (by omega)]
    exact a2 d j b1 b2
  · show _ = (if j = m ∧ bdB sv (h100 (drF (svN sv h sd m).2)) = true then 0 else (svN sv h sd m).1 j)
    by_cases e : j = m
    · subst e
      rw [wi_at, if_pos ⟨rfl, hb⟩]
    · rw [wi_n2 (by omega), if_neg (fun q => e q.1)]
      exact a3 j hj
  · rw [wi_n2 (by omega)]
    exact a4
noncomputable def sw_J (M : cm_M) (me n : Nat) (s : Int32) (S : cm_S) : Prop := (∃ t M1, t ≤ n ∧ weM M M1 (ssR (M.1 127 0) (M.1 127 2) me (M.1 129) s t).1 ∧ S = (46, [(0, .ref 124), (1, .int (bi true)), (2, .int (-1)), (3, .int s), (4, .int (Int32.ofNat n)), (5, .int ((ssR (M.1 127 0) (M.1 127 2) me (M.1 129) s t).2)), (6, .int (Int32.ofNat (t + 1)))], [], M1)) ∨ (∃ t m M1, t < n ∧ m ≤ me ∧ weM M M1 (svN (M.1 127 2) (wkR (M.1 127 0) me (ssR (M.1 127 0) (M.1 127 2) me (M.1 129) s t).1) (ssR (M.1 127 0) (M.1 127 2) me (M.1 129) s t).2 m).1 ∧ S = (64, [(0, .ref 124), (1, .int (bi true)), (2, .int (-1)), (3, .int s), (4, .int (Int32.ofNat n)), (5, .int ((svN (M.1 127 2) (wkR (M.1 127 0) me (ssR (M.1 127 0) (M.1 127 2) me (M.1 129) s t).1) (ssR (M.1 127 0) (M.1 127 2) me (M.1 129) s t).2 m).2)), (6, .int (Int32.ofNat (t + 1))), (7, .int (Int32.ofNat m))], [], M1))
set_option maxRecDepth 100000 in
theorem m_shavesW {M : cm_M} {me n : Nat} (h15 : M.2.2 124 15 = some 127) (h17 : M.2.2 124 17 = some 129) (h22 : M.2.2 124 22 = some 132) (h3 : M.1 127 3 = Int32.ofNat me) (hme : me ≤ 6) (s : Int32) (hn60 : n ≤ 60) (hy : dwB s (Int32.ofNat n) = true) : cm_Lc cm_ms 284 [.ref 124, .int (bi true), .int (-1), .int s, .int (Int32.ofNat n)] M (fun v M' => v = some (.int 0) ∧ weM M M' (ssR (M.1 127 0) (M.1 127 2) me (M.1 129) s n).1) := by
  have hy1 : inB s 0 65536 = true ∧ inB (Int32.ofNat n) 0 60 = true := by
    unfold dwB at hy
    rw [Bool.and_eq_true] at hy
    exact hy
  refine lb_of (mi := mr_284) rfl [(46, [0, 1, 2, 3, 4, 5, 6]), (64, [0, 1, 2, 3, 4, 5, 6, 7])] (sw_J M me n s) 400 (fun S hS => ?_) 400 ?_
  · rcases hS with ⟨t, M1, htn, hs, rfl⟩ | ⟨t, m, M1, htn, hm, hs, rfl⟩
    · have h15 : M1.2.2 124 15 = some 127 := by rw [hs.1]; exact h15
      have h17 : M1.2.2 124 17 = some 129 := by rw [hs.1]; exact h17
      have h22 : M1.2.2 124 22 = some 132 := by rw [hs.1]; exact h22
      have f127 : M1.1 127 = M.1 127 := funext fun j => hs.2.1 127 j (by omega) (by omega)
      have k3 : M1.1 127 3 = Int32.ofNat me := by rw [f127]; exact h3
      show (ev_cmp 4 (Int32.ofNat (t + 1)) (Int32.ofNat n) = true → _) ∧ (ev_cmp 4 (Int32.ofNat (t + 1)) (Int32.ofNat n) = false → _)
      refine ⟨fun hL0 => ?_, fun hL0 => ?_⟩
      · have g := fn_gt hL0
        rw [fn_toInt (by omega), fn_toInt (by omega)] at g
        have : t = n := by omega
        subst this
        exact ⟨rfl, hs⟩
      · have g := fn_ngt hL0
        rw [fn_toInt (by omega), fn_toInt (by omega)] at g
        first | refine lb_to (T := (55, [(0, .ref 124), (1, .int (bi true)), (2, .int (-1)), (3, .int s), (4, .int (Int32.ofNat n)), (5, .int ((ssR (M.1 127 0) (M.1 127 2) me (M.1 129) s t).2)), (6, .int (Int32.ofNat (t + 1)))], [.ref 124, .ref 124], M1)) 55 [0, 1, 2, 3, 4, 5, 6] rfl rfl rfl (fun J' h => h) (lb_g0 rfl rfl h22 ?_) | refine lb_to0 (T := (55, [(0, .ref 124), (1, .int (bi true)), (2, .int (-1)), (3, .int s), (4, .int (Int32.ofNat n)), (5, .int ((ssR (M.1 127 0) (M.1 127 2) me (M.1 129) s t).2)), (6, .int (Int32.ofNat (t + 1)))], [.ref 124, .ref 124], M1)) 55 [0, 1, 2, 3, 4, 5, 6] rfl rfl rfl (fun J' h => h) (lb_g0 rfl rfl h22 ?_)
        show ∃ R, cm_Lc cm_ms 219 [.ref 124, .ref 132] M1 R ∧ ∀ v M', R v M' → _
        refine ⟨_, m_weekOf (M := M1) (d := 132) (me := me) h15 (by omega) k3 hme, ?_⟩
        rintro v Mb ⟨rfl, hs2⟩
        show (sw_J M me n s) (64, [(0, .ref 124), (1, .int (bi true)), (2, .int (-1)), (3, .int s), (4, .int (Int32.ofNat n)), (5, .int ((ssR (M.1 127 0) (M.1 127 2) me (M.1 129) s t).2)), (6, .int (Int32.ofNat (t + 1))), (7, .int 0)], [], Mb)
        refine Or.inr ⟨t, 0, Mb, by omega, Nat.zero_le _, weM_cg (weM_w hs hs2) (fun j hj => ?_), rfl⟩
        show wkR (M.1 127 0) me (ssR (M.1 127 0) (M.1 127 2) me (M.1 129) s t).1 j = wkR (M1.1 127 0) me (M1.1 132) j
        rw [f127]
        exact wkR_cg (fun i hi => (hs.2.2.1 i hi).symm) j hj
    · have h15 : M1.2.2 124 15 = some 127 := by rw [hs.1]; exact h15
      have h17 : M1.2.2 124 17 = some 129 := by rw [hs.1]; exact h17
      have h22 : M1.2.2 124 22 = some 132 := by rw [hs.1]; exact h22
      have f127 : M1.1 127 = M.1 127 := funext fun j => hs.2.1 127 j (by omega) (by omega)
      have k3 : M1.1 127 3 = Int32.ofNat me := by rw [f127]; exact h3
      first | refine lb_to (T := (67, [(0, .ref 124), (1, .int (bi true)), (2, .int (-1)), (3, .int s), (4, .int (Int32.ofNat n)), (5, .int ((svN (M.1 127 2) (wkR (M.1 127 0) me (ssR (M.1 127 0) (M.1 127 2) me (M.1 129) s t).1) (ssR (M.1 127 0) (M.1 127 2) me (M.1 129) s t).2 m).2)), (6, .int (Int32.ofNat (t + 1))), (7, .int (Int32.ofNat m))], [.ref 124, .int (Int32.ofNat m)], M1)) 67 [0, 1, 2, 3, 4, 5, 6, 7] rfl rfl rfl (fun J' h => h) (lb_g0 rfl rfl h15 ?_) | refine lb_to0 (T := (67, [(0, .ref 124), (1, .int (bi true)), (2, .int (-1)), (3, .int s), (4, .int (Int32.ofNat n)), (5, .int ((svN (M.1 127 2) (wkR (M.1 127 0) me (ssR (M.1 127 0) (M.1 127 2) me (M.1 129) s t).1) (ssR (M.1 127 0) (M.1 127 2) me (M.1 129) s t).2 m).2)), (6, .int (Int32.ofNat (t + 1))), (7, .int (Int32.ofNat m))], [.ref 124, .int (Int32.ofNat m)], M1)) 67 [0, 1, 2, 3, 4, 5, 6, 7] rfl rfl rfl (fun J' h => h) (lb_g0 rfl rfl h15 ?_)
      show (ev_cmp 3 (Int32.ofNat m) (M1.1 127 3) = true → _) ∧ (ev_cmp 3 (Int32.ofNat m) (M1.1 127 3) = false → _)
      refine ⟨fun hL1 => ?_, fun hL1 => ?_⟩
      · have g := fn_ge hL1
        rw [k3, fn_toInt (by omega), fn_toInt (by omega)] at g
        have : m = me := by omega
        rw [this] at hs
        show (ev_cmp 1 (M1.1 124 34) 0 = true → _) ∧ (ev_cmp 1 (M1.1 124 34) 0 = false → _)
        refine ⟨fun hL1t => ?_, fun hL1t => ?_⟩
        · have q := fn_ne hL1t
          rw [hs.2.2.2] at q
          exact absurd rfl q
        · show (ev_cmp 2 (-1) 0 = true → _) ∧ (ev_cmp 2 (-1) 0 = false → _)
          refine ⟨fun hL1tf => ?_, fun hL1tf => ?_⟩
          · show (sw_J M me n s) (46, [(0, .ref 124), (1, .int (bi true)), (2, .int (-1)), (3, .int s), (4, .int (Int32.ofNat n)), (5, .int ((svN (M.1 127 2) (wkR (M.1 127 0) me (ssR (M.1 127 0) (M.1 127 2) me (M.1 129) s t).1) (ssR (M.1 127 0) (M.1 127 2) me (M.1 129) s t).2 m).2)), (6, .int ((Int32.ofNat (t + 1)) + 1))], [], M1)
            exact Or.inl ⟨t + 1, M1, by omega, hs, by rw [ofn_s1, this]; try rfl⟩
          · exact absurd hL1tf (by decide)
      · have g := fn_nge hL1
        rw [k3, fn_toInt (by omega), fn_toInt (by omega)] at g
        first | refine lb_to (T := (95, [(0, .ref 124), (1, .int (bi true)), (2, .int (-1)), (3, .int s), (4, .int (Int32.ofNat n)), (5, .int (((75 * ((svN (M.1 127 2) (wkR (M.1 127 0) me (ssR (M.1 127 0) (M.1 127 2) me (M.1 129) s t).1) (ssR (M.1 127 0) (M.1 127 2) me (M.1 129) s t).2 m).2)) + 74) - ((75 * ((svN (M.1 127 2) (wkR (M.1 127 0) me (ssR (M.1 127 0) (M.1 127 2) me (M.1 129) s t).1) (ssR (M.1 127 0) (M.1 127 2) me (M.1 129) s t).2 m).2)) + 74) / 65537 * 65537)), (6, .int (Int32.ofNat (t + 1))), (7, .int (Int32.ofNat m))], [.ref 124, .int ((((75 * ((svN (M.1 127 2) (wkR (M.1 127 0) me (ssR (M.1 127 0) (M.1 127 2) me (M.1 129) s t).1) (ssR (M.1 127 0) (M.1 127 2) me (M.1 129) s t).2 m).2)) + 74) - ((75 * ((svN (M.1 127 2) (wkR (M.1 127 0) me (ssR (M.1 127 0) (M.1 127 2) me (M.1 129) s t).1) (ssR (M.1 127 0) (M.1 127 2) me (M.1 129) s t).2 m).2)) + 74) / 65537 * 65537) - (((75 * ((svN (M.1 127 2) (wkR (M.1 127 0) me (ssR (M.1 127 0) (M.1 127 2) me (M.1 129) s t).1) (ssR (M.1 127 0) (M.1 127 2) me (M.1 129) s t).2 m).2)) + 74) - ((75 * ((svN (M.1 127 2) (wkR (M.1 127 0) me (ssR (M.1 127 0) (M.1 127 2) me (M.1 129) s t).1) (ssR (M.1 127 0) (M.1 127 2) me (M.1 129) s t).2 m).2)) + 74) / 65537 * 65537) / 100 * 100)], M1)) 95 [0, 1, 2, 3, 4, 5, 6, 7] rfl rfl rfl (fun J' h => h) (lb_g0 rfl rfl h15 ?_) | refine lb_to0 (T := (95, [(0, .ref 124), (1, .int (bi true)), (2, .int (-1)), (3, .int s), (4, .int (Int32.ofNat n)), (5, .int (((75 * ((svN (M.1 127 2) (wkR (M.1 127 0) me (ssR (M.1 127 0) (M.1 127 2) me (M.1 129) s t).1) (ssR (M.1 127 0) (M.1 127 2) me (M.1 129) s t).2 m).2)) + 74) - ((75 * ((svN (M.1 127 2) (wkR (M.1 127 0) me (ssR (M.1 127 0) (M.1 127 2) me (M.1 129) s t).1) (ssR (M.1 127 0) (M.1 127 2) me (M.1 129) s t).2 m).2)) + 74) / 65537 * 65537)), (6, .int (Int32.ofNat (t + 1))), (7, .int (Int32.ofNat m))], [.ref 124, .int ((((75 * ((svN (M.1 127 2) (wkR (M.1 127 0) me (ssR (M.1 127 0) (M.1 127 2) me (M.1 129) s t).1) (ssR (M.1 127 0) (M.1 127 2) me (M.1 129) s t).2 m).2)) + 74) - ((75 * ((svN (M.1 127 2) (wkR (M.1 127 0) me (ssR (M.1 127 0) (M.1 127 2) me (M.1 129) s t).1) (ssR (M.1 127 0) (M.1 127 2) me (M.1 129) s t).2 m).2)) + 74) / 65537 * 65537) - (((75 * ((svN (M.1 127 2) (wkR (M.1 127 0) me (ssR (M.1 127 0) (M.1 127 2) me (M.1 129) s t).1) (ssR (M.1 127 0) (M.1 127 2) me (M.1 129) s t).2 m).2)) + 74) - ((75 * ((svN (M.1 127 2) (wkR (M.1 127 0) me (ssR (M.1 127 0) (M.1 127 2) me (M.1 129) s t).1) (ssR (M.1 127 0) (M.1 127 2) me (M.1 129) s t).2 m).2)) + 74) / 65537 * 65537) / 100 * 100)], M1)) 95 [0, 1, 2, 3, 4, 5, 6, 7] rfl rfl rfl (fun J' h => h) (lb_g0 rfl rfl h15 ?_)
        show (ev_cmp 3 ((((75 * ((svN (M.1 127 2) (wkR (M.1 127 0) me (ssR (M.1 127 0) (M.1 127 2) me (M.1 129) s t).1) (ssR (M.1 127 0) (M.1 127 2) me (M.1 129) s t).2 m).2)) + 74) - ((75 * ((svN (M.1 127 2) (wkR (M.1 127 0) me (ssR (M.1 127 0) (M.1 127 2) me (M.1 129) s t).1) (ssR (M.1 127 0) (M.1 127 2) me (M.1 129) s t).2 m).2)) + 74) / 65537 * 65537) - (((75 * ((svN (M.1 127 2) (wkR (M.1 127 0) me (ssR (M.1 127 0) (M.1 127 2) me (M.1 129) s t).1) (ssR (M.1 127 0) (M.1 127 2) me (M.1 129) s t).2 m).2)) + 74) - ((75 * ((svN (M.1 127 2) (wkR (M.1 127 0) me (ssR (M.1 127 0) (M.1 127 2) me (M.1 129) s t).1) (ssR (M.1 127 0) (M.1 127 2) me (M.1 129) s t).2 m).2)) + 74) / 65537 * 65537) / 100 * 100) (M1.1 127 2) = true → _) ∧ (ev_cmp 3 ((((75 * ((svN (M.1 127 2) (wkR (M.1 127 0) me (ssR (M.1 127 0) (M.1 127 2) me (M.1 129) s t).1) (ssR (M.1 127 0) (M.1 127 2) me (M.1 129) s t).2 m).2)) + 74) - ((75 * ((svN (M.1 127 2) (wkR (M.1 127 0) me (ssR (M.1 127 0) (M.1 127 2) me (M.1 129) s t).1) (ssR (M.1 127 0) (M.1 127 2) me (M.1 129) s t).2 m).2)) + 74) / 65537 * 65537) - (((75 * ((svN (M.1 127 2) (wkR (M.1 127 0) me (ssR (M.1 127 0) (M.1 127 2) me (M.1 129) s t).1) (ssR (M.1 127 0) (M.1 127 2) me (M.1 129) s t).2 m).2)) + 74) - ((75 * ((svN (M.1 127 2) (wkR (M.1 127 0) me (ssR (M.1 127 0) (M.1 127 2) me (M.1 129) s t).1) (ssR (M.1 127 0) (M.1 127 2) me (M.1 129) s t).2 m).2)) + 74) / 65537 * 65537) / 100 * 100) (M1.1 127 2) = false → _)
        refine ⟨fun hL1f => ?_, fun hL1f => ?_⟩
        · show (sw_J M me n s) (64, [(0, .ref 124), (1, .int (bi true)), (2, .int (-1)), (3, .int s), (4, .int (Int32.ofNat n)), (5, .int (((75 * ((svN (M.1 127 2) (wkR (M.1 127 0) me (ssR (M.1 127 0) (M.1 127 2) me (M.1 129) s t).1) (ssR (M.1 127 0) (M.1 127 2) me (M.1 129) s t).2 m).2)) + 74) - ((75 * ((svN (M.1 127 2) (wkR (M.1 127 0) me (ssR (M.1 127 0) (M.1 127 2) me (M.1 129) s t).1) (ssR (M.1 127 0) (M.1 127 2) me (M.1 129) s t).2 m).2)) + 74) / 65537 * 65537)), (6, .int (Int32.ofNat (t + 1))), (7, .int ((Int32.ofNat m) + 1))], [], M1)
          have q := fn_ge hL1f
          rw [f127] at q
          have hb := bd_0 q
          exact Or.inr ⟨t, m + 1, M1, htn, by omega, weM_cg hs (fun j _ => svN_n hb j), by rw [ofn_s1]; try rfl⟩
        · first | refine lb_to (T := (104, [(0, .ref 124), (1, .int (bi true)), (2, .int (-1)), (3, .int s), (4, .int (Int32.ofNat n)), (5, .int (((75 * ((svN (M.1 127 2) (wkR (M.1 127 0) me (ssR (M.1 127 0) (M.1 127 2) me (M.1 129) s t).1) (ssR (M.1 127 0) (M.1 127 2) me (M.1 129) s t).2 m).2)) + 74) - ((75 * ((svN (M.1 127 2) (wkR (M.1 127 0) me (ssR (M.1 127 0) (M.1 127 2) me (M.1 129) s t).1) (ssR (M.1 127 0) (M.1 127 2) me (M.1 129) s t).2 m).2)) + 74) / 65537 * 65537)), (6, .int (Int32.ofNat (t + 1))), (7, .int (Int32.ofNat m))], [.ref 124], M1)) 104 [0, 1, 2, 3, 4, 5, 6, 7] rfl rfl rfl (fun J' h => h) (lb_g0 rfl rfl h22 ?_) | refine lb_to0 (T := (104, [(0, .ref 124), (1, .int (bi true)), (2, .int (-1)), (3, .int s), (4, .int (Int32.ofNat n)), (5, .int (((75 * ((svN (M.1 127 2) (wkR (M.1 127 0) me (ssR (M.1 127 0) (M.1 127 2) me (M.1 129) s t).1) (ssR (M.1 127 0) (M.1 127 2) me (M.1 129) s t).2 m).2)) + 74) - ((75 * ((svN (M.1 127 2) (wkR (M.1 127 0) me (ssR (M.1 127 0) (M.1 127 2) me (M.1 129) s t).1) (ssR (M.1 127 0) (M.1 127 2) me (M.1 129) s t).2 m).2)) + 74) / 65537 * 65537)), (6, .int (Int32.ofNat (t + 1))), (7, .int (Int32.ofNat m))], [.ref 124], M1)) 104 [0, 1, 2, 3, 4, 5, 6, 7] rfl rfl rfl (fun J' h => h) (lb_g0 rfl rfl h22 ?_)
          show (sw_J M me n s) (64, [(0, .ref 124), (1, .int (bi true)), (2, .int (-1)), (3, .int s), (4, .int (Int32.ofNat n)), (5, .int (((75 * ((svN (M.1 127 2) (wkR (M.1 127 0) me (ssR (M.1 127 0) (M.1 127 2) me (M.1 129) s t).1) (ssR (M.1 127 0) (M.1 127 2) me (M.1 129) s t).2 m).2)) + 74) - ((75 * ((svN (M.1 127 2) (wkR (M.1 127 0) me (ssR (M.1 127 0) (M.1 127 2) me (M.1 129) s t).1) (ssR (M.1 127 0) (M.1 127 2) me (M.1 129) s t).2 m).2)) + 74) / 65537 * 65537)), (6, .int (Int32.ofNat (t + 1))), (7, .int ((Int32.ofNat m) + 1))], [], cm_wi M1 132 ((Int32.ofNat m).toNatClampNeg) 0)
          have q := fn_nge hL1f
          rw [f127] at q
          have hb := bd_1 q
          exact Or.inr ⟨t, m + 1, _, htn, by omega, weM_y hs hb, by rw [ofn_s1, fn_nat (show m < 2147483648 by omega)]; try rfl⟩
  · show (ev_cmp 1 (bi true) 0 = true → _) ∧ (ev_cmp 1 (bi true) 0 = false → _)
    refine ⟨fun h => ?_, fun h => ?_⟩
    · show ∃ R, cm_Lc cm_ms 167 [.int s, .int 0, .int 65536] M R ∧ ∀ v M', R v M' → _
      have hi := m_in2 s 0 65536 M
      rw [hy1.1] at hi
      refine ⟨_, hi, ?_⟩
      rintro v M' ⟨hM, rfl⟩
      subst M'
      show (ev_cmp 0 (bi true) 0 = true → _) ∧ (ev_cmp 0 (bi true) 0 = false → _)
      refine ⟨fun htc => ?_, fun htc => ?_⟩
      · exact absurd htc (by decide)
      · show ∃ R, cm_Lc cm_ms 167 [.int (Int32.ofNat n), .int 0, .int 60] M R ∧ ∀ v M', R v M' → _
        have hi := m_in2 (Int32.ofNat n) 0 60 M
        rw [hy1.2] at hi
        refine ⟨_, hi, ?_⟩
        rintro v M' ⟨hM, rfl⟩
        subst M'
        show (ev_cmp 1 (bi true) 0 = true → _) ∧ (ev_cmp 1 (bi true) 0 = false → _)
        refine ⟨fun htcfc => ?_, fun htcfc => ?_⟩
        · show ∃ R, cm_Lc cm_ms 220 [.ref 124, .int 0] M R ∧ ∀ v M', R v M' → _
          refine ⟨_, m_goOver0 h15 h17 h22 h3 hme, ?_⟩
          rintro v Mb ⟨rfl, hs⟩
          show (sw_J M me n s) (46, [(0, .ref 124), (1, .int (bi true)), (2, .int (-1)), (3, .int s), (4, .int (Int32.ofNat n)), (5, .int s), (6, .int 1)], [], cm_wi Mb 124 34 0)
          refine Or.inl ⟨0, cm_wi Mb 124 34 0, Nat.zero_le _, ⟨hs.1, fun d j a b => ?_, fun j hj => ?_, wi_at _ _ _ _⟩, rfl⟩
          · show (cm_wi Mb 124 34 0).1 d j = _
            rw [wi_n2 b]
            exact hs.2.1 d j a
          · show (cm_wi Mb 124 34 0).1 132 j = _
            rw [wi_n2 (by omega)]
            exact hs.2.2 j hj
        · exact absurd htcfc (by decide)
    · exact absurd h (by decide)
theorem m_shavesW_bad {M : cm_M} {s y : Int32} (hy : dwB s y = false) : cm_Lc cm_ms 284 [.ref 124, .int (bi true), .int (-1), .int s, .int y] M (fun v M' => M' = M ∧ v = some (.int 2)) := by
  unfold dwB at hy
  refine lb_st0 (mi := mr_284) rfl 400 ?_
  show (ev_cmp 1 (bi true) 0 = true → _) ∧ (ev_cmp 1 (bi true) 0 = false → _)
  refine ⟨fun _ => ?_, fun h => absurd h (by decide)⟩
  show ∃ R, cm_Lc cm_ms 167 [.int s, .int 0, .int 65536] M R ∧ ∀ v M', R v M' → _
  refine ⟨_, m_in2 s 0 65536 M, ?_⟩
  rintro v M' ⟨hM, rfl⟩
  subst M'
  show (ev_cmp 0 (bi (inB s 0 65536)) 0 = true → _) ∧ (ev_cmp 0 (bi (inB s 0 65536)) 0 = false → _)
  refine ⟨fun h => ⟨rfl, rfl⟩, fun h => ?_⟩
  show ∃ R, cm_Lc cm_ms 167 [.int y, .int 0, .int 60] M R ∧ ∀ v M', R v M' → _
  refine ⟨_, m_in2 y 0 60 M, ?_⟩
  rintro v M' ⟨hM, rfl⟩
  subst M'
  show (ev_cmp 1 (bi (inB y 0 60)) 0 = true → _) ∧ (ev_cmp 1 (bi (inB y 0 60)) 0 = false → _)
  refine ⟨fun h2 => ?_, fun h2 => ⟨rfl, rfl⟩⟩
  rw [bi_1 h, bi_t h2] at hy
  cases hy
theorem m_shavesW_out (s y : Int32) (M : cm_M) : cm_Lc cm_ms 284 [.ref 124, .int (bi false), .int (-1), .int s, .int y] M (fun v M' => M' = M ∧ v = some (.int 1)) := by
  refine lb_st0 (mi := mr_284) rfl 400 ?_
  show (ev_cmp 1 (bi false) 0 = true → _) ∧ (ev_cmp 1 (bi false) 0 = false → _)
  exact ⟨fun h => absurd h (by decide), fun _ => ⟨rfl, rfl⟩⟩
theorem m_shaves_out {a : Bool} {me mo : Nat} {M : cm_M} (hx : MTX a me mo M) (x s y : Int32) (ho : outB x (Int32.ofNat me) = true) : cm_Lc cm_ms 285 [.ref 124, .int x, .int s, .int y] M (fun v _ => v = some (.int (-1))) := by
  refine lb_st0 (mi := mr_285) rfl 400 ?_
  show ∃ R, cm_Lc cm_ms 164 [.ref 124] M R ∧ ∀ v M', R v M' → _
  refine ⟨_, m_goodG M, ?_⟩
  rintro v M' ⟨rfl, rfl⟩
  have hg := MTX_gd hx
  have hme6 := hx.2.2.2.2.2.1
  have hmo5 := hx.2.2.2.2.2.2
  have e127 : (gdM M).1 127 = M.1 127 := funext fun j => gd_n (by omega)
  have e129 : (gdM M).1 129 = M.1 129 := funext fun j => gd_n (by omega)
  show ∃ R, cm_Lc cm_ms 205 [.ref 124, .int x] (gdM M) R ∧ ∀ v M', R v M' → _
  have hl := m_isMn hg x
  rw [ho, Bool.not_true] at hl
  refine ⟨_, hl, ?_⟩
  rintro v M' ⟨hM, rfl⟩
  subst M'
  show ∃ R, cm_Lc cm_ms 284 [.ref 124, .int (bi false), .int (-1), .int s, .int y] (gdM M) R ∧ ∀ v M', R v M' → _
  refine ⟨_, m_shavesW_out s y (gdM M), ?_⟩
  rintro v M' ⟨hM, rfl⟩
  subst M'
  show (ev_cmp 0 1 0 = true → _) ∧ (ev_cmp 0 1 0 = false → _)
  refine ⟨fun hccc => ?_, fun hccc => ?_⟩
  · exact absurd hccc (by decide)
  · show ∃ R, cm_Lc cm_ms 165 [.ref 124, .int 1] (gdM M) R ∧ ∀ v M', R v M' → _
    refine ⟨_, m_noG 1 (gdM M), ?_⟩
    rintro v Mz ⟨hG, rfl⟩
    exact rfl
theorem m_shaves_bad {a : Bool} {me mo : Nat} {M : cm_M} (hx : MTX a me mo M) {k : Nat} (hk : k < me) (s y : Int32) (hy : dwB s y = false) : cm_Lc cm_ms 285 [.ref 124, .int (Int32.ofNat k), .int s, .int y] M (fun v _ => v = some (.int (-1))) := by
  refine lb_st0 (mi := mr_285) rfl 400 ?_
  show ∃ R, cm_Lc cm_ms 164 [.ref 124] M R ∧ ∀ v M', R v M' → _
  refine ⟨_, m_goodG M, ?_⟩
  rintro v M' ⟨rfl, rfl⟩
  have hg := MTX_gd hx
  have hme6 := hx.2.2.2.2.2.1
  have hmo5 := hx.2.2.2.2.2.2
  have e127 : (gdM M).1 127 = M.1 127 := funext fun j => gd_n (by omega)
  have e129 : (gdM M).1 129 = M.1 129 := funext fun j => gd_n (by omega)
  show ∃ R, cm_Lc cm_ms 205 [.ref 124, .int (Int32.ofNat k)] (gdM M) R ∧ ∀ v M', R v M' → _
  have hl := m_isMn hg (Int32.ofNat k)
  rw [outB_lt hk (by omega), Bool.not_false] at hl
  refine ⟨_, hl, ?_⟩
  rintro v M' ⟨hM, rfl⟩
  subst M'
  show ∃ R, cm_Lc cm_ms 284 [.ref 124, .int (bi true), .int (-1), .int s, .int y] (gdM M) R ∧ ∀ v M', R v M' → _
  refine ⟨_, m_shavesW_bad (M := gdM M) hy, ?_⟩
  rintro v M' ⟨hM, rfl⟩
  subst M'
  show (ev_cmp 0 2 0 = true → _) ∧ (ev_cmp 0 2 0 = false → _)
  refine ⟨fun hccc => ?_, fun hccc => ?_⟩
  · exact absurd hccc (by decide)
  · show ∃ R, cm_Lc cm_ms 165 [.ref 124, .int 2] (gdM M) R ∧ ∀ v M', R v M' → _
    refine ⟨_, m_noG 2 (gdM M), ?_⟩
    rintro v Mz ⟨hG, rfl⟩
    exact rfl
set_option maxRecDepth 100000 in
theorem m_shaves_k {a : Bool} {me mo : Nat} {M : cm_M} (hx : MTX a me mo M) {k n : Nat} (ha : a = true) (hk : k < me) (s : Int32) (hn60 : n ≤ 60) (hy : dwB s (Int32.ofNat n) = true) : cm_Lc cm_ms 285 [.ref 124, .int (Int32.ofNat k), .int s, .int (Int32.ofNat n)] M (fun v _ => v = some (.int ((ssR (M.1 127 0) (M.1 127 2) me (M.1 129) s n).1 k))) := by
  have h15 := hx.2.1.1
  have h17 := hx.2.1.2.1
  have h22 := hx.2.1.2.2.2.2
  have hme := hx.2.2.2.2.2.1
  have hmo5 := hx.2.2.2.2.2.2
  refine lb_st0 (mi := mr_285) rfl 400 ?_
  show ∃ R, cm_Lc cm_ms 164 [.ref 124] M R ∧ ∀ v M', R v M' → _
  refine ⟨_, m_goodG M, ?_⟩
  rintro v M' ⟨rfl, rfl⟩
  have hg := MTX_gd hx
  have hme6 := hx.2.2.2.2.2.1
  have hmo5 := hx.2.2.2.2.2.2
  have e127 : (gdM M).1 127 = M.1 127 := funext fun j => gd_n (by omega)
  have e129 : (gdM M).1 129 = M.1 129 := funext fun j => gd_n (by omega)
  show ∃ R, cm_Lc cm_ms 205 [.ref 124, .int (Int32.ofNat k)] (gdM M) R ∧ ∀ v M', R v M' → _
  have hl := m_isMn hg (Int32.ofNat k)
  rw [outB_lt hk (by omega), Bool.not_false] at hl
  refine ⟨_, hl, ?_⟩
  rintro v M' ⟨hM, rfl⟩
  subst M'
  show ∃ R, cm_Lc cm_ms 284 [.ref 124, .int (bi true), .int (-1), .int s, .int (Int32.ofNat n)] (gdM M) R ∧ ∀ v M', R v M' → _
  have hsw := m_shavesW (M := gdM M) (me := me) (n := n) h15 h17 h22 (by rw [e127]; exact (hx.2.2.1 ha).1) hme s hn60 hy
  rw [e127, e129] at hsw
  refine ⟨_, hsw, ?_⟩
  rintro v Mb ⟨rfl, hs⟩
  have h15 : Mb.2.2 124 15 = some 127 := by rw [hs.1]; exact h15
  have h17 : Mb.2.2 124 17 = some 129 := by rw [hs.1]; exact h17
  have h22 : Mb.2.2 124 22 = some 132 := by rw [hs.1]; exact h22
  show (ev_cmp 0 0 0 = true → _) ∧ (ev_cmp 0 0 0 = false → _)
  refine ⟨fun hccc => ?_, fun hccc => ?_⟩
  · first | refine lb_to (T := (33, [(0, .ref 124), (1, .int (Int32.ofNat k)), (2, .int s), (3, .int (Int32.ofNat n)), (4, .int 0)], [.ref 124], Mb)) 33 [0, 1, 2, 3, 4] rfl rfl rfl (fun J' h => h) (lb_g0 rfl rfl h22 ?_) | refine lb_to0 (T := (33, [(0, .ref 124), (1, .int (Int32.ofNat k)), (2, .int s), (3, .int (Int32.ofNat n)), (4, .int 0)], [.ref 124], Mb)) 33 [0, 1, 2, 3, 4] rfl rfl rfl (fun J' h => h) (lb_g0 rfl rfl h22 ?_)
    show some (Value.int (Mb.1 132 (Int32.ofNat k).toNatClampNeg)) = _
    rw [fn_nat (show k < 2147483648 by omega)]
    exact congrArg (fun b => some (Value.int b)) (hs.2.2.1 k (by omega))
  · exact absurd hccc (by decide)
