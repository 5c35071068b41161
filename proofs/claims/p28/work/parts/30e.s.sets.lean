/-- who isn't bald -/
noncomputable def haF (ba : Int32) (H : Nat → Int32) (me : Nat) : Int32 := Int32.ofNat (2 ^ me - 1) &&& (orF (fun m => bdB ba (H m)) me ^^^ -1)
theorem haF_cg {ba : Int32} {H H' : Nat → Int32} {me : Nat} (h : ∀ m, m < me → H' m = H m) : haF ba H' me = haF ba H me := by
  unfold haF
  rw [orF_cg (p := fun m => bdB ba (H m)) (q := fun m => bdB ba (H' m)) me (fun m hm => by
    show bdB ba (H' m) = bdB ba (H m)
    rw [h m hm])]
theorem p2m : ∀ me, me < 7 → 2 ^ me - 1 < 64 ∧ 2 ^ me ≤ 64 := by decide
theorem nd_out {y : Int32} (h : y.toInt < 0 ∨ 54 < y.toInt) : inB y 0 54 = false := by
  unfold inB
  rw [show (0 : Int32).toInt = 0 by decide, show (54 : Int32).toInt = 54 by decide, Bool.and_eq_false_iff, decide_eq_false_iff_not, decide_eq_false_iff_not]
  omega
theorem nd_ok {y : Int32} (h1 : 0 ≤ y.toInt) (h2 : y.toInt ≤ 54) : inB y 0 54 = true := by
  unfold inB
  rw [show (0 : Int32).toInt = 0 by decide, show (54 : Int32).toInt = 54 by decide, decide_eq_true h1, decide_eq_true h2]
  try rfl
theorem c_needs {M : cm_M} (y : Int32) : cm_Lc cm_ms 127 [.ref 0, .int y] M (fun v M' => M' = M ∧ v = some (.int (bi (!inB y 0 54)))) := by
  have z0 : (0 : Int32).toInt = 0 := by decide
  have z54 : (54 : Int32).toInt = 54 := by decide
  refine lb_st0 (mi := mr_127) rfl 400 ?_
  show (ev_cmp 2 y 0 = true → _) ∧ (ev_cmp 2 y 0 = false → _)
  refine ⟨fun h => ?_, fun h => ?_⟩
  · have q := fn_lt h
    rw [z0] at q
    refine ⟨rfl, ?_⟩
    rw [nd_out (Or.inl q)]
    try rfl
  · have q := fn_nlt h
    rw [z0] at q
    show (ev_cmp 5 y 54 = true → _) ∧ (ev_cmp 5 y 54 = false → _)
    refine ⟨fun hf => ?_, fun hf => ?_⟩
    · have q2 := fn_le hf
      rw [z54] at q2
      refine ⟨rfl, ?_⟩
      rw [nd_ok q q2]
      try rfl
    · have q2 := fn_nle hf
      rw [z54] at q2
      refine ⟨rfl, ?_⟩
      rw [nd_out (Or.inr q2)]
      try rfl
/-- the fewest that are enough: who, how many -/
noncomputable def beF (p : Nat → Bool) : Nat → Int32 × Int32
  | 0 => (-2, 7)
  | s + 1 => if p s = true ∧ (Int32.ofNat (pc s)).toInt < (beF p s).2.toInt then (Int32.ofNat s, Int32.ofNat (pc s)) else beF p s
theorem beF_y {p : Nat → Bool} {s : Nat} (h : p s = true) (g : (Int32.ofNat (pc s)).toInt < (beF p s).2.toInt) : beF p (s + 1) = (Int32.ofNat s, Int32.ofNat (pc s)) := if_pos ⟨h, g⟩
theorem beF_n {p : Nat → Bool} {s : Nat} (h : ¬ (p s = true ∧ (Int32.ofNat (pc s)).toInt < (beF p s).2.toInt)) : beF p (s + 1) = beF p s := if_neg h
theorem beF_cg {p q : Nat → Bool} : ∀ n, (∀ s, s < n → q s = p s) → beF q n = beF p n
  | 0, _ => rfl
  | n + 1, h => by
    unfold beF
    rw [h n (by omega), beF_cg (p := p) n (fun s hs => h s (by omega))]

theorem beF_inv (p : Nat → Bool) : ∀ n, (beF p n = (-2, 7)) ∨ ∃ b, b < n ∧ beF p n = (Int32.ofNat b, Int32.ofNat (pc b))
  | 0 => Or.inl rfl
  | n + 1 => by
    by_cases h : p n = true ∧ (Int32.ofNat (pc n)).toInt < (beF p n).2.toInt
    · exact Or.inr ⟨n, by omega, beF_y h.1 h.2⟩
    · rw [beF_n h]
      rcases beF_inv p n with q | ⟨b, b1, b2⟩
      · exact Or.inl q
      · exact Or.inr ⟨b, by omega, b2⟩
noncomputable def fiB (vo : Nat → Int32) (ha needs : Int32) (me s : Nat) : Bool := decide (Int32.ofNat s &&& (ha ^^^ -1) = 0) && geB (voF vo (Int32.ofNat s) me) needs
theorem fiB_0 {vo : Nat → Int32} {ha needs : Int32} {me s : Nat} (h : Int32.ofNat s &&& (ha ^^^ -1) ≠ 0) : fiB vo ha needs me s = false := by
  unfold fiB
  rw [decide_eq_false h, Bool.false_and]
theorem fiB_1 {vo : Nat → Int32} {ha needs : Int32} {me s : Nat} (h : geB (voF vo (Int32.ofNat s) me) needs = false) : fiB vo ha needs me s = false := by
  unfold fiB
  rw [h, Bool.and_false]
theorem fiB_2 {vo : Nat → Int32} {ha needs : Int32} {me s : Nat} (h0 : Int32.ofNat s &&& (ha ^^^ -1) = 0) (h1 : geB (voF vo (Int32.ofNat s) me) needs = true) : fiB vo ha needs me s = true := by
  unfold fiB
  rw [decide_eq_true h0, h1]
  try rfl
theorem c_bench_no {M : cm_M} {T' me mo : Nat} (hx : CTX T' me mo M) (y : Int32) (ho : (!inB y 0 54 || decide (M.1 T' 3 = 0)) = true) : cm_Lc cm_ms 123 [.ref 0, .int y] M (fun v _ => v = some (.int (-1))) := by
  have h6T : 6 ≤ T' := by have := hx.1; omega
  have hT19 : T' ≤ 19 := by have := hx.1; omega
  have hme6 := hx.2.2.2.2.2.1
  have hr := c_refusedOf h6T hx.2.1.1 (!inB y 0 54)
  rw [ho] at hr
  refine lb_st0 (mi := mr_123) rfl 400 ?_
  show ∃ R, cm_Lc cm_ms 127 [.ref 0, .int y] M R ∧ ∀ v M', R v M' → _
  refine ⟨_, c_needs (M := M) y, ?_⟩
  rintro v M' ⟨hM, rfl⟩
  subst M'
  show ∃ R, cm_Lc cm_ms 158 [.ref 0, .int (bi !inB y 0 54)] M R ∧ ∀ v M', R v M' → _
  refine ⟨_, hr, ?_⟩
  rintro v Mb ⟨rfl, hs, -⟩
  show (ev_cmp 0 (bi true) 0 = true → _) ∧ (ev_cmp 0 (bi true) 0 = false → _)
  refine ⟨fun hcc => ?_, fun hcc => ?_⟩
  · exact absurd hcc (by decide)
  · exact rfl
theorem m_bench_no {a : Bool} {me mo : Nat} {M : cm_M} (hx : MTX a me mo M) (y : Int32) (ho : (a && inB y 0 54) = false) : cm_Lc cm_ms 253 [.ref 124, .int y] M (fun v _ => v = some (.int (-1))) := by
  refine lb_st0 (mi := mr_253) rfl 400 ?_
  show ∃ R, cm_Lc cm_ms 164 [.ref 124] M R ∧ ∀ v M', R v M' → _
  refine ⟨_, m_goodG M, ?_⟩
  rintro v M' ⟨rfl, rfl⟩
  have hg := MTX_gd hx
  have hme6 := hx.2.2.2.2.2.1
  have hmo5 := hx.2.2.2.2.2.2
  have e127 : (gdM M).1 127 = M.1 127 := funext fun j => gd_n (by omega)
  have e129 : (gdM M).1 129 = M.1 129 := funext fun j => gd_n (by omega)
  show ∃ R, cm_Lc cm_ms 167 [.int y, .int 0, .int 54] (gdM M) R ∧ ∀ v M', R v M' → _
  refine ⟨_, m_in2 y 0 54 (gdM M), ?_⟩
  rintro v M' ⟨hM, rfl⟩
  subst M'
  show ∃ R, cm_Lc cm_ms 233 [.ref 124, .int ((gdM M).1 124 14), .int (bi (inB y 0 54))] (gdM M) R ∧ ∀ v M', R v M' → _
  have hw := m_why a (inB y 0 54) (gdM M)
  rw [← hx.1, ← gd_n (M := M) (d := 124) (j := 14) (by omega)] at hw
  refine ⟨_, hw, ?_⟩
  rintro v Mz ⟨hM, rfl⟩
  subst Mz
  show (ev_cmp 0 (whyF a (inB y 0 54)) 0 = true → _) ∧ (ev_cmp 0 (whyF a (inB y 0 54)) 0 = false → _)
  refine ⟨fun hccc => ?_, fun hccc => ?_⟩
  · have q := fn_eq0 hccc
    have q1 : (a && inB y 0 54) = true := by
      cases a <;> cases hi : inB y 0 54 <;> rw [hi] at q <;> first | rfl | exact absurd q (by decide)
    rw [ho] at q1
    cases q1
  · show ∃ R, cm_Lc cm_ms 165 [.ref 124, .int (whyF a (inB y 0 54))] (gdM M) R ∧ ∀ v M', R v M' → _
    refine ⟨_, m_noG (whyF a (inB y 0 54)) (gdM M), ?_⟩
    rintro v Mz ⟨hG, rfl⟩
    exact rfl
set_option maxRecDepth 100000 in
theorem c_bench_k {M : cm_M} {T' me mo : Nat} (hx : CTX T' me mo M) (h0 : 0 < me) (y : Int32) (hy : inB y 0 54 = true) : cm_Lc cm_ms 123 [.ref 0, .int y] M (fun v _ => v = some (.int ((beF (fiB (M.1 (T' + 3)) (haF (M.1 T' 1) (M.1 33) me) y me) (2 ^ me)).1))) := by
  have h6T : 6 ≤ T' := by have := hx.1; omega
  have hT19 : T' ≤ 19 := by have := hx.1; omega
  have hme6 := hx.2.2.2.2.2.1
  have hr := c_refusedOf h6T hx.2.1.1 (!inB y 0 54)
  have hz : decide (M.1 T' 3 = 0) = false := decide_eq_false (by
    rw [hx.2.2.2.2.1.1]
    intro q
    rw [ofn_0 (by omega)] at q
    omega)
  rw [hz] at hr
  have hr : cm_Lc cm_ms 158 [.ref 0, .int (bi (!inB y 0 54))] M (fun v M' => v = some (.int (bi false)) ∧ sT M M' ∧ True) := cm_Lc_im hr (fun v M' q => ⟨(by rw [q.1, hy]; try rfl), q.2.1, trivial⟩)
  have p64 := (p2m me (by omega)).2
  refine lb_of (mi := mr_123) rfl [(36, [0, 1, 2, 3, 4, 5])] (fun S => ∃ s Mb, s ≤ 2 ^ me ∧ sT M Mb ∧ S = (36, [(0, .ref 0), (1, .int y), (2, .int (haF (M.1 T' 1) (M.1 33) me)), (3, .int ((beF (fiB (M.1 (T' + 3)) (haF (M.1 T' 1) (M.1 33) me) y me) s).1)), (4, .int ((beF (fiB (M.1 (T' + 3)) (haF (M.1 T' 1) (M.1 33) me) y me) s).2)), (5, .int (Int32.ofNat s))], [], Mb)) 400 (fun S hS => ?_) 400 ?_
  · obtain ⟨s, Mb, hsm, hs, rfl⟩ := hS
    have r3 : Mb.2.2 0 3 = some T' := by rw [hs.1]; exact hx.2.1.1
    have r5 : Mb.2.2 0 5 = some 32 := by rw [hs.1]; exact hx.2.1.2.1
    have r33 : Mb.2.2 32 0 = some 33 := by rw [hs.1]; exact hx.2.2.1.2.2.1.1
    have q6 : Mb.2.2 T' 6 = some (T' + 3) := by rw [hs.1]; exact hx.2.2.2.1 6 3 (by decide)
    have eT : ∀ i, i ≤ 12 → Mb.1 (T' + i) = M.1 (T' + i) := fun i hi => funext fun j => hs.2 (T' + i) j (by omega) (by omega)
    have eT0 : Mb.1 T' = M.1 T' := eT 0 (by omega)
    have e33 : Mb.1 33 = M.1 33 := funext fun j => hs.2 33 j (by omega) (by omega)
    have k3 : Mb.1 T' 3 = Int32.ofNat me := by rw [eT0]; exact hx.2.2.2.2.1.1
    have e2 : (1 : Int32) <<< (Mb.1 T' 3 &&& 31) = Int32.ofNat (2 ^ me) := by
      rw [k3]
      exact sB_t me (by omega)
    first | refine lb_to (T := (40, [(0, .ref 0), (1, .int y), (2, .int (haF (M.1 T' 1) (M.1 33) me)), (3, .int ((beF (fiB (M.1 (T' + 3)) (haF (M.1 T' 1) (M.1 33) me) y me) s).1)), (4, .int ((beF (fiB (M.1 (T' + 3)) (haF (M.1 T' 1) (M.1 33) me) y me) s).2)), (5, .int (Int32.ofNat s))], [.ref 0, .int 1, .int (Int32.ofNat s)], Mb)) 40 [0, 1, 2, 3, 4, 5] rfl rfl rfl (fun J' h => h) (lb_g0 rfl rfl r3 ?_) | refine lb_to0 (T := (40, [(0, .ref 0), (1, .int y), (2, .int (haF (M.1 T' 1) (M.1 33) me)), (3, .int ((beF (fiB (M.1 (T' + 3)) (haF (M.1 T' 1) (M.1 33) me) y me) s).1)), (4, .int ((beF (fiB (M.1 (T' + 3)) (haF (M.1 T' 1) (M.1 33) me) y me) s).2)), (5, .int (Int32.ofNat s))], [.ref 0, .int 1, .int (Int32.ofNat s)], Mb)) 40 [0, 1, 2, 3, 4, 5] rfl rfl rfl (fun J' h => h) (lb_g0 rfl rfl r3 ?_)
    show (ev_cmp 3 (Int32.ofNat s) (1 <<< ((Mb.1 T' 3) &&& 31)) = true → _) ∧ (ev_cmp 3 (Int32.ofNat s) (1 <<< ((Mb.1 T' 3) &&& 31)) = false → _)
    refine ⟨fun hL => ?_, fun hL => ?_⟩
    · have g := fn_ge hL
      rw [e2, fn_toInt (by omega), fn_toInt (by omega)] at g
      have es : s = 2 ^ me := by omega
      show ∃ R, cm_Lc cm_ms 159 [.ref 0, .int ((beF (fiB (M.1 (T' + 3)) (haF (M.1 T' 1) (M.1 33) me) y me) s).1)] Mb R ∧ ∀ v M', R v M' → _
      refine ⟨_, c_granted _ _, ?_⟩
      rintro v Mc ⟨hG, rfl⟩
      exact congrArg (fun z => some (Value.int ((beF (fiB (M.1 (T' + 3)) (haF (M.1 T' 1) (M.1 33) me) y me) z).1))) es
    · have g := fn_nge hL
      rw [e2, fn_toInt (by omega), fn_toInt (by omega)] at g
      show (ev_cmp 1 ((Int32.ofNat s) &&& ((haF (M.1 T' 1) (M.1 33) me) ^^^ (-1))) 0 = true → _) ∧ (ev_cmp 1 ((Int32.ofNat s) &&& ((haF (M.1 T' 1) (M.1 33) me) ^^^ (-1))) 0 = false → _)
      refine ⟨fun hLf => ?_, fun hLf => ?_⟩
      · show (ev_cmp 0 0 0 = true → _) ∧ (ev_cmp 0 0 0 = false → _)
        refine ⟨fun hLft => ?_, fun hLft => ?_⟩
        · show (fun (S : cm_S) => ∃ s Mb, s ≤ 2 ^ me ∧ sT M Mb ∧ S = (36, [(0, .ref 0), (1, .int y), (2, .int (haF (M.1 T' 1) (M.1 33) me)), (3, .int ((beF (fiB (M.1 (T' + 3)) (haF (M.1 T' 1) (M.1 33) me) y me) s).1)), (4, .int ((beF (fiB (M.1 (T' + 3)) (haF (M.1 T' 1) (M.1 33) me) y me) s).2)), (5, .int (Int32.ofNat s))], [], Mb)) (36, [(0, .ref 0), (1, .int y), (2, .int (haF (M.1 T' 1) (M.1 33) me)), (3, .int ((beF (fiB (M.1 (T' + 3)) (haF (M.1 T' 1) (M.1 33) me) y me) s).1)), (4, .int ((beF (fiB (M.1 (T' + 3)) (haF (M.1 T' 1) (M.1 33) me) y me) s).2)), (5, .int ((Int32.ofNat s) + 1))], [], Mb)
          exact ⟨s + 1, Mb, by omega, hs, by rw [ofn_s1, beF_n (p := (fiB (M.1 (T' + 3)) (haF (M.1 T' 1) (M.1 33) me) y me)) (s := s) (fun q => absurd (q.1.symm.trans (fiB_0 (fn_ne hLf))) (by decide))]⟩
        · exact absurd hLft (by decide)
      · first | refine lb_to (T := (60, [(0, .ref 0), (1, .int y), (2, .int (haF (M.1 T' 1) (M.1 33) me)), (3, .int ((beF (fiB (M.1 (T' + 3)) (haF (M.1 T' 1) (M.1 33) me) y me) s).1)), (4, .int ((beF (fiB (M.1 (T' + 3)) (haF (M.1 T' 1) (M.1 33) me) y me) s).2)), (5, .int (Int32.ofNat s))], [.ref 0], Mb)) 60 [0, 1, 2, 3, 4, 5] rfl rfl rfl (fun J' h => h) (lb_g0 rfl rfl r3 ?_) | refine lb_to0 (T := (60, [(0, .ref 0), (1, .int y), (2, .int (haF (M.1 T' 1) (M.1 33) me)), (3, .int ((beF (fiB (M.1 (T' + 3)) (haF (M.1 T' 1) (M.1 33) me) y me) s).1)), (4, .int ((beF (fiB (M.1 (T' + 3)) (haF (M.1 T' 1) (M.1 33) me) y me) s).2)), (5, .int (Int32.ofNat s))], [.ref 0], Mb)) 60 [0, 1, 2, 3, 4, 5] rfl rfl rfl (fun J' h => h) (lb_g0 rfl rfl r3 ?_)
        show ∃ R, cm_Lc cm_ms 13 [.ref T', .int (Int32.ofNat s)] Mb R ∧ ∀ v M', R v M' → _
        have hv : cm_Lc cm_ms 13 [.ref T', .int (Int32.ofNat s)] Mb (fun v M' => M' = Mb ∧ v = some (.int (voF (M.1 (T' + 3)) (Int32.ofNat s) me))) := by
          have q := c_votes (M := Mb) (T' := T') (me := me) q6 k3 hme6 (Int32.ofNat s)
          rw [eT 3 (by omega)] at q
          exact q
        refine ⟨_, hv, ?_⟩
        rintro v Mz ⟨hM, rfl⟩
        subst Mz
        show (ev_cmp 2 (voF (M.1 (T' + 3)) (Int32.ofNat s) me) y = true → _) ∧ (ev_cmp 2 (voF (M.1 (T' + 3)) (Int32.ofNat s) me) y = false → _)
        refine ⟨fun hLffc => ?_, fun hLffc => ?_⟩
        · show (ev_cmp 0 0 0 = true → _) ∧ (ev_cmp 0 0 0 = false → _)
          refine ⟨fun hLffct => ?_, fun hLffct => ?_⟩
          · show (fun (S : cm_S) => ∃ s Mb, s ≤ 2 ^ me ∧ sT M Mb ∧ S = (36, [(0, .ref 0), (1, .int y), (2, .int (haF (M.1 T' 1) (M.1 33) me)), (3, .int ((beF (fiB (M.1 (T' + 3)) (haF (M.1 T' 1) (M.1 33) me) y me) s).1)), (4, .int ((beF (fiB (M.1 (T' + 3)) (haF (M.1 T' 1) (M.1 33) me) y me) s).2)), (5, .int (Int32.ofNat s))], [], Mb)) (36, [(0, .ref 0), (1, .int y), (2, .int (haF (M.1 T' 1) (M.1 33) me)), (3, .int ((beF (fiB (M.1 (T' + 3)) (haF (M.1 T' 1) (M.1 33) me) y me) s).1)), (4, .int ((beF (fiB (M.1 (T' + 3)) (haF (M.1 T' 1) (M.1 33) me) y me) s).2)), (5, .int ((Int32.ofNat s) + 1))], [], Mb)
            exact ⟨s + 1, Mb, by omega, hs, by rw [ofn_s1, beF_n (p := (fiB (M.1 (T' + 3)) (haF (M.1 T' 1) (M.1 33) me) y me)) (s := s) (fun q => absurd (q.1.symm.trans (fiB_1 (ge_0 (fn_lt hLffc)))) (by decide))]⟩
          · exact absurd hLffct (by decide)
        · show (ev_cmp 0 1 0 = true → _) ∧ (ev_cmp 0 1 0 = false → _)
          refine ⟨fun hLffcf => ?_, fun hLffcf => ?_⟩
          · exact absurd hLffcf (by decide)
          · have yes : fiB (M.1 (T' + 3)) (haF (M.1 T' 1) (M.1 33) me) y me s = true := fiB_2 (fn_eq hLf) (ge_1 (fn_nlt hLffc))
            show ∃ R, cm_Lc cm_ms 0 [.int (Int32.ofNat s)] Mb R ∧ ∀ v M', R v M' → _
            have hbc := f_bc (Int32.ofNat s) Mb
            rw [bc_t s (by omega)] at hbc
            refine ⟨_, hbc, ?_⟩
            rintro v Mz ⟨rfl, hM⟩
            subst Mz
            show (ev_cmp 3 (Int32.ofNat (pc s)) ((beF (fiB (M.1 (T' + 3)) (haF (M.1 T' 1) (M.1 33) me) y me) s).2) = true → _) ∧ (ev_cmp 3 (Int32.ofNat (pc s)) ((beF (fiB (M.1 (T' + 3)) (haF (M.1 T' 1) (M.1 33) me) y me) s).2) = false → _)
            refine ⟨fun hLffcffc => ?_, fun hLffcffc => ?_⟩
            · show (fun (S : cm_S) => ∃ s Mb, s ≤ 2 ^ me ∧ sT M Mb ∧ S = (36, [(0, .ref 0), (1, .int y), (2, .int (haF (M.1 T' 1) (M.1 33) me)), (3, .int ((beF (fiB (M.1 (T' + 3)) (haF (M.1 T' 1) (M.1 33) me) y me) s).1)), (4, .int ((beF (fiB (M.1 (T' + 3)) (haF (M.1 T' 1) (M.1 33) me) y me) s).2)), (5, .int (Int32.ofNat s))], [], Mb)) (36, [(0, .ref 0), (1, .int y), (2, .int (haF (M.1 T' 1) (M.1 33) me)), (3, .int ((beF (fiB (M.1 (T' + 3)) (haF (M.1 T' 1) (M.1 33) me) y me) s).1)), (4, .int ((beF (fiB (M.1 (T' + 3)) (haF (M.1 T' 1) (M.1 33) me) y me) s).2)), (5, .int ((Int32.ofNat s) + 1))], [], Mb)
              exact ⟨s + 1, Mb, by omega, hs, by rw [ofn_s1, beF_n (p := (fiB (M.1 (T' + 3)) (haF (M.1 T' 1) (M.1 33) me) y me)) (s := s) (fun q => absurd q.2 (by
                  have z := fn_ge hLffcffc
                  omega))]⟩
            · show ∃ R, cm_Lc cm_ms 0 [.int (Int32.ofNat s)] Mb R ∧ ∀ v M', R v M' → _
              have hbc := f_bc (Int32.ofNat s) Mb
              rw [bc_t s (by omega)] at hbc
              refine ⟨_, hbc, ?_⟩
              rintro v Mz ⟨rfl, hM⟩
              subst Mz
              show (fun (S : cm_S) => ∃ s Mb, s ≤ 2 ^ me ∧ sT M Mb ∧ S = (36, [(0, .ref 0), (1, .int y), (2, .int (haF (M.1 T' 1) (M.1 33) me)), (3, .int ((beF (fiB (M.1 (T' + 3)) (haF (M.1 T' 1) (M.1 33) me) y me) s).1)), (4, .int ((beF (fiB (M.1 (T' + 3)) (haF (M.1 T' 1) (M.1 33) me) y me) s).2)), (5, .int (Int32.ofNat s))], [], Mb)) (36, [(0, .ref 0), (1, .int y), (2, .int (haF (M.1 T' 1) (M.1 33) me)), (3, .int (Int32.ofNat s)), (4, .int (Int32.ofNat (pc s))), (5, .int ((Int32.ofNat s) + 1))], [], Mb)
              have z := fn_nge hLffcffc
              exact ⟨s + 1, Mb, by omega, hs, by rw [ofn_s1, beF_y (p := (fiB (M.1 (T' + 3)) (haF (M.1 T' 1) (M.1 33) me) y me)) (s := s) yes z]⟩
  · show ∃ R, cm_Lc cm_ms 127 [.ref 0, .int y] M R ∧ ∀ v M', R v M' → _
    refine ⟨_, c_needs (M := M) y, ?_⟩
    rintro v M' ⟨hM, rfl⟩
    subst M'
    show ∃ R, cm_Lc cm_ms 158 [.ref 0, .int (bi !inB y 0 54)] M R ∧ ∀ v M', R v M' → _
    refine ⟨_, hr, ?_⟩
    rintro v Mb ⟨rfl, hs, -⟩
    have r3 : Mb.2.2 0 3 = some T' := by rw [hs.1]; exact hx.2.1.1
    have r5 : Mb.2.2 0 5 = some 32 := by rw [hs.1]; exact hx.2.1.2.1
    have r33 : Mb.2.2 32 0 = some 33 := by rw [hs.1]; exact hx.2.2.1.2.2.1.1
    have q6 : Mb.2.2 T' 6 = some (T' + 3) := by rw [hs.1]; exact hx.2.2.2.1 6 3 (by decide)
    have eT : ∀ i, i ≤ 12 → Mb.1 (T' + i) = M.1 (T' + i) := fun i hi => funext fun j => hs.2 (T' + i) j (by omega) (by omega)
    have eT0 : Mb.1 T' = M.1 T' := eT 0 (by omega)
    have e33 : Mb.1 33 = M.1 33 := funext fun j => hs.2 33 j (by omega) (by omega)
    have k3 : Mb.1 T' 3 = Int32.ofNat me := by rw [eT0]; exact hx.2.2.2.2.1.1
    show (ev_cmp 0 (bi false) 0 = true → _) ∧ (ev_cmp 0 (bi false) 0 = false → _)
    refine ⟨fun hcc => ?_, fun hcc => ?_⟩
    · first | refine lb_to (T := (15, [(0, .ref 0), (1, .int y)], [.ref 0], Mb)) 15 [0, 1] rfl rfl rfl (fun J' h => h) (lb_g0 rfl rfl r5 ?_) | refine lb_to0 (T := (15, [(0, .ref 0), (1, .int y)], [.ref 0], Mb)) 15 [0, 1] rfl rfl rfl (fun J' h => h) (lb_g0 rfl rfl r5 ?_)
      first | refine lb_to (T := (19, [(0, .ref 0), (1, .int y)], [.ref 0, .ref 32], Mb)) 19 [0, 1] rfl rfl rfl (fun J' h => h) (lb_g0 rfl rfl r3 ?_) | refine lb_to0 (T := (19, [(0, .ref 0), (1, .int y)], [.ref 0, .ref 32], Mb)) 19 [0, 1] rfl rfl rfl (fun J' h => h) (lb_g0 rfl rfl r3 ?_)
      show ∃ R, cm_Lc cm_ms 27 [.ref 32, .ref T'] Mb R ∧ ∀ v M', R v M' → _
      have hha : cm_Lc cm_ms 27 [.ref 32, .ref T'] Mb (fun v M' => M' = Mb ∧ v = some (.int (haF (M.1 T' 1) (M.1 33) me))) := by
        have q := c_hairy (M := Mb) (c := 32) (T' := T') (me := me) r33 k3 hme6
        rw [eT0, show Mb.1 (32 + 1) = M.1 33 from e33] at q
        exact q
      refine ⟨_, hha, ?_⟩
      rintro v Mz ⟨hM, rfl⟩
      subst Mz
      show (fun (S : cm_S) => ∃ s Mb, s ≤ 2 ^ me ∧ sT M Mb ∧ S = (36, [(0, .ref 0), (1, .int y), (2, .int (haF (M.1 T' 1) (M.1 33) me)), (3, .int ((beF (fiB (M.1 (T' + 3)) (haF (M.1 T' 1) (M.1 33) me) y me) s).1)), (4, .int ((beF (fiB (M.1 (T' + 3)) (haF (M.1 T' 1) (M.1 33) me) y me) s).2)), (5, .int (Int32.ofNat s))], [], Mb)) (36, [(0, .ref 0), (1, .int y), (2, .int (haF (M.1 T' 1) (M.1 33) me)), (3, .int (-2)), (4, .int 7), (5, .int 0)], [], Mb)
      exact ⟨0, Mb, Nat.zero_le _, hs, rfl⟩
    · exact absurd hcc (by decide)
set_option maxRecDepth 100000 in
theorem m_bench_k {a : Bool} {me mo : Nat} {M : cm_M} (hx : MTX a me mo M) (ha : a = true) (y : Int32) (hy : inB y 0 54 = true) : cm_Lc cm_ms 253 [.ref 124, .int y] M (fun v _ => v = some (.int ((beF (fiB (fun j => M.1 127 (13 + 3 * j)) (haF (M.1 127 1) (M.1 129) me) y me) (2 ^ me)).1))) := by
  have h15 := hx.2.1.1
  have h17 := hx.2.1.2.1
  have hme6 := hx.2.2.2.2.2.1
  have hg := MTX_gd hx
  have e127 : (gdM M).1 127 = M.1 127 := funext fun j => gd_n (by omega)
  have e129 : (gdM M).1 129 = M.1 129 := funext fun j => gd_n (by omega)
  have h3 : (gdM M).1 127 3 = Int32.ofNat me := by rw [e127]; exact (hx.2.2.1 ha).1
  have p64 := (p2m me (by omega)).2
  have p2p := Nat.two_pow_pos me
  have z0 : (0 : Int32).toInt = 0 := by decide
  have z7 : (7 : Int32).toInt = 7 := by decide
  refine lb_of (mi := mr_253) rfl [(36, [0, 1, 2, 3, 4])] (fun S => ∃ s, s ≤ 2 ^ me ∧ S = (36, [(0, .ref 124), (1, .int y), (2, .int (whyF true true)), (3, .int ((beF (fiB (fun j => M.1 127 (13 + 3 * j)) (haF (M.1 127 1) (M.1 129) me) y me) s).1)), (4, .int (Int32.ofNat s))], [], gdM M)) 400 (fun S hS => ?_) 400 ?_
  · obtain ⟨s, hsm, rfl⟩ := hS
    show ∃ R, cm_Lc cm_ms 208 [.ref 124] (gdM M) R ∧ ∀ v M', R v M' → _
    refine ⟨_, m_allMen (M := gdM M) h15 h3 hme6, ?_⟩
    rintro v M' ⟨hM, rfl⟩
    subst M'
    show (ev_cmp 4 (Int32.ofNat s) (Int32.ofNat (2 ^ me - 1)) = true → _) ∧ (ev_cmp 4 (Int32.ofNat s) (Int32.ofNat (2 ^ me - 1)) = false → _)
    refine ⟨fun hLc => ?_, fun hLc => ?_⟩
    · have g := fn_gt hLc
      rw [fn_toInt (by omega), fn_toInt (by omega)] at g
      have : s = 2 ^ me := by omega
      subst this
      exact rfl
    · have g := fn_ngt hLc
      rw [fn_toInt (by omega), fn_toInt (by omega)] at g
      have slt : s < 2 ^ me := by omega
      show ∃ R, cm_Lc cm_ms 228 [.ref 124] (gdM M) R ∧ ∀ v M', R v M' → _
      have hha : cm_Lc cm_ms 228 [.ref 124] (gdM M) (fun v M' => M' = gdM M ∧ v = some (.int (haF (M.1 127 1) (M.1 129) me))) := by
        have q := m_hairy (M := gdM M) (me := me) h15 h17 h3 hme6
        rw [e127, e129] at q
        exact q
      refine ⟨_, hha, ?_⟩
      rintro v Mz ⟨hM, rfl⟩
      subst Mz
      show (ev_cmp 1 ((Int32.ofNat s) &&& ((haF (M.1 127 1) (M.1 129) me) ^^^ (-1))) 0 = true → _) ∧ (ev_cmp 1 ((Int32.ofNat s) &&& ((haF (M.1 127 1) (M.1 129) me) ^^^ (-1))) 0 = false → _)
      refine ⟨fun hLcfc => ?_, fun hLcfc => ?_⟩
      · show (fun (S : cm_S) => ∃ s, s ≤ 2 ^ me ∧ S = (36, [(0, .ref 124), (1, .int y), (2, .int (whyF true true)), (3, .int ((beF (fiB (fun j => M.1 127 (13 + 3 * j)) (haF (M.1 127 1) (M.1 129) me) y me) s).1)), (4, .int (Int32.ofNat s))], [], gdM M)) (36, [(0, .ref 124), (1, .int y), (2, .int (whyF true true)), (3, .int ((beF (fiB (fun j => M.1 127 (13 + 3 * j)) (haF (M.1 127 1) (M.1 129) me) y me) s).1)), (4, .int ((Int32.ofNat s) + 1))], [], (gdM M))
        exact ⟨s + 1, by omega, by rw [ofn_s1, beF_n (p := (fiB (fun j => M.1 127 (13 + 3 * j)) (haF (M.1 127 1) (M.1 129) me) y me)) (s := s) (fun q => absurd (q.1.symm.trans (fiB_0 (fn_ne hLcfc))) (by decide))]⟩
      · show ∃ R, cm_Lc cm_ms 213 [.ref 124, .int (Int32.ofNat s)] (gdM M) R ∧ ∀ v M', R v M' → _
        have hv : cm_Lc cm_ms 213 [.ref 124, .int (Int32.ofNat s)] (gdM M) (fun v M' => M' = gdM M ∧ v = some (.int (voF (fun j => M.1 127 (13 + 3 * j)) (Int32.ofNat s) me))) := by
          have q := m_votes (M := gdM M) (me := me) h15 h3 hme6 (Int32.ofNat s)
          rw [e127] at q
          exact q
        refine ⟨_, hv, ?_⟩
        rintro v Mz ⟨hM, rfl⟩
        subst Mz
        show (ev_cmp 2 (voF (fun j => M.1 127 (13 + 3 * j)) (Int32.ofNat s) me) y = true → _) ∧ (ev_cmp 2 (voF (fun j => M.1 127 (13 + 3 * j)) (Int32.ofNat s) me) y = false → _)
        refine ⟨fun hLcfcfc => ?_, fun hLcfcfc => ?_⟩
        · show (fun (S : cm_S) => ∃ s, s ≤ 2 ^ me ∧ S = (36, [(0, .ref 124), (1, .int y), (2, .int (whyF true true)), (3, .int ((beF (fiB (fun j => M.1 127 (13 + 3 * j)) (haF (M.1 127 1) (M.1 129) me) y me) s).1)), (4, .int (Int32.ofNat s))], [], gdM M)) (36, [(0, .ref 124), (1, .int y), (2, .int (whyF true true)), (3, .int ((beF (fiB (fun j => M.1 127 (13 + 3 * j)) (haF (M.1 127 1) (M.1 129) me) y me) s).1)), (4, .int ((Int32.ofNat s) + 1))], [], (gdM M))
          exact ⟨s + 1, by omega, by rw [ofn_s1, beF_n (p := (fiB (fun j => M.1 127 (13 + 3 * j)) (haF (M.1 127 1) (M.1 129) me) y me)) (s := s) (fun q => absurd (q.1.symm.trans (fiB_1 (ge_0 (fn_lt hLcfcfc)))) (by decide))]⟩
        · have yes : fiB (fun j => M.1 127 (13 + 3 * j)) (haF (M.1 127 1) (M.1 129) me) y me s = true := fiB_2 (fn_eq hLcfc) (ge_1 (fn_nlt hLcfcfc))
          show (ev_cmp 2 ((beF (fiB (fun j => M.1 127 (13 + 3 * j)) (haF (M.1 127 1) (M.1 129) me) y me) s).1) 0 = true → _) ∧ (ev_cmp 2 ((beF (fiB (fun j => M.1 127 (13 + 3 * j)) (haF (M.1 127 1) (M.1 129) me) y me) s).1) 0 = false → _)
          refine ⟨fun hLcfcfcf => ?_, fun hLcfcfcf => ?_⟩
          · show (fun (S : cm_S) => ∃ s, s ≤ 2 ^ me ∧ S = (36, [(0, .ref 124), (1, .int y), (2, .int (whyF true true)), (3, .int ((beF (fiB (fun j => M.1 127 (13 + 3 * j)) (haF (M.1 127 1) (M.1 129) me) y me) s).1)), (4, .int (Int32.ofNat s))], [], gdM M)) (36, [(0, .ref 124), (1, .int y), (2, .int (whyF true true)), (3, .int (Int32.ofNat s)), (4, .int ((Int32.ofNat s) + 1))], [], (gdM M))
            have hq : beF (fiB (fun j => M.1 127 (13 + 3 * j)) (haF (M.1 127 1) (M.1 129) me) y me) s = (-2, 7) := (beF_inv (fiB (fun j => M.1 127 (13 + 3 * j)) (haF (M.1 127 1) (M.1 129) me) y me) s).resolve_right (fun ⟨b, b1, b2⟩ => by
              have z := fn_lt hLcfcfcf
              rw [b2, z0] at z
              have z : (Int32.ofNat b).toInt < 0 := z
              rw [fn_toInt (by omega)] at z
              omega)
            exact ⟨s + 1, by omega, by rw [ofn_s1, beF_y (p := (fiB (fun j => M.1 127 (13 + 3 * j)) (haF (M.1 127 1) (M.1 129) me) y me)) (s := s) yes (by
              rw [hq]
              show (Int32.ofNat (pc s)).toInt < (7 : Int32).toInt
              have := pc_6 s
              rw [fn_toInt (by omega), z7]
              omega)]⟩
          · obtain ⟨b, hb1, hb2⟩ := (beF_inv (fiB (fun j => M.1 127 (13 + 3 * j)) (haF (M.1 127 1) (M.1 129) me) y me) s).resolve_left (fun q => by
              have z := fn_nlt hLcfcfcf
              rw [q] at z
              exact absurd z (by decide))
            show ∃ R, cm_Lc cm_ms 169 [.int (Int32.ofNat s)] (gdM M) R ∧ ∀ v M', R v M' → _
            refine ⟨_, m_ones (a := s) (by omega) (gdM M), ?_⟩
            rintro v Mz ⟨hM, rfl⟩
            subst Mz
            show ∃ R, cm_Lc cm_ms 169 [.int ((beF (fiB (fun j => M.1 127 (13 + 3 * j)) (haF (M.1 127 1) (M.1 129) me) y me) s).1)] (gdM M) R ∧ ∀ v M', R v M' → _
            have ho2 : cm_Lc cm_ms 169 [.int (beF (fiB (fun j => M.1 127 (13 + 3 * j)) (haF (M.1 127 1) (M.1 129) me) y me) s).1] (gdM M) (fun v M' => M' = gdM M ∧ v = some (.int (Int32.ofNat (pc b)))) := by
              rw [hb2]
              exact m_ones (a := b) (by omega) (gdM M)
            refine ⟨_, ho2, ?_⟩
            rintro v Mz ⟨hM, rfl⟩
            subst Mz
            show (ev_cmp 3 (Int32.ofNat (pc s)) (Int32.ofNat (pc b)) = true → _) ∧ (ev_cmp 3 (Int32.ofNat (pc s)) (Int32.ofNat (pc b)) = false → _)
            refine ⟨fun hLcfcfcffcc => ?_, fun hLcfcfcffcc => ?_⟩
            · show (fun (S : cm_S) => ∃ s, s ≤ 2 ^ me ∧ S = (36, [(0, .ref 124), (1, .int y), (2, .int (whyF true true)), (3, .int ((beF (fiB (fun j => M.1 127 (13 + 3 * j)) (haF (M.1 127 1) (M.1 129) me) y me) s).1)), (4, .int (Int32.ofNat s))], [], gdM M)) (36, [(0, .ref 124), (1, .int y), (2, .int (whyF true true)), (3, .int ((beF (fiB (fun j => M.1 127 (13 + 3 * j)) (haF (M.1 127 1) (M.1 129) me) y me) s).1)), (4, .int ((Int32.ofNat s) + 1))], [], (gdM M))
              exact ⟨s + 1, by omega, by rw [ofn_s1, beF_n (p := (fiB (fun j => M.1 127 (13 + 3 * j)) (haF (M.1 127 1) (M.1 129) me) y me)) (s := s) (fun q => absurd q.2 (by
                  have z := fn_ge hLcfcfcffcc
                  rw [hb2]
                  show ¬ (Int32.ofNat (pc s)).toInt < (Int32.ofNat (pc b)).toInt
                  omega))]⟩
            · show (fun (S : cm_S) => ∃ s, s ≤ 2 ^ me ∧ S = (36, [(0, .ref 124), (1, .int y), (2, .int (whyF true true)), (3, .int ((beF (fiB (fun j => M.1 127 (13 + 3 * j)) (haF (M.1 127 1) (M.1 129) me) y me) s).1)), (4, .int (Int32.ofNat s))], [], gdM M)) (36, [(0, .ref 124), (1, .int y), (2, .int (whyF true true)), (3, .int (Int32.ofNat s)), (4, .int ((Int32.ofNat s) + 1))], [], (gdM M))
              have z := fn_nge hLcfcfcffcc
              exact ⟨s + 1, by omega, by rw [ofn_s1, beF_y (p := (fiB (fun j => M.1 127 (13 + 3 * j)) (haF (M.1 127 1) (M.1 129) me) y me)) (s := s) yes (by
                rw [hb2]
                exact z)]⟩
  · show ∃ R, cm_Lc cm_ms 164 [.ref 124] M R ∧ ∀ v M', R v M' → _
    refine ⟨_, m_goodG M, ?_⟩
    rintro v M' ⟨rfl, rfl⟩
    show ∃ R, cm_Lc cm_ms 167 [.int y, .int 0, .int 54] (gdM M) R ∧ ∀ v M', R v M' → _
    have hi := m_in2 y 0 54 (gdM M)
    rw [hy] at hi
    refine ⟨_, hi, ?_⟩
    rintro v M' ⟨hM, rfl⟩
    subst M'
    show ∃ R, cm_Lc cm_ms 233 [.ref 124, .int ((gdM M).1 124 14), .int (bi true)] (gdM M) R ∧ ∀ v M', R v M' → _
    have hw : cm_Lc cm_ms 233 [.ref 124, .int ((gdM M).1 124 14), .int (bi true)] (gdM M) (fun v M' => M' = gdM M ∧ v = some (.int (whyF true true))) := by
      rw [show (gdM M).1 124 14 = bi true from by rw [gd_n (by omega), hx.1, ha]]
      exact m_why true true (gdM M)
    refine ⟨_, hw, ?_⟩
    rintro v Mz ⟨hM, rfl⟩
    subst Mz
    show (ev_cmp 0 (whyF true true) 0 = true → _) ∧ (ev_cmp 0 (whyF true true) 0 = false → _)
    refine ⟨fun hccc => ?_, fun hccc => ?_⟩
    · show (fun (S : cm_S) => ∃ s, s ≤ 2 ^ me ∧ S = (36, [(0, .ref 124), (1, .int y), (2, .int (whyF true true)), (3, .int ((beF (fiB (fun j => M.1 127 (13 + 3 * j)) (haF (M.1 127 1) (M.1 129) me) y me) s).1)), (4, .int (Int32.ofNat s))], [], gdM M)) (36, [(0, .ref 124), (1, .int y), (2, .int (whyF true true)), (3, .int (-2)), (4, .int 0)], [], (gdM M))
      exact ⟨0, Nat.zero_le _, rfl⟩
    · exact absurd hccc (by decide)
