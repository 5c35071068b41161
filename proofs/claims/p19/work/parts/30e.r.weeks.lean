/-! WEEKS TO COME -/
/-- the scratch minutes -/
def TRX (M : cm_M) : Prop := M.2.2 0 6 = some 35 ∧ M.2.2 35 0 = some 36 ∧ M.2.2 35 1 = some 37
/-- hair behind so many weeks; a row behind them -/
def lkH (gr : Int32) (me : Nat) (h : Nat → Int32) : Nat → Nat → Int32
  | 0 => h
  | n + 1 => wkH gr (lkH gr me h n) me
def lkR (gr : Int32) (me : Nat) (r : Nat → Int32) : Nat → Nat → Int32
  | 0 => r
  | n + 1 => wkR gr me (lkR gr me r n)
theorem wkH_cg {gr : Int32} {h h' : Nat → Int32} {me N : Nat} (hN : ∀ j, j < N → h' j = h j) : ∀ j, j < N → wkH gr h' me j = wkH gr h me j := fun j hj => by
  unfold wkH
  rw [hN j hj]
theorem wkR_cg {gr : Int32} {me : Nat} {r r' : Nat → Int32} (h : ∀ j, j < 11 → r' j = r j) : ∀ j, j < 11 → wkR gr me r' j = wkR gr me r j := fun j hj => by
  unfold wkR
  rw [h 10 (by omega), wkH_cg h j hj]
theorem lk_eq {gr : Int32} {me : Nat} {h r : Nat → Int32} (hme : me ≤ 6) (e : ∀ j, j < me → r j = h j) : ∀ n j, j < me → lkR gr me r n j = lkH gr me h n j
  | 0, j, hj => e j hj
  | n + 1, j, hj => by
    show (if j = 10 then lkR gr me r n 10 + 1 else if j < me then wkF gr (lkR gr me r n j) else lkR gr me r n j) = (if j < me then wkF gr (lkH gr me h n j) else lkH gr me h n j)
    rw [if_neg (by omega), if_pos hj, if_pos hj, lk_eq hme e n j hj]
/-- votes that say yes, enough of them -/
def yeF (ba cu : Int32) (A H vo : Nat → Int32) (k me : Nat) : Int32 := voF vo (orF (fun m => syB ba cu (A m) (H m) k) me) me
def enF (ba cu nd : Int32) (A H vo : Nat → Int32) (k me : Nat) : Bool := geB (yeF ba cu A H vo k me) nd
theorem yeF_cg {ba ba' cu cu' : Int32} {A A' H H' vo vo' : Nat → Int32} {k me : Nat} (h1 : ba' = ba) (h2 : cu' = cu) (h3 : ∀ m, m < me → A' m = A m ∧ H' m = H m ∧ vo' m = vo m) : yeF ba' cu' A' H' vo' k me = yeF ba cu A H vo k me := by
  unfold yeF
  rw [voF_cg (vo := vo) (vo' := vo') me (fun m hm => (h3 m hm).2.2), orF_cg (p := fun m => syB ba cu (A m) (H m) k) (q := fun m => syB ba' cu' (A' m) (H' m) k) me (fun m hm => by
    show syB ba' cu' (A' m) (H' m) k = syB ba cu (A m) (H m) k
    rw [h1, h2, (h3 m hm).1, (h3 m hm).2.1])]
theorem enF_cg {ba ba' cu cu' nd nd' : Int32} {A A' H H' vo vo' : Nat → Int32} {k me : Nat} (h0 : nd' = nd) (h1 : ba' = ba) (h2 : cu' = cu) (h3 : ∀ m, m < me → A' m = A m ∧ H' m = H m ∧ vo' m = vo m) : enF ba' cu' nd' A' H' vo' k me = enF ba cu nd A H vo k me := by
  unfold enF
  rw [yeF_cg h1 h2 h3, h0]
/-- the first of so many, from a place on; -2 -/
def frF (p : Nat → Bool) : Nat → Nat → Int32
  | 0, _ => -2
  | c + 1, s => if p s = true then Int32.ofNat s else frF p c (s + 1)
theorem frF_t {p : Nat → Bool} {c s : Nat} (h : p s = true) : frF p (c + 1) s = Int32.ofNat s := if_pos h
theorem frF_f {p : Nat → Bool} {c s : Nat} (h : p s = false) : frF p (c + 1) s = frF p c (s + 1) := by
  show (if _ then _ else _) = _
  rw [h, if_neg (by decide)]
theorem frF_cg {p q : Nat → Bool} : ∀ c s, (∀ i, q i = p i) → frF q c s = frF p c s
  | 0, _, _ => rfl
  | c + 1, s, h => by
    unfold frF
    rw [h s, frF_cg (p := p) c (s + 1) h]
theorem frF_step {p : Nat → Bool} {n : Nat} {z : Int32} (hn : n < 61) (h : p n = false) (e : frF p (61 - n) n = z) : frF p (61 - (n + 1)) (n + 1) = z := by
  rw [← e, show 61 - n = (61 - (n + 1)) + 1 from by omega, frF_f h]
theorem frF_hit {p : Nat → Bool} {n : Nat} {z : Int32} (hn : n < 61) (h : p n = true) (e : frF p (61 - n) n = z) : Int32.ofNat n = z := by
  rw [← e, show 61 - n = (61 - (n + 1)) + 1 from by omega, frF_t h]
/-- a number of weeks -/
theorem wk_in {y : Int32} (h : inB y 0 60 = true) : ∃ n, n ≤ 60 ∧ y = Int32.ofNat n := by
  unfold inB at h
  rw [show (0 : Int32).toInt = 0 by decide, show (60 : Int32).toInt = 60 by decide, Bool.and_eq_true, decide_eq_true_eq, decide_eq_true_eq] at h
  obtain ⟨n, q1, q2, q3⟩ := i_of h.1
  exact ⟨n, by omega, q1⟩
theorem wk_out {y : Int32} (h : inB y 0 60 = false) : y.toInt < 0 ∨ 60 < y.toInt := by
  unfold inB at h
  rw [show (0 : Int32).toInt = 0 by decide, show (60 : Int32).toInt = 60 by decide, Bool.and_eq_false_iff, decide_eq_false_iff_not, decide_eq_false_iff_not] at h
  omega
theorem in_wk {n : Nat} (h : n ≤ 60) : inB (Int32.ofNat n) 0 60 = true := by
  unfold inB
  rw [show (0 : Int32).toInt = 0 by decide, show (60 : Int32).toInt = 60 by decide, fn_toInt (by omega), decide_eq_true (by omega), decide_eq_true (by omega)]
  try rfl
theorem lk_step {M M1 M2 : cm_M} {T' me n : Nat} {we we2 : Int32} (hs : mset 35 M M1 (lkH (M.1 T' 0) me (M.1 33) n) (M.1 34) (M.1 32 2) we) (k0 : M1.1 T' 0 = M.1 T' 0) (hs2 : mset 35 M1 M2 (wkH (M1.1 T' 0) (M1.1 (35 + 1)) me) (M1.1 (35 + 2)) (M1.1 35 2) we2) : mset 35 M M2 (lkH (M.1 T' 0) me (M.1 33) (n + 1)) (M.1 34) (M.1 32 2) we2 := by
  have q := mset_cg (mset_tr hs hs2) (H' := lkH (M.1 T' 0) me (M.1 33) (n + 1)) (F' := M.1 34) (fun j hj => ?_) (fun p hp => (hs.2.2.2.1 p hp).symm)
  · rw [hs.2.2.2.2.1] at q
    exact q
  · show wkH (M.1 T' 0) (lkH (M.1 T' 0) me (M.1 33) n) me j = wkH (M1.1 T' 0) (M1.1 (35 + 1)) me j
    rw [k0]
    exact wkH_cg (N := 6) (fun i hi => (hs.2.2.1 i hi).symm) j hj
set_option maxRecDepth 100000 in
theorem c_look {M : cm_M} {T' me mo : Nat} (hx : CTX T' me mo M) (ht : TRX M) {n : Nat} (hn : n < 1000) : cm_Lc cm_ms 112 [.ref 0, .int (Int32.ofNat n)] M (fun v M' => v = none ∧ ∃ we, mset 35 M M' (lkH (M.1 T' 0) me (M.1 33) n) (M.1 34) (M.1 32 2) we) := by
  have hT19 : T' ≤ 19 := by have := hx.1; omega
  have h6T : 6 ≤ T' := by have := hx.1; omega
  have hme6 := hx.2.2.2.2.2.1
  have hmo5 := hx.2.2.2.2.2.2
  have r3 : M.2.2 0 3 = some T' := hx.2.1.1
  have r5 : M.2.2 0 5 = some 32 := hx.2.1.2.1
  have r6 : M.2.2 0 6 = some 35 := ht.1
  have r33 : M.2.2 32 0 = some 33 := hx.2.2.1.2.2.1.1
  have r36 : M.2.2 35 0 = some 36 := ht.2.1
  have r37 : M.2.2 35 1 = some 37 := ht.2.2
  have q10 : M.2.2 T' 10 = some (T' + 6) := hx.2.2.2.1 10 6 (by decide)
  have q7 : M.2.2 T' 7 = some (T' + 4) := hx.2.2.2.1 7 4 (by decide)
  have q6 : M.2.2 T' 6 = some (T' + 3) := hx.2.2.2.1 6 3 (by decide)
  have q11 : M.2.2 T' 11 = some (T' + 7) := hx.2.2.2.1 11 7 (by decide)
  have q13 : M.2.2 T' 13 = some (T' + 9) := hx.2.2.2.1 13 9 (by decide)
  refine lb_of (mi := mr_112) rfl [(13, [0, 1, 2])] (fun S => ∃ k M1, k ≤ n ∧ (∃ we, mset 35 M M1 (lkH (M.1 T' 0) me (M.1 33) k) (M.1 34) (M.1 32 2) we) ∧ S = (13, [(0, .ref 0), (1, .int (Int32.ofNat n)), (2, .int (Int32.ofNat k))], [], M1)) 400 (fun S hS => ?_) 400 ?_
  · obtain ⟨k, M1, hk, ⟨we, hs⟩, rfl⟩ := hS
    have r3 : M1.2.2 0 3 = some T' := by rw [hs.1]; exact hx.2.1.1
    have r5 : M1.2.2 0 5 = some 32 := by rw [hs.1]; exact hx.2.1.2.1
    have r6 : M1.2.2 0 6 = some 35 := by rw [hs.1]; exact ht.1
    have r33 : M1.2.2 32 0 = some 33 := by rw [hs.1]; exact hx.2.2.1.2.2.1.1
    have r36 : M1.2.2 35 0 = some 36 := by rw [hs.1]; exact ht.2.1
    have r37 : M1.2.2 35 1 = some 37 := by rw [hs.1]; exact ht.2.2
    have q10 : M1.2.2 T' 10 = some (T' + 6) := by rw [hs.1]; exact hx.2.2.2.1 10 6 (by decide)
    have q7 : M1.2.2 T' 7 = some (T' + 4) := by rw [hs.1]; exact hx.2.2.2.1 7 4 (by decide)
    have q6 : M1.2.2 T' 6 = some (T' + 3) := by rw [hs.1]; exact hx.2.2.2.1 6 3 (by decide)
    have q11 : M1.2.2 T' 11 = some (T' + 7) := by rw [hs.1]; exact hx.2.2.2.1 11 7 (by decide)
    have q13 : M1.2.2 T' 13 = some (T' + 9) := by rw [hs.1]; exact hx.2.2.2.1 13 9 (by decide)
    have k3 : M1.1 T' 3 = Int32.ofNat me := (hs.2.1 T' 3 (by omega) (by omega) (by omega)).trans hx.2.2.2.2.1.1
    have k0 : M1.1 T' 0 = M.1 T' 0 := hs.2.1 T' 0 (by omega) (by omega) (by omega)
    show (ev_cmp 3 (Int32.ofNat k) (Int32.ofNat n) = true → _) ∧ (ev_cmp 3 (Int32.ofNat k) (Int32.ofNat n) = false → _)
    refine ⟨fun hL => ?_, fun hL => ?_⟩
    · have g := fn_ge hL
      rw [fn_toInt (by omega), fn_toInt (by omega)] at g
      have : k = n := by omega
      subst this
      exact ⟨rfl, we, hs⟩
    · have g := fn_nge hL
      rw [fn_toInt (by omega), fn_toInt (by omega)] at g
      first | refine lb_to (T := (19, [(0, .ref 0), (1, .int (Int32.ofNat n)), (2, .int (Int32.ofNat k))], [.ref 0], M1)) 19 [0, 1, 2] rfl rfl rfl (fun J' h => h) (lb_g0 rfl rfl r6 ?_) | refine lb_to0 (T := (19, [(0, .ref 0), (1, .int (Int32.ofNat n)), (2, .int (Int32.ofNat k))], [.ref 0], M1)) 19 [0, 1, 2] rfl rfl rfl (fun J' h => h) (lb_g0 rfl rfl r6 ?_)
      first | refine lb_to (T := (23, [(0, .ref 0), (1, .int (Int32.ofNat n)), (2, .int (Int32.ofNat k))], [.ref 0, .ref 35], M1)) 23 [0, 1, 2] rfl rfl rfl (fun J' h => h) (lb_g0 rfl rfl r3 ?_) | refine lb_to0 (T := (23, [(0, .ref 0), (1, .int (Int32.ofNat n)), (2, .int (Int32.ofNat k))], [.ref 0, .ref 35], M1)) 23 [0, 1, 2] rfl rfl rfl (fun J' h => h) (lb_g0 rfl rfl r3 ?_)
      show ∃ R, cm_Lc cm_ms 24 [.ref 35, .ref T'] M1 R ∧ ∀ v M', R v M' → _
      refine ⟨_, c_week (M := M1) (c := 35) (T' := T') (me := me) r36 (by omega) hT19 k3 hme6, ?_⟩
      rintro v Mb ⟨rfl, hs2⟩
      show (fun (S : cm_S) => ∃ k M1, k ≤ n ∧ (∃ we, mset 35 M M1 (lkH (M.1 T' 0) me (M.1 33) k) (M.1 34) (M.1 32 2) we) ∧ S = (13, [(0, .ref 0), (1, .int (Int32.ofNat n)), (2, .int (Int32.ofNat k))], [], M1)) (13, [(0, .ref 0), (1, .int (Int32.ofNat n)), (2, .int ((Int32.ofNat k) + 1))], [], Mb)
      exact ⟨k + 1, Mb, by omega, ⟨_, lk_step hs k0 hs2⟩, by rw [ofn_s1]⟩
  · first | refine lb_to (T := (1, [(0, .ref 0), (1, .int (Int32.ofNat n))], [.ref 0], M)) 1 [0, 1] rfl rfl rfl (fun J' h => h) (lb_g0 rfl rfl r6 ?_) | refine lb_to0 (T := (1, [(0, .ref 0), (1, .int (Int32.ofNat n))], [.ref 0], M)) 1 [0, 1] rfl rfl rfl (fun J' h => h) (lb_g0 rfl rfl r6 ?_)
    first | refine lb_to (T := (5, [(0, .ref 0), (1, .int (Int32.ofNat n))], [.ref 0, .ref 35], M)) 5 [0, 1] rfl rfl rfl (fun J' h => h) (lb_g0 rfl rfl r5 ?_) | refine lb_to0 (T := (5, [(0, .ref 0), (1, .int (Int32.ofNat n))], [.ref 0, .ref 35], M)) 5 [0, 1] rfl rfl rfl (fun J' h => h) (lb_g0 rfl rfl r5 ?_)
    show ∃ R, cm_Lc cm_ms 23 [.ref 35, .ref 32] M R ∧ ∀ v M', R v M' → _
    refine ⟨_, c_copy (c := 35) (d := 32) r36 r37 r33 hx.2.2.1.2.2.1.2 (by omega), ?_⟩
    rintro v Mb ⟨rfl, hs⟩
    show (fun (S : cm_S) => ∃ k M1, k ≤ n ∧ (∃ we, mset 35 M M1 (lkH (M.1 T' 0) me (M.1 33) k) (M.1 34) (M.1 32 2) we) ∧ S = (13, [(0, .ref 0), (1, .int (Int32.ofNat n)), (2, .int (Int32.ofNat k))], [], M1)) (13, [(0, .ref 0), (1, .int (Int32.ofNat n)), (2, .int 0)], [], Mb)
    exact ⟨0, Mb, Nat.zero_le _, ⟨_, hs⟩, rfl⟩
theorem c_longIn_out {M : cm_M} {T' me mo : Nat} (hx : CTX T' me mo M) (x y : Int32) (ho : outB x (Int32.ofNat me) = true) : cm_Lc cm_ms 107 [.ref 0, .int x, .int y] M (fun v _ => v = some (.int (-1))) := by
  have hl := c_lacksMan hx.2.1.1 x
  rw [hx.2.2.2.2.1.1, ho] at hl
  refine lb_st0 (mi := mr_107) rfl 400 ?_
  show ∃ R, cm_Lc cm_ms 161 [.ref 0, .int x] M R ∧ ∀ v M', R v M' → _
  refine ⟨_, hl, ?_⟩
  rintro v M' ⟨hM, rfl⟩
  subst M'
  show (ev_cmp 0 (bi true) 0 = true → _) ∧ (ev_cmp 0 (bi true) 0 = false → _)
  refine ⟨fun hc => ?_, fun hc => ?_⟩
  · exact absurd hc (by decide)
  · show ∃ R, cm_Lc cm_ms 157 [.ref 0, .int 1] M R ∧ ∀ v M', R v M' → _
    refine ⟨_, c_refused 1 M, ?_⟩
    rintro v M' ⟨hM, rfl⟩
    subst M'
    exact rfl
theorem c_longIn_bad {M : cm_M} {T' me mo : Nat} (hx : CTX T' me mo M) {k : Nat} (hk : k < me) (y : Int32) (hy : inB y 0 60 = false) : cm_Lc cm_ms 107 [.ref 0, .int (Int32.ofNat k), .int y] M (fun v _ => v = some (.int (-1))) := by
  have hT19 : T' ≤ 19 := by have := hx.1; omega
  have h6T : 6 ≤ T' := by have := hx.1; omega
  have hme6 := hx.2.2.2.2.2.1
  have hmo5 := hx.2.2.2.2.2.2
  have hl := c_lacksMan hx.2.1.1 (Int32.ofNat k)
  rw [hx.2.2.2.2.1.1, outB_lt hk (by omega)] at hl
  have ek := fn_nat (show k < 2147483648 by omega)
  have z0 : (0 : Int32).toInt = 0 := by decide
  have z60 : (60 : Int32).toInt = 60 := by decide
  have hy2 := wk_out hy
  refine lb_st0 (mi := mr_107) rfl 400 ?_
  show ∃ R, cm_Lc cm_ms 161 [.ref 0, .int (Int32.ofNat k)] M R ∧ ∀ v M', R v M' → _
  refine ⟨_, hl, ?_⟩
  rintro v M' ⟨hM, rfl⟩
  subst M'
  show (ev_cmp 0 (bi false) 0 = true → _) ∧ (ev_cmp 0 (bi false) 0 = false → _)
  refine ⟨fun hc => ?_, fun hc => ?_⟩
  · show (ev_cmp 2 y 0 = true → _) ∧ (ev_cmp 2 y 0 = false → _)
    refine ⟨fun hct => ?_, fun hct => ?_⟩
    · show ∃ R, cm_Lc cm_ms 157 [.ref 0, .int 2] M R ∧ ∀ v M', R v M' → _
      refine ⟨_, c_refused 2 M, ?_⟩
      rintro v M' ⟨hM, rfl⟩
      subst M'
      exact rfl
    · show (ev_cmp 5 y 60 = true → _) ∧ (ev_cmp 5 y 60 = false → _)
      refine ⟨fun hctf => ?_, fun hctf => ?_⟩
      · have q1 := fn_nlt hct
        have q2 := fn_le hctf
        rw [z0] at q1
        rw [z60] at q2
        omega
      · show ∃ R, cm_Lc cm_ms 157 [.ref 0, .int 2] M R ∧ ∀ v M', R v M' → _
        refine ⟨_, c_refused 2 M, ?_⟩
        rintro v M' ⟨hM, rfl⟩
        subst M'
        exact rfl
  · exact absurd hc (by decide)
set_option maxRecDepth 100000 in
theorem c_longIn_k {M : cm_M} {T' me mo : Nat} (hx : CTX T' me mo M) (ht : TRX M) {k n : Nat} (hk : k < me) (hn : n ≤ 60) : cm_Lc cm_ms 107 [.ref 0, .int (Int32.ofNat k), .int (Int32.ofNat n)] M (fun v _ => v = some (.int (lkH (M.1 T' 0) me (M.1 33) n k))) := by
  have hT19 : T' ≤ 19 := by have := hx.1; omega
  have h6T : 6 ≤ T' := by have := hx.1; omega
  have hme6 := hx.2.2.2.2.2.1
  have hmo5 := hx.2.2.2.2.2.2
  have hl := c_lacksMan hx.2.1.1 (Int32.ofNat k)
  rw [hx.2.2.2.2.1.1, outB_lt hk (by omega)] at hl
  have ek := fn_nat (show k < 2147483648 by omega)
  have z0 : (0 : Int32).toInt = 0 := by decide
  have z60 : (60 : Int32).toInt = 60 := by decide
  have r3 : M.2.2 0 3 = some T' := hx.2.1.1
  have r5 : M.2.2 0 5 = some 32 := hx.2.1.2.1
  have r6 : M.2.2 0 6 = some 35 := ht.1
  have r33 : M.2.2 32 0 = some 33 := hx.2.2.1.2.2.1.1
  have r36 : M.2.2 35 0 = some 36 := ht.2.1
  have r37 : M.2.2 35 1 = some 37 := ht.2.2
  have q10 : M.2.2 T' 10 = some (T' + 6) := hx.2.2.2.1 10 6 (by decide)
  have q7 : M.2.2 T' 7 = some (T' + 4) := hx.2.2.2.1 7 4 (by decide)
  have q6 : M.2.2 T' 6 = some (T' + 3) := hx.2.2.2.1 6 3 (by decide)
  have q11 : M.2.2 T' 11 = some (T' + 7) := hx.2.2.2.1 11 7 (by decide)
  have q13 : M.2.2 T' 13 = some (T' + 9) := hx.2.2.2.1 13 9 (by decide)
  refine lb_st0 (mi := mr_107) rfl 400 ?_
  show ∃ R, cm_Lc cm_ms 161 [.ref 0, .int (Int32.ofNat k)] M R ∧ ∀ v M', R v M' → _
  refine ⟨_, hl, ?_⟩
  rintro v M' ⟨hM, rfl⟩
  subst M'
  show (ev_cmp 0 (bi false) 0 = true → _) ∧ (ev_cmp 0 (bi false) 0 = false → _)
  refine ⟨fun hc => ?_, fun hc => ?_⟩
  · show (ev_cmp 2 (Int32.ofNat n) 0 = true → _) ∧ (ev_cmp 2 (Int32.ofNat n) 0 = false → _)
    refine ⟨fun hct => ?_, fun hct => ?_⟩
    · have q := fn_lt hct
      rw [z0, fn_toInt (by omega)] at q
      omega
    · show (ev_cmp 5 (Int32.ofNat n) 60 = true → _) ∧ (ev_cmp 5 (Int32.ofNat n) 60 = false → _)
      refine ⟨fun hctf => ?_, fun hctf => ?_⟩
      · show ∃ R, cm_Lc cm_ms 112 [.ref 0, .int (Int32.ofNat n)] M R ∧ ∀ v M', R v M' → _
        refine ⟨_, c_look hx ht (show n < 1000 by omega), ?_⟩
        rintro v Mb ⟨rfl, we, hs⟩
        have r3 : Mb.2.2 0 3 = some T' := by rw [hs.1]; exact hx.2.1.1
        have r5 : Mb.2.2 0 5 = some 32 := by rw [hs.1]; exact hx.2.1.2.1
        have r6 : Mb.2.2 0 6 = some 35 := by rw [hs.1]; exact ht.1
        have r33 : Mb.2.2 32 0 = some 33 := by rw [hs.1]; exact hx.2.2.1.2.2.1.1
        have r36 : Mb.2.2 35 0 = some 36 := by rw [hs.1]; exact ht.2.1
        have r37 : Mb.2.2 35 1 = some 37 := by rw [hs.1]; exact ht.2.2
        have q10 : Mb.2.2 T' 10 = some (T' + 6) := by rw [hs.1]; exact hx.2.2.2.1 10 6 (by decide)
        have q7 : Mb.2.2 T' 7 = some (T' + 4) := by rw [hs.1]; exact hx.2.2.2.1 7 4 (by decide)
        have q6 : Mb.2.2 T' 6 = some (T' + 3) := by rw [hs.1]; exact hx.2.2.2.1 6 3 (by decide)
        have q11 : Mb.2.2 T' 11 = some (T' + 7) := by rw [hs.1]; exact hx.2.2.2.1 11 7 (by decide)
        have q13 : Mb.2.2 T' 13 = some (T' + 9) := by rw [hs.1]; exact hx.2.2.2.1 13 9 (by decide)
        have eT : ∀ i, i ≤ 12 → Mb.1 (T' + i) = M.1 (T' + i) := fun i hi => funext fun j => hs.2.1 (T' + i) j (by omega) (by omega) (by omega)
        have eT0 : Mb.1 T' = M.1 T' := eT 0 (by omega)
        first | refine lb_to (T := (37, [(0, .ref 0), (1, .int (Int32.ofNat k)), (2, .int (Int32.ofNat n))], [.ref 0, .ref 0], Mb)) 37 [0, 1, 2] rfl rfl rfl (fun J' h => h) (lb_g0 rfl rfl r6 ?_) | refine lb_to0 (T := (37, [(0, .ref 0), (1, .int (Int32.ofNat k)), (2, .int (Int32.ofNat n))], [.ref 0, .ref 0], Mb)) 37 [0, 1, 2] rfl rfl rfl (fun J' h => h) (lb_g0 rfl rfl r6 ?_)
        first | refine lb_to (T := (40, [(0, .ref 0), (1, .int (Int32.ofNat k)), (2, .int (Int32.ofNat n))], [.ref 35, .ref 0], Mb)) 40 [0, 1, 2] rfl rfl rfl (fun J' h => h) (lb_g0 rfl rfl r36 ?_) | refine lb_to0 (T := (40, [(0, .ref 0), (1, .int (Int32.ofNat k)), (2, .int (Int32.ofNat n))], [.ref 35, .ref 0], Mb)) 40 [0, 1, 2] rfl rfl rfl (fun J' h => h) (lb_g0 rfl rfl r36 ?_)
        show ∃ R, cm_Lc cm_ms 159 [.ref 0, .int (Mb.1 36 ((Int32.ofNat k).toNatClampNeg))] Mb R ∧ ∀ v M', R v M' → _
        refine ⟨_, c_granted _ _, ?_⟩
        rintro v Mc ⟨hG, rfl⟩
        show some (Value.int (Mb.1 36 (Int32.ofNat k).toNatClampNeg)) = _
        rw [ek]
        exact congrArg (fun b => some (Value.int b)) (hs.2.2.1 k (by omega))
      · have q := fn_nle hctf
        rw [z60, fn_toInt (by omega)] at q
        omega
  · exact absurd hc (by decide)
theorem c_yesIn_out {M : cm_M} {T' me mo : Nat} (hx : CTX T' me mo M) (x y : Int32) (ho : outB x (Int32.ofNat mo) = true) : cm_Lc cm_ms 108 [.ref 0, .int x, .int y] M (fun v _ => v = some (.int (-1))) := by
  have hl := c_lacksMotion hx.2.1.1 x
  rw [hx.2.2.2.2.1.2, ho] at hl
  refine lb_st0 (mi := mr_108) rfl 400 ?_
  show ∃ R, cm_Lc cm_ms 162 [.ref 0, .int x] M R ∧ ∀ v M', R v M' → _
  refine ⟨_, hl, ?_⟩
  rintro v M' ⟨hM, rfl⟩
  subst M'
  show (ev_cmp 0 (bi true) 0 = true → _) ∧ (ev_cmp 0 (bi true) 0 = false → _)
  refine ⟨fun hc => ?_, fun hc => ?_⟩
  · exact absurd hc (by decide)
  · show ∃ R, cm_Lc cm_ms 157 [.ref 0, .int 1] M R ∧ ∀ v M', R v M' → _
    refine ⟨_, c_refused 1 M, ?_⟩
    rintro v M' ⟨hM, rfl⟩
    subst M'
    exact rfl
theorem c_yesIn_bad {M : cm_M} {T' me mo : Nat} (hx : CTX T' me mo M) {k : Nat} (hk : k < mo) (y : Int32) (hy : inB y 0 60 = false) : cm_Lc cm_ms 108 [.ref 0, .int (Int32.ofNat k), .int y] M (fun v _ => v = some (.int (-1))) := by
  have hT19 : T' ≤ 19 := by have := hx.1; omega
  have h6T : 6 ≤ T' := by have := hx.1; omega
  have hme6 := hx.2.2.2.2.2.1
  have hmo5 := hx.2.2.2.2.2.2
  have hl := c_lacksMotion hx.2.1.1 (Int32.ofNat k)
  rw [hx.2.2.2.2.1.2, outB_lt hk (by omega)] at hl
  have ek := fn_nat (show k < 2147483648 by omega)
  have z0 : (0 : Int32).toInt = 0 := by decide
  have z60 : (60 : Int32).toInt = 60 := by decide
  have hy2 := wk_out hy
  refine lb_st0 (mi := mr_108) rfl 400 ?_
  show ∃ R, cm_Lc cm_ms 162 [.ref 0, .int (Int32.ofNat k)] M R ∧ ∀ v M', R v M' → _
  refine ⟨_, hl, ?_⟩
  rintro v M' ⟨hM, rfl⟩
  subst M'
  show (ev_cmp 0 (bi false) 0 = true → _) ∧ (ev_cmp 0 (bi false) 0 = false → _)
  refine ⟨fun hc => ?_, fun hc => ?_⟩
  · show (ev_cmp 2 y 0 = true → _) ∧ (ev_cmp 2 y 0 = false → _)
    refine ⟨fun hct => ?_, fun hct => ?_⟩
    · show ∃ R, cm_Lc cm_ms 157 [.ref 0, .int 2] M R ∧ ∀ v M', R v M' → _
      refine ⟨_, c_refused 2 M, ?_⟩
      rintro v M' ⟨hM, rfl⟩
      subst M'
      exact rfl
    · show (ev_cmp 5 y 60 = true → _) ∧ (ev_cmp 5 y 60 = false → _)
      refine ⟨fun hctf => ?_, fun hctf => ?_⟩
      · have q1 := fn_nlt hct
        have q2 := fn_le hctf
        rw [z0] at q1
        rw [z60] at q2
        omega
      · show ∃ R, cm_Lc cm_ms 157 [.ref 0, .int 2] M R ∧ ∀ v M', R v M' → _
        refine ⟨_, c_refused 2 M, ?_⟩
        rintro v M' ⟨hM, rfl⟩
        subst M'
        exact rfl
  · exact absurd hc (by decide)
set_option maxRecDepth 100000 in
theorem c_yesIn_k {M : cm_M} {T' me mo : Nat} (hx : CTX T' me mo M) (ht : TRX M) {k n : Nat} (hk : k < mo) (hn : n ≤ 60) : cm_Lc cm_ms 108 [.ref 0, .int (Int32.ofNat k), .int (Int32.ofNat n)] M (fun v _ => v = some (.int (yeF (M.1 T' 1) (M.1 (T' + 6) k) (M.1 (T' + 4)) (lkH (M.1 T' 0) me (M.1 33) n) (M.1 (T' + 3)) k me))) := by
  have hT19 : T' ≤ 19 := by have := hx.1; omega
  have h6T : 6 ≤ T' := by have := hx.1; omega
  have hme6 := hx.2.2.2.2.2.1
  have hmo5 := hx.2.2.2.2.2.2
  have hl := c_lacksMotion hx.2.1.1 (Int32.ofNat k)
  rw [hx.2.2.2.2.1.2, outB_lt hk (by omega)] at hl
  have ek := fn_nat (show k < 2147483648 by omega)
  have z0 : (0 : Int32).toInt = 0 := by decide
  have z60 : (60 : Int32).toInt = 60 := by decide
  have r3 : M.2.2 0 3 = some T' := hx.2.1.1
  have r5 : M.2.2 0 5 = some 32 := hx.2.1.2.1
  have r6 : M.2.2 0 6 = some 35 := ht.1
  have r33 : M.2.2 32 0 = some 33 := hx.2.2.1.2.2.1.1
  have r36 : M.2.2 35 0 = some 36 := ht.2.1
  have r37 : M.2.2 35 1 = some 37 := ht.2.2
  have q10 : M.2.2 T' 10 = some (T' + 6) := hx.2.2.2.1 10 6 (by decide)
  have q7 : M.2.2 T' 7 = some (T' + 4) := hx.2.2.2.1 7 4 (by decide)
  have q6 : M.2.2 T' 6 = some (T' + 3) := hx.2.2.2.1 6 3 (by decide)
  have q11 : M.2.2 T' 11 = some (T' + 7) := hx.2.2.2.1 11 7 (by decide)
  have q13 : M.2.2 T' 13 = some (T' + 9) := hx.2.2.2.1 13 9 (by decide)
  refine lb_st0 (mi := mr_108) rfl 400 ?_
  show ∃ R, cm_Lc cm_ms 162 [.ref 0, .int (Int32.ofNat k)] M R ∧ ∀ v M', R v M' → _
  refine ⟨_, hl, ?_⟩
  rintro v M' ⟨hM, rfl⟩
  subst M'
  show (ev_cmp 0 (bi false) 0 = true → _) ∧ (ev_cmp 0 (bi false) 0 = false → _)
  refine ⟨fun hc => ?_, fun hc => ?_⟩
  · show (ev_cmp 2 (Int32.ofNat n) 0 = true → _) ∧ (ev_cmp 2 (Int32.ofNat n) 0 = false → _)
    refine ⟨fun hct => ?_, fun hct => ?_⟩
    · have q := fn_lt hct
      rw [z0, fn_toInt (by omega)] at q
      omega
    · show (ev_cmp 5 (Int32.ofNat n) 60 = true → _) ∧ (ev_cmp 5 (Int32.ofNat n) 60 = false → _)
      refine ⟨fun hctf => ?_, fun hctf => ?_⟩
      · show ∃ R, cm_Lc cm_ms 112 [.ref 0, .int (Int32.ofNat n)] M R ∧ ∀ v M', R v M' → _
        refine ⟨_, c_look hx ht (show n < 1000 by omega), ?_⟩
        rintro v Mb ⟨rfl, we, hs⟩
        have r3 : Mb.2.2 0 3 = some T' := by rw [hs.1]; exact hx.2.1.1
        have r5 : Mb.2.2 0 5 = some 32 := by rw [hs.1]; exact hx.2.1.2.1
        have r6 : Mb.2.2 0 6 = some 35 := by rw [hs.1]; exact ht.1
        have r33 : Mb.2.2 32 0 = some 33 := by rw [hs.1]; exact hx.2.2.1.2.2.1.1
        have r36 : Mb.2.2 35 0 = some 36 := by rw [hs.1]; exact ht.2.1
        have r37 : Mb.2.2 35 1 = some 37 := by rw [hs.1]; exact ht.2.2
        have q10 : Mb.2.2 T' 10 = some (T' + 6) := by rw [hs.1]; exact hx.2.2.2.1 10 6 (by decide)
        have q7 : Mb.2.2 T' 7 = some (T' + 4) := by rw [hs.1]; exact hx.2.2.2.1 7 4 (by decide)
        have q6 : Mb.2.2 T' 6 = some (T' + 3) := by rw [hs.1]; exact hx.2.2.2.1 6 3 (by decide)
        have q11 : Mb.2.2 T' 11 = some (T' + 7) := by rw [hs.1]; exact hx.2.2.2.1 11 7 (by decide)
        have q13 : Mb.2.2 T' 13 = some (T' + 9) := by rw [hs.1]; exact hx.2.2.2.1 13 9 (by decide)
        have eT : ∀ i, i ≤ 12 → Mb.1 (T' + i) = M.1 (T' + i) := fun i hi => funext fun j => hs.2.1 (T' + i) j (by omega) (by omega) (by omega)
        have eT0 : Mb.1 T' = M.1 T' := eT 0 (by omega)
        first | refine lb_to (T := (37, [(0, .ref 0), (1, .int (Int32.ofNat k)), (2, .int (Int32.ofNat n))], [.ref 0, .ref 0], Mb)) 37 [0, 1, 2] rfl rfl rfl (fun J' h => h) (lb_g0 rfl rfl r6 ?_) | refine lb_to0 (T := (37, [(0, .ref 0), (1, .int (Int32.ofNat k)), (2, .int (Int32.ofNat n))], [.ref 0, .ref 0], Mb)) 37 [0, 1, 2] rfl rfl rfl (fun J' h => h) (lb_g0 rfl rfl r6 ?_)
        first | refine lb_to (T := (41, [(0, .ref 0), (1, .int (Int32.ofNat k)), (2, .int (Int32.ofNat n))], [.ref 0, .ref 35, .ref 0], Mb)) 41 [0, 1, 2] rfl rfl rfl (fun J' h => h) (lb_g0 rfl rfl r3 ?_) | refine lb_to0 (T := (41, [(0, .ref 0), (1, .int (Int32.ofNat k)), (2, .int (Int32.ofNat n))], [.ref 0, .ref 35, .ref 0], Mb)) 41 [0, 1, 2] rfl rfl rfl (fun J' h => h) (lb_g0 rfl rfl r3 ?_)
        show ∃ R, cm_Lc cm_ms 31 [.ref 35, .ref T', .int (Int32.ofNat k)] Mb R ∧ ∀ v M', R v M' → _
        have hy : cm_Lc cm_ms 31 [.ref 35, .ref T', .int (Int32.ofNat k)] Mb (fun v M' => M' = Mb ∧ v = some (.int (yeF (M.1 T' 1) (M.1 (T' + 6) k) (M.1 (T' + 4)) (lkH (M.1 T' 0) me (M.1 33) n) (M.1 (T' + 3)) k me))) := by
          refine cm_Lc_im (c_yes (M := Mb) (c := 35) (T' := T') (me := me) (k := k) r36 q10 q7 q6 (by rw [eT0]; exact hx.2.2.2.2.1.1) hme6 (by omega)) (fun v M' z => ⟨z.1, z.2.trans (congrArg (fun b => some (Value.int b)) (yeF_cg ?_ ?_ (fun m hm => ⟨?_, ?_, ?_⟩)))⟩)
          · rw [eT0]
          · rw [eT 6 (by omega)]
          · rw [eT 4 (by omega)]
          · exact hs.2.2.1 m (by omega)
          · rw [eT 3 (by omega)]
        refine ⟨_, hy, ?_⟩
        rintro v Mz ⟨hM, rfl⟩
        subst Mz
        show ∃ R, cm_Lc cm_ms 159 [.ref 0, .int (yeF (M.1 T' 1) (M.1 (T' + 6) k) (M.1 (T' + 4)) (lkH (M.1 T' 0) me (M.1 33) n) (M.1 (T' + 3)) k me)] Mb R ∧ ∀ v M', R v M' → _
        refine ⟨_, c_granted _ _, ?_⟩
        rintro v Mc ⟨hG, rfl⟩
        exact rfl
      · have q := fn_nle hctf
        rw [z60, fn_toInt (by omega)] at q
        omega
  · exact absurd hc (by decide)
/-- only the scratch minutes were written -/
def tmC (M M' : cm_M) : Prop := M'.2 = M.2 ∧ ∀ d j, d ≠ 35 → d ≠ 36 → d ≠ 37 → M'.1 d j = M.1 d j
theorem tmC_of {M M' : cm_M} {H F : Nat → Int32} {ca we : Int32} (h : mset 35 M M' H F ca we) : tmC M M' := ⟨h.1, fun d j a b c => h.2.1 d j a b c⟩
theorem tmC_0 (M : cm_M) : tmC M M := ⟨rfl, fun _ _ _ _ _ => rfl⟩
theorem tmC_tr {M M1 M2 : cm_M} (h : tmC M M1) (g : tmC M1 M2) : tmC M M2 := ⟨g.1.trans h.1, fun d j a b c => (g.2 d j a b c).trans (h.2 d j a b c)⟩
theorem frF_rng (p : Nat → Bool) : ∀ c s, frF p c s = -2 ∨ ∃ i, s ≤ i ∧ i < s + c ∧ frF p c s = Int32.ofNat i
  | 0, _ => Or.inl rfl
  | c + 1, s => by
    cases h : p s with
    | true => exact Or.inr ⟨s, Nat.le_refl _, by omega, frF_t h⟩
    | false =>
      rw [frF_f h]
      rcases frF_rng p c (s + 1) with q | ⟨i, a, b, e⟩
      · exact Or.inl q
      · exact Or.inr ⟨i, by omega, by omega, e⟩
set_option maxRecDepth 100000 in
theorem c_until {M : cm_M} {T' me mo : Nat} (hx : CTX T' me mo M) (ht : TRX M) {k : Nat} (hk : k < mo) : cm_Lc cm_ms 113 [.ref 0, .int (Int32.ofNat k)] M (fun v M' => v = some (.int (frF (fun n => enF (M.1 T' 1) (M.1 (T' + 6) k) (M.1 (T' + 7) k) (M.1 (T' + 4)) (lkH (M.1 T' 0) me (M.1 33) n) (M.1 (T' + 3)) k me) 61 0)) ∧ tmC M M') := by
  have hT19 : T' ≤ 19 := by have := hx.1; omega
  have h6T : 6 ≤ T' := by have := hx.1; omega
  have hme6 := hx.2.2.2.2.2.1
  have hmo5 := hx.2.2.2.2.2.2
  have r3 : M.2.2 0 3 = some T' := hx.2.1.1
  have r5 : M.2.2 0 5 = some 32 := hx.2.1.2.1
  have r6 : M.2.2 0 6 = some 35 := ht.1
  have r33 : M.2.2 32 0 = some 33 := hx.2.2.1.2.2.1.1
  have r36 : M.2.2 35 0 = some 36 := ht.2.1
  have r37 : M.2.2 35 1 = some 37 := ht.2.2
  have q10 : M.2.2 T' 10 = some (T' + 6) := hx.2.2.2.1 10 6 (by decide)
  have q7 : M.2.2 T' 7 = some (T' + 4) := hx.2.2.2.1 7 4 (by decide)
  have q6 : M.2.2 T' 6 = some (T' + 3) := hx.2.2.2.1 6 3 (by decide)
  have q11 : M.2.2 T' 11 = some (T' + 7) := hx.2.2.2.1 11 7 (by decide)
  have q13 : M.2.2 T' 13 = some (T' + 9) := hx.2.2.2.1 13 9 (by decide)
  have z60 : (60 : Int32).toInt = 60 := by decide
  refine lb_of (mi := mr_113) rfl [(13, [0, 1, 2])] (fun S => ∃ n M1, n ≤ 61 ∧ (∃ we, mset 35 M M1 (lkH (M.1 T' 0) me (M.1 33) n) (M.1 34) (M.1 32 2) we) ∧ frF (fun n => enF (M.1 T' 1) (M.1 (T' + 6) k) (M.1 (T' + 7) k) (M.1 (T' + 4)) (lkH (M.1 T' 0) me (M.1 33) n) (M.1 (T' + 3)) k me) (61 - n) n = frF (fun n => enF (M.1 T' 1) (M.1 (T' + 6) k) (M.1 (T' + 7) k) (M.1 (T' + 4)) (lkH (M.1 T' 0) me (M.1 33) n) (M.1 (T' + 3)) k me) 61 0 ∧ S = (13, [(0, .ref 0), (1, .int (Int32.ofNat k)), (2, .int (Int32.ofNat n))], [], M1)) 400 (fun S hS => ?_) 400 ?_
  · obtain ⟨n, M1, hn, ⟨we, hs⟩, hf, rfl⟩ := hS
    have r3 : M1.2.2 0 3 = some T' := by rw [hs.1]; exact hx.2.1.1
    have r5 : M1.2.2 0 5 = some 32 := by rw [hs.1]; exact hx.2.1.2.1
    have r6 : M1.2.2 0 6 = some 35 := by rw [hs.1]; exact ht.1
    have r33 : M1.2.2 32 0 = some 33 := by rw [hs.1]; exact hx.2.2.1.2.2.1.1
    have r36 : M1.2.2 35 0 = some 36 := by rw [hs.1]; exact ht.2.1
    have r37 : M1.2.2 35 1 = some 37 := by rw [hs.1]; exact ht.2.2
    have q10 : M1.2.2 T' 10 = some (T' + 6) := by rw [hs.1]; exact hx.2.2.2.1 10 6 (by decide)
    have q7 : M1.2.2 T' 7 = some (T' + 4) := by rw [hs.1]; exact hx.2.2.2.1 7 4 (by decide)
    have q6 : M1.2.2 T' 6 = some (T' + 3) := by rw [hs.1]; exact hx.2.2.2.1 6 3 (by decide)
    have q11 : M1.2.2 T' 11 = some (T' + 7) := by rw [hs.1]; exact hx.2.2.2.1 11 7 (by decide)
    have q13 : M1.2.2 T' 13 = some (T' + 9) := by rw [hs.1]; exact hx.2.2.2.1 13 9 (by decide)
    have k3 : M1.1 T' 3 = Int32.ofNat me := (hs.2.1 T' 3 (by omega) (by omega) (by omega)).trans hx.2.2.2.2.1.1
    have k0 : M1.1 T' 0 = M.1 T' 0 := hs.2.1 T' 0 (by omega) (by omega) (by omega)
    have eT : ∀ i, i ≤ 12 → M1.1 (T' + i) = M.1 (T' + i) := fun i hi => funext fun j => hs.2.1 (T' + i) j (by omega) (by omega) (by omega)
    have eT0 : M1.1 T' = M.1 T' := eT 0 (by omega)
    show (ev_cmp 4 (Int32.ofNat n) 60 = true → _) ∧ (ev_cmp 4 (Int32.ofNat n) 60 = false → _)
    refine ⟨fun hL => ?_, fun hL => ?_⟩
    · have g := fn_gt hL
      rw [z60, fn_toInt (by omega)] at g
      have : n = 61 := by omega
      subst this
      refine ⟨?_, tmC_of hs⟩
      show some (Value.int (-2)) = _
      exact congrArg (fun b => some (Value.int b)) (show (-2 : Int32) = _ from hf)
    · have g := fn_ngt hL
      rw [z60, fn_toInt (by omega)] at g
      first | refine lb_to (T := (20, [(0, .ref 0), (1, .int (Int32.ofNat k)), (2, .int (Int32.ofNat n))], [.ref 0], M1)) 20 [0, 1, 2] rfl rfl rfl (fun J' h => h) (lb_g0 rfl rfl r6 ?_) | refine lb_to0 (T := (20, [(0, .ref 0), (1, .int (Int32.ofNat k)), (2, .int (Int32.ofNat n))], [.ref 0], M1)) 20 [0, 1, 2] rfl rfl rfl (fun J' h => h) (lb_g0 rfl rfl r6 ?_)
      first | refine lb_to (T := (24, [(0, .ref 0), (1, .int (Int32.ofNat k)), (2, .int (Int32.ofNat n))], [.ref 0, .ref 35], M1)) 24 [0, 1, 2] rfl rfl rfl (fun J' h => h) (lb_g0 rfl rfl r3 ?_) | refine lb_to0 (T := (24, [(0, .ref 0), (1, .int (Int32.ofNat k)), (2, .int (Int32.ofNat n))], [.ref 0, .ref 35], M1)) 24 [0, 1, 2] rfl rfl rfl (fun J' h => h) (lb_g0 rfl rfl r3 ?_)
      show ∃ R, cm_Lc cm_ms 32 [.ref 35, .ref T', .int (Int32.ofNat k)] M1 R ∧ ∀ v M', R v M' → _
      have he : cm_Lc cm_ms 32 [.ref 35, .ref T', .int (Int32.ofNat k)] M1 (fun v M' => M' = M1 ∧ v = some (.int (bi (enF (M.1 T' 1) (M.1 (T' + 6) k) (M.1 (T' + 7) k) (M.1 (T' + 4)) (lkH (M.1 T' 0) me (M.1 33) n) (M.1 (T' + 3)) k me)))) := by
        refine cm_Lc_im (c_enough (M := M1) (c := 35) (T' := T') (me := me) (k := k) r36 q10 q7 q6 k3 hme6 (by omega) q11) (fun v M' z => ⟨z.1, z.2.trans (congrArg (fun b => some (Value.int (bi b))) (enF_cg ?_ ?_ ?_ (fun m hm => ⟨?_, ?_, ?_⟩)))⟩)
        · rw [eT 7 (by omega)]
        · rw [eT0]
        · rw [eT 6 (by omega)]
        · rw [eT 4 (by omega)]
        · exact hs.2.2.1 m (by omega)
        · rw [eT 3 (by omega)]
      refine ⟨_, he, ?_⟩
      rintro v Mz ⟨hM, rfl⟩
      subst Mz
      show (ev_cmp 0 (bi (enF (M.1 T' 1) (M.1 (T' + 6) k) (M.1 (T' + 7) k) (M.1 (T' + 4)) (lkH (M.1 T' 0) me (M.1 33) n) (M.1 (T' + 3)) k me)) 0 = true → _) ∧ (ev_cmp 0 (bi (enF (M.1 T' 1) (M.1 (T' + 6) k) (M.1 (T' + 7) k) (M.1 (T' + 4)) (lkH (M.1 T' 0) me (M.1 33) n) (M.1 (T' + 3)) k me)) 0 = false → _)
      refine ⟨fun hLfc => ?_, fun hLfc => ?_⟩
      · first | refine lb_to (T := (37, [(0, .ref 0), (1, .int (Int32.ofNat k)), (2, .int (Int32.ofNat n))], [.ref 0], M1)) 37 [0, 1, 2] rfl rfl rfl (fun J' h => h) (lb_g0 rfl rfl r6 ?_) | refine lb_to0 (T := (37, [(0, .ref 0), (1, .int (Int32.ofNat k)), (2, .int (Int32.ofNat n))], [.ref 0], M1)) 37 [0, 1, 2] rfl rfl rfl (fun J' h => h) (lb_g0 rfl rfl r6 ?_)
        first | refine lb_to (T := (41, [(0, .ref 0), (1, .int (Int32.ofNat k)), (2, .int (Int32.ofNat n))], [.ref 0, .ref 35], M1)) 41 [0, 1, 2] rfl rfl rfl (fun J' h => h) (lb_g0 rfl rfl r3 ?_) | refine lb_to0 (T := (41, [(0, .ref 0), (1, .int (Int32.ofNat k)), (2, .int (Int32.ofNat n))], [.ref 0, .ref 35], M1)) 41 [0, 1, 2] rfl rfl rfl (fun J' h => h) (lb_g0 rfl rfl r3 ?_)
        show ∃ R, cm_Lc cm_ms 24 [.ref 35, .ref T'] M1 R ∧ ∀ v M', R v M' → _
        refine ⟨_, c_week (M := M1) (c := 35) (T' := T') (me := me) r36 (by omega) hT19 k3 hme6, ?_⟩
        rintro v Mb ⟨rfl, hs2⟩
        show (fun (S : cm_S) => ∃ n M1, n ≤ 61 ∧ (∃ we, mset 35 M M1 (lkH (M.1 T' 0) me (M.1 33) n) (M.1 34) (M.1 32 2) we) ∧ frF (fun n => enF (M.1 T' 1) (M.1 (T' + 6) k) (M.1 (T' + 7) k) (M.1 (T' + 4)) (lkH (M.1 T' 0) me (M.1 33) n) (M.1 (T' + 3)) k me) (61 - n) n = frF (fun n => enF (M.1 T' 1) (M.1 (T' + 6) k) (M.1 (T' + 7) k) (M.1 (T' + 4)) (lkH (M.1 T' 0) me (M.1 33) n) (M.1 (T' + 3)) k me) 61 0 ∧ S = (13, [(0, .ref 0), (1, .int (Int32.ofNat k)), (2, .int (Int32.ofNat n))], [], M1)) (13, [(0, .ref 0), (1, .int (Int32.ofNat k)), (2, .int ((Int32.ofNat n) + 1))], [], Mb)
        exact ⟨n + 1, Mb, by omega, ⟨_, lk_step hs k0 hs2⟩, frF_step (p := (fun n => enF (M.1 T' 1) (M.1 (T' + 6) k) (M.1 (T' + 7) k) (M.1 (T' + 4)) (lkH (M.1 T' 0) me (M.1 33) n) (M.1 (T' + 3)) k me)) (n := n) (by omega) (bi_0 hLfc) hf, by rw [ofn_s1]⟩
      · exact ⟨congrArg (fun b => some (Value.int b)) (frF_hit (p := (fun n => enF (M.1 T' 1) (M.1 (T' + 6) k) (M.1 (T' + 7) k) (M.1 (T' + 4)) (lkH (M.1 T' 0) me (M.1 33) n) (M.1 (T' + 3)) k me)) (n := n) (by omega) (bi_1 hLfc) hf), tmC_of hs⟩
  · first | refine lb_to (T := (1, [(0, .ref 0), (1, .int (Int32.ofNat k))], [.ref 0], M)) 1 [0, 1] rfl rfl rfl (fun J' h => h) (lb_g0 rfl rfl r6 ?_) | refine lb_to0 (T := (1, [(0, .ref 0), (1, .int (Int32.ofNat k))], [.ref 0], M)) 1 [0, 1] rfl rfl rfl (fun J' h => h) (lb_g0 rfl rfl r6 ?_)
    first | refine lb_to (T := (5, [(0, .ref 0), (1, .int (Int32.ofNat k))], [.ref 0, .ref 35], M)) 5 [0, 1] rfl rfl rfl (fun J' h => h) (lb_g0 rfl rfl r5 ?_) | refine lb_to0 (T := (5, [(0, .ref 0), (1, .int (Int32.ofNat k))], [.ref 0, .ref 35], M)) 5 [0, 1] rfl rfl rfl (fun J' h => h) (lb_g0 rfl rfl r5 ?_)
    show ∃ R, cm_Lc cm_ms 23 [.ref 35, .ref 32] M R ∧ ∀ v M', R v M' → _
    refine ⟨_, c_copy (c := 35) (d := 32) r36 r37 r33 hx.2.2.1.2.2.1.2 (by omega), ?_⟩
    rintro v Mb ⟨rfl, hs⟩
    show (fun (S : cm_S) => ∃ n M1, n ≤ 61 ∧ (∃ we, mset 35 M M1 (lkH (M.1 T' 0) me (M.1 33) n) (M.1 34) (M.1 32 2) we) ∧ frF (fun n => enF (M.1 T' 1) (M.1 (T' + 6) k) (M.1 (T' + 7) k) (M.1 (T' + 4)) (lkH (M.1 T' 0) me (M.1 33) n) (M.1 (T' + 3)) k me) (61 - n) n = frF (fun n => enF (M.1 T' 1) (M.1 (T' + 6) k) (M.1 (T' + 7) k) (M.1 (T' + 4)) (lkH (M.1 T' 0) me (M.1 33) n) (M.1 (T' + 3)) k me) 61 0 ∧ S = (13, [(0, .ref 0), (1, .int (Int32.ofNat k)), (2, .int (Int32.ofNat n))], [], M1)) (13, [(0, .ref 0), (1, .int (Int32.ofNat k)), (2, .int 0)], [], Mb)
    exact ⟨0, Mb, Nat.zero_le _, ⟨_, hs⟩, rfl, rfl⟩
theorem c_carryIn_out {M : cm_M} {T' me mo : Nat} (hx : CTX T' me mo M) (x : Int32) (ho : outB x (Int32.ofNat mo) = true) : cm_Lc cm_ms 109 [.ref 0, .int x] M (fun v _ => v = some (.int (-1))) := by
  have hl := c_lacksMotion hx.2.1.1 x
  rw [hx.2.2.2.2.1.2, ho] at hl
  refine lb_st0 (mi := mr_109) rfl 400 ?_
  show ∃ R, cm_Lc cm_ms 162 [.ref 0, .int x] M R ∧ ∀ v M', R v M' → _
  refine ⟨_, hl, ?_⟩
  rintro v M' ⟨hM, rfl⟩
  subst M'
  show (ev_cmp 0 (bi true) 0 = true → _) ∧ (ev_cmp 0 (bi true) 0 = false → _)
  refine ⟨fun hc => ?_, fun hc => ?_⟩
  · exact absurd hc (by decide)
  · show ∃ R, cm_Lc cm_ms 157 [.ref 0, .int 1] M R ∧ ∀ v M', R v M' → _
    refine ⟨_, c_refused 1 M, ?_⟩
    rintro v M' ⟨hM, rfl⟩
    subst M'
    exact rfl
set_option maxRecDepth 100000 in
theorem c_carryIn_k {M : cm_M} {T' me mo : Nat} (hx : CTX T' me mo M) (ht : TRX M) {k : Nat} (hk : k < mo) : cm_Lc cm_ms 109 [.ref 0, .int (Int32.ofNat k)] M (fun v _ => v = some (.int (frF (fun n => enF (M.1 T' 1) (M.1 (T' + 6) k) (M.1 (T' + 7) k) (M.1 (T' + 4)) (lkH (M.1 T' 0) me (M.1 33) n) (M.1 (T' + 3)) k me) 61 0))) := by
  have hmo5 := hx.2.2.2.2.2.2
  have hl := c_lacksMotion hx.2.1.1 (Int32.ofNat k)
  rw [hx.2.2.2.2.1.2, outB_lt hk (by omega)] at hl
  refine lb_st0 (mi := mr_109) rfl 400 ?_
  show ∃ R, cm_Lc cm_ms 162 [.ref 0, .int (Int32.ofNat k)] M R ∧ ∀ v M', R v M' → _
  refine ⟨_, hl, ?_⟩
  rintro v M' ⟨hM, rfl⟩
  subst M'
  show (ev_cmp 0 (bi false) 0 = true → _) ∧ (ev_cmp 0 (bi false) 0 = false → _)
  refine ⟨fun hc => ?_, fun hc => ?_⟩
  · show ∃ R, cm_Lc cm_ms 113 [.ref 0, .int (Int32.ofNat k)] M R ∧ ∀ v M', R v M' → _
    refine ⟨_, c_until hx ht hk, ?_⟩
    rintro v Mb ⟨rfl, hs⟩
    show ∃ R, cm_Lc cm_ms 159 [.ref 0, .int (frF (fun n => enF (M.1 T' 1) (M.1 (T' + 6) k) (M.1 (T' + 7) k) (M.1 (T' + 4)) (lkH (M.1 T' 0) me (M.1 33) n) (M.1 (T' + 3)) k me) 61 0)] Mb R ∧ ∀ v M', R v M' → _
    refine ⟨_, c_granted _ _, ?_⟩
    rintro v Mc ⟨hG, rfl⟩
    exact rfl
  · exact absurd hc (by decide)
theorem c_hairyIn_no {M : cm_M} {T' me mo : Nat} (hx : CTX T' me mo M) (h0 : me = 0) : cm_Lc cm_ms 110 [.ref 0] M (fun v _ => v = some (.int (-1))) := by
  have hl := c_noTown hx.2.1.1
  rw [hx.2.2.2.2.1.1, h0, show decide (Int32.ofNat 0 = 0) = true from rfl] at hl
  refine lb_st0 (mi := mr_110) rfl 400 ?_
  show ∃ R, cm_Lc cm_ms 160 [.ref 0] M R ∧ ∀ v M', R v M' → _
  refine ⟨_, hl, ?_⟩
  rintro v M' ⟨hM, rfl⟩
  subst M'
  show (ev_cmp 0 (bi true) 0 = true → _) ∧ (ev_cmp 0 (bi true) 0 = false → _)
  refine ⟨fun hc => ?_, fun hc => ?_⟩
  · exact absurd hc (by decide)
  · show ∃ R, cm_Lc cm_ms 157 [.ref 0, .int 1] M R ∧ ∀ v M', R v M' → _
    refine ⟨_, c_refused 1 M, ?_⟩
    rintro v M' ⟨hM, rfl⟩
    subst M'
    exact rfl
set_option maxRecDepth 100000 in
theorem c_hairyIn_k {M : cm_M} {T' me mo : Nat} (hx : CTX T' me mo M) (ht : TRX M) (h0 : 0 < me) : cm_Lc cm_ms 110 [.ref 0] M (fun v _ => v = some (.int (frF (fun n => decide (orF (fun m => bdB (M.1 T' 1) (lkH (M.1 T' 0) me (M.1 33) n m)) me = 0)) 61 0))) := by
  have hme6 := hx.2.2.2.2.2.1
  have hmo5 := hx.2.2.2.2.2.2
  have hl := c_noTown hx.2.1.1
  rw [hx.2.2.2.2.1.1, decide_eq_false (show ¬ Int32.ofNat me = 0 from fun q => by
    rw [ofn_0 (by omega)] at q
    omega)] at hl
  have hT19 : T' ≤ 19 := by have := hx.1; omega
  have h6T : 6 ≤ T' := by have := hx.1; omega
  have r3 : M.2.2 0 3 = some T' := hx.2.1.1
  have r5 : M.2.2 0 5 = some 32 := hx.2.1.2.1
  have r6 : M.2.2 0 6 = some 35 := ht.1
  have r33 : M.2.2 32 0 = some 33 := hx.2.2.1.2.2.1.1
  have r36 : M.2.2 35 0 = some 36 := ht.2.1
  have r37 : M.2.2 35 1 = some 37 := ht.2.2
  have q10 : M.2.2 T' 10 = some (T' + 6) := hx.2.2.2.1 10 6 (by decide)
  have q7 : M.2.2 T' 7 = some (T' + 4) := hx.2.2.2.1 7 4 (by decide)
  have q6 : M.2.2 T' 6 = some (T' + 3) := hx.2.2.2.1 6 3 (by decide)
  have q11 : M.2.2 T' 11 = some (T' + 7) := hx.2.2.2.1 11 7 (by decide)
  have q13 : M.2.2 T' 13 = some (T' + 9) := hx.2.2.2.1 13 9 (by decide)
  have z60 : (60 : Int32).toInt = 60 := by decide
  refine lb_of (mi := mr_110) rfl [(26, [0, 1])] (fun S => ∃ n M1, n ≤ 61 ∧ (∃ we, mset 35 M M1 (lkH (M.1 T' 0) me (M.1 33) n) (M.1 34) (M.1 32 2) we) ∧ frF (fun n => decide (orF (fun m => bdB (M.1 T' 1) (lkH (M.1 T' 0) me (M.1 33) n m)) me = 0)) (61 - n) n = frF (fun n => decide (orF (fun m => bdB (M.1 T' 1) (lkH (M.1 T' 0) me (M.1 33) n m)) me = 0)) 61 0 ∧ S = (26, [(0, .ref 0), (1, .int (Int32.ofNat n))], [], M1)) 400 (fun S hS => ?_) 400 ?_
  · obtain ⟨n, M1, hn, ⟨we, hs⟩, hf, rfl⟩ := hS
    have r3 : M1.2.2 0 3 = some T' := by rw [hs.1]; exact hx.2.1.1
    have r5 : M1.2.2 0 5 = some 32 := by rw [hs.1]; exact hx.2.1.2.1
    have r6 : M1.2.2 0 6 = some 35 := by rw [hs.1]; exact ht.1
    have r33 : M1.2.2 32 0 = some 33 := by rw [hs.1]; exact hx.2.2.1.2.2.1.1
    have r36 : M1.2.2 35 0 = some 36 := by rw [hs.1]; exact ht.2.1
    have r37 : M1.2.2 35 1 = some 37 := by rw [hs.1]; exact ht.2.2
    have q10 : M1.2.2 T' 10 = some (T' + 6) := by rw [hs.1]; exact hx.2.2.2.1 10 6 (by decide)
    have q7 : M1.2.2 T' 7 = some (T' + 4) := by rw [hs.1]; exact hx.2.2.2.1 7 4 (by decide)
    have q6 : M1.2.2 T' 6 = some (T' + 3) := by rw [hs.1]; exact hx.2.2.2.1 6 3 (by decide)
    have q11 : M1.2.2 T' 11 = some (T' + 7) := by rw [hs.1]; exact hx.2.2.2.1 11 7 (by decide)
    have q13 : M1.2.2 T' 13 = some (T' + 9) := by rw [hs.1]; exact hx.2.2.2.1 13 9 (by decide)
    have k3 : M1.1 T' 3 = Int32.ofNat me := (hs.2.1 T' 3 (by omega) (by omega) (by omega)).trans hx.2.2.2.2.1.1
    have k0 : M1.1 T' 0 = M.1 T' 0 := hs.2.1 T' 0 (by omega) (by omega) (by omega)
    have eT : ∀ i, i ≤ 12 → M1.1 (T' + i) = M.1 (T' + i) := fun i hi => funext fun j => hs.2.1 (T' + i) j (by omega) (by omega) (by omega)
    have eT0 : M1.1 T' = M.1 T' := eT 0 (by omega)
    show (ev_cmp 4 (Int32.ofNat n) 60 = true → _) ∧ (ev_cmp 4 (Int32.ofNat n) 60 = false → _)
    refine ⟨fun hL => ?_, fun hL => ?_⟩
    · have g := fn_gt hL
      rw [z60, fn_toInt (by omega)] at g
      have : n = 61 := by omega
      subst this
      show ∃ R, cm_Lc cm_ms 159 [.ref 0, .int (-2)] M1 R ∧ ∀ v M', R v M' → _
      refine ⟨_, c_granted _ _, ?_⟩
      rintro v Mc ⟨hG, rfl⟩
      exact congrArg (fun b => some (Value.int b)) (show (-2 : Int32) = _ from hf)
    · have g := fn_ngt hL
      rw [z60, fn_toInt (by omega)] at g
      first | refine lb_to (T := (33, [(0, .ref 0), (1, .int (Int32.ofNat n))], [.ref 0], M1)) 33 [0, 1] rfl rfl rfl (fun J' h => h) (lb_g0 rfl rfl r6 ?_) | refine lb_to0 (T := (33, [(0, .ref 0), (1, .int (Int32.ofNat n))], [.ref 0], M1)) 33 [0, 1] rfl rfl rfl (fun J' h => h) (lb_g0 rfl rfl r6 ?_)
      first | refine lb_to (T := (37, [(0, .ref 0), (1, .int (Int32.ofNat n))], [.ref 0, .ref 35], M1)) 37 [0, 1] rfl rfl rfl (fun J' h => h) (lb_g0 rfl rfl r3 ?_) | refine lb_to0 (T := (37, [(0, .ref 0), (1, .int (Int32.ofNat n))], [.ref 0, .ref 35], M1)) 37 [0, 1] rfl rfl rfl (fun J' h => h) (lb_g0 rfl rfl r3 ?_)
      show ∃ R, cm_Lc cm_ms 26 [.ref 35, .ref T'] M1 R ∧ ∀ v M', R v M' → _
      have hb : cm_Lc cm_ms 26 [.ref 35, .ref T'] M1 (fun v M' => M' = M1 ∧ v = some (.int (orF (fun m => bdB (M.1 T' 1) (lkH (M.1 T' 0) me (M.1 33) n m)) me))) := by
        refine cm_Lc_im (c_baldMen (M := M1) (c := 35) (T' := T') (me := me) r36 k3 hme6) (fun v M' z => ⟨z.1, z.2.trans (congrArg (fun b => some (Value.int b)) (orF_cg me (fun m hm => ?_)))⟩)
        show bdB (M1.1 T' 1) (M1.1 (35 + 1) m) = bdB (M.1 T' 1) (lkH (M.1 T' 0) me (M.1 33) n m)
        rw [eT0, hs.2.2.1 m (by omega)]
      refine ⟨_, hb, ?_⟩
      rintro v Mz ⟨hM, rfl⟩
      subst Mz
      show (ev_cmp 1 (orF (fun m => bdB (M.1 T' 1) (lkH (M.1 T' 0) me (M.1 33) n m)) me) 0 = true → _) ∧ (ev_cmp 1 (orF (fun m => bdB (M.1 T' 1) (lkH (M.1 T' 0) me (M.1 33) n m)) me) 0 = false → _)
      refine ⟨fun hLfc => ?_, fun hLfc => ?_⟩
      · first | refine lb_to (T := (53, [(0, .ref 0), (1, .int (Int32.ofNat n))], [.ref 0], M1)) 53 [0, 1] rfl rfl rfl (fun J' h => h) (lb_g0 rfl rfl r6 ?_) | refine lb_to0 (T := (53, [(0, .ref 0), (1, .int (Int32.ofNat n))], [.ref 0], M1)) 53 [0, 1] rfl rfl rfl (fun J' h => h) (lb_g0 rfl rfl r6 ?_)
        first | refine lb_to (T := (57, [(0, .ref 0), (1, .int (Int32.ofNat n))], [.ref 0, .ref 35], M1)) 57 [0, 1] rfl rfl rfl (fun J' h => h) (lb_g0 rfl rfl r3 ?_) | refine lb_to0 (T := (57, [(0, .ref 0), (1, .int (Int32.ofNat n))], [.ref 0, .ref 35], M1)) 57 [0, 1] rfl rfl rfl (fun J' h => h) (lb_g0 rfl rfl r3 ?_)
        show ∃ R, cm_Lc cm_ms 24 [.ref 35, .ref T'] M1 R ∧ ∀ v M', R v M' → _
        refine ⟨_, c_week (M := M1) (c := 35) (T' := T') (me := me) r36 (by omega) hT19 k3 hme6, ?_⟩
        rintro v Mb ⟨rfl, hs2⟩
        show (fun (S : cm_S) => ∃ n M1, n ≤ 61 ∧ (∃ we, mset 35 M M1 (lkH (M.1 T' 0) me (M.1 33) n) (M.1 34) (M.1 32 2) we) ∧ frF (fun n => decide (orF (fun m => bdB (M.1 T' 1) (lkH (M.1 T' 0) me (M.1 33) n m)) me = 0)) (61 - n) n = frF (fun n => decide (orF (fun m => bdB (M.1 T' 1) (lkH (M.1 T' 0) me (M.1 33) n m)) me = 0)) 61 0 ∧ S = (26, [(0, .ref 0), (1, .int (Int32.ofNat n))], [], M1)) (26, [(0, .ref 0), (1, .int ((Int32.ofNat n) + 1))], [], Mb)
        exact ⟨n + 1, Mb, by omega, ⟨_, lk_step hs k0 hs2⟩, frF_step (p := (fun n => decide (orF (fun m => bdB (M.1 T' 1) (lkH (M.1 T' 0) me (M.1 33) n m)) me = 0))) (n := n) (by omega) (decide_eq_false (fn_ne hLfc)) hf, by rw [ofn_s1]⟩
      · show ∃ R, cm_Lc cm_ms 159 [.ref 0, .int (Int32.ofNat n)] M1 R ∧ ∀ v M', R v M' → _
        refine ⟨_, c_granted _ _, ?_⟩
        rintro v Mc ⟨hG, rfl⟩
        exact congrArg (fun b => some (Value.int b)) (frF_hit (p := (fun n => decide (orF (fun m => bdB (M.1 T' 1) (lkH (M.1 T' 0) me (M.1 33) n m)) me = 0))) (n := n) (by omega) (decide_eq_true (fn_eq hLfc)) hf)
  · show ∃ R, cm_Lc cm_ms 160 [.ref 0] M R ∧ ∀ v M', R v M' → _
    refine ⟨_, hl, ?_⟩
    rintro v M' ⟨hM, rfl⟩
    subst M'
    show (ev_cmp 0 (bi false) 0 = true → _) ∧ (ev_cmp 0 (bi false) 0 = false → _)
    refine ⟨fun hc => ?_, fun hc => ?_⟩
    · first | refine lb_to (T := (14, [(0, .ref 0)], [.ref 0], M)) 14 [0] rfl rfl rfl (fun J' h => h) (lb_g0 rfl rfl r6 ?_) | refine lb_to0 (T := (14, [(0, .ref 0)], [.ref 0], M)) 14 [0] rfl rfl rfl (fun J' h => h) (lb_g0 rfl rfl r6 ?_)
      first | refine lb_to (T := (18, [(0, .ref 0)], [.ref 0, .ref 35], M)) 18 [0] rfl rfl rfl (fun J' h => h) (lb_g0 rfl rfl r5 ?_) | refine lb_to0 (T := (18, [(0, .ref 0)], [.ref 0, .ref 35], M)) 18 [0] rfl rfl rfl (fun J' h => h) (lb_g0 rfl rfl r5 ?_)
      show ∃ R, cm_Lc cm_ms 23 [.ref 35, .ref 32] M R ∧ ∀ v M', R v M' → _
      refine ⟨_, c_copy (c := 35) (d := 32) r36 r37 r33 hx.2.2.1.2.2.1.2 (by omega), ?_⟩
      rintro v Mb ⟨rfl, hs⟩
      show (fun (S : cm_S) => ∃ n M1, n ≤ 61 ∧ (∃ we, mset 35 M M1 (lkH (M.1 T' 0) me (M.1 33) n) (M.1 34) (M.1 32 2) we) ∧ frF (fun n => decide (orF (fun m => bdB (M.1 T' 1) (lkH (M.1 T' 0) me (M.1 33) n m)) me = 0)) (61 - n) n = frF (fun n => decide (orF (fun m => bdB (M.1 T' 1) (lkH (M.1 T' 0) me (M.1 33) n m)) me = 0)) 61 0 ∧ S = (26, [(0, .ref 0), (1, .int (Int32.ofNat n))], [], M1)) (26, [(0, .ref 0), (1, .int 0)], [], Mb)
      exact ⟨0, Mb, Nat.zero_le _, ⟨_, hs⟩, rfl, rfl⟩
    · exact absurd hc (by decide)
/-- the soonest: which, in how many weeks -/
def soF (w : Nat → Int32) : Nat → Int32 × Int32
  | 0 => (-2, 61)
  | m + 1 => if w m ≠ -2 ∧ (w m).toInt < (soF w m).2.toInt then (Int32.ofNat m, w m) else soF w m
theorem soF_y {w : Nat → Int32} {m : Nat} (h1 : w m ≠ -2) (h2 : (w m).toInt < (soF w m).2.toInt) : soF w (m + 1) = (Int32.ofNat m, w m) := if_pos ⟨h1, h2⟩
theorem soF_n {w : Nat → Int32} {m : Nat} (h : ¬ (w m ≠ -2 ∧ (w m).toInt < (soF w m).2.toInt)) : soF w (m + 1) = soF w m := if_neg h
theorem soF_cg {w w' : Nat → Int32} : ∀ n, (∀ m, m < n → w' m = w m) → soF w' n = soF w n
  | 0, _ => rfl
  | n + 1, h => by
    unfold soF
    rw [h n (by omega), soF_cg (w := w) n (fun m hm => h m (by omega))]
theorem soF_inv {w : Nat → Int32} (hw : ∀ m, w m = -2 ∨ ∃ i, i < 61 ∧ w m = Int32.ofNat i) : ∀ n, (soF w n = (-2, 61)) ∨ ∃ b, b < n ∧ w b ≠ -2 ∧ soF w n = (Int32.ofNat b, w b)
  | 0 => Or.inl rfl
  | n + 1 => by
    by_cases h : w n ≠ -2 ∧ (w n).toInt < (soF w n).2.toInt
    · exact Or.inr ⟨n, by omega, h.1, soF_y h.1 h.2⟩
    · rw [soF_n h]
      rcases soF_inv hw n with q | ⟨b, b1, b2, b3⟩
      · exact Or.inl q
      · exact Or.inr ⟨b, by omega, b2, b3⟩
/-- a motion's weeks, if it may be put -/
def wmF (mb : Bool) (x : Int32) : Int32 := if mb = true then x else -2
theorem c_soonest_no {M : cm_M} {T' me mo : Nat} (hx : CTX T' me mo M) (h0 : me = 0) : cm_Lc cm_ms 111 [.ref 0] M (fun v _ => v = some (.int (-1))) := by
  have hl := c_noTown hx.2.1.1
  rw [hx.2.2.2.2.1.1, h0, show decide (Int32.ofNat 0 = 0) = true from rfl] at hl
  refine lb_st0 (mi := mr_111) rfl 400 ?_
  show ∃ R, cm_Lc cm_ms 160 [.ref 0] M R ∧ ∀ v M', R v M' → _
  refine ⟨_, hl, ?_⟩
  rintro v M' ⟨hM, rfl⟩
  subst M'
  show (ev_cmp 0 (bi true) 0 = true → _) ∧ (ev_cmp 0 (bi true) 0 = false → _)
  refine ⟨fun hc => ?_, fun hc => ?_⟩
  · exact absurd hc (by decide)
  · show ∃ R, cm_Lc cm_ms 157 [.ref 0, .int 1] M R ∧ ∀ v M', R v M' → _
    refine ⟨_, c_refused 1 M, ?_⟩
    rintro v M' ⟨hM, rfl⟩
    subst M'
    exact rfl
set_option maxRecDepth 100000 in
theorem c_soonest_k {M : cm_M} {T' me mo : Nat} (hx : CTX T' me mo M) (ht : TRX M) (h0 : 0 < me) : cm_Lc cm_ms 111 [.ref 0] M (fun v _ => v = some (.int ((soF (fun m => wmF (mbB (M.1 32 2) (M.1 (T' + 9) m) m) (frF (fun n => enF (M.1 T' 1) (M.1 (T' + 6) m) (M.1 (T' + 7) m) (M.1 (T' + 4)) (lkH (M.1 T' 0) me (M.1 33) n) (M.1 (T' + 3)) m me) 61 0)) mo).1))) := by
  have hme6 := hx.2.2.2.2.2.1
  have hmo5 := hx.2.2.2.2.2.2
  have hl := c_noTown hx.2.1.1
  rw [hx.2.2.2.2.1.1, decide_eq_false (show ¬ Int32.ofNat me = 0 from fun q => by
    rw [ofn_0 (by omega)] at q
    omega)] at hl
  have hT19 : T' ≤ 19 := by have := hx.1; omega
  have h6T : 6 ≤ T' := by have := hx.1; omega
  have r3 : M.2.2 0 3 = some T' := hx.2.1.1
  have r5 : M.2.2 0 5 = some 32 := hx.2.1.2.1
  have r6 : M.2.2 0 6 = some 35 := ht.1
  have r33 : M.2.2 32 0 = some 33 := hx.2.2.1.2.2.1.1
  have r36 : M.2.2 35 0 = some 36 := ht.2.1
  have r37 : M.2.2 35 1 = some 37 := ht.2.2
  have q10 : M.2.2 T' 10 = some (T' + 6) := hx.2.2.2.1 10 6 (by decide)
  have q7 : M.2.2 T' 7 = some (T' + 4) := hx.2.2.2.1 7 4 (by decide)
  have q6 : M.2.2 T' 6 = some (T' + 3) := hx.2.2.2.1 6 3 (by decide)
  have q11 : M.2.2 T' 11 = some (T' + 7) := hx.2.2.2.1 11 7 (by decide)
  have q13 : M.2.2 T' 13 = some (T' + 9) := hx.2.2.2.1 13 9 (by decide)
  refine lb_of (mi := mr_111) rfl [(21, [0, 1, 2, 3])] (fun S => ∃ m M1, m ≤ mo ∧ tmC M M1 ∧ S = (21, [(0, .ref 0), (1, .int (soF (fun m => wmF (mbB (M.1 32 2) (M.1 (T' + 9) m) m) (frF (fun n => enF (M.1 T' 1) (M.1 (T' + 6) m) (M.1 (T' + 7) m) (M.1 (T' + 4)) (lkH (M.1 T' 0) me (M.1 33) n) (M.1 (T' + 3)) m me) 61 0)) m).1), (2, .int (soF (fun m => wmF (mbB (M.1 32 2) (M.1 (T' + 9) m) m) (frF (fun n => enF (M.1 T' 1) (M.1 (T' + 6) m) (M.1 (T' + 7) m) (M.1 (T' + 4)) (lkH (M.1 T' 0) me (M.1 33) n) (M.1 (T' + 3)) m me) 61 0)) m).2), (3, .int (Int32.ofNat m))], [], M1)) 400 (fun S hS => ?_) 400 ?_
  · obtain ⟨m, M1, hm, hs, rfl⟩ := hS
    have r3 : M1.2.2 0 3 = some T' := by rw [hs.1]; exact hx.2.1.1
    have r5 : M1.2.2 0 5 = some 32 := by rw [hs.1]; exact hx.2.1.2.1
    have r6 : M1.2.2 0 6 = some 35 := by rw [hs.1]; exact ht.1
    have r33 : M1.2.2 32 0 = some 33 := by rw [hs.1]; exact hx.2.2.1.2.2.1.1
    have r36 : M1.2.2 35 0 = some 36 := by rw [hs.1]; exact ht.2.1
    have r37 : M1.2.2 35 1 = some 37 := by rw [hs.1]; exact ht.2.2
    have q10 : M1.2.2 T' 10 = some (T' + 6) := by rw [hs.1]; exact hx.2.2.2.1 10 6 (by decide)
    have q7 : M1.2.2 T' 7 = some (T' + 4) := by rw [hs.1]; exact hx.2.2.2.1 7 4 (by decide)
    have q6 : M1.2.2 T' 6 = some (T' + 3) := by rw [hs.1]; exact hx.2.2.2.1 6 3 (by decide)
    have q11 : M1.2.2 T' 11 = some (T' + 7) := by rw [hs.1]; exact hx.2.2.2.1 11 7 (by decide)
    have q13 : M1.2.2 T' 13 = some (T' + 9) := by rw [hs.1]; exact hx.2.2.2.1 13 9 (by decide)
    have eT : ∀ i, i ≤ 12 → M1.1 (T' + i) = M.1 (T' + i) := fun i hi => funext fun j => hs.2 (T' + i) j (by omega) (by omega) (by omega)
    have eT0 : M1.1 T' = M.1 T' := eT 0 (by omega)
    have e32 : ∀ j, M1.1 32 j = M.1 32 j := fun j => hs.2 32 j (by omega) (by omega) (by omega)
    have e33 : M1.1 33 = M.1 33 := funext fun j => hs.2 33 j (by omega) (by omega) (by omega)
    have k9 : M1.1 T' 9 = Int32.ofNat mo := by rw [eT0]; exact hx.2.2.2.2.1.2
    have hx1 : CTX T' me mo M1 := CTX_cg hx hs.1 (fun j => congrFun eT0 j)
    have ht1 : TRX M1 := ⟨r6, r36, r37⟩
    first | refine lb_to (T := (23, [(0, .ref 0), (1, .int ((soF (fun m => wmF (mbB (M.1 32 2) (M.1 (T' + 9) m) m) (frF (fun n => enF (M.1 T' 1) (M.1 (T' + 6) m) (M.1 (T' + 7) m) (M.1 (T' + 4)) (lkH (M.1 T' 0) me (M.1 33) n) (M.1 (T' + 3)) m me) 61 0)) m).1)), (2, .int ((soF (fun m => wmF (mbB (M.1 32 2) (M.1 (T' + 9) m) m) (frF (fun n => enF (M.1 T' 1) (M.1 (T' + 6) m) (M.1 (T' + 7) m) (M.1 (T' + 4)) (lkH (M.1 T' 0) me (M.1 33) n) (M.1 (T' + 3)) m me) 61 0)) m).2)), (3, .int (Int32.ofNat m))], [.ref 0, .int (Int32.ofNat m)], M1)) 23 [0, 1, 2, 3] rfl rfl rfl (fun J' h => h) (lb_g0 rfl rfl r3 ?_) | refine lb_to0 (T := (23, [(0, .ref 0), (1, .int ((soF (fun m => wmF (mbB (M.1 32 2) (M.1 (T' + 9) m) m) (frF (fun n => enF (M.1 T' 1) (M.1 (T' + 6) m) (M.1 (T' + 7) m) (M.1 (T' + 4)) (lkH (M.1 T' 0) me (M.1 33) n) (M.1 (T' + 3)) m me) 61 0)) m).1)), (2, .int ((soF (fun m => wmF (mbB (M.1 32 2) (M.1 (T' + 9) m) m) (frF (fun n => enF (M.1 T' 1) (M.1 (T' + 6) m) (M.1 (T' + 7) m) (M.1 (T' + 4)) (lkH (M.1 T' 0) me (M.1 33) n) (M.1 (T' + 3)) m me) 61 0)) m).2)), (3, .int (Int32.ofNat m))], [.ref 0, .int (Int32.ofNat m)], M1)) 23 [0, 1, 2, 3] rfl rfl rfl (fun J' h => h) (lb_g0 rfl rfl r3 ?_)
    show (ev_cmp 3 (Int32.ofNat m) (M1.1 T' 9) = true → _) ∧ (ev_cmp 3 (Int32.ofNat m) (M1.1 T' 9) = false → _)
    refine ⟨fun hL => ?_, fun hL => ?_⟩
    · have g := fn_ge hL
      rw [k9, fn_toInt (by omega), fn_toInt (by omega)] at g
      have : m = mo := by omega
      subst this
      show ∃ R, cm_Lc cm_ms 159 [.ref 0, .int ((soF (fun m => wmF (mbB (M.1 32 2) (M.1 (T' + 9) m) m) (frF (fun n => enF (M.1 T' 1) (M.1 (T' + 6) m) (M.1 (T' + 7) m) (M.1 (T' + 4)) (lkH (M.1 T' 0) me (M.1 33) n) (M.1 (T' + 3)) m me) 61 0)) m).1)] M1 R ∧ ∀ v M', R v M' → _
      refine ⟨_, c_granted _ _, ?_⟩
      rintro v Mc ⟨hG, rfl⟩
      exact rfl
    · have g := fn_nge hL
      rw [k9, fn_toInt (by omega), fn_toInt (by omega)] at g
      first | refine lb_to (T := (33, [(0, .ref 0), (1, .int ((soF (fun m => wmF (mbB (M.1 32 2) (M.1 (T' + 9) m) m) (frF (fun n => enF (M.1 T' 1) (M.1 (T' + 6) m) (M.1 (T' + 7) m) (M.1 (T' + 4)) (lkH (M.1 T' 0) me (M.1 33) n) (M.1 (T' + 3)) m me) 61 0)) m).1)), (2, .int ((soF (fun m => wmF (mbB (M.1 32 2) (M.1 (T' + 9) m) m) (frF (fun n => enF (M.1 T' 1) (M.1 (T' + 6) m) (M.1 (T' + 7) m) (M.1 (T' + 4)) (lkH (M.1 T' 0) me (M.1 33) n) (M.1 (T' + 3)) m me) 61 0)) m).2)), (3, .int (Int32.ofNat m))], [.ref 0], M1)) 33 [0, 1, 2, 3] rfl rfl rfl (fun J' h => h) (lb_g0 rfl rfl r5 ?_) | refine lb_to0 (T := (33, [(0, .ref 0), (1, .int ((soF (fun m => wmF (mbB (M.1 32 2) (M.1 (T' + 9) m) m) (frF (fun n => enF (M.1 T' 1) (M.1 (T' + 6) m) (M.1 (T' + 7) m) (M.1 (T' + 4)) (lkH (M.1 T' 0) me (M.1 33) n) (M.1 (T' + 3)) m me) 61 0)) m).1)), (2, .int ((soF (fun m => wmF (mbB (M.1 32 2) (M.1 (T' + 9) m) m) (frF (fun n => enF (M.1 T' 1) (M.1 (T' + 6) m) (M.1 (T' + 7) m) (M.1 (T' + 4)) (lkH (M.1 T' 0) me (M.1 33) n) (M.1 (T' + 3)) m me) 61 0)) m).2)), (3, .int (Int32.ofNat m))], [.ref 0], M1)) 33 [0, 1, 2, 3] rfl rfl rfl (fun J' h => h) (lb_g0 rfl rfl r5 ?_)
      first | refine lb_to (T := (37, [(0, .ref 0), (1, .int ((soF (fun m => wmF (mbB (M.1 32 2) (M.1 (T' + 9) m) m) (frF (fun n => enF (M.1 T' 1) (M.1 (T' + 6) m) (M.1 (T' + 7) m) (M.1 (T' + 4)) (lkH (M.1 T' 0) me (M.1 33) n) (M.1 (T' + 3)) m me) 61 0)) m).1)), (2, .int ((soF (fun m => wmF (mbB (M.1 32 2) (M.1 (T' + 9) m) m) (frF (fun n => enF (M.1 T' 1) (M.1 (T' + 6) m) (M.1 (T' + 7) m) (M.1 (T' + 4)) (lkH (M.1 T' 0) me (M.1 33) n) (M.1 (T' + 3)) m me) 61 0)) m).2)), (3, .int (Int32.ofNat m))], [.ref 0, .ref 32], M1)) 37 [0, 1, 2, 3] rfl rfl rfl (fun J' h => h) (lb_g0 rfl rfl r3 ?_) | refine lb_to0 (T := (37, [(0, .ref 0), (1, .int ((soF (fun m => wmF (mbB (M.1 32 2) (M.1 (T' + 9) m) m) (frF (fun n => enF (M.1 T' 1) (M.1 (T' + 6) m) (M.1 (T' + 7) m) (M.1 (T' + 4)) (lkH (M.1 T' 0) me (M.1 33) n) (M.1 (T' + 3)) m me) 61 0)) m).1)), (2, .int ((soF (fun m => wmF (mbB (M.1 32 2) (M.1 (T' + 9) m) m) (frF (fun n => enF (M.1 T' 1) (M.1 (T' + 6) m) (M.1 (T' + 7) m) (M.1 (T' + 4)) (lkH (M.1 T' 0) me (M.1 33) n) (M.1 (T' + 3)) m me) 61 0)) m).2)), (3, .int (Int32.ofNat m))], [.ref 0, .ref 32], M1)) 37 [0, 1, 2, 3] rfl rfl rfl (fun J' h => h) (lb_g0 rfl rfl r3 ?_)
      show ∃ R, cm_Lc cm_ms 34 [.ref 32, .ref T', .int (Int32.ofNat m)] M1 R ∧ ∀ v M', R v M' → _
      have hb : cm_Lc cm_ms 34 [.ref 32, .ref T', .int (Int32.ofNat m)] M1 (fun v M' => M' = M1 ∧ v = some (.int (bi (mbB (M.1 32 2) (M.1 (T' + 9) m) m)))) := by
        have q := c_mayBe (M := M1) (c := 32) (T' := T') (k := m) q13 (by omega)
        rw [eT 9 (by omega), e32] at q
        exact q
      refine ⟨_, hb, ?_⟩
      rintro v Mz ⟨hM, rfl⟩
      subst Mz
      show (ev_cmp 0 (bi (mbB (M.1 32 2) (M.1 (T' + 9) m) m)) 0 = true → _) ∧ (ev_cmp 0 (bi (mbB (M.1 32 2) (M.1 (T' + 9) m) m)) 0 = false → _)
      refine ⟨fun hLfc => ?_, fun hLfc => ?_⟩
      · show (ev_cmp 0 (-2) (-2) = true → _) ∧ (ev_cmp 0 (-2) (-2) = false → _)
        refine ⟨fun hLfct => ?_, fun hLfct => ?_⟩
        · show (fun (S : cm_S) => ∃ m M1, m ≤ mo ∧ tmC M M1 ∧ S = (21, [(0, .ref 0), (1, .int (soF (fun m => wmF (mbB (M.1 32 2) (M.1 (T' + 9) m) m) (frF (fun n => enF (M.1 T' 1) (M.1 (T' + 6) m) (M.1 (T' + 7) m) (M.1 (T' + 4)) (lkH (M.1 T' 0) me (M.1 33) n) (M.1 (T' + 3)) m me) 61 0)) m).1), (2, .int (soF (fun m => wmF (mbB (M.1 32 2) (M.1 (T' + 9) m) m) (frF (fun n => enF (M.1 T' 1) (M.1 (T' + 6) m) (M.1 (T' + 7) m) (M.1 (T' + 4)) (lkH (M.1 T' 0) me (M.1 33) n) (M.1 (T' + 3)) m me) 61 0)) m).2), (3, .int (Int32.ofNat m))], [], M1)) (21, [(0, .ref 0), (1, .int ((soF (fun m => wmF (mbB (M.1 32 2) (M.1 (T' + 9) m) m) (frF (fun n => enF (M.1 T' 1) (M.1 (T' + 6) m) (M.1 (T' + 7) m) (M.1 (T' + 4)) (lkH (M.1 T' 0) me (M.1 33) n) (M.1 (T' + 3)) m me) 61 0)) m).1)), (2, .int ((soF (fun m => wmF (mbB (M.1 32 2) (M.1 (T' + 9) m) m) (frF (fun n => enF (M.1 T' 1) (M.1 (T' + 6) m) (M.1 (T' + 7) m) (M.1 (T' + 4)) (lkH (M.1 T' 0) me (M.1 33) n) (M.1 (T' + 3)) m me) 61 0)) m).2)), (3, .int ((Int32.ofNat m) + 1))], [], M1)
          have ew : wmF (mbB (M.1 32 2) (M.1 (T' + 9) m) m) (frF (fun n => enF (M.1 T' 1) (M.1 (T' + 6) m) (M.1 (T' + 7) m) (M.1 (T' + 4)) (lkH (M.1 T' 0) me (M.1 33) n) (M.1 (T' + 3)) m me) 61 0) = -2 := by
            rw [bi_0 hLfc]
            try rfl
          exact ⟨m + 1, M1, by omega, hs, by rw [ofn_s1, soF_n (w := (fun m => wmF (mbB (M.1 32 2) (M.1 (T' + 9) m) m) (frF (fun n => enF (M.1 T' 1) (M.1 (T' + 6) m) (M.1 (T' + 7) m) (M.1 (T' + 4)) (lkH (M.1 T' 0) me (M.1 33) n) (M.1 (T' + 3)) m me) 61 0))) (m := m) (fun q => q.1 ew)]⟩
        · exact absurd hLfct (by decide)
      · have ew : wmF (mbB (M.1 32 2) (M.1 (T' + 9) m) m) (frF (fun n => enF (M.1 T' 1) (M.1 (T' + 6) m) (M.1 (T' + 7) m) (M.1 (T' + 4)) (lkH (M.1 T' 0) me (M.1 33) n) (M.1 (T' + 3)) m me) 61 0) = frF (fun n => enF (M.1 T' 1) (M.1 (T' + 6) m) (M.1 (T' + 7) m) (M.1 (T' + 4)) (lkH (M.1 T' 0) me (M.1 33) n) (M.1 (T' + 3)) m me) 61 0 := by
          rw [bi_1 hLfc]
          try rfl
        show ∃ R, cm_Lc cm_ms 113 [.ref 0, .int (Int32.ofNat m)] M1 R ∧ ∀ v M', R v M' → _
        have hu : cm_Lc cm_ms 113 [.ref 0, .int (Int32.ofNat m)] M1 (fun v M' => v = some (.int (frF (fun n => enF (M.1 T' 1) (M.1 (T' + 6) m) (M.1 (T' + 7) m) (M.1 (T' + 4)) (lkH (M.1 T' 0) me (M.1 33) n) (M.1 (T' + 3)) m me) 61 0)) ∧ tmC M1 M') := by
          have q := c_until hx1 ht1 (show m < mo by omega)
          rw [eT0, e33, eT 3 (by omega), eT 4 (by omega), eT 6 (by omega), eT 7 (by omega)] at q
          exact q
        refine ⟨_, hu, ?_⟩
        rintro v Mb ⟨rfl, hs2⟩
        show (ev_cmp 0 (frF (fun n => enF (M.1 T' 1) (M.1 (T' + 6) m) (M.1 (T' + 7) m) (M.1 (T' + 4)) (lkH (M.1 T' 0) me (M.1 33) n) (M.1 (T' + 3)) m me) 61 0) (-2) = true → _) ∧ (ev_cmp 0 (frF (fun n => enF (M.1 T' 1) (M.1 (T' + 6) m) (M.1 (T' + 7) m) (M.1 (T' + 4)) (lkH (M.1 T' 0) me (M.1 33) n) (M.1 (T' + 3)) m me) 61 0) (-2) = false → _)
        refine ⟨fun hLfcfc => ?_, fun hLfcfc => ?_⟩
        · show (fun (S : cm_S) => ∃ m M1, m ≤ mo ∧ tmC M M1 ∧ S = (21, [(0, .ref 0), (1, .int (soF (fun m => wmF (mbB (M.1 32 2) (M.1 (T' + 9) m) m) (frF (fun n => enF (M.1 T' 1) (M.1 (T' + 6) m) (M.1 (T' + 7) m) (M.1 (T' + 4)) (lkH (M.1 T' 0) me (M.1 33) n) (M.1 (T' + 3)) m me) 61 0)) m).1), (2, .int (soF (fun m => wmF (mbB (M.1 32 2) (M.1 (T' + 9) m) m) (frF (fun n => enF (M.1 T' 1) (M.1 (T' + 6) m) (M.1 (T' + 7) m) (M.1 (T' + 4)) (lkH (M.1 T' 0) me (M.1 33) n) (M.1 (T' + 3)) m me) 61 0)) m).2), (3, .int (Int32.ofNat m))], [], M1)) (21, [(0, .ref 0), (1, .int ((soF (fun m => wmF (mbB (M.1 32 2) (M.1 (T' + 9) m) m) (frF (fun n => enF (M.1 T' 1) (M.1 (T' + 6) m) (M.1 (T' + 7) m) (M.1 (T' + 4)) (lkH (M.1 T' 0) me (M.1 33) n) (M.1 (T' + 3)) m me) 61 0)) m).1)), (2, .int ((soF (fun m => wmF (mbB (M.1 32 2) (M.1 (T' + 9) m) m) (frF (fun n => enF (M.1 T' 1) (M.1 (T' + 6) m) (M.1 (T' + 7) m) (M.1 (T' + 4)) (lkH (M.1 T' 0) me (M.1 33) n) (M.1 (T' + 3)) m me) 61 0)) m).2)), (3, .int ((Int32.ofNat m) + 1))], [], Mb)
          exact ⟨m + 1, Mb, by omega, tmC_tr hs hs2, by rw [ofn_s1, soF_n (w := (fun m => wmF (mbB (M.1 32 2) (M.1 (T' + 9) m) m) (frF (fun n => enF (M.1 T' 1) (M.1 (T' + 6) m) (M.1 (T' + 7) m) (M.1 (T' + 4)) (lkH (M.1 T' 0) me (M.1 33) n) (M.1 (T' + 3)) m me) 61 0))) (m := m) (fun q => q.1 (ew.trans (fn_eq0 hLfcfc)))]⟩
        · show (ev_cmp 3 (frF (fun n => enF (M.1 T' 1) (M.1 (T' + 6) m) (M.1 (T' + 7) m) (M.1 (T' + 4)) (lkH (M.1 T' 0) me (M.1 33) n) (M.1 (T' + 3)) m me) 61 0) ((soF (fun m => wmF (mbB (M.1 32 2) (M.1 (T' + 9) m) m) (frF (fun n => enF (M.1 T' 1) (M.1 (T' + 6) m) (M.1 (T' + 7) m) (M.1 (T' + 4)) (lkH (M.1 T' 0) me (M.1 33) n) (M.1 (T' + 3)) m me) 61 0)) m).2) = true → _) ∧ (ev_cmp 3 (frF (fun n => enF (M.1 T' 1) (M.1 (T' + 6) m) (M.1 (T' + 7) m) (M.1 (T' + 4)) (lkH (M.1 T' 0) me (M.1 33) n) (M.1 (T' + 3)) m me) 61 0) ((soF (fun m => wmF (mbB (M.1 32 2) (M.1 (T' + 9) m) m) (frF (fun n => enF (M.1 T' 1) (M.1 (T' + 6) m) (M.1 (T' + 7) m) (M.1 (T' + 4)) (lkH (M.1 T' 0) me (M.1 33) n) (M.1 (T' + 3)) m me) 61 0)) m).2) = false → _)
          refine ⟨fun hLfcfcf => ?_, fun hLfcfcf => ?_⟩
          · show (fun (S : cm_S) => ∃ m M1, m ≤ mo ∧ tmC M M1 ∧ S = (21, [(0, .ref 0), (1, .int (soF (fun m => wmF (mbB (M.1 32 2) (M.1 (T' + 9) m) m) (frF (fun n => enF (M.1 T' 1) (M.1 (T' + 6) m) (M.1 (T' + 7) m) (M.1 (T' + 4)) (lkH (M.1 T' 0) me (M.1 33) n) (M.1 (T' + 3)) m me) 61 0)) m).1), (2, .int (soF (fun m => wmF (mbB (M.1 32 2) (M.1 (T' + 9) m) m) (frF (fun n => enF (M.1 T' 1) (M.1 (T' + 6) m) (M.1 (T' + 7) m) (M.1 (T' + 4)) (lkH (M.1 T' 0) me (M.1 33) n) (M.1 (T' + 3)) m me) 61 0)) m).2), (3, .int (Int32.ofNat m))], [], M1)) (21, [(0, .ref 0), (1, .int ((soF (fun m => wmF (mbB (M.1 32 2) (M.1 (T' + 9) m) m) (frF (fun n => enF (M.1 T' 1) (M.1 (T' + 6) m) (M.1 (T' + 7) m) (M.1 (T' + 4)) (lkH (M.1 T' 0) me (M.1 33) n) (M.1 (T' + 3)) m me) 61 0)) m).1)), (2, .int ((soF (fun m => wmF (mbB (M.1 32 2) (M.1 (T' + 9) m) m) (frF (fun n => enF (M.1 T' 1) (M.1 (T' + 6) m) (M.1 (T' + 7) m) (M.1 (T' + 4)) (lkH (M.1 T' 0) me (M.1 33) n) (M.1 (T' + 3)) m me) 61 0)) m).2)), (3, .int ((Int32.ofNat m) + 1))], [], Mb)
            exact ⟨m + 1, Mb, by omega, tmC_tr hs hs2, by rw [ofn_s1, soF_n (w := (fun m => wmF (mbB (M.1 32 2) (M.1 (T' + 9) m) m) (frF (fun n => enF (M.1 T' 1) (M.1 (T' + 6) m) (M.1 (T' + 7) m) (M.1 (T' + 4)) (lkH (M.1 T' 0) me (M.1 33) n) (M.1 (T' + 3)) m me) 61 0))) (m := m) (fun q => by
                have g2 := fn_ge hLfcfcf
                rw [← ew] at g2
                omega)]⟩
          · show (fun (S : cm_S) => ∃ m M1, m ≤ mo ∧ tmC M M1 ∧ S = (21, [(0, .ref 0), (1, .int (soF (fun m => wmF (mbB (M.1 32 2) (M.1 (T' + 9) m) m) (frF (fun n => enF (M.1 T' 1) (M.1 (T' + 6) m) (M.1 (T' + 7) m) (M.1 (T' + 4)) (lkH (M.1 T' 0) me (M.1 33) n) (M.1 (T' + 3)) m me) 61 0)) m).1), (2, .int (soF (fun m => wmF (mbB (M.1 32 2) (M.1 (T' + 9) m) m) (frF (fun n => enF (M.1 T' 1) (M.1 (T' + 6) m) (M.1 (T' + 7) m) (M.1 (T' + 4)) (lkH (M.1 T' 0) me (M.1 33) n) (M.1 (T' + 3)) m me) 61 0)) m).2), (3, .int (Int32.ofNat m))], [], M1)) (21, [(0, .ref 0), (1, .int (Int32.ofNat m)), (2, .int (frF (fun n => enF (M.1 T' 1) (M.1 (T' + 6) m) (M.1 (T' + 7) m) (M.1 (T' + 4)) (lkH (M.1 T' 0) me (M.1 33) n) (M.1 (T' + 3)) m me) 61 0)), (3, .int ((Int32.ofNat m) + 1))], [], Mb)
            have g1 := fn_ne0 hLfcfc
            have g2 := fn_nge hLfcfcf
            rw [← ew] at g1 g2
            exact ⟨m + 1, Mb, by omega, tmC_tr hs hs2, by
              rw [ofn_s1, soF_y (w := (fun m => wmF (mbB (M.1 32 2) (M.1 (T' + 9) m) m) (frF (fun n => enF (M.1 T' 1) (M.1 (T' + 6) m) (M.1 (T' + 7) m) (M.1 (T' + 4)) (lkH (M.1 T' 0) me (M.1 33) n) (M.1 (T' + 3)) m me) 61 0))) (m := m) g1 g2]
              show _ = (21, [(0, Value.ref 0), (1, Value.int (Int32.ofNat m)), (2, Value.int (wmF (mbB (M.1 32 2) (M.1 (T' + 9) m) m) (frF (fun n => enF (M.1 T' 1) (M.1 (T' + 6) m) (M.1 (T' + 7) m) (M.1 (T' + 4)) (lkH (M.1 T' 0) me (M.1 33) n) (M.1 (T' + 3)) m me) 61 0))), (3, Value.int (Int32.ofNat (m + 1)))], [], Mb)
              rw [ew]⟩
  · show ∃ R, cm_Lc cm_ms 160 [.ref 0] M R ∧ ∀ v M', R v M' → _
    refine ⟨_, hl, ?_⟩
    rintro v M' ⟨hM, rfl⟩
    subst M'
    show (ev_cmp 0 (bi false) 0 = true → _) ∧ (ev_cmp 0 (bi false) 0 = false → _)
    refine ⟨fun hc => ?_, fun hc => ?_⟩
    · show (fun (S : cm_S) => ∃ m M1, m ≤ mo ∧ tmC M M1 ∧ S = (21, [(0, .ref 0), (1, .int (soF (fun m => wmF (mbB (M.1 32 2) (M.1 (T' + 9) m) m) (frF (fun n => enF (M.1 T' 1) (M.1 (T' + 6) m) (M.1 (T' + 7) m) (M.1 (T' + 4)) (lkH (M.1 T' 0) me (M.1 33) n) (M.1 (T' + 3)) m me) 61 0)) m).1), (2, .int (soF (fun m => wmF (mbB (M.1 32 2) (M.1 (T' + 9) m) m) (frF (fun n => enF (M.1 T' 1) (M.1 (T' + 6) m) (M.1 (T' + 7) m) (M.1 (T' + 4)) (lkH (M.1 T' 0) me (M.1 33) n) (M.1 (T' + 3)) m me) 61 0)) m).2), (3, .int (Int32.ofNat m))], [], M1)) (21, [(0, .ref 0), (1, .int (-2)), (2, .int 61), (3, .int 0)], [], M)
      exact ⟨0, M, Nat.zero_le _, tmC_0 M, rfl⟩
    · exact absurd hc (by decide)
/-! the reference's -/
/-- only the scratch row was written -/
def tmM (M M' : cm_M) : Prop := M'.2 = M.2 ∧ ∀ d j, d ≠ 132 → M'.1 d j = M.1 d j
theorem tmM_of {M M' : cm_M} {R : Nat → Int32} (h : rset 132 M M' R) : tmM M M' := ⟨h.1, h.2.1⟩
theorem tmM_0 (M : cm_M) : tmM M M := ⟨rfl, fun _ _ _ => rfl⟩
theorem tmM_tr {M M1 M2 : cm_M} (h : tmM M M1) (g : tmM M1 M2) : tmM M M2 := ⟨g.1.trans h.1, fun d j a => (g.2 d j a).trans (h.2 d j a)⟩
theorem lkR_step {M M1 M2 : cm_M} {me n : Nat} (hs : rset 132 M M1 (lkR (M.1 127 0) me (M.1 129) n)) (k0 : M1.1 127 0 = M.1 127 0) (hs2 : rset 132 M1 M2 (wkR (M1.1 127 0) me (M1.1 132))) : rset 132 M M2 (lkR (M.1 127 0) me (M.1 129) (n + 1)) := rset_cg (rset_tr hs hs2) (fun j hj => by
  show wkR (M.1 127 0) me (lkR (M.1 127 0) me (M.1 129) n) j = wkR (M1.1 127 0) me (M1.1 132) j
  rw [k0]
  exact wkR_cg (fun i hi => (hs.2.2 i hi).symm) j hj)
set_option maxRecDepth 100000 in
theorem m_goOver {M : cm_M} {me n : Nat} (h15 : M.2.2 124 15 = some 127) (h17 : M.2.2 124 17 = some 129) (h22 : M.2.2 124 22 = some 132) (h3 : M.1 127 3 = Int32.ofNat me) (hme : me ≤ 6) (hn : n < 1000) : cm_Lc cm_ms 220 [.ref 124, .int (Int32.ofNat n)] M (fun v M' => v = none ∧ rset 132 M M' (lkR (M.1 127 0) me (M.1 129) n)) := by
  refine lb_of (mi := mr_220) rfl [(17, [0, 1, 2])] (fun S => ∃ k M1, k ≤ n ∧ rset 132 M M1 (lkR (M.1 127 0) me (M.1 129) k) ∧ S = (17, [(0, .ref 124), (1, .int (Int32.ofNat n)), (2, .int (Int32.ofNat k))], [], M1)) 400 (fun S hS => ?_) 400 ?_
  · obtain ⟨k, M1, hk, hs, rfl⟩ := hS
    have h15 : M1.2.2 124 15 = some 127 := by rw [hs.1]; exact h15
    have h17 : M1.2.2 124 17 = some 129 := by rw [hs.1]; exact h17
    have h22 : M1.2.2 124 22 = some 132 := by rw [hs.1]; exact h22
    have k3 : M1.1 127 3 = Int32.ofNat me := (hs.2.1 127 3 (by omega)).trans h3
    have k0 : M1.1 127 0 = M.1 127 0 := hs.2.1 127 0 (by omega)
    show (ev_cmp 3 (Int32.ofNat k) (Int32.ofNat n) = true → _) ∧ (ev_cmp 3 (Int32.ofNat k) (Int32.ofNat n) = false → _)
    refine ⟨fun hL => ?_, fun hL => ?_⟩
    · have g := fn_ge hL
      rw [fn_toInt (by omega), fn_toInt (by omega)] at g
      have : k = n := by omega
      subst this
      exact ⟨rfl, hs⟩
    · have g := fn_nge hL
      rw [fn_toInt (by omega), fn_toInt (by omega)] at g
      first | refine lb_to (T := (24, [(0, .ref 124), (1, .int (Int32.ofNat n)), (2, .int (Int32.ofNat k))], [.ref 124, .ref 124], M1)) 24 [0, 1, 2] rfl rfl rfl (fun J' h => h) (lb_g0 rfl rfl h22 ?_) | refine lb_to0 (T := (24, [(0, .ref 124), (1, .int (Int32.ofNat n)), (2, .int (Int32.ofNat k))], [.ref 124, .ref 124], M1)) 24 [0, 1, 2] rfl rfl rfl (fun J' h => h) (lb_g0 rfl rfl h22 ?_)
      show ∃ R, cm_Lc cm_ms 219 [.ref 124, .ref 132] M1 R ∧ ∀ v M', R v M' → _
      refine ⟨_, m_weekOf (M := M1) (d := 132) (me := me) h15 (by omega) k3 hme, ?_⟩
      rintro v Mb ⟨rfl, hs2⟩
      show (fun (S : cm_S) => ∃ k M1, k ≤ n ∧ rset 132 M M1 (lkR (M.1 127 0) me (M.1 129) k) ∧ S = (17, [(0, .ref 124), (1, .int (Int32.ofNat n)), (2, .int (Int32.ofNat k))], [], M1)) (17, [(0, .ref 124), (1, .int (Int32.ofNat n)), (2, .int ((Int32.ofNat k) + 1))], [], Mb)
      exact ⟨k + 1, Mb, by omega, lkR_step hs k0 hs2, by rw [ofn_s1]⟩
  · first | refine lb_to (T := (1, [(0, .ref 124), (1, .int (Int32.ofNat n))], [.ref 124], M)) 1 [0, 1] rfl rfl rfl (fun J' h => h) (lb_g0 rfl rfl h17 ?_) | refine lb_to0 (T := (1, [(0, .ref 124), (1, .int (Int32.ofNat n))], [.ref 124], M)) 1 [0, 1] rfl rfl rfl (fun J' h => h) (lb_g0 rfl rfl h17 ?_)
    first | refine lb_to (T := (6, [(0, .ref 124), (1, .int (Int32.ofNat n))], [.ref 124, .int 0, .ref 129], M)) 6 [0, 1] rfl rfl rfl (fun J' h => h) (lb_g0 rfl rfl h22 ?_) | refine lb_to0 (T := (6, [(0, .ref 124), (1, .int (Int32.ofNat n))], [.ref 124, .int 0, .ref 129], M)) 6 [0, 1] rfl rfl rfl (fun J' h => h) (lb_g0 rfl rfl h22 ?_)
    show ∃ R, cm_Lc cm_ms 170 [.ref 129, .int 0, .ref 132, .int 0, .int 11] M R ∧ ∀ v M', R v M' → _
    refine ⟨_, m_copyR (M := M) (a := 129) (b := 132) (x := 0) (y := 0) (n := 11) (by decide) (by omega) (by omega), ?_⟩
    rintro v Mb ⟨rfl, hM⟩
    have hs : rset 132 M Mb (M.1 129) := by
      subst hM
      exact ⟨rfl, fun e j he => cp_ne (by omega), fun j hj => by rw [cp_in (by omega) (by omega), Nat.sub_zero, Nat.zero_add]⟩
    show (fun (S : cm_S) => ∃ k M1, k ≤ n ∧ rset 132 M M1 (lkR (M.1 127 0) me (M.1 129) k) ∧ S = (17, [(0, .ref 124), (1, .int (Int32.ofNat n)), (2, .int (Int32.ofNat k))], [], M1)) (17, [(0, .ref 124), (1, .int (Int32.ofNat n)), (2, .int 0)], [], Mb)
    exact ⟨0, Mb, Nat.zero_le _, hs, rfl⟩
theorem m_goOver0 {M : cm_M} {me : Nat} (h15 : M.2.2 124 15 = some 127) (h17 : M.2.2 124 17 = some 129) (h22 : M.2.2 124 22 = some 132) (h3 : M.1 127 3 = Int32.ofNat me) (hme : me ≤ 6) : cm_Lc cm_ms 220 [.ref 124, .int 0] M (fun v M' => v = none ∧ rset 132 M M' (M.1 129)) := m_goOver (n := 0) h15 h17 h22 h3 hme (by omega)
theorem m_longIn_out {a : Bool} {me mo : Nat} {M : cm_M} (hx : MTX a me mo M) (x y : Int32) (ho : outB x (Int32.ofNat me) = true) : cm_Lc cm_ms 234 [.ref 124, .int x, .int y] M (fun v _ => v = some (.int (-1))) := by
  refine lb_st0 (mi := mr_234) rfl 400 ?_
  show ∃ R, cm_Lc cm_ms 164 [.ref 124] M R ∧ ∀ v M', R v M' → _
  refine ⟨_, m_goodG M, ?_⟩
  rintro v M' ⟨rfl, rfl⟩
  have hg := MTX_gd hx
  have hme6 := hx.2.2.2.2.2.1
  have hmo5 := hx.2.2.2.2.2.2
  have e127 : (gdM M).1 127 = M.1 127 := funext fun j => gd_n (by omega)
  have e129 : (gdM M).1 129 = M.1 129 := funext fun j => gd_n (by omega)
  show ∃ R, cm_Lc cm_ms 205 [.ref 124, .int x] (gdM M) R ∧ ∀ v M', R v M' → _
  have hl := m_isMn hg x
  rw [ho, Bool.not_true] at hl
  refine ⟨_, hl, ?_⟩
  rintro v M' ⟨hM, rfl⟩
  subst M'
  show ∃ R, cm_Lc cm_ms 167 [.int y, .int 0, .int 60] (gdM M) R ∧ ∀ v M', R v M' → _
  refine ⟨_, m_in2 y 0 60 (gdM M), ?_⟩
  rintro v M' ⟨hM, rfl⟩
  subst M'
  show ∃ R, cm_Lc cm_ms 233 [.ref 124, .int (bi false), .int (bi (inB y 0 60))] (gdM M) R ∧ ∀ v M', R v M' → _
  refine ⟨_, m_why false (inB y 0 60) (gdM M), ?_⟩
  rintro v Mz ⟨hM, rfl⟩
  subst Mz
  show (ev_cmp 0 (whyF false (inB y 0 60)) 0 = true → _) ∧ (ev_cmp 0 (whyF false (inB y 0 60)) 0 = false → _)
  refine ⟨fun hcccc => ?_, fun hcccc => ?_⟩
  · exact absurd hcccc (by cases inB y 0 60 <;> decide)
  · show ∃ R, cm_Lc cm_ms 165 [.ref 124, .int (whyF false (inB y 0 60))] (gdM M) R ∧ ∀ v M', R v M' → _
    refine ⟨_, m_noG (whyF false (inB y 0 60)) (gdM M), ?_⟩
    rintro v Mz ⟨hG, rfl⟩
    exact rfl
theorem m_longIn_bad {a : Bool} {me mo : Nat} {M : cm_M} (hx : MTX a me mo M) {k : Nat} (hk : k < me) (y : Int32) (hy : inB y 0 60 = false) : cm_Lc cm_ms 234 [.ref 124, .int (Int32.ofNat k), .int y] M (fun v _ => v = some (.int (-1))) := by
  refine lb_st0 (mi := mr_234) rfl 400 ?_
  show ∃ R, cm_Lc cm_ms 164 [.ref 124] M R ∧ ∀ v M', R v M' → _
  refine ⟨_, m_goodG M, ?_⟩
  rintro v M' ⟨rfl, rfl⟩
  have hg := MTX_gd hx
  have hme6 := hx.2.2.2.2.2.1
  have hmo5 := hx.2.2.2.2.2.2
  have e127 : (gdM M).1 127 = M.1 127 := funext fun j => gd_n (by omega)
  have e129 : (gdM M).1 129 = M.1 129 := funext fun j => gd_n (by omega)
  show ∃ R, cm_Lc cm_ms 205 [.ref 124, .int (Int32.ofNat k)] (gdM M) R ∧ ∀ v M', R v M' → _
  have hl := m_isMn hg (Int32.ofNat k)
  rw [outB_lt hk (by omega), Bool.not_false] at hl
  refine ⟨_, hl, ?_⟩
  rintro v M' ⟨hM, rfl⟩
  subst M'
  show ∃ R, cm_Lc cm_ms 167 [.int y, .int 0, .int 60] (gdM M) R ∧ ∀ v M', R v M' → _
  have hi := m_in2 y 0 60 (gdM M)
  rw [hy] at hi
  refine ⟨_, hi, ?_⟩
  rintro v M' ⟨hM, rfl⟩
  subst M'
  show ∃ R, cm_Lc cm_ms 233 [.ref 124, .int (bi true), .int (bi false)] (gdM M) R ∧ ∀ v M', R v M' → _
  refine ⟨_, m_why true false (gdM M), ?_⟩
  rintro v Mz ⟨hM, rfl⟩
  subst Mz
  show (ev_cmp 0 (whyF true false) 0 = true → _) ∧ (ev_cmp 0 (whyF true false) 0 = false → _)
  refine ⟨fun hcccc => ?_, fun hcccc => ?_⟩
  · exact absurd hcccc (by decide)
  · show ∃ R, cm_Lc cm_ms 165 [.ref 124, .int (whyF true false)] (gdM M) R ∧ ∀ v M', R v M' → _
    refine ⟨_, m_noG (whyF true false) (gdM M), ?_⟩
    rintro v Mz ⟨hG, rfl⟩
    exact rfl
set_option maxRecDepth 100000 in
theorem m_longIn_k {a : Bool} {me mo : Nat} {M : cm_M} (hx : MTX a me mo M) {k n : Nat} (ha : a = true) (hk : k < me) (hn : n ≤ 60) : cm_Lc cm_ms 234 [.ref 124, .int (Int32.ofNat k), .int (Int32.ofNat n)] M (fun v _ => v = some (.int (lkR (M.1 127 0) me (M.1 129) n k))) := by
  have h15 := hx.2.1.1
  have h17 := hx.2.1.2.1
  have h22 := hx.2.1.2.2.2.2
  have hme := hx.2.2.2.2.2.1
  have hmo5 := hx.2.2.2.2.2.2
  refine lb_st0 (mi := mr_234) rfl 400 ?_
  show ∃ R, cm_Lc cm_ms 164 [.ref 124] M R ∧ ∀ v M', R v M' → _
  refine ⟨_, m_goodG M, ?_⟩
  rintro v M' ⟨rfl, rfl⟩
  have hg := MTX_gd hx
  have hme6 := hx.2.2.2.2.2.1
  have hmo5 := hx.2.2.2.2.2.2
  have e127 : (gdM M).1 127 = M.1 127 := funext fun j => gd_n (by omega)
  have e129 : (gdM M).1 129 = M.1 129 := funext fun j => gd_n (by omega)
  show ∃ R, cm_Lc cm_ms 205 [.ref 124, .int (Int32.ofNat k)] (gdM M) R ∧ ∀ v M', R v M' → _
  have hl := m_isMn hg (Int32.ofNat k)
  rw [outB_lt hk (by omega), Bool.not_false] at hl
  refine ⟨_, hl, ?_⟩
  rintro v M' ⟨hM, rfl⟩
  subst M'
  show ∃ R, cm_Lc cm_ms 167 [.int (Int32.ofNat n), .int 0, .int 60] (gdM M) R ∧ ∀ v M', R v M' → _
  have hi := m_in2 (Int32.ofNat n) 0 60 (gdM M)
  rw [in_wk hn] at hi
  refine ⟨_, hi, ?_⟩
  rintro v M' ⟨hM, rfl⟩
  subst M'
  show ∃ R, cm_Lc cm_ms 233 [.ref 124, .int (bi true), .int (bi true)] (gdM M) R ∧ ∀ v M', R v M' → _
  refine ⟨_, m_why true true (gdM M), ?_⟩
  rintro v Mz ⟨hM, rfl⟩
  subst Mz
  show (ev_cmp 0 (whyF true true) 0 = true → _) ∧ (ev_cmp 0 (whyF true true) 0 = false → _)
  refine ⟨fun hcccc => ?_, fun hcccc => ?_⟩
  · show ∃ R, cm_Lc cm_ms 220 [.ref 124, .int (Int32.ofNat n)] (gdM M) R ∧ ∀ v M', R v M' → _
    have hgo := m_goOver (M := gdM M) (me := me) (n := n) h15 h17 h22 (by rw [e127]; exact (hx.2.2.1 ha).1) hme (by omega)
    rw [e127, e129] at hgo
    refine ⟨_, hgo, ?_⟩
    rintro v Mb ⟨rfl, hs⟩
    have h15 : Mb.2.2 124 15 = some 127 := by rw [hs.1]; exact h15
    have h17 : Mb.2.2 124 17 = some 129 := by rw [hs.1]; exact h17
    have h22 : Mb.2.2 124 22 = some 132 := by rw [hs.1]; exact h22
    have f127 : Mb.1 127 = M.1 127 := (funext fun j => hs.2.1 127 j (by omega)).trans e127
    first | refine lb_to (T := (37, [(0, .ref 124), (1, .int (Int32.ofNat k)), (2, .int (Int32.ofNat n)), (3, .int (whyF true true))], [.ref 124], Mb)) 37 [0, 1, 2, 3] rfl rfl rfl (fun J' h => h) (lb_g0 rfl rfl h22 ?_) | refine lb_to0 (T := (37, [(0, .ref 124), (1, .int (Int32.ofNat k)), (2, .int (Int32.ofNat n)), (3, .int (whyF true true))], [.ref 124], Mb)) 37 [0, 1, 2, 3] rfl rfl rfl (fun J' h => h) (lb_g0 rfl rfl h22 ?_)
    show some (Value.int (Mb.1 132 (Int32.ofNat k).toNatClampNeg)) = _
    rw [fn_nat (show k < 2147483648 by omega)]
    exact congrArg (fun b => some (Value.int b)) (hs.2.2 k (by omega))
  · exact absurd hcccc (by decide)
theorem m_yesIn_out {a : Bool} {me mo : Nat} {M : cm_M} (hx : MTX a me mo M) (x y : Int32) (ho : outB x (Int32.ofNat mo) = true) : cm_Lc cm_ms 235 [.ref 124, .int x, .int y] M (fun v _ => v = some (.int (-1))) := by
  refine lb_st0 (mi := mr_235) rfl 400 ?_
  show ∃ R, cm_Lc cm_ms 164 [.ref 124] M R ∧ ∀ v M', R v M' → _
  refine ⟨_, m_goodG M, ?_⟩
  rintro v M' ⟨rfl, rfl⟩
  have hg := MTX_gd hx
  have hme6 := hx.2.2.2.2.2.1
  have hmo5 := hx.2.2.2.2.2.2
  have e127 : (gdM M).1 127 = M.1 127 := funext fun j => gd_n (by omega)
  have e129 : (gdM M).1 129 = M.1 129 := funext fun j => gd_n (by omega)
  show ∃ R, cm_Lc cm_ms 206 [.ref 124, .int x] (gdM M) R ∧ ∀ v M', R v M' → _
  have hl := m_isMot hg x
  rw [ho, Bool.not_true] at hl
  refine ⟨_, hl, ?_⟩
  rintro v M' ⟨hM, rfl⟩
  subst M'
  show ∃ R, cm_Lc cm_ms 167 [.int y, .int 0, .int 60] (gdM M) R ∧ ∀ v M', R v M' → _
  refine ⟨_, m_in2 y 0 60 (gdM M), ?_⟩
  rintro v M' ⟨hM, rfl⟩
  subst M'
  show ∃ R, cm_Lc cm_ms 233 [.ref 124, .int (bi false), .int (bi (inB y 0 60))] (gdM M) R ∧ ∀ v M', R v M' → _
  refine ⟨_, m_why false (inB y 0 60) (gdM M), ?_⟩
  rintro v Mz ⟨hM, rfl⟩
  subst Mz
  show (ev_cmp 0 (whyF false (inB y 0 60)) 0 = true → _) ∧ (ev_cmp 0 (whyF false (inB y 0 60)) 0 = false → _)
  refine ⟨fun hcccc => ?_, fun hcccc => ?_⟩
  · exact absurd hcccc (by cases inB y 0 60 <;> decide)
  · show ∃ R, cm_Lc cm_ms 165 [.ref 124, .int (whyF false (inB y 0 60))] (gdM M) R ∧ ∀ v M', R v M' → _
    refine ⟨_, m_noG (whyF false (inB y 0 60)) (gdM M), ?_⟩
    rintro v Mz ⟨hG, rfl⟩
    exact rfl
theorem m_yesIn_bad {a : Bool} {me mo : Nat} {M : cm_M} (hx : MTX a me mo M) {k : Nat} (hk : k < mo) (y : Int32) (hy : inB y 0 60 = false) : cm_Lc cm_ms 235 [.ref 124, .int (Int32.ofNat k), .int y] M (fun v _ => v = some (.int (-1))) := by
  refine lb_st0 (mi := mr_235) rfl 400 ?_
  show ∃ R, cm_Lc cm_ms 164 [.ref 124] M R ∧ ∀ v M', R v M' → _
  refine ⟨_, m_goodG M, ?_⟩
  rintro v M' ⟨rfl, rfl⟩
  have hg := MTX_gd hx
  have hme6 := hx.2.2.2.2.2.1
  have hmo5 := hx.2.2.2.2.2.2
  have e127 : (gdM M).1 127 = M.1 127 := funext fun j => gd_n (by omega)
  have e129 : (gdM M).1 129 = M.1 129 := funext fun j => gd_n (by omega)
  show ∃ R, cm_Lc cm_ms 206 [.ref 124, .int (Int32.ofNat k)] (gdM M) R ∧ ∀ v M', R v M' → _
  have hl := m_isMot hg (Int32.ofNat k)
  rw [outB_lt hk (by omega), Bool.not_false] at hl
  refine ⟨_, hl, ?_⟩
  rintro v M' ⟨hM, rfl⟩
  subst M'
  show ∃ R, cm_Lc cm_ms 167 [.int y, .int 0, .int 60] (gdM M) R ∧ ∀ v M', R v M' → _
  have hi := m_in2 y 0 60 (gdM M)
  rw [hy] at hi
  refine ⟨_, hi, ?_⟩
  rintro v M' ⟨hM, rfl⟩
  subst M'
  show ∃ R, cm_Lc cm_ms 233 [.ref 124, .int (bi true), .int (bi false)] (gdM M) R ∧ ∀ v M', R v M' → _
  refine ⟨_, m_why true false (gdM M), ?_⟩
  rintro v Mz ⟨hM, rfl⟩
  subst Mz
  show (ev_cmp 0 (whyF true false) 0 = true → _) ∧ (ev_cmp 0 (whyF true false) 0 = false → _)
  refine ⟨fun hcccc => ?_, fun hcccc => ?_⟩
  · exact absurd hcccc (by decide)
  · show ∃ R, cm_Lc cm_ms 165 [.ref 124, .int (whyF true false)] (gdM M) R ∧ ∀ v M', R v M' → _
    refine ⟨_, m_noG (whyF true false) (gdM M), ?_⟩
    rintro v Mz ⟨hG, rfl⟩
    exact rfl
set_option maxRecDepth 100000 in
theorem m_yesIn_k {a : Bool} {me mo : Nat} {M : cm_M} (hx : MTX a me mo M) {k n : Nat} (ha : a = true) (hk : k < mo) (hn : n ≤ 60) : cm_Lc cm_ms 235 [.ref 124, .int (Int32.ofNat k), .int (Int32.ofNat n)] M (fun v _ => v = some (.int (yeF (M.1 127 1) (M.1 127 (29 + 3 * k)) (fun m => M.1 127 (44 + m)) (lkR (M.1 127 0) me (M.1 129) n) (fun m => M.1 127 (13 + 3 * m)) k me))) := by
  have h15 := hx.2.1.1
  have h17 := hx.2.1.2.1
  have h22 := hx.2.1.2.2.2.2
  have hme := hx.2.2.2.2.2.1
  have hmo5 := hx.2.2.2.2.2.2
  refine lb_st0 (mi := mr_235) rfl 400 ?_
  show ∃ R, cm_Lc cm_ms 164 [.ref 124] M R ∧ ∀ v M', R v M' → _
  refine ⟨_, m_goodG M, ?_⟩
  rintro v M' ⟨rfl, rfl⟩
  have hg := MTX_gd hx
  have hme6 := hx.2.2.2.2.2.1
  have hmo5 := hx.2.2.2.2.2.2
  have e127 : (gdM M).1 127 = M.1 127 := funext fun j => gd_n (by omega)
  have e129 : (gdM M).1 129 = M.1 129 := funext fun j => gd_n (by omega)
  show ∃ R, cm_Lc cm_ms 206 [.ref 124, .int (Int32.ofNat k)] (gdM M) R ∧ ∀ v M', R v M' → _
  have hl := m_isMot hg (Int32.ofNat k)
  rw [outB_lt hk (by omega), Bool.not_false] at hl
  refine ⟨_, hl, ?_⟩
  rintro v M' ⟨hM, rfl⟩
  subst M'
  show ∃ R, cm_Lc cm_ms 167 [.int (Int32.ofNat n), .int 0, .int 60] (gdM M) R ∧ ∀ v M', R v M' → _
  have hi := m_in2 (Int32.ofNat n) 0 60 (gdM M)
  rw [in_wk hn] at hi
  refine ⟨_, hi, ?_⟩
  rintro v M' ⟨hM, rfl⟩
  subst M'
  show ∃ R, cm_Lc cm_ms 233 [.ref 124, .int (bi true), .int (bi true)] (gdM M) R ∧ ∀ v M', R v M' → _
  refine ⟨_, m_why true true (gdM M), ?_⟩
  rintro v Mz ⟨hM, rfl⟩
  subst Mz
  show (ev_cmp 0 (whyF true true) 0 = true → _) ∧ (ev_cmp 0 (whyF true true) 0 = false → _)
  refine ⟨fun hcccc => ?_, fun hcccc => ?_⟩
  · show ∃ R, cm_Lc cm_ms 220 [.ref 124, .int (Int32.ofNat n)] (gdM M) R ∧ ∀ v M', R v M' → _
    have hgo := m_goOver (M := gdM M) (me := me) (n := n) h15 h17 h22 (by rw [e127]; exact (hx.2.2.1 ha).1) hme (by omega)
    rw [e127, e129] at hgo
    refine ⟨_, hgo, ?_⟩
    rintro v Mb ⟨rfl, hs⟩
    have h15 : Mb.2.2 124 15 = some 127 := by rw [hs.1]; exact h15
    have h17 : Mb.2.2 124 17 = some 129 := by rw [hs.1]; exact h17
    have h22 : Mb.2.2 124 22 = some 132 := by rw [hs.1]; exact h22
    have f127 : Mb.1 127 = M.1 127 := (funext fun j => hs.2.1 127 j (by omega)).trans e127
    first | refine lb_to (T := (38, [(0, .ref 124), (1, .int (Int32.ofNat k)), (2, .int (Int32.ofNat n)), (3, .int (whyF true true))], [.ref 124, .ref 124], Mb)) 38 [0, 1, 2, 3] rfl rfl rfl (fun J' h => h) (lb_g0 rfl rfl h22 ?_) | refine lb_to0 (T := (38, [(0, .ref 124), (1, .int (Int32.ofNat k)), (2, .int (Int32.ofNat n)), (3, .int (whyF true true))], [.ref 124, .ref 124], Mb)) 38 [0, 1, 2, 3] rfl rfl rfl (fun J' h => h) (lb_g0 rfl rfl h22 ?_)
    show ∃ R, cm_Lc cm_ms 214 [.ref 124, .ref 132, .int (Int32.ofNat k)] Mb R ∧ ∀ v M', R v M' → _
    have hy : cm_Lc cm_ms 214 [.ref 124, .ref 132, .int (Int32.ofNat k)] Mb (fun v M' => M' = Mb ∧ v = some (.int (yeF (M.1 127 1) (M.1 127 (29 + 3 * k)) (fun m => M.1 127 (44 + m)) (lkR (M.1 127 0) me (M.1 129) n) (fun m => M.1 127 (13 + 3 * m)) k me))) := by
      refine cm_Lc_im (m_yes (M := Mb) (d := 132) (me := me) (k := k) h15 (by rw [f127]; exact (hx.2.2.1 ha).1) hme (by omega)) (fun v M' z => ⟨z.1, z.2.trans (congrArg (fun b => some (Value.int b)) (yeF_cg ?_ ?_ (fun m hm => ⟨?_, ?_, ?_⟩)))⟩)
      · rw [f127]
      · rw [f127]
      · rw [f127]
      · exact hs.2.2 m (by omega)
      · rw [f127]
    refine ⟨_, hy, ?_⟩
    rintro v Mz ⟨hM, rfl⟩
    subst Mz
    exact rfl
  · exact absurd hcccc (by decide)
set_option maxRecDepth 100000 in
theorem m_carryOf {M : cm_M} {me k : Nat} (h15 : M.2.2 124 15 = some 127) (h17 : M.2.2 124 17 = some 129) (h22 : M.2.2 124 22 = some 132) (h3 : M.1 127 3 = Int32.ofNat me) (hme : me ≤ 6) (hk : k < 1000) : cm_Lc cm_ms 236 [.ref 124, .int (Int32.ofNat k)] M (fun v M' => v = some (.int (frF (fun n => enF (M.1 127 1) (M.1 127 (29 + 3 * k)) (M.1 127 (30 + 3 * k)) (fun m => M.1 127 (44 + m)) (lkR (M.1 127 0) me (M.1 129) n) (fun m => M.1 127 (13 + 3 * m)) k me) 61 0)) ∧ tmM M M') := by
  have z60 : (60 : Int32).toInt = 60 := by decide
  refine lb_of (mi := mr_236) rfl [(7, [0, 1, 2])] (fun S => ∃ n M1, n ≤ 61 ∧ rset 132 M M1 (lkR (M.1 127 0) me (M.1 129) n) ∧ frF (fun n => enF (M.1 127 1) (M.1 127 (29 + 3 * k)) (M.1 127 (30 + 3 * k)) (fun m => M.1 127 (44 + m)) (lkR (M.1 127 0) me (M.1 129) n) (fun m => M.1 127 (13 + 3 * m)) k me) (61 - n) n = frF (fun n => enF (M.1 127 1) (M.1 127 (29 + 3 * k)) (M.1 127 (30 + 3 * k)) (fun m => M.1 127 (44 + m)) (lkR (M.1 127 0) me (M.1 129) n) (fun m => M.1 127 (13 + 3 * m)) k me) 61 0 ∧ S = (7, [(0, .ref 124), (1, .int (Int32.ofNat k)), (2, .int (Int32.ofNat n))], [], M1)) 400 (fun S hS => ?_) 400 ?_
  · obtain ⟨n, M1, hn, hs, hf, rfl⟩ := hS
    have h15 : M1.2.2 124 15 = some 127 := by rw [hs.1]; exact h15
    have h17 : M1.2.2 124 17 = some 129 := by rw [hs.1]; exact h17
    have h22 : M1.2.2 124 22 = some 132 := by rw [hs.1]; exact h22
    have k3 : M1.1 127 3 = Int32.ofNat me := (hs.2.1 127 3 (by omega)).trans h3
    have k0 : M1.1 127 0 = M.1 127 0 := hs.2.1 127 0 (by omega)
    have f127 : M1.1 127 = M.1 127 := funext fun j => hs.2.1 127 j (by omega)
    show (ev_cmp 4 (Int32.ofNat n) 60 = true → _) ∧ (ev_cmp 4 (Int32.ofNat n) 60 = false → _)
    refine ⟨fun hL => ?_, fun hL => ?_⟩
    · have g := fn_gt hL
      rw [z60, fn_toInt (by omega)] at g
      have : n = 61 := by omega
      subst this
      refine ⟨?_, tmM_of hs⟩
      show some (Value.int (-2)) = _
      exact congrArg (fun b => some (Value.int b)) (show (-2 : Int32) = _ from hf)
    · have g := fn_ngt hL
      rw [z60, fn_toInt (by omega)] at g
      first | refine lb_to (T := (15, [(0, .ref 124), (1, .int (Int32.ofNat k)), (2, .int (Int32.ofNat n))], [.ref 124, .ref 124], M1)) 15 [0, 1, 2] rfl rfl rfl (fun J' h => h) (lb_g0 rfl rfl h22 ?_) | refine lb_to0 (T := (15, [(0, .ref 124), (1, .int (Int32.ofNat k)), (2, .int (Int32.ofNat n))], [.ref 124, .ref 124], M1)) 15 [0, 1, 2] rfl rfl rfl (fun J' h => h) (lb_g0 rfl rfl h22 ?_)
      show ∃ R, cm_Lc cm_ms 215 [.ref 124, .ref 132, .int (Int32.ofNat k)] M1 R ∧ ∀ v M', R v M' → _
      have he : cm_Lc cm_ms 215 [.ref 124, .ref 132, .int (Int32.ofNat k)] M1 (fun v M' => M' = M1 ∧ v = some (.int (bi (enF (M.1 127 1) (M.1 127 (29 + 3 * k)) (M.1 127 (30 + 3 * k)) (fun m => M.1 127 (44 + m)) (lkR (M.1 127 0) me (M.1 129) n) (fun m => M.1 127 (13 + 3 * m)) k me)))) := by
        refine cm_Lc_im (m_enough (M := M1) (d := 132) (me := me) (k := k) h15 k3 hme (by omega)) (fun v M' z => ⟨z.1, z.2.trans (congrArg (fun b => some (Value.int (bi b))) (enF_cg ?_ ?_ ?_ (fun m hm => ⟨?_, ?_, ?_⟩)))⟩)
        · rw [f127]
        · rw [f127]
        · rw [f127]
        · rw [f127]
        · exact hs.2.2 m (by omega)
        · rw [f127]
      refine ⟨_, he, ?_⟩
      rintro v Mz ⟨hM, rfl⟩
      subst Mz
      show (ev_cmp 0 (bi (enF (M.1 127 1) (M.1 127 (29 + 3 * k)) (M.1 127 (30 + 3 * k)) (fun m => M.1 127 (44 + m)) (lkR (M.1 127 0) me (M.1 129) n) (fun m => M.1 127 (13 + 3 * m)) k me)) 0 = true → _) ∧ (ev_cmp 0 (bi (enF (M.1 127 1) (M.1 127 (29 + 3 * k)) (M.1 127 (30 + 3 * k)) (fun m => M.1 127 (44 + m)) (lkR (M.1 127 0) me (M.1 129) n) (fun m => M.1 127 (13 + 3 * m)) k me)) 0 = false → _)
      refine ⟨fun hLfc => ?_, fun hLfc => ?_⟩
      · first | refine lb_to (T := (29, [(0, .ref 124), (1, .int (Int32.ofNat k)), (2, .int (Int32.ofNat n))], [.ref 124, .ref 124], M1)) 29 [0, 1, 2] rfl rfl rfl (fun J' h => h) (lb_g0 rfl rfl h22 ?_) | refine lb_to0 (T := (29, [(0, .ref 124), (1, .int (Int32.ofNat k)), (2, .int (Int32.ofNat n))], [.ref 124, .ref 124], M1)) 29 [0, 1, 2] rfl rfl rfl (fun J' h => h) (lb_g0 rfl rfl h22 ?_)
        show ∃ R, cm_Lc cm_ms 219 [.ref 124, .ref 132] M1 R ∧ ∀ v M', R v M' → _
        refine ⟨_, m_weekOf (M := M1) (d := 132) (me := me) h15 (by omega) k3 hme, ?_⟩
        rintro v Mb ⟨rfl, hs2⟩
        show (fun (S : cm_S) => ∃ n M1, n ≤ 61 ∧ rset 132 M M1 (lkR (M.1 127 0) me (M.1 129) n) ∧ frF (fun n => enF (M.1 127 1) (M.1 127 (29 + 3 * k)) (M.1 127 (30 + 3 * k)) (fun m => M.1 127 (44 + m)) (lkR (M.1 127 0) me (M.1 129) n) (fun m => M.1 127 (13 + 3 * m)) k me) (61 - n) n = frF (fun n => enF (M.1 127 1) (M.1 127 (29 + 3 * k)) (M.1 127 (30 + 3 * k)) (fun m => M.1 127 (44 + m)) (lkR (M.1 127 0) me (M.1 129) n) (fun m => M.1 127 (13 + 3 * m)) k me) 61 0 ∧ S = (7, [(0, .ref 124), (1, .int (Int32.ofNat k)), (2, .int (Int32.ofNat n))], [], M1)) (7, [(0, .ref 124), (1, .int (Int32.ofNat k)), (2, .int ((Int32.ofNat n) + 1))], [], Mb)
        exact ⟨n + 1, Mb, by omega, lkR_step hs k0 hs2, frF_step (p := (fun n => enF (M.1 127 1) (M.1 127 (29 + 3 * k)) (M.1 127 (30 + 3 * k)) (fun m => M.1 127 (44 + m)) (lkR (M.1 127 0) me (M.1 129) n) (fun m => M.1 127 (13 + 3 * m)) k me)) (n := n) (by omega) (bi_0 hLfc) hf, by rw [ofn_s1]⟩
      · exact ⟨congrArg (fun b => some (Value.int b)) (frF_hit (p := (fun n => enF (M.1 127 1) (M.1 127 (29 + 3 * k)) (M.1 127 (30 + 3 * k)) (fun m => M.1 127 (44 + m)) (lkR (M.1 127 0) me (M.1 129) n) (fun m => M.1 127 (13 + 3 * m)) k me)) (n := n) (by omega) (bi_1 hLfc) hf), tmM_of hs⟩
  · show ∃ R, cm_Lc cm_ms 220 [.ref 124, .int 0] M R ∧ ∀ v M', R v M' → _
    refine ⟨_, m_goOver0 h15 h17 h22 h3 hme, ?_⟩
    rintro v Mb ⟨rfl, hs⟩
    show (fun (S : cm_S) => ∃ n M1, n ≤ 61 ∧ rset 132 M M1 (lkR (M.1 127 0) me (M.1 129) n) ∧ frF (fun n => enF (M.1 127 1) (M.1 127 (29 + 3 * k)) (M.1 127 (30 + 3 * k)) (fun m => M.1 127 (44 + m)) (lkR (M.1 127 0) me (M.1 129) n) (fun m => M.1 127 (13 + 3 * m)) k me) (61 - n) n = frF (fun n => enF (M.1 127 1) (M.1 127 (29 + 3 * k)) (M.1 127 (30 + 3 * k)) (fun m => M.1 127 (44 + m)) (lkR (M.1 127 0) me (M.1 129) n) (fun m => M.1 127 (13 + 3 * m)) k me) 61 0 ∧ S = (7, [(0, .ref 124), (1, .int (Int32.ofNat k)), (2, .int (Int32.ofNat n))], [], M1)) (7, [(0, .ref 124), (1, .int (Int32.ofNat k)), (2, .int 0)], [], Mb)
    exact ⟨0, Mb, Nat.zero_le _, hs, rfl, rfl⟩
theorem m_carryIn_out {a : Bool} {me mo : Nat} {M : cm_M} (hx : MTX a me mo M) (x : Int32) (ho : outB x (Int32.ofNat mo) = true) : cm_Lc cm_ms 237 [.ref 124, .int x] M (fun v _ => v = some (.int (-1))) := by
  refine lb_st0 (mi := mr_237) rfl 400 ?_
  show ∃ R, cm_Lc cm_ms 164 [.ref 124] M R ∧ ∀ v M', R v M' → _
  refine ⟨_, m_goodG M, ?_⟩
  rintro v M' ⟨rfl, rfl⟩
  have hg := MTX_gd hx
  have hme6 := hx.2.2.2.2.2.1
  have hmo5 := hx.2.2.2.2.2.2
  have e127 : (gdM M).1 127 = M.1 127 := funext fun j => gd_n (by omega)
  have e129 : (gdM M).1 129 = M.1 129 := funext fun j => gd_n (by omega)
  show ∃ R, cm_Lc cm_ms 206 [.ref 124, .int x] (gdM M) R ∧ ∀ v M', R v M' → _
  have hl := m_isMot hg x
  rw [ho, Bool.not_true] at hl
  refine ⟨_, hl, ?_⟩
  rintro v M' ⟨hM, rfl⟩
  subst M'
  show (ev_cmp 0 (bi false) 0 = true → _) ∧ (ev_cmp 0 (bi false) 0 = false → _)
  refine ⟨fun hcc => ?_, fun hcc => ?_⟩
  · show ∃ R, cm_Lc cm_ms 165 [.ref 124, .int 1] (gdM M) R ∧ ∀ v M', R v M' → _
    refine ⟨_, m_noG 1 (gdM M), ?_⟩
    rintro v Mz ⟨hG, rfl⟩
    exact rfl
  · exact absurd hcc (by decide)
set_option maxRecDepth 100000 in
theorem m_carryIn_k {a : Bool} {me mo : Nat} {M : cm_M} (hx : MTX a me mo M) {k : Nat} (ha : a = true) (hk : k < mo) : cm_Lc cm_ms 237 [.ref 124, .int (Int32.ofNat k)] M (fun v _ => v = some (.int (frF (fun n => enF (M.1 127 1) (M.1 127 (29 + 3 * k)) (M.1 127 (30 + 3 * k)) (fun m => M.1 127 (44 + m)) (lkR (M.1 127 0) me (M.1 129) n) (fun m => M.1 127 (13 + 3 * m)) k me) 61 0))) := by
  have h15 := hx.2.1.1
  have h17 := hx.2.1.2.1
  have h22 := hx.2.1.2.2.2.2
  have hme := hx.2.2.2.2.2.1
  have hmo5 := hx.2.2.2.2.2.2
  refine lb_st0 (mi := mr_237) rfl 400 ?_
  show ∃ R, cm_Lc cm_ms 164 [.ref 124] M R ∧ ∀ v M', R v M' → _
  refine ⟨_, m_goodG M, ?_⟩
  rintro v M' ⟨rfl, rfl⟩
  have hg := MTX_gd hx
  have hme6 := hx.2.2.2.2.2.1
  have hmo5 := hx.2.2.2.2.2.2
  have e127 : (gdM M).1 127 = M.1 127 := funext fun j => gd_n (by omega)
  have e129 : (gdM M).1 129 = M.1 129 := funext fun j => gd_n (by omega)
  show ∃ R, cm_Lc cm_ms 206 [.ref 124, .int (Int32.ofNat k)] (gdM M) R ∧ ∀ v M', R v M' → _
  have hl := m_isMot hg (Int32.ofNat k)
  rw [outB_lt hk (by omega), Bool.not_false] at hl
  refine ⟨_, hl, ?_⟩
  rintro v M' ⟨hM, rfl⟩
  subst M'
  show (ev_cmp 0 (bi true) 0 = true → _) ∧ (ev_cmp 0 (bi true) 0 = false → _)
  refine ⟨fun hcc => ?_, fun hcc => ?_⟩
  · exact absurd hcc (by decide)
  · show ∃ R, cm_Lc cm_ms 236 [.ref 124, .int (Int32.ofNat k)] (gdM M) R ∧ ∀ v M', R v M' → _
    have hu := m_carryOf (M := gdM M) (me := me) (k := k) h15 h17 h22 (by rw [e127]; exact (hx.2.2.1 ha).1) hme (by omega)
    rw [e127, e129] at hu
    refine ⟨_, hu, ?_⟩
    rintro v Mb ⟨rfl, hs⟩
    exact rfl
theorem m_hairyIn_no {a : Bool} {me mo : Nat} {M : cm_M} (hx : MTX a me mo M) (ha : a = false) : cm_Lc cm_ms 238 [.ref 124] M (fun v _ => v = some (.int (-1))) := by
  refine lb_st0 (mi := mr_238) rfl 400 ?_
  show ∃ R, cm_Lc cm_ms 164 [.ref 124] M R ∧ ∀ v M', R v M' → _
  refine ⟨_, m_goodG M, ?_⟩
  rintro v M' ⟨rfl, rfl⟩
  have hg := MTX_gd hx
  show (ev_cmp 1 ((gdM M).1 124 14) 0 = true → _) ∧ (ev_cmp 1 ((gdM M).1 124 14) 0 = false → _)
  refine ⟨fun hc => ?_, fun hc => ?_⟩
  · have q := fn_ne hc
    rw [gd_n (by omega), hx.1, ha] at q
    exact absurd rfl q
  · show ∃ R, cm_Lc cm_ms 165 [.ref 124, .int 1] (gdM M) R ∧ ∀ v M', R v M' → _
    refine ⟨_, m_noG 1 (gdM M), ?_⟩
    rintro v Mz ⟨hG, rfl⟩
    exact rfl
theorem lkR_step2 {M M0 M1 M2 : cm_M} {me n : Nat} (e127 : M0.1 127 = M.1 127) (hs : rset 132 M0 M1 (lkR (M.1 127 0) me (M.1 129) n)) (k0 : M1.1 127 0 = M.1 127 0) (hs2 : rset 132 M1 M2 (wkR (M1.1 127 0) me (M1.1 132))) : rset 132 M0 M2 (lkR (M.1 127 0) me (M.1 129) (n + 1)) := rset_cg (rset_tr hs hs2) (fun j hj => by
  show wkR (M.1 127 0) me (lkR (M.1 127 0) me (M.1 129) n) j = wkR (M1.1 127 0) me (M1.1 132) j
  rw [k0]
  exact wkR_cg (fun i hi => (hs.2.2 i hi).symm) j hj)
set_option maxRecDepth 100000 in
theorem m_hairyIn_k {a : Bool} {me mo : Nat} {M : cm_M} (hx : MTX a me mo M) (ha : a = true) : cm_Lc cm_ms 238 [.ref 124] M (fun v _ => v = some (.int (frF (fun n => decide (orF (fun m => bdB (M.1 127 1) (lkR (M.1 127 0) me (M.1 129) n m)) me = 0)) 61 0))) := by
  have h15 := hx.2.1.1
  have h17 := hx.2.1.2.1
  have h22 := hx.2.1.2.2.2.2
  have hme := hx.2.2.2.2.2.1
  have hmo5 := hx.2.2.2.2.2.2
  have z60 : (60 : Int32).toInt = 60 := by decide
  have e127 : (gdM M).1 127 = M.1 127 := funext fun j => gd_n (by omega)
  have e129 : (gdM M).1 129 = M.1 129 := funext fun j => gd_n (by omega)
  refine lb_of (mi := mr_238) rfl [(24, [0, 1])] (fun S => ∃ n M1, n ≤ 61 ∧ rset 132 (gdM M) M1 (lkR (M.1 127 0) me (M.1 129) n) ∧ frF (fun n => decide (orF (fun m => bdB (M.1 127 1) (lkR (M.1 127 0) me (M.1 129) n m)) me = 0)) (61 - n) n = frF (fun n => decide (orF (fun m => bdB (M.1 127 1) (lkR (M.1 127 0) me (M.1 129) n m)) me = 0)) 61 0 ∧ S = (24, [(0, .ref 124), (1, .int (Int32.ofNat n))], [], M1)) 400 (fun S hS => ?_) 400 ?_
  · obtain ⟨n, M1, hn, hs, hf, rfl⟩ := hS
    have h15 : M1.2.2 124 15 = some 127 := by rw [hs.1]; exact h15
    have h17 : M1.2.2 124 17 = some 129 := by rw [hs.1]; exact h17
    have h22 : M1.2.2 124 22 = some 132 := by rw [hs.1]; exact h22
    have f127 : M1.1 127 = M.1 127 := (funext fun j => hs.2.1 127 j (by omega)).trans e127
    have k3 : M1.1 127 3 = Int32.ofNat me := by rw [f127]; exact (hx.2.2.1 ha).1
    have k0 : M1.1 127 0 = M.1 127 0 := by rw [f127]
    show (ev_cmp 4 (Int32.ofNat n) 60 = true → _) ∧ (ev_cmp 4 (Int32.ofNat n) 60 = false → _)
    refine ⟨fun hL => ?_, fun hL => ?_⟩
    · have g := fn_gt hL
      rw [z60, fn_toInt (by omega)] at g
      have : n = 61 := by omega
      subst this
      show some (Value.int (-2)) = _
      exact congrArg (fun b => some (Value.int b)) (show (-2 : Int32) = _ from hf)
    · have g := fn_ngt hL
      rw [z60, fn_toInt (by omega)] at g
      first | refine lb_to (T := (32, [(0, .ref 124), (1, .int (Int32.ofNat n))], [.ref 124, .ref 124], M1)) 32 [0, 1] rfl rfl rfl (fun J' h => h) (lb_g0 rfl rfl h22 ?_) | refine lb_to0 (T := (32, [(0, .ref 124), (1, .int (Int32.ofNat n))], [.ref 124, .ref 124], M1)) 32 [0, 1] rfl rfl rfl (fun J' h => h) (lb_g0 rfl rfl h22 ?_)
      show ∃ R, cm_Lc cm_ms 210 [.ref 124, .ref 132] M1 R ∧ ∀ v M', R v M' → _
      have hb : cm_Lc cm_ms 210 [.ref 124, .ref 132] M1 (fun v M' => M' = M1 ∧ v = some (.int (orF (fun m => bdB (M.1 127 1) (lkR (M.1 127 0) me (M.1 129) n m)) me))) := by
        refine cm_Lc_im (m_baldOf (M := M1) (d := 132) (me := me) h15 k3 hme) (fun v M' z => ⟨z.1, z.2.trans (congrArg (fun b => some (Value.int b)) (orF_cg me (fun m hm => ?_)))⟩)
        show bdB (M1.1 127 1) (M1.1 132 m) = bdB (M.1 127 1) (lkR (M.1 127 0) me (M.1 129) n m)
        rw [f127, hs.2.2 m (by omega)]
      refine ⟨_, hb, ?_⟩
      rintro v Mz ⟨hM, rfl⟩
      subst Mz
      show (ev_cmp 1 (orF (fun m => bdB (M.1 127 1) (lkR (M.1 127 0) me (M.1 129) n m)) me) 0 = true → _) ∧ (ev_cmp 1 (orF (fun m => bdB (M.1 127 1) (lkR (M.1 127 0) me (M.1 129) n m)) me) 0 = false → _)
      refine ⟨fun hLfc => ?_, fun hLfc => ?_⟩
      · first | refine lb_to (T := (45, [(0, .ref 124), (1, .int (Int32.ofNat n))], [.ref 124, .ref 124], M1)) 45 [0, 1] rfl rfl rfl (fun J' h => h) (lb_g0 rfl rfl h22 ?_) | refine lb_to0 (T := (45, [(0, .ref 124), (1, .int (Int32.ofNat n))], [.ref 124, .ref 124], M1)) 45 [0, 1] rfl rfl rfl (fun J' h => h) (lb_g0 rfl rfl h22 ?_)
        show ∃ R, cm_Lc cm_ms 219 [.ref 124, .ref 132] M1 R ∧ ∀ v M', R v M' → _
        refine ⟨_, m_weekOf (M := M1) (d := 132) (me := me) h15 (by omega) k3 hme, ?_⟩
        rintro v Mb ⟨rfl, hs2⟩
        show (fun (S : cm_S) => ∃ n M1, n ≤ 61 ∧ rset 132 (gdM M) M1 (lkR (M.1 127 0) me (M.1 129) n) ∧ frF (fun n => decide (orF (fun m => bdB (M.1 127 1) (lkR (M.1 127 0) me (M.1 129) n m)) me = 0)) (61 - n) n = frF (fun n => decide (orF (fun m => bdB (M.1 127 1) (lkR (M.1 127 0) me (M.1 129) n m)) me = 0)) 61 0 ∧ S = (24, [(0, .ref 124), (1, .int (Int32.ofNat n))], [], M1)) (24, [(0, .ref 124), (1, .int ((Int32.ofNat n) + 1))], [], Mb)
        exact ⟨n + 1, Mb, by omega, lkR_step2 e127 hs k0 hs2, frF_step (p := (fun n => decide (orF (fun m => bdB (M.1 127 1) (lkR (M.1 127 0) me (M.1 129) n m)) me = 0))) (n := n) (by omega) (decide_eq_false (fn_ne hLfc)) hf, by rw [ofn_s1]⟩
      · exact congrArg (fun b => some (Value.int b)) (frF_hit (p := (fun n => decide (orF (fun m => bdB (M.1 127 1) (lkR (M.1 127 0) me (M.1 129) n m)) me = 0))) (n := n) (by omega) (decide_eq_true (fn_eq hLfc)) hf)
  · show ∃ R, cm_Lc cm_ms 164 [.ref 124] M R ∧ ∀ v M', R v M' → _
    refine ⟨_, m_goodG M, ?_⟩
    rintro v M' ⟨rfl, rfl⟩
    show (ev_cmp 1 ((gdM M).1 124 14) 0 = true → _) ∧ (ev_cmp 1 ((gdM M).1 124 14) 0 = false → _)
    refine ⟨fun hc => ?_, fun hc => ?_⟩
    · show ∃ R, cm_Lc cm_ms 220 [.ref 124, .int 0] (gdM M) R ∧ ∀ v M', R v M' → _
      have hgo := m_goOver0 (M := gdM M) (me := me) h15 h17 h22 (by rw [e127]; exact (hx.2.2.1 ha).1) hme
      rw [e129] at hgo
      refine ⟨_, hgo, ?_⟩
      rintro v Mb ⟨rfl, hs⟩
      show (fun (S : cm_S) => ∃ n M1, n ≤ 61 ∧ rset 132 (gdM M) M1 (lkR (M.1 127 0) me (M.1 129) n) ∧ frF (fun n => decide (orF (fun m => bdB (M.1 127 1) (lkR (M.1 127 0) me (M.1 129) n m)) me = 0)) (61 - n) n = frF (fun n => decide (orF (fun m => bdB (M.1 127 1) (lkR (M.1 127 0) me (M.1 129) n m)) me = 0)) 61 0 ∧ S = (24, [(0, .ref 124), (1, .int (Int32.ofNat n))], [], M1)) (24, [(0, .ref 124), (1, .int 0)], [], Mb)
      exact ⟨0, Mb, Nat.zero_le _, hs, rfl, rfl⟩
    · have q := fn_eq hc
      rw [gd_n (by omega), hx.1, ha] at q
      exact absurd q (by decide)
theorem m_soonest_no {a : Bool} {me mo : Nat} {M : cm_M} (hx : MTX a me mo M) (ha : a = false) : cm_Lc cm_ms 239 [.ref 124] M (fun v _ => v = some (.int (-1))) := by
  refine lb_st0 (mi := mr_239) rfl 400 ?_
  show ∃ R, cm_Lc cm_ms 164 [.ref 124] M R ∧ ∀ v M', R v M' → _
  refine ⟨_, m_goodG M, ?_⟩
  rintro v M' ⟨rfl, rfl⟩
  have hg := MTX_gd hx
  show (ev_cmp 1 ((gdM M).1 124 14) 0 = true → _) ∧ (ev_cmp 1 ((gdM M).1 124 14) 0 = false → _)
  refine ⟨fun hc => ?_, fun hc => ?_⟩
  · have q := fn_ne hc
    rw [gd_n (by omega), hx.1, ha] at q
    exact absurd rfl q
  · show ∃ R, cm_Lc cm_ms 165 [.ref 124, .int 1] (gdM M) R ∧ ∀ v M', R v M' → _
    refine ⟨_, m_noG 1 (gdM M), ?_⟩
    rintro v Mz ⟨hG, rfl⟩
    exact rfl
theorem wm_rng (mb : Bool) (p : Nat → Bool) : wmF mb (frF p 61 0) = -2 ∨ ∃ i, i < 61 ∧ wmF mb (frF p 61 0) = Int32.ofNat i := by
  cases mb with
  | false => exact Or.inl rfl
  | true =>
    rcases frF_rng p 61 0 with q | ⟨i, a, b, e⟩
    · exact Or.inl q
    · exact Or.inr ⟨i, by omega, e⟩
theorem wmF_ne {mb : Bool} {x : Int32} (h : wmF mb x ≠ -2) : wmF mb x = x := by
  cases mb with
  | false => exact absurd rfl h
  | true => rfl
theorem m2_neg : (-2 : Int32).toInt = -2 := by decide
theorem p61 : (61 : Int32).toInt = 61 := by decide
/-- the weeks of motions that may be put, the reference's -/
def wkM (M : cm_M) (me : Nat) : Nat → Int32 := fun m => wmF (mbB (M.1 129 9) (M.1 127 (50 + m)) m) (frF (fun n => enF (M.1 127 1) (M.1 127 (29 + 3 * m)) (M.1 127 (30 + 3 * m)) (fun m => M.1 127 (44 + m)) (lkR (M.1 127 0) me (M.1 129) n) (fun m => M.1 127 (13 + 3 * m)) m me) 61 0)
set_option maxRecDepth 100000 in
theorem m_soonest_k {a : Bool} {me mo : Nat} {M : cm_M} (hx : MTX a me mo M) (ha : a = true) : cm_Lc cm_ms 239 [.ref 124] M (fun v _ => v = some (.int ((soF (wkM M me) mo).1))) := by
  have h15 := hx.2.1.1
  have h17 := hx.2.1.2.1
  have h22 := hx.2.1.2.2.2.2
  have hme := hx.2.2.2.2.2.1
  have hmo5 := hx.2.2.2.2.2.2
  have e127 : (gdM M).1 127 = M.1 127 := funext fun j => gd_n (by omega)
  have e129 : (gdM M).1 129 = M.1 129 := funext fun j => gd_n (by omega)
  have z0 : (0 : Int32).toInt = 0 := by decide
  refine lb_of (mi := mr_239) rfl [(22, [0, 1, 2])] (fun S => ∃ m M1, m ≤ mo ∧ tmM (gdM M) M1 ∧ S = (22, [(0, .ref 124), (1, .int (soF (wkM M me) m).1), (2, .int (Int32.ofNat m))], [], M1)) 400 (fun S hS => ?_) 400 ?_
  · obtain ⟨m, M1, hm, hs, rfl⟩ := hS
    have h15 : M1.2.2 124 15 = some 127 := by rw [hs.1]; exact h15
    have h17 : M1.2.2 124 17 = some 129 := by rw [hs.1]; exact h17
    have h22 : M1.2.2 124 22 = some 132 := by rw [hs.1]; exact h22
    have f127 : M1.1 127 = M.1 127 := (funext fun j => hs.2 127 j (by omega)).trans e127
    have f129 : M1.1 129 = M.1 129 := (funext fun j => hs.2 129 j (by omega)).trans e129
    have k3 : M1.1 127 3 = Int32.ofNat me := by rw [f127]; exact (hx.2.2.1 ha).1
    have k4 : M1.1 127 4 = Int32.ofNat mo := by rw [f127]; exact (hx.2.2.1 ha).2
    have hW : ∀ m, (wkM M me) m = -2 ∨ ∃ i, i < 61 ∧ (wkM M me) m = Int32.ofNat i := fun m => wm_rng _ _
    first | refine lb_to (T := (24, [(0, .ref 124), (1, .int ((soF (wkM M me) m).1)), (2, .int (Int32.ofNat m))], [.ref 124, .int (Int32.ofNat m)], M1)) 24 [0, 1, 2] rfl rfl rfl (fun J' h => h) (lb_g0 rfl rfl h15 ?_) | refine lb_to0 (T := (24, [(0, .ref 124), (1, .int ((soF (wkM M me) m).1)), (2, .int (Int32.ofNat m))], [.ref 124, .int (Int32.ofNat m)], M1)) 24 [0, 1, 2] rfl rfl rfl (fun J' h => h) (lb_g0 rfl rfl h15 ?_)
    show (ev_cmp 3 (Int32.ofNat m) (M1.1 127 4) = true → _) ∧ (ev_cmp 3 (Int32.ofNat m) (M1.1 127 4) = false → _)
    refine ⟨fun hL => ?_, fun hL => ?_⟩
    · have g := fn_ge hL
      rw [k4, fn_toInt (by omega), fn_toInt (by omega)] at g
      have : m = mo := by omega
      subst this
      exact rfl
    · have g := fn_nge hL
      rw [k4, fn_toInt (by omega), fn_toInt (by omega)] at g
      first | refine lb_to (T := (34, [(0, .ref 124), (1, .int ((soF (wkM M me) m).1)), (2, .int (Int32.ofNat m))], [.ref 124, .ref 124], M1)) 34 [0, 1, 2] rfl rfl rfl (fun J' h => h) (lb_g0 rfl rfl h17 ?_) | refine lb_to0 (T := (34, [(0, .ref 124), (1, .int ((soF (wkM M me) m).1)), (2, .int (Int32.ofNat m))], [.ref 124, .ref 124], M1)) 34 [0, 1, 2] rfl rfl rfl (fun J' h => h) (lb_g0 rfl rfl h17 ?_)
      show ∃ R, cm_Lc cm_ms 216 [.ref 124, .ref 129, .int (Int32.ofNat m)] M1 R ∧ ∀ v M', R v M' → _
      have hb : cm_Lc cm_ms 216 [.ref 124, .ref 129, .int (Int32.ofNat m)] M1 (fun v M' => M' = M1 ∧ v = some (.int (bi (mbB (M.1 129 9) (M.1 127 (50 + m)) m)))) := by
        have q := m_mayBe (M := M1) (d := 129) (k := m) h15 (by omega)
        rw [f127, f129] at q
        exact q
      refine ⟨_, hb, ?_⟩
      rintro v Mz ⟨hM, rfl⟩
      subst Mz
      show (ev_cmp 0 (bi (mbB (M.1 129 9) (M.1 127 (50 + m)) m)) 0 = true → _) ∧ (ev_cmp 0 (bi (mbB (M.1 129 9) (M.1 127 (50 + m)) m)) 0 = false → _)
      refine ⟨fun hLfc => ?_, fun hLfc => ?_⟩
      · show (ev_cmp 2 (-2) 0 = true → _) ∧ (ev_cmp 2 (-2) 0 = false → _)
        refine ⟨fun hLfct => ?_, fun hLfct => ?_⟩
        · show (fun (S : cm_S) => ∃ m M1, m ≤ mo ∧ tmM (gdM M) M1 ∧ S = (22, [(0, .ref 124), (1, .int (soF (wkM M me) m).1), (2, .int (Int32.ofNat m))], [], M1)) (22, [(0, .ref 124), (1, .int ((soF (wkM M me) m).1)), (2, .int ((Int32.ofNat m) + 1))], [], M1)
          have ew : wmF (mbB (M.1 129 9) (M.1 127 (50 + m)) m) (frF (fun n => enF (M.1 127 1) (M.1 127 (29 + 3 * m)) (M.1 127 (30 + 3 * m)) (fun m => M.1 127 (44 + m)) (lkR (M.1 127 0) me (M.1 129) n) (fun m => M.1 127 (13 + 3 * m)) m me) 61 0) = -2 := by
            rw [bi_0 hLfc]
            try rfl
          exact ⟨m + 1, M1, by omega, hs, by rw [ofn_s1, soF_n (w := (wkM M me)) (m := m) (fun q => q.1 ew)]⟩
        · exact absurd hLfct (by decide)
      · have ew : wmF (mbB (M.1 129 9) (M.1 127 (50 + m)) m) (frF (fun n => enF (M.1 127 1) (M.1 127 (29 + 3 * m)) (M.1 127 (30 + 3 * m)) (fun m => M.1 127 (44 + m)) (lkR (M.1 127 0) me (M.1 129) n) (fun m => M.1 127 (13 + 3 * m)) m me) 61 0) = frF (fun n => enF (M.1 127 1) (M.1 127 (29 + 3 * m)) (M.1 127 (30 + 3 * m)) (fun m => M.1 127 (44 + m)) (lkR (M.1 127 0) me (M.1 129) n) (fun m => M.1 127 (13 + 3 * m)) m me) 61 0 := by
          rw [bi_1 hLfc]
          try rfl
        show ∃ R, cm_Lc cm_ms 236 [.ref 124, .int (Int32.ofNat m)] M1 R ∧ ∀ v M', R v M' → _
        have hu := m_carryOf (M := M1) (me := me) (k := m) h15 h17 h22 k3 hme (by omega)
        rw [f127, f129] at hu
        refine ⟨_, hu, ?_⟩
        rintro v Mb ⟨rfl, hs2⟩
        have hs3 := tmM_tr hs hs2
        have h15 : Mb.2.2 124 15 = some 127 := by rw [hs2.1]; exact h15
        have h17 : Mb.2.2 124 17 = some 129 := by rw [hs2.1]; exact h17
        have h22 : Mb.2.2 124 22 = some 132 := by rw [hs2.1]; exact h22
        have g127 : Mb.1 127 = M.1 127 := (funext fun j => hs2.2 127 j (by omega)).trans f127
        have g129 : Mb.1 129 = M.1 129 := (funext fun j => hs2.2 129 j (by omega)).trans f129
        show (ev_cmp 2 (frF (fun n => enF (M.1 127 1) (M.1 127 (29 + 3 * m)) (M.1 127 (30 + 3 * m)) (fun m => M.1 127 (44 + m)) (lkR (M.1 127 0) me (M.1 129) n) (fun m => M.1 127 (13 + 3 * m)) m me) 61 0) 0 = true → _) ∧ (ev_cmp 2 (frF (fun n => enF (M.1 127 1) (M.1 127 (29 + 3 * m)) (M.1 127 (30 + 3 * m)) (fun m => M.1 127 (44 + m)) (lkR (M.1 127 0) me (M.1 129) n) (fun m => M.1 127 (13 + 3 * m)) m me) 61 0) 0 = false → _)
        refine ⟨fun hLfcfc => ?_, fun hLfcfc => ?_⟩
        · show (fun (S : cm_S) => ∃ m M1, m ≤ mo ∧ tmM (gdM M) M1 ∧ S = (22, [(0, .ref 124), (1, .int (soF (wkM M me) m).1), (2, .int (Int32.ofNat m))], [], M1)) (22, [(0, .ref 124), (1, .int ((soF (wkM M me) m).1)), (2, .int ((Int32.ofNat m) + 1))], [], Mb)
          have en : frF (fun n => enF (M.1 127 1) (M.1 127 (29 + 3 * m)) (M.1 127 (30 + 3 * m)) (fun m => M.1 127 (44 + m)) (lkR (M.1 127 0) me (M.1 129) n) (fun m => M.1 127 (13 + 3 * m)) m me) 61 0 = -2 := by
            rcases frF_rng (fun n => enF (M.1 127 1) (M.1 127 (29 + 3 * m)) (M.1 127 (30 + 3 * m)) (fun m => M.1 127 (44 + m)) (lkR (M.1 127 0) me (M.1 129) n) (fun m => M.1 127 (13 + 3 * m)) m me) 61 0 with q | ⟨i, q1, q2, q3⟩
            · exact q
            · have z := fn_lt hLfcfc
              rw [q3, z0, fn_toInt (by omega)] at z
              omega
          exact ⟨m + 1, Mb, by omega, hs3, by rw [ofn_s1, soF_n (w := (wkM M me)) (m := m) (fun q => q.1 (ew.trans en))]⟩
        · have wn : wmF (mbB (M.1 129 9) (M.1 127 (50 + m)) m) (frF (fun n => enF (M.1 127 1) (M.1 127 (29 + 3 * m)) (M.1 127 (30 + 3 * m)) (fun m => M.1 127 (44 + m)) (lkR (M.1 127 0) me (M.1 129) n) (fun m => M.1 127 (13 + 3 * m)) m me) 61 0) ≠ -2 := fun q => by
            have z := fn_nlt hLfcfc
            rw [← ew, q] at z
            exact absurd z (by decide)
          show (ev_cmp 2 ((soF (wkM M me) m).1) 0 = true → _) ∧ (ev_cmp 2 ((soF (wkM M me) m).1) 0 = false → _)
          refine ⟨fun hLfcfcf => ?_, fun hLfcfcf => ?_⟩
          · show (fun (S : cm_S) => ∃ m M1, m ≤ mo ∧ tmM (gdM M) M1 ∧ S = (22, [(0, .ref 124), (1, .int (soF (wkM M me) m).1), (2, .int (Int32.ofNat m))], [], M1)) (22, [(0, .ref 124), (1, .int (Int32.ofNat m)), (2, .int ((Int32.ofNat m) + 1))], [], Mb)
            have hq : soF (wkM M me) m = (-2, 61) := (soF_inv (w := (wkM M me)) hW m).resolve_right (fun ⟨b, b1, b2, b3⟩ => by
              have z := fn_lt hLfcfcf
              rw [b3, z0] at z
              have z : (Int32.ofNat b).toInt < 0 := z
              rw [fn_toInt (by omega)] at z
              omega)
            have hl2 : (wmF (mbB (M.1 129 9) (M.1 127 (50 + m)) m) (frF (fun n => enF (M.1 127 1) (M.1 127 (29 + 3 * m)) (M.1 127 (30 + 3 * m)) (fun m => M.1 127 (44 + m)) (lkR (M.1 127 0) me (M.1 129) n) (fun m => M.1 127 (13 + 3 * m)) m me) 61 0)).toInt < (soF (wkM M me) m).2.toInt := by
              rw [hq]
              show (wmF (mbB (M.1 129 9) (M.1 127 (50 + m)) m) (frF (fun n => enF (M.1 127 1) (M.1 127 (29 + 3 * m)) (M.1 127 (30 + 3 * m)) (fun m => M.1 127 (44 + m)) (lkR (M.1 127 0) me (M.1 129) n) (fun m => M.1 127 (13 + 3 * m)) m me) 61 0)).toInt < (61 : Int32).toInt
              obtain ⟨i, i1, i2⟩ := (wm_rng (mbB (M.1 129 9) (M.1 127 (50 + m)) m) (fun n => enF (M.1 127 1) (M.1 127 (29 + 3 * m)) (M.1 127 (30 + 3 * m)) (fun m => M.1 127 (44 + m)) (lkR (M.1 127 0) me (M.1 129) n) (fun m => M.1 127 (13 + 3 * m)) m me)).resolve_left wn
              rw [i2, p61, fn_toInt (by omega)]
              omega
            exact ⟨m + 1, Mb, by omega, hs3, by rw [ofn_s1, soF_y (w := (wkM M me)) (m := m) wn hl2]⟩
          · show ∃ R, cm_Lc cm_ms 236 [.ref 124, .int ((soF (wkM M me) m).1)] Mb R ∧ ∀ v M', R v M' → _
            obtain ⟨b, hb1, hb2, hb3⟩ := (soF_inv (w := (wkM M me)) hW m).resolve_left (fun q => by
              have z := fn_nlt hLfcfcf
              rw [q] at z
              exact absurd z (by decide))
            have eb : (wkM M me) b = frF (fun n => enF (M.1 127 1) (M.1 127 (29 + 3 * b)) (M.1 127 (30 + 3 * b)) (fun m => M.1 127 (44 + m)) (lkR (M.1 127 0) me (M.1 129) n) (fun m => M.1 127 (13 + 3 * m)) b me) 61 0 := wmF_ne hb2
            have hu2 : cm_Lc cm_ms 236 [.ref 124, .int (soF (wkM M me) m).1] Mb (fun v M' => v = some (.int (frF (fun n => enF (M.1 127 1) (M.1 127 (29 + 3 * b)) (M.1 127 (30 + 3 * b)) (fun m => M.1 127 (44 + m)) (lkR (M.1 127 0) me (M.1 129) n) (fun m => M.1 127 (13 + 3 * m)) b me) 61 0)) ∧ tmM Mb M') := by
              rw [hb3]
              have q := m_carryOf (M := Mb) (me := me) (k := b) h15 h17 h22 (by rw [g127]; exact (hx.2.2.1 ha).1) hme (by omega)
              rw [g127, g129] at q
              exact q
            refine ⟨_, hu2, ?_⟩
            rintro v Mc ⟨rfl, hs4⟩
            show (ev_cmp 3 (frF (fun n => enF (M.1 127 1) (M.1 127 (29 + 3 * m)) (M.1 127 (30 + 3 * m)) (fun m => M.1 127 (44 + m)) (lkR (M.1 127 0) me (M.1 129) n) (fun m => M.1 127 (13 + 3 * m)) m me) 61 0) (frF (fun n => enF (M.1 127 1) (M.1 127 (29 + 3 * b)) (M.1 127 (30 + 3 * b)) (fun m => M.1 127 (44 + m)) (lkR (M.1 127 0) me (M.1 129) n) (fun m => M.1 127 (13 + 3 * m)) b me) 61 0) = true → _) ∧ (ev_cmp 3 (frF (fun n => enF (M.1 127 1) (M.1 127 (29 + 3 * m)) (M.1 127 (30 + 3 * m)) (fun m => M.1 127 (44 + m)) (lkR (M.1 127 0) me (M.1 129) n) (fun m => M.1 127 (13 + 3 * m)) m me) 61 0) (frF (fun n => enF (M.1 127 1) (M.1 127 (29 + 3 * b)) (M.1 127 (30 + 3 * b)) (fun m => M.1 127 (44 + m)) (lkR (M.1 127 0) me (M.1 129) n) (fun m => M.1 127 (13 + 3 * m)) b me) 61 0) = false → _)
            refine ⟨fun hLfcfcffc => ?_, fun hLfcfcffc => ?_⟩
            · show (fun (S : cm_S) => ∃ m M1, m ≤ mo ∧ tmM (gdM M) M1 ∧ S = (22, [(0, .ref 124), (1, .int (soF (wkM M me) m).1), (2, .int (Int32.ofNat m))], [], M1)) (22, [(0, .ref 124), (1, .int ((soF (wkM M me) m).1)), (2, .int ((Int32.ofNat m) + 1))], [], Mc)
              have z := fn_ge hLfcfcffc
              rw [← ew, ← eb] at z
              exact ⟨m + 1, Mc, by omega, tmM_tr hs3 hs4, by rw [ofn_s1, soF_n (w := (wkM M me)) (m := m) (fun q => by
                  have q2 := q.2
                  rw [hb3] at q2
                  have q2 : (wmF (mbB (M.1 129 9) (M.1 127 (50 + m)) m) (frF (fun n => enF (M.1 127 1) (M.1 127 (29 + 3 * m)) (M.1 127 (30 + 3 * m)) (fun m => M.1 127 (44 + m)) (lkR (M.1 127 0) me (M.1 129) n) (fun m => M.1 127 (13 + 3 * m)) m me) 61 0)).toInt < ((wkM M me) b).toInt := q2
                  omega)]⟩
            · show (fun (S : cm_S) => ∃ m M1, m ≤ mo ∧ tmM (gdM M) M1 ∧ S = (22, [(0, .ref 124), (1, .int (soF (wkM M me) m).1), (2, .int (Int32.ofNat m))], [], M1)) (22, [(0, .ref 124), (1, .int (Int32.ofNat m)), (2, .int ((Int32.ofNat m) + 1))], [], Mc)
              have z := fn_nge hLfcfcffc
              rw [← ew, ← eb] at z
              have hl2 : (wmF (mbB (M.1 129 9) (M.1 127 (50 + m)) m) (frF (fun n => enF (M.1 127 1) (M.1 127 (29 + 3 * m)) (M.1 127 (30 + 3 * m)) (fun m => M.1 127 (44 + m)) (lkR (M.1 127 0) me (M.1 129) n) (fun m => M.1 127 (13 + 3 * m)) m me) 61 0)).toInt < (soF (wkM M me) m).2.toInt := by
                rw [hb3]
                exact z
              exact ⟨m + 1, Mc, by omega, tmM_tr hs3 hs4, by rw [ofn_s1, soF_y (w := (wkM M me)) (m := m) wn hl2]⟩
  · show ∃ R, cm_Lc cm_ms 164 [.ref 124] M R ∧ ∀ v M', R v M' → _
    refine ⟨_, m_goodG M, ?_⟩
    rintro v M' ⟨rfl, rfl⟩
    show (ev_cmp 1 ((gdM M).1 124 14) 0 = true → _) ∧ (ev_cmp 1 ((gdM M).1 124 14) 0 = false → _)
    refine ⟨fun hc => ?_, fun hc => ?_⟩
    · show (fun (S : cm_S) => ∃ m M1, m ≤ mo ∧ tmM (gdM M) M1 ∧ S = (22, [(0, .ref 124), (1, .int (soF (wkM M me) m).1), (2, .int (Int32.ofNat m))], [], M1)) (22, [(0, .ref 124), (1, .int (-2)), (2, .int 0)], [], (gdM M))
      exact ⟨0, gdM M, Nat.zero_le _, tmM_0 _, rfl⟩
    · have q := fn_eq hc
      rw [gd_n (by omega), hx.1, ha] at q
      exact absurd q (by decide)
