/-- how many -/
noncomputable def cnF (p : Nat → Bool) : Nat → Int32
  | 0 => 0
  | s + 1 => if p s = true then cnF p s + 1 else cnF p s
theorem cnF_t {p : Nat → Bool} {s : Nat} (h : p s = true) : cnF p (s + 1) = cnF p s + 1 := if_pos h
theorem cnF_f {p : Nat → Bool} {s : Nat} (h : p s = false) : cnF p (s + 1) = cnF p s := by
  show (if _ then _ else _) = _
  rw [h, if_neg (by decide)]
theorem cnF_cg {p q : Nat → Bool} : ∀ n, (∀ s, s < n → q s = p s) → cnF q n = cnF p n
  | 0, _ => rfl
  | n + 1, h => by
    unfold cnF
    rw [h n (by omega), cnF_cg (p := p) n (fun s hs => h s (by omega))]
/-- who isn't bald -/
noncomputable def haF (ba : Int32) (H : Nat → Int32) (me : Nat) : Int32 := Int32.ofNat (2 ^ me - 1) &&& (orF (fun m => bdB ba (H m)) me ^^^ -1)
noncomputable def otF (ba : Int32) (H : Nat → Int32) (me m : Nat) : Int32 := haF ba H me &&& (sB m ^^^ -1)
theorem haF_cg {ba : Int32} {H H' : Nat → Int32} {me : Nat} (h : ∀ m, m < me → H' m = H m) : haF ba H' me = haF ba H me := by
  unfold haF
  rw [orF_cg (p := fun m => bdB ba (H m)) (q := fun m => bdB ba (H' m)) me (fun m hm => by
    show bdB ba (H' m) = bdB ba (H m)
    rw [h m hm])]
/-- a set whose votes are too few without a man and enough with him: the class, the reference -/
noncomputable def tnP (vo : Nat → Int32) (oth needs : Int32) (me m s : Nat) : Bool := decide (Int32.ofNat s &&& (oth ^^^ -1) = 0) && (bdB needs (voF vo (Int32.ofNat s) me) && geB (voF vo (Int32.ofNat s) me + vo m) needs)
noncomputable def tnQ (vo : Nat → Int32) (oth needs : Int32) (me m s : Nat) : Bool := decide (Int32.ofNat s &&& (oth ^^^ -1) = 0) && (bdB needs (voF vo (Int32.ofNat s) me) && geB (voF vo (Int32.ofNat s ||| sB m) me) needs)
/-- the turns of a man -/
noncomputable def tnF (ba needs : Int32) (H vo : Nat → Int32) (me m : Nat) : Int32 := if bdB ba (H m) = true then 0 else cnF (tnP vo (otF ba H me m) needs me m) (2 ^ me)
noncomputable def tnG (ba needs : Int32) (H vo : Nat → Int32) (me m : Nat) : Int32 := if bdB ba (H m) = true then 0 else cnF (tnQ vo (otF ba H me m) needs me m) (2 ^ me)
theorem tn_t {b : Bool} {x : Int32} (h : b = true) : (if b = true then (0 : Int32) else x) = 0 := if_pos h
theorem tn_f {b : Bool} {x : Int32} (h : b = false) : (if b = true then (0 : Int32) else x) = x := if_neg (by rw [h]; decide)
theorem tnG_cg {ba needs : Int32} {H H' vo vo' : Nat → Int32} {me m : Nat} (hm : m < me) (h : ∀ j, j < me → H' j = H j) (g : ∀ j, j < me → vo' j = vo j) : tnG ba needs H' vo' me m = tnG ba needs H vo me m := by
  unfold tnG otF
  rw [h m hm, haF_cg h, cnF_cg (p := tnQ vo (haF ba H me &&& (sB m ^^^ -1)) needs me m) (q := tnQ vo' (haF ba H me &&& (sB m ^^^ -1)) needs me m) (2 ^ me) (fun s hs => by
    unfold tnQ
    rw [voF_cg (vo := vo) (vo' := vo') (set := Int32.ofNat s) me g, voF_cg (vo := vo) (vo' := vo') (set := Int32.ofNat s ||| sB m) me g])]
theorem or6_t : ∀ a, a < 64 → ∀ k, k < 6 → Int32.ofNat a ||| sB k = Int32.ofNat (a ||| 2 ^ k) ∧ (a ||| 2 ^ k) < 64 := by decide +kernel
theorem orF_n (p : Nat → Bool) : ∀ n, n ≤ 6 → ∃ y, y < 64 ∧ orF p n = Int32.ofNat y
  | 0, _ => ⟨0, by decide, rfl⟩
  | n + 1, h => by
    obtain ⟨y, y1, y2⟩ := orF_n p n (by omega)
    cases q : p n with
    | true =>
      obtain ⟨a, b⟩ := or6_t y y1 n (by omega)
      exact ⟨_, b, by rw [orF_t q, y2, a]⟩
    | false => exact ⟨y, y1, by rw [orF_f q, y2]⟩
theorem p2m : ∀ me, me < 7 → 2 ^ me - 1 < 64 ∧ 2 ^ me ≤ 64 := by decide
theorem haF_n {ba : Int32} {H : Nat → Int32} {me : Nat} (hme : me ≤ 6) : ∃ x, x < 64 ∧ haF ba H me = Int32.ofNat x := by
  obtain ⟨y, y1, y2⟩ := orF_n (fun m => bdB ba (H m)) me hme
  obtain ⟨a, b⟩ := and_t (2 ^ me - 1) (p2m me (by omega)).1 y y1
  exact ⟨_, b, by unfold haF; rw [y2, a]⟩
theorem otF_n {ba : Int32} {H : Nat → Int32} {me m : Nat} (hme : me ≤ 6) (hm : m < 6) : ∃ o, o < 64 ∧ otF ba H me m = Int32.ofNat o ∧ o / 2 ^ m % 2 = 0 := by
  have t : ∀ x, x < 64 → ∀ m, m < 6 → cpl (2 ^ m) x / 2 ^ m % 2 = 0 := by decide +kernel
  obtain ⟨x, x1, x2⟩ := haF_n (ba := ba) (H := H) hme
  have p6 : ∀ m, m < 6 → 2 ^ m < 64 := by decide
  obtain ⟨a, b⟩ := and_t x x1 (2 ^ m) (p6 m hm)
  exact ⟨_, b, by unfold otF; rw [x2, sB_t m (by omega), a], t x x1 m hm⟩
theorem out_bit {ba : Int32} {H : Nat → Int32} {me m s : Nat} (hme : me ≤ 6) (hm : m < 6) (hs : s < 64) (h : Int32.ofNat s &&& (otF ba H me m ^^^ -1) = 0) : s / 2 ^ m % 2 = 0 := by
  have t : ∀ o, o < 64 → ∀ s, s < 64 → cpl o s = 0 → ∀ m, m < 6 → o / 2 ^ m % 2 = 0 → s / 2 ^ m % 2 = 0 := by decide +kernel
  obtain ⟨o, o1, o2, o3⟩ := otF_n (ba := ba) (H := H) hme hm
  obtain ⟨a, b⟩ := and_t s hs o o1
  rw [o2, a, ofn_0 (by omega)] at h
  exact t o o1 s hs h m hm o3
theorem hb_or : ∀ s, s < 64 → ∀ m, m < 6 → ∀ j, j < 6 → hb (Int32.ofNat s ||| sB m) j = (hb (Int32.ofNat s) j || decide (j = m)) := by decide +kernel
theorem hb_n0 : ∀ s, s < 64 → ∀ m, m < 6 → s / 2 ^ m % 2 = 0 → hb (Int32.ofNat s) m = false := by decide +kernel
theorem voF_or {vo : Nat → Int32} {s m : Nat} (hs : s < 64) (hm : m < 6) (h : s / 2 ^ m % 2 = 0) : ∀ n, n ≤ 6 → voF vo (Int32.ofNat s ||| sB m) n = if m < n then voF vo (Int32.ofNat s) n + vo m else voF vo (Int32.ofNat s) n
  | 0, _ => by
    rw [if_neg (by omega)]
    try rfl
  | n + 1, hn => by
    have ih := voF_or (vo := vo) hs hm h n (by omega)
    have hq := hb_or s hs m hm n (by omega)
    by_cases e : n = m
    · subst e
      rw [hb_n0 s hs n hm h, decide_eq_true rfl, Bool.or_true] at hq
      rw [voF_t hq, voF_f (hb_n0 s hs n hm h), ih, if_neg (by omega), if_pos (by omega)]
    · rw [decide_eq_false e, Bool.or_false] at hq
      cases b : hb (Int32.ofNat s) n with
      | true =>
        rw [b] at hq
        rw [voF_t hq, voF_t b, ih]
        by_cases q : m < n
        · rw [if_pos q, if_pos (by omega), Int32.add_assoc, Int32.add_comm (vo m), ← Int32.add_assoc]
        · rw [if_neg q, if_neg (by omega)]
      | false =>
        rw [b] at hq
        rw [voF_f hq, voF_f b, ih]
        by_cases q : m < n
        · rw [if_pos q, if_pos (by omega)]
        · rw [if_neg q, if_neg (by omega)]
theorem tn_eq {ba needs : Int32} {H vo : Nat → Int32} {me m : Nat} (hme : me ≤ 6) (hm : m < me) : tnG ba needs H vo me m = tnF ba needs H vo me m := by
  unfold tnG tnF
  rw [cnF_cg (p := tnP vo (otF ba H me m) needs me m) (q := tnQ vo (otF ba H me m) needs me m) (2 ^ me) (fun s hs => by
    have s64 : s < 64 := by
      have := (p2m me (by omega)).2
      omega
    unfold tnP tnQ
    by_cases e : Int32.ofNat s &&& (otF ba H me m ^^^ -1) = 0
    · rw [voF_or s64 (by omega) (out_bit hme (by omega) s64 e) me hme, if_pos hm]
    · rw [decide_eq_false e, Bool.false_and, Bool.false_and])]
theorem tnP_0 {vo : Nat → Int32} {oth needs : Int32} {me m s : Nat} (h : Int32.ofNat s &&& (oth ^^^ -1) ≠ 0) : tnP vo oth needs me m s = false := by
  unfold tnP
  rw [decide_eq_false h, Bool.false_and]
theorem tnP_1 {vo : Nat → Int32} {oth needs : Int32} {me m s : Nat} (h : bdB needs (voF vo (Int32.ofNat s) me) = false) : tnP vo oth needs me m s = false := by
  unfold tnP
  rw [h, Bool.false_and, Bool.and_false]
theorem tnP_2 {vo : Nat → Int32} {oth needs : Int32} {me m s : Nat} (h : geB (voF vo (Int32.ofNat s) me + vo m) needs = false) : tnP vo oth needs me m s = false := by
  unfold tnP
  rw [h, Bool.and_false, Bool.and_false]
theorem tnP_3 {vo : Nat → Int32} {oth needs : Int32} {me m s : Nat} (h0 : Int32.ofNat s &&& (oth ^^^ -1) = 0) (h1 : bdB needs (voF vo (Int32.ofNat s) me) = true) (h2 : geB (voF vo (Int32.ofNat s) me + vo m) needs = true) : tnP vo oth needs me m s = true := by
  unfold tnP
  rw [decide_eq_true h0, h1, h2]
  try rfl
theorem tnQ_0 {vo : Nat → Int32} {oth needs : Int32} {me m s : Nat} (h : Int32.ofNat s &&& (oth ^^^ -1) ≠ 0) : tnQ vo oth needs me m s = false := by
  unfold tnQ
  rw [decide_eq_false h, Bool.false_and]
theorem tnQ_1 {vo : Nat → Int32} {oth needs : Int32} {me m s : Nat} (h : bdB needs (voF vo (Int32.ofNat s) me) = false) : tnQ vo oth needs me m s = false := by
  unfold tnQ
  rw [h, Bool.false_and, Bool.and_false]
theorem tnQ_2 {vo : Nat → Int32} {oth needs : Int32} {me m s : Nat} (h : geB (voF vo (Int32.ofNat s ||| sB m) me) needs = false) : tnQ vo oth needs me m s = false := by
  unfold tnQ
  rw [h, Bool.and_false, Bool.and_false]
theorem tnQ_3 {vo : Nat → Int32} {oth needs : Int32} {me m s : Nat} (h0 : Int32.ofNat s &&& (oth ^^^ -1) = 0) (h1 : bdB needs (voF vo (Int32.ofNat s) me) = true) (h2 : geB (voF vo (Int32.ofNat s ||| sB m) me) needs = true) : tnQ vo oth needs me m s = true := by
  unfold tnQ
  rw [decide_eq_true h0, h1, h2]
  try rfl
set_option maxRecDepth 100000 in
theorem c_turns {M : cm_M} {c T' me m : Nat} (r0 : M.2.2 c 0 = some (c + 1)) (h6 : M.2.2 T' 6 = some (T' + 3)) (h3 : M.1 T' 3 = Int32.ofNat me) (hme : me ≤ 6) (hm : m < me) (needs : Int32) : cm_Lc cm_ms 37 [.ref c, .ref T', .int (Int32.ofNat m), .int needs] M (fun v M' => M' = M ∧ v = some (.int (tnF (M.1 T' 1) needs (M.1 (c + 1)) (M.1 (T' + 3)) me m))) := by
  have em := fn_nat (show m < 2147483648 by omega)
  have e2 : (1 : Int32) <<< (M.1 T' 3 &&& 31) = Int32.ofNat (2 ^ me) := by
    rw [h3]
    exact sB_t me (by omega)
  have p64 := (p2m me (by omega)).2
  refine lb_of (mi := mr_37) rfl [(30, [0, 1, 2, 3, 4, 5, 6])] (fun S => ∃ s, bdB (M.1 T' 1) (M.1 (c + 1) m) = false ∧ s ≤ 2 ^ me ∧ S = (30, [(0, .ref c), (1, .ref T'), (2, .int (Int32.ofNat m)), (3, .int needs), (4, .int (otF (M.1 T' 1) (M.1 (c + 1)) me m)), (5, .int (cnF (tnP (M.1 (T' + 3)) (otF (M.1 T' 1) (M.1 (c + 1)) me m) needs me m) s)), (6, .int (Int32.ofNat s))], [], M)) 400 (fun S hS => ?_) 400 ?_
  · obtain ⟨s, ehb, hs, rfl⟩ := hS
    show (ev_cmp 3 (Int32.ofNat s) (1 <<< ((M.1 T' 3) &&& 31)) = true → _) ∧ (ev_cmp 3 (Int32.ofNat s) (1 <<< ((M.1 T' 3) &&& 31)) = false → _)
    refine ⟨fun hL => ?_, fun hL => ?_⟩
    · have g := fn_ge hL
      rw [e2, fn_toInt (by omega), fn_toInt (by omega)] at g
      have : s = 2 ^ me := by omega
      subst this
      refine ⟨rfl, ?_⟩
      show some (Value.int (cnF _ _)) = some (Value.int (tnF _ _ _ _ _ _))
      unfold tnF
      rw [tn_f ehb]
    · have g := fn_nge hL
      rw [e2, fn_toInt (by omega), fn_toInt (by omega)] at g
      show (ev_cmp 1 ((Int32.ofNat s) &&& ((otF (M.1 T' 1) (M.1 (c + 1)) me m) ^^^ (-1))) 0 = true → _) ∧ (ev_cmp 1 ((Int32.ofNat s) &&& ((otF (M.1 T' 1) (M.1 (c + 1)) me m) ^^^ (-1))) 0 = false → _)
      refine ⟨fun hLf => ?_, fun hLf => ?_⟩
      · show (fun (S : cm_S) => ∃ s, bdB (M.1 T' 1) (M.1 (c + 1) m) = false ∧ s ≤ 2 ^ me ∧ S = (30, [(0, .ref c), (1, .ref T'), (2, .int (Int32.ofNat m)), (3, .int needs), (4, .int (otF (M.1 T' 1) (M.1 (c + 1)) me m)), (5, .int (cnF (tnP (M.1 (T' + 3)) (otF (M.1 T' 1) (M.1 (c + 1)) me m) needs me m) s)), (6, .int (Int32.ofNat s))], [], M)) (30, [(0, .ref c), (1, .ref T'), (2, .int (Int32.ofNat m)), (3, .int needs), (4, .int (otF (M.1 T' 1) (M.1 (c + 1)) me m)), (5, .int (cnF (tnP (M.1 (T' + 3)) (otF (M.1 T' 1) (M.1 (c + 1)) me m) needs me m) s)), (6, .int ((Int32.ofNat s) + 1))], [], M)
        refine ⟨s + 1, ehb, by omega, ?_⟩
        rw [ofn_s1, cnF_f (tnP_0 (fn_ne hLf))]
      · show ∃ R, cm_Lc cm_ms 13 [.ref T', .int (Int32.ofNat s)] M R ∧ ∀ v M', R v M' → _
        refine ⟨_, c_votes h6 h3 hme (Int32.ofNat s), ?_⟩
        rintro v M' ⟨hM, rfl⟩
        subst M'
        show (ev_cmp 3 (voF (M.1 (T' + 3)) (Int32.ofNat s) me) needs = true → _) ∧ (ev_cmp 3 (voF (M.1 (T' + 3)) (Int32.ofNat s) me) needs = false → _)
        refine ⟨fun hLffc => ?_, fun hLffc => ?_⟩
        · show (fun (S : cm_S) => ∃ s, bdB (M.1 T' 1) (M.1 (c + 1) m) = false ∧ s ≤ 2 ^ me ∧ S = (30, [(0, .ref c), (1, .ref T'), (2, .int (Int32.ofNat m)), (3, .int needs), (4, .int (otF (M.1 T' 1) (M.1 (c + 1)) me m)), (5, .int (cnF (tnP (M.1 (T' + 3)) (otF (M.1 T' 1) (M.1 (c + 1)) me m) needs me m) s)), (6, .int (Int32.ofNat s))], [], M)) (30, [(0, .ref c), (1, .ref T'), (2, .int (Int32.ofNat m)), (3, .int needs), (4, .int (otF (M.1 T' 1) (M.1 (c + 1)) me m)), (5, .int (cnF (tnP (M.1 (T' + 3)) (otF (M.1 T' 1) (M.1 (c + 1)) me m) needs me m) s)), (6, .int ((Int32.ofNat s) + 1))], [], M)
          refine ⟨s + 1, ehb, by omega, ?_⟩
          rw [ofn_s1, cnF_f (tnP_1 (bd_0 (fn_ge hLffc)))]
        · first | refine lb_to (T := (68, [(0, .ref c), (1, .ref T'), (2, .int (Int32.ofNat m)), (3, .int needs), (4, .int (otF (M.1 T' 1) (M.1 (c + 1)) me m)), (5, .int (cnF (tnP (M.1 (T' + 3)) (otF (M.1 T' 1) (M.1 (c + 1)) me m) needs me m) s)), (6, .int (Int32.ofNat s)), (7, .int (voF (M.1 (T' + 3)) (Int32.ofNat s) me))], [.ref T', .int (voF (M.1 (T' + 3)) (Int32.ofNat s) me)], M)) 68 [0, 1, 2, 3, 4, 5, 6, 7] rfl rfl rfl (fun J' h => h) (lb_g0 rfl rfl h6 ?_) | refine lb_to0 (T := (68, [(0, .ref c), (1, .ref T'), (2, .int (Int32.ofNat m)), (3, .int needs), (4, .int (otF (M.1 T' 1) (M.1 (c + 1)) me m)), (5, .int (cnF (tnP (M.1 (T' + 3)) (otF (M.1 T' 1) (M.1 (c + 1)) me m) needs me m) s)), (6, .int (Int32.ofNat s)), (7, .int (voF (M.1 (T' + 3)) (Int32.ofNat s) me))], [.ref T', .int (voF (M.1 (T' + 3)) (Int32.ofNat s) me)], M)) 68 [0, 1, 2, 3, 4, 5, 6, 7] rfl rfl rfl (fun J' h => h) (lb_g0 rfl rfl h6 ?_)
          show (ev_cmp 2 ((voF (M.1 (T' + 3)) (Int32.ofNat s) me) + (M.1 (T' + 3) ((Int32.ofNat m).toNatClampNeg))) needs = true → _) ∧ (ev_cmp 2 ((voF (M.1 (T' + 3)) (Int32.ofNat s) me) + (M.1 (T' + 3) ((Int32.ofNat m).toNatClampNeg))) needs = false → _)
          refine ⟨fun hLffcf => ?_, fun hLffcf => ?_⟩
          · show (fun (S : cm_S) => ∃ s, bdB (M.1 T' 1) (M.1 (c + 1) m) = false ∧ s ≤ 2 ^ me ∧ S = (30, [(0, .ref c), (1, .ref T'), (2, .int (Int32.ofNat m)), (3, .int needs), (4, .int (otF (M.1 T' 1) (M.1 (c + 1)) me m)), (5, .int (cnF (tnP (M.1 (T' + 3)) (otF (M.1 T' 1) (M.1 (c + 1)) me m) needs me m) s)), (6, .int (Int32.ofNat s))], [], M)) (30, [(0, .ref c), (1, .ref T'), (2, .int (Int32.ofNat m)), (3, .int needs), (4, .int (otF (M.1 T' 1) (M.1 (c + 1)) me m)), (5, .int (cnF (tnP (M.1 (T' + 3)) (otF (M.1 T' 1) (M.1 (c + 1)) me m) needs me m) s)), (6, .int ((Int32.ofNat s) + 1))], [], M)
            have zz := fn_lt hLffcf
            rw [em] at zz
            refine ⟨s + 1, ehb, by omega, ?_⟩
            rw [ofn_s1, cnF_f (tnP_2 (ge_0 zz))]
          · show (fun (S : cm_S) => ∃ s, bdB (M.1 T' 1) (M.1 (c + 1) m) = false ∧ s ≤ 2 ^ me ∧ S = (30, [(0, .ref c), (1, .ref T'), (2, .int (Int32.ofNat m)), (3, .int needs), (4, .int (otF (M.1 T' 1) (M.1 (c + 1)) me m)), (5, .int (cnF (tnP (M.1 (T' + 3)) (otF (M.1 T' 1) (M.1 (c + 1)) me m) needs me m) s)), (6, .int (Int32.ofNat s))], [], M)) (30, [(0, .ref c), (1, .ref T'), (2, .int (Int32.ofNat m)), (3, .int needs), (4, .int (otF (M.1 T' 1) (M.1 (c + 1)) me m)), (5, .int ((cnF (tnP (M.1 (T' + 3)) (otF (M.1 T' 1) (M.1 (c + 1)) me m) needs me m) s) + 1)), (6, .int ((Int32.ofNat s) + 1))], [], M)
            have zz := fn_nlt hLffcf
            rw [em] at zz
            refine ⟨s + 1, ehb, by omega, ?_⟩
            rw [ofn_s1, cnF_t (tnP_3 (fn_eq hLf) (bd_1 (fn_nge hLffc)) (ge_1 zz))]
  · show ∃ R, cm_Lc cm_ms 25 [.ref c, .ref T', .int (Int32.ofNat m)] M R ∧ ∀ v M', R v M' → _
    have hbd := c_isBald (M := M) (T' := T') r0 (Int32.ofNat m)
    rw [em] at hbd
    refine ⟨_, hbd, ?_⟩
    rintro v M' ⟨hM, rfl⟩
    subst M'
    show (ev_cmp 0 (bi (bdB (M.1 T' 1) (M.1 (c + 1) m))) 0 = true → _) ∧ (ev_cmp 0 (bi (bdB (M.1 T' 1) (M.1 (c + 1) m))) 0 = false → _)
    refine ⟨fun hc => ?_, fun hc => ?_⟩
    · show ∃ R, cm_Lc cm_ms 27 [.ref c, .ref T'] M R ∧ ∀ v M', R v M' → _
      have hha : cm_Lc cm_ms 27 [.ref c, .ref T'] M (fun v M' => M' = M ∧ v = some (.int (haF (M.1 T' 1) (M.1 (c + 1)) me))) := c_hairy r0 h3 hme
      refine ⟨_, hha, ?_⟩
      rintro v M' ⟨hM, rfl⟩
      subst M'
      show (fun (S : cm_S) => ∃ s, bdB (M.1 T' 1) (M.1 (c + 1) m) = false ∧ s ≤ 2 ^ me ∧ S = (30, [(0, .ref c), (1, .ref T'), (2, .int (Int32.ofNat m)), (3, .int needs), (4, .int (otF (M.1 T' 1) (M.1 (c + 1)) me m)), (5, .int (cnF (tnP (M.1 (T' + 3)) (otF (M.1 T' 1) (M.1 (c + 1)) me m) needs me m) s)), (6, .int (Int32.ofNat s))], [], M)) (30, [(0, .ref c), (1, .ref T'), (2, .int (Int32.ofNat m)), (3, .int needs), (4, .int ((haF (M.1 T' 1) (M.1 (c + 1)) me) &&& ((1 <<< ((Int32.ofNat m) &&& 31)) ^^^ (-1)))), (5, .int 0), (6, .int 0)], [], M)
      exact ⟨0, bi_0 hc, Nat.zero_le _, rfl⟩
    · refine ⟨rfl, ?_⟩
      show some (Value.int 0) = some (Value.int (tnF _ _ _ _ _ _))
      unfold tnF
      rw [tn_t (bi_1 hc)]
set_option maxRecDepth 100000 in
theorem m_turnsOf {M : cm_M} {me m : Nat} (h15 : M.2.2 124 15 = some 127) (h17 : M.2.2 124 17 = some 129) (h3 : M.1 127 3 = Int32.ofNat me) (hme : me ≤ 6) (hm : m < me) (needs : Int32) : cm_Lc cm_ms 249 [.ref 124, .int (Int32.ofNat m), .int needs] M (fun v M' => M' = M ∧ v = some (.int (tnG (M.1 127 1) needs (M.1 129) (fun m => M.1 127 (13 + 3 * m)) me m))) := by
  have em := fn_nat (show m < 2147483648 by omega)
  have p64 := (p2m me (by omega)).2
  refine lb_of (mi := mr_249) rfl [(31, [0, 1, 2, 3, 4, 5])] (fun S => ∃ s, bdB (M.1 127 1) (M.1 129 m) = false ∧ s ≤ 2 ^ me ∧ S = (31, [(0, .ref 124), (1, .int (Int32.ofNat m)), (2, .int needs), (3, .int (otF (M.1 127 1) (M.1 129) me m)), (4, .int (cnF (tnQ (fun m => M.1 127 (13 + 3 * m)) (otF (M.1 127 1) (M.1 129) me m) needs me m) s)), (5, .int (Int32.ofNat s))], [], M)) 400 (fun S hS => ?_) 400 ?_
  · obtain ⟨s, ehb, hs, rfl⟩ := hS
    show ∃ R, cm_Lc cm_ms 208 [.ref 124] M R ∧ ∀ v M', R v M' → _
    refine ⟨_, m_allMen h15 h3 hme, ?_⟩
    rintro v M' ⟨hM, rfl⟩
    subst M'
    show (ev_cmp 4 (Int32.ofNat s) (Int32.ofNat (2 ^ me - 1)) = true → _) ∧ (ev_cmp 4 (Int32.ofNat s) (Int32.ofNat (2 ^ me - 1)) = false → _)
    refine ⟨fun hLc => ?_, fun hLc => ?_⟩
    · have g := fn_gt hLc
      rw [fn_toInt (by omega), fn_toInt (by omega)] at g
      have : s = 2 ^ me := by omega
      subst this
      refine ⟨rfl, ?_⟩
      show some (Value.int (cnF _ _)) = some (Value.int (tnG _ _ _ _ _ _))
      unfold tnG
      rw [tn_f ehb]
    · have g := fn_ngt hLc
      rw [fn_toInt (by omega), fn_toInt (by omega)] at g
      have slt : s < 2 ^ me := by
        have : 0 < 2 ^ me := Nat.pos_of_ne_zero (by
          intro q
          have := Nat.two_pow_pos me
          omega)
        omega
      show (ev_cmp 1 ((Int32.ofNat s) &&& ((otF (M.1 127 1) (M.1 129) me m) ^^^ (-1))) 0 = true → _) ∧ (ev_cmp 1 ((Int32.ofNat s) &&& ((otF (M.1 127 1) (M.1 129) me m) ^^^ (-1))) 0 = false → _)
      refine ⟨fun hLcf => ?_, fun hLcf => ?_⟩
      · show (fun (S : cm_S) => ∃ s, bdB (M.1 127 1) (M.1 129 m) = false ∧ s ≤ 2 ^ me ∧ S = (31, [(0, .ref 124), (1, .int (Int32.ofNat m)), (2, .int needs), (3, .int (otF (M.1 127 1) (M.1 129) me m)), (4, .int (cnF (tnQ (fun m => M.1 127 (13 + 3 * m)) (otF (M.1 127 1) (M.1 129) me m) needs me m) s)), (5, .int (Int32.ofNat s))], [], M)) (31, [(0, .ref 124), (1, .int (Int32.ofNat m)), (2, .int needs), (3, .int (otF (M.1 127 1) (M.1 129) me m)), (4, .int ((cnF (tnQ (fun m => M.1 127 (13 + 3 * m)) (otF (M.1 127 1) (M.1 129) me m) needs me m) s) + 0)), (5, .int ((Int32.ofNat s) + 1))], [], M)
        refine ⟨s + 1, ehb, by omega, ?_⟩
        rw [ofn_s1, cnF_f (tnQ_0 (fn_ne hLcf)), Int32.add_zero]
      · show ∃ R, cm_Lc cm_ms 213 [.ref 124, .int (Int32.ofNat s)] M R ∧ ∀ v M', R v M' → _
        refine ⟨_, m_votes h15 h3 hme (Int32.ofNat s), ?_⟩
        rintro v M' ⟨hM, rfl⟩
        subst M'
        show (ev_cmp 3 (voF (fun m => M.1 127 (13 + 3 * m)) (Int32.ofNat s) me) needs = true → _) ∧ (ev_cmp 3 (voF (fun m => M.1 127 (13 + 3 * m)) (Int32.ofNat s) me) needs = false → _)
        refine ⟨fun hLcffc => ?_, fun hLcffc => ?_⟩
        · show (fun (S : cm_S) => ∃ s, bdB (M.1 127 1) (M.1 129 m) = false ∧ s ≤ 2 ^ me ∧ S = (31, [(0, .ref 124), (1, .int (Int32.ofNat m)), (2, .int needs), (3, .int (otF (M.1 127 1) (M.1 129) me m)), (4, .int (cnF (tnQ (fun m => M.1 127 (13 + 3 * m)) (otF (M.1 127 1) (M.1 129) me m) needs me m) s)), (5, .int (Int32.ofNat s))], [], M)) (31, [(0, .ref 124), (1, .int (Int32.ofNat m)), (2, .int needs), (3, .int (otF (M.1 127 1) (M.1 129) me m)), (4, .int ((cnF (tnQ (fun m => M.1 127 (13 + 3 * m)) (otF (M.1 127 1) (M.1 129) me m) needs me m) s) + 0)), (5, .int ((Int32.ofNat s) + 1))], [], M)
          refine ⟨s + 1, ehb, by omega, ?_⟩
          rw [ofn_s1, cnF_f (tnQ_1 (bd_0 (fn_ge hLcffc))), Int32.add_zero]
        · show ∃ R, cm_Lc cm_ms 213 [.ref 124, .int ((Int32.ofNat s) ||| (1 <<< ((Int32.ofNat m) &&& 31)))] M R ∧ ∀ v M', R v M' → _
          refine ⟨_, m_votes h15 h3 hme (Int32.ofNat s ||| sB m), ?_⟩
          rintro v M' ⟨hM, rfl⟩
          subst M'
          show (ev_cmp 2 (voF (fun m => M.1 127 (13 + 3 * m)) (Int32.ofNat s ||| sB m) me) needs = true → _) ∧ (ev_cmp 2 (voF (fun m => M.1 127 (13 + 3 * m)) (Int32.ofNat s ||| sB m) me) needs = false → _)
          refine ⟨fun hLcffcfc => ?_, fun hLcffcfc => ?_⟩
          · show (fun (S : cm_S) => ∃ s, bdB (M.1 127 1) (M.1 129 m) = false ∧ s ≤ 2 ^ me ∧ S = (31, [(0, .ref 124), (1, .int (Int32.ofNat m)), (2, .int needs), (3, .int (otF (M.1 127 1) (M.1 129) me m)), (4, .int (cnF (tnQ (fun m => M.1 127 (13 + 3 * m)) (otF (M.1 127 1) (M.1 129) me m) needs me m) s)), (5, .int (Int32.ofNat s))], [], M)) (31, [(0, .ref 124), (1, .int (Int32.ofNat m)), (2, .int needs), (3, .int (otF (M.1 127 1) (M.1 129) me m)), (4, .int ((cnF (tnQ (fun m => M.1 127 (13 + 3 * m)) (otF (M.1 127 1) (M.1 129) me m) needs me m) s) + 0)), (5, .int ((Int32.ofNat s) + 1))], [], M)
            refine ⟨s + 1, ehb, by omega, ?_⟩
            rw [ofn_s1, cnF_f (tnQ_2 (ge_0 (fn_lt hLcffcfc))), Int32.add_zero]
          · show (fun (S : cm_S) => ∃ s, bdB (M.1 127 1) (M.1 129 m) = false ∧ s ≤ 2 ^ me ∧ S = (31, [(0, .ref 124), (1, .int (Int32.ofNat m)), (2, .int needs), (3, .int (otF (M.1 127 1) (M.1 129) me m)), (4, .int (cnF (tnQ (fun m => M.1 127 (13 + 3 * m)) (otF (M.1 127 1) (M.1 129) me m) needs me m) s)), (5, .int (Int32.ofNat s))], [], M)) (31, [(0, .ref 124), (1, .int (Int32.ofNat m)), (2, .int needs), (3, .int (otF (M.1 127 1) (M.1 129) me m)), (4, .int ((cnF (tnQ (fun m => M.1 127 (13 + 3 * m)) (otF (M.1 127 1) (M.1 129) me m) needs me m) s) + 1)), (5, .int ((Int32.ofNat s) + 1))], [], M)
            refine ⟨s + 1, ehb, by omega, ?_⟩
            rw [ofn_s1, cnF_t (tnQ_3 (fn_eq hLcf) (bd_1 (fn_nge hLcffc)) (ge_1 (fn_nlt hLcffcfc)))]
  · first | refine lb_to (T := (2, [(0, .ref 124), (1, .int (Int32.ofNat m)), (2, .int needs)], [.ref 124, .ref 124], M)) 2 [0, 1, 2] rfl rfl rfl (fun J' h => h) (lb_g0 rfl rfl h17 ?_) | refine lb_to0 (T := (2, [(0, .ref 124), (1, .int (Int32.ofNat m)), (2, .int needs)], [.ref 124, .ref 124], M)) 2 [0, 1, 2] rfl rfl rfl (fun J' h => h) (lb_g0 rfl rfl h17 ?_)
    show ∃ R, cm_Lc cm_ms 209 [.ref 124, .ref 129, .int (Int32.ofNat m)] M R ∧ ∀ v M', R v M' → _
    have hbd := m_isBaldR (M := M) (d := 129) h15 (Int32.ofNat m)
    rw [em] at hbd
    refine ⟨_, hbd, ?_⟩
    rintro v M' ⟨hM, rfl⟩
    subst M'
    show (ev_cmp 0 (bi (bdB (M.1 127 1) (M.1 129 m))) 0 = true → _) ∧ (ev_cmp 0 (bi (bdB (M.1 127 1) (M.1 129 m))) 0 = false → _)
    refine ⟨fun hc => ?_, fun hc => ?_⟩
    · show ∃ R, cm_Lc cm_ms 228 [.ref 124] M R ∧ ∀ v M', R v M' → _
      have hha : cm_Lc cm_ms 228 [.ref 124] M (fun v M' => M' = M ∧ v = some (.int (haF (M.1 127 1) (M.1 129) me))) := m_hairy h15 h17 h3 hme
      refine ⟨_, hha, ?_⟩
      rintro v M' ⟨hM, rfl⟩
      subst M'
      show (fun (S : cm_S) => ∃ s, bdB (M.1 127 1) (M.1 129 m) = false ∧ s ≤ 2 ^ me ∧ S = (31, [(0, .ref 124), (1, .int (Int32.ofNat m)), (2, .int needs), (3, .int (otF (M.1 127 1) (M.1 129) me m)), (4, .int (cnF (tnQ (fun m => M.1 127 (13 + 3 * m)) (otF (M.1 127 1) (M.1 129) me m) needs me m) s)), (5, .int (Int32.ofNat s))], [], M)) (31, [(0, .ref 124), (1, .int (Int32.ofNat m)), (2, .int needs), (3, .int ((haF (M.1 127 1) (M.1 129) me) &&& ((1 <<< ((Int32.ofNat m) &&& 31)) ^^^ (-1)))), (4, .int 0), (5, .int 0)], [], M)
      exact ⟨0, bi_0 hc, Nat.zero_le _, rfl⟩
    · refine ⟨rfl, ?_⟩
      show some (Value.int 0) = some (Value.int (tnG _ _ _ _ _ _))
      unfold tnG
      rw [tn_t (bi_1 hc)]
theorem nd_out {y : Int32} (h : y.toInt < 0 ∨ 54 < y.toInt) : inB y 0 54 = false := by
  unfold inB
  rw [show (0 : Int32).toInt = 0 by decide, show (54 : Int32).toInt = 54 by decide, Bool.and_eq_false_iff, decide_eq_false_iff_not, decide_eq_false_iff_not]
  omega
theorem nd_ok {y : Int32} (h1 : 0 ≤ y.toInt) (h2 : y.toInt ≤ 54) : inB y 0 54 = true := by
  unfold inB
  rw [show (0 : Int32).toInt = 0 by decide, show (54 : Int32).toInt = 54 by decide, decide_eq_true h1, decide_eq_true h2]
  try rfl
theorem c_needs {M : cm_M} (y : Int32) : cm_Lc cm_ms 127 [.ref 0, .int y] M (fun v M' => M' = M ∧ v = some (.int (bi (!inB y 0 54)))) := by
  have z0 : (0 : Int32).toInt = 0 := by decide
  have z54 : (54 : Int32).toInt = 54 := by decide
  refine lb_st0 (mi := mr_127) rfl 400 ?_
  show (ev_cmp 2 y 0 = true → _) ∧ (ev_cmp 2 y 0 = false → _)
  refine ⟨fun h => ?_, fun h => ?_⟩
  · have q := fn_lt h
    rw [z0] at q
    refine ⟨rfl, ?_⟩
    rw [nd_out (Or.inl q)]
    try rfl
  · have q := fn_nlt h
    rw [z0] at q
    show (ev_cmp 5 y 54 = true → _) ∧ (ev_cmp 5 y 54 = false → _)
    refine ⟨fun hf => ?_, fun hf => ?_⟩
    · have q2 := fn_le hf
      rw [z54] at q2
      refine ⟨rfl, ?_⟩
      rw [nd_ok q q2]
      try rfl
    · have q2 := fn_nle hf
      rw [z54] at q2
      refine ⟨rfl, ?_⟩
      rw [nd_out (Or.inr q2)]
      try rfl
theorem c_swings_out {M : cm_M} {T' me mo : Nat} (hx : CTX T' me mo M) (x y : Int32) (ho : outB x (Int32.ofNat me) = true) : cm_Lc cm_ms 120 [.ref 0, .int x, .int y] M (fun v _ => v = some (.int (-1))) := by
  have hl := c_lacksMan hx.2.1.1 x
  rw [hx.2.2.2.2.1.1, ho] at hl
  refine lb_st0 (mi := mr_120) rfl 400 ?_
  show ∃ R, cm_Lc cm_ms 161 [.ref 0, .int x] M R ∧ ∀ v M', R v M' → _
  refine ⟨_, hl, ?_⟩
  rintro v M' ⟨hM, rfl⟩
  subst M'
  show (ev_cmp 0 (bi true) 0 = true → _) ∧ (ev_cmp 0 (bi true) 0 = false → _)
  refine ⟨fun hc => ?_, fun hc => ?_⟩
  · exact absurd hc (by decide)
  · show ∃ R, cm_Lc cm_ms 157 [.ref 0, .int 1] M R ∧ ∀ v M', R v M' → _
    refine ⟨_, c_refused 1 M, ?_⟩
    rintro v M' ⟨hM, rfl⟩
    subst M'
    exact rfl
theorem c_swings_bad {M : cm_M} {T' me mo : Nat} (hx : CTX T' me mo M) {k : Nat} (hk : k < me) (y : Int32) (hy : inB y 0 54 = false) : cm_Lc cm_ms 120 [.ref 0, .int (Int32.ofNat k), .int y] M (fun v _ => v = some (.int (-1))) := by
  have hme6 := hx.2.2.2.2.2.1
  have hl := c_lacksMan hx.2.1.1 (Int32.ofNat k)
  rw [hx.2.2.2.2.1.1, outB_lt hk (by omega)] at hl
  refine lb_st0 (mi := mr_120) rfl 400 ?_
  show ∃ R, cm_Lc cm_ms 161 [.ref 0, .int (Int32.ofNat k)] M R ∧ ∀ v M', R v M' → _
  refine ⟨_, hl, ?_⟩
  rintro v M' ⟨hM, rfl⟩
  subst M'
  show (ev_cmp 0 (bi false) 0 = true → _) ∧ (ev_cmp 0 (bi false) 0 = false → _)
  refine ⟨fun hc => ?_, fun hc => ?_⟩
  · show ∃ R, cm_Lc cm_ms 127 [.ref 0, .int y] M R ∧ ∀ v M', R v M' → _
    have hn := c_needs (M := M) y
    rw [hy, Bool.not_false] at hn
    refine ⟨_, hn, ?_⟩
    rintro v M' ⟨hM, rfl⟩
    subst M'
    show (ev_cmp 0 (bi true) 0 = true → _) ∧ (ev_cmp 0 (bi true) 0 = false → _)
    refine ⟨fun hctc => ?_, fun hctc => ?_⟩
    · exact absurd hctc (by decide)
    · show ∃ R, cm_Lc cm_ms 157 [.ref 0, .int 2] M R ∧ ∀ v M', R v M' → _
      refine ⟨_, c_refused 2 M, ?_⟩
      rintro v M' ⟨hM, rfl⟩
      subst M'
      exact rfl
  · exact absurd hc (by decide)
theorem c_swings_k {M : cm_M} {T' me mo : Nat} (hx : CTX T' me mo M) {k : Nat} (hk : k < me) (y : Int32) (hy : inB y 0 54 = true) : cm_Lc cm_ms 120 [.ref 0, .int (Int32.ofNat k), .int y] M (fun v _ => v = some (.int (tnF (M.1 T' 1) y (M.1 33) (M.1 (T' + 3)) me k))) := by
  have hme6 := hx.2.2.2.2.2.1
  have hl := c_lacksMan hx.2.1.1 (Int32.ofNat k)
  rw [hx.2.2.2.2.1.1, outB_lt hk (by omega)] at hl
  refine lb_st0 (mi := mr_120) rfl 400 ?_
  show ∃ R, cm_Lc cm_ms 161 [.ref 0, .int (Int32.ofNat k)] M R ∧ ∀ v M', R v M' → _
  refine ⟨_, hl, ?_⟩
  rintro v M' ⟨hM, rfl⟩
  subst M'
  show (ev_cmp 0 (bi false) 0 = true → _) ∧ (ev_cmp 0 (bi false) 0 = false → _)
  refine ⟨fun hc => ?_, fun hc => ?_⟩
  · show ∃ R, cm_Lc cm_ms 127 [.ref 0, .int y] M R ∧ ∀ v M', R v M' → _
    have hn := c_needs (M := M) y
    rw [hy, Bool.not_true] at hn
    refine ⟨_, hn, ?_⟩
    rintro v M' ⟨hM, rfl⟩
    subst M'
    show (ev_cmp 0 (bi false) 0 = true → _) ∧ (ev_cmp 0 (bi false) 0 = false → _)
    refine ⟨fun hctc => ?_, fun hctc => ?_⟩
    · first | refine lb_to (T := (30, [(0, .ref 0), (1, .int (Int32.ofNat k)), (2, .int y)], [.ref 0, .ref 0], M)) 30 [0, 1, 2] rfl rfl rfl (fun J' h => h) (lb_g0 rfl rfl hx.2.1.2.1 ?_) | refine lb_to0 (T := (30, [(0, .ref 0), (1, .int (Int32.ofNat k)), (2, .int y)], [.ref 0, .ref 0], M)) 30 [0, 1, 2] rfl rfl rfl (fun J' h => h) (lb_g0 rfl rfl hx.2.1.2.1 ?_)
      first | refine lb_to (T := (34, [(0, .ref 0), (1, .int (Int32.ofNat k)), (2, .int y)], [.ref 0, .ref 32, .ref 0], M)) 34 [0, 1, 2] rfl rfl rfl (fun J' h => h) (lb_g0 rfl rfl hx.2.1.1 ?_) | refine lb_to0 (T := (34, [(0, .ref 0), (1, .int (Int32.ofNat k)), (2, .int y)], [.ref 0, .ref 32, .ref 0], M)) 34 [0, 1, 2] rfl rfl rfl (fun J' h => h) (lb_g0 rfl rfl hx.2.1.1 ?_)
      show ∃ R, cm_Lc cm_ms 37 [.ref 32, .ref T', .int (Int32.ofNat k), .int y] M R ∧ ∀ v M', R v M' → _
      refine ⟨_, c_turns (c := 32) hx.2.2.1.2.2.1.1 (hx.2.2.2.1 6 3 (by decide)) hx.2.2.2.2.1.1 hme6 hk y, ?_⟩
      rintro v M' ⟨hM, rfl⟩
      subst M'
      show ∃ R, cm_Lc cm_ms 159 [.ref 0, .int (tnF (M.1 T' 1) y (M.1 33) (M.1 (T' + 3)) me k)] M R ∧ ∀ v M', R v M' → _
      refine ⟨_, c_granted _ _, ?_⟩
      rintro v Mc ⟨hG, rfl⟩
      exact rfl
    · exact absurd hctc (by decide)
  · exact absurd hc (by decide)
theorem m_swings_out {a : Bool} {me mo : Nat} {M : cm_M} (hx : MTX a me mo M) (x y : Int32) (ho : outB x (Int32.ofNat me) = true) : cm_Lc cm_ms 250 [.ref 124, .int x, .int y] M (fun v _ => v = some (.int (-1))) := by
  refine lb_st0 (mi := mr_250) rfl 400 ?_
  show ∃ R, cm_Lc cm_ms 164 [.ref 124] M R ∧ ∀ v M', R v M' → _
  refine ⟨_, m_goodG M, ?_⟩
  rintro v M' ⟨rfl, rfl⟩
  have hg := MTX_gd hx
  have hme6 := hx.2.2.2.2.2.1
  have hmo5 := hx.2.2.2.2.2.2
  have e127 : (gdM M).1 127 = M.1 127 := funext fun j => gd_n (by omega)
  have e129 : (gdM M).1 129 = M.1 129 := funext fun j => gd_n (by omega)
  show ∃ R, cm_Lc cm_ms 205 [.ref 124, .int x] (gdM M) R ∧ ∀ v M', R v M' → _
  have hl := m_isMn hg x
  rw [ho, Bool.not_true] at hl
  refine ⟨_, hl, ?_⟩
  rintro v M' ⟨hM, rfl⟩
  subst M'
  show ∃ R, cm_Lc cm_ms 167 [.int y, .int 0, .int 54] (gdM M) R ∧ ∀ v M', R v M' → _
  refine ⟨_, m_in2 y 0 54 (gdM M), ?_⟩
  rintro v M' ⟨hM, rfl⟩
  subst M'
  show ∃ R, cm_Lc cm_ms 233 [.ref 124, .int (bi false), .int (bi (inB y 0 54))] (gdM M) R ∧ ∀ v M', R v M' → _
  refine ⟨_, m_why false (inB y 0 54) (gdM M), ?_⟩
  rintro v Mz ⟨hM, rfl⟩
  subst Mz
  show (ev_cmp 0 (whyF false (inB y 0 54)) 0 = true → _) ∧ (ev_cmp 0 (whyF false (inB y 0 54)) 0 = false → _)
  refine ⟨fun hcccc => ?_, fun hcccc => ?_⟩
  · exact absurd hcccc (by cases inB y 0 54 <;> decide)
  · show ∃ R, cm_Lc cm_ms 165 [.ref 124, .int (whyF false (inB y 0 54))] (gdM M) R ∧ ∀ v M', R v M' → _
    refine ⟨_, m_noG (whyF false (inB y 0 54)) (gdM M), ?_⟩
    rintro v Mz ⟨hG, rfl⟩
    exact rfl
theorem m_swings_bad {a : Bool} {me mo : Nat} {M : cm_M} (hx : MTX a me mo M) {k : Nat} (hk : k < me) (y : Int32) (hy : inB y 0 54 = false) : cm_Lc cm_ms 250 [.ref 124, .int (Int32.ofNat k), .int y] M (fun v _ => v = some (.int (-1))) := by
  refine lb_st0 (mi := mr_250) rfl 400 ?_
  show ∃ R, cm_Lc cm_ms 164 [.ref 124] M R ∧ ∀ v M', R v M' → _
  refine ⟨_, m_goodG M, ?_⟩
  rintro v M' ⟨rfl, rfl⟩
  have hg := MTX_gd hx
  have hme6 := hx.2.2.2.2.2.1
  have hmo5 := hx.2.2.2.2.2.2
  have e127 : (gdM M).1 127 = M.1 127 := funext fun j => gd_n (by omega)
  have e129 : (gdM M).1 129 = M.1 129 := funext fun j => gd_n (by omega)
  show ∃ R, cm_Lc cm_ms 205 [.ref 124, .int (Int32.ofNat k)] (gdM M) R ∧ ∀ v M', R v M' → _
  have hl := m_isMn hg (Int32.ofNat k)
  rw [outB_lt hk (by omega), Bool.not_false] at hl
  refine ⟨_, hl, ?_⟩
  rintro v M' ⟨hM, rfl⟩
  subst M'
  show ∃ R, cm_Lc cm_ms 167 [.int y, .int 0, .int 54] (gdM M) R ∧ ∀ v M', R v M' → _
  have hi := m_in2 y 0 54 (gdM M)
  rw [hy] at hi
  refine ⟨_, hi, ?_⟩
  rintro v M' ⟨hM, rfl⟩
  subst M'
  show ∃ R, cm_Lc cm_ms 233 [.ref 124, .int (bi true), .int (bi false)] (gdM M) R ∧ ∀ v M', R v M' → _
  refine ⟨_, m_why true false (gdM M), ?_⟩
  rintro v Mz ⟨hM, rfl⟩
  subst Mz
  show (ev_cmp 0 (whyF true false) 0 = true → _) ∧ (ev_cmp 0 (whyF true false) 0 = false → _)
  refine ⟨fun hcccc => ?_, fun hcccc => ?_⟩
  · exact absurd hcccc (by decide)
  · show ∃ R, cm_Lc cm_ms 165 [.ref 124, .int (whyF true false)] (gdM M) R ∧ ∀ v M', R v M' → _
    refine ⟨_, m_noG (whyF true false) (gdM M), ?_⟩
    rintro v Mz ⟨hG, rfl⟩
    exact rfl
theorem m_swings_k {a : Bool} {me mo : Nat} {M : cm_M} (hx : MTX a me mo M) {k : Nat} (ha : a = true) (hk : k < me) (y : Int32) (hy : inB y 0 54 = true) : cm_Lc cm_ms 250 [.ref 124, .int (Int32.ofNat k), .int y] M (fun v _ => v = some (.int (tnG (M.1 127 1) y (M.1 129) (fun m => M.1 127 (13 + 3 * m)) me k))) := by
  refine lb_st0 (mi := mr_250) rfl 400 ?_
  show ∃ R, cm_Lc cm_ms 164 [.ref 124] M R ∧ ∀ v M', R v M' → _
  refine ⟨_, m_goodG M, ?_⟩
  rintro v M' ⟨rfl, rfl⟩
  have hg := MTX_gd hx
  have hme6 := hx.2.2.2.2.2.1
  have hmo5 := hx.2.2.2.2.2.2
  have e127 : (gdM M).1 127 = M.1 127 := funext fun j => gd_n (by omega)
  have e129 : (gdM M).1 129 = M.1 129 := funext fun j => gd_n (by omega)
  show ∃ R, cm_Lc cm_ms 205 [.ref 124, .int (Int32.ofNat k)] (gdM M) R ∧ ∀ v M', R v M' → _
  have hl := m_isMn hg (Int32.ofNat k)
  rw [outB_lt hk (by omega), Bool.not_false] at hl
  refine ⟨_, hl, ?_⟩
  rintro v M' ⟨hM, rfl⟩
  subst M'
  show ∃ R, cm_Lc cm_ms 167 [.int y, .int 0, .int 54] (gdM M) R ∧ ∀ v M', R v M' → _
  have hi := m_in2 y 0 54 (gdM M)
  rw [hy] at hi
  refine ⟨_, hi, ?_⟩
  rintro v M' ⟨hM, rfl⟩
  subst M'
  show ∃ R, cm_Lc cm_ms 233 [.ref 124, .int (bi true), .int (bi true)] (gdM M) R ∧ ∀ v M', R v M' → _
  refine ⟨_, m_why true true (gdM M), ?_⟩
  rintro v Mz ⟨hM, rfl⟩
  subst Mz
  show (ev_cmp 0 (whyF true true) 0 = true → _) ∧ (ev_cmp 0 (whyF true true) 0 = false → _)
  refine ⟨fun hcccc => ?_, fun hcccc => ?_⟩
  · show ∃ R, cm_Lc cm_ms 249 [.ref 124, .int (Int32.ofNat k), .int y] (gdM M) R ∧ ∀ v M', R v M' → _
    have ht := m_turnsOf (M := gdM M) (me := me) (m := k) hx.2.1.1 hx.2.1.2.1 (by rw [e127]; exact (hx.2.2.1 ha).1) hme6 (by omega) y
    rw [e127, e129] at ht
    refine ⟨_, ht, ?_⟩
    rintro v M' ⟨hM, rfl⟩
    subst M'
    exact rfl
  · exact absurd hcccc (by decide)
