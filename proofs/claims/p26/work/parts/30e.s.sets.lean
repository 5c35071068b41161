/-- how many -/
noncomputable def cnF (p : Nat → Bool) : Nat → Int32
  | 0 => 0
  | s + 1 => if p s = true then cnF p s + 1 else cnF p s
theorem cnF_t {p : Nat → Bool} {s : Nat} (h : p s = true) : cnF p (s + 1) = cnF p s + 1 := if_pos h
theorem cnF_f {p : Nat → Bool} {s : Nat} (h : p s = false) : cnF p (s + 1) = cnF p s := by
  show (if _ then _ else _) = _
  rw [h, if_neg (by decide)]
theorem cnF_cg {p q : Nat → Bool} : ∀ n, (∀ s, s < n → q s = p s) → cnF q n = cnF p n
  | 0, _ => rfl
  | n + 1, h => by
    unfold cnF
    rw [h n (by omega), cnF_cg (p := p) n (fun s hs => h s (by omega))]
/-- who isn't bald -/
noncomputable def haF (ba : Int32) (H : Nat → Int32) (me : Nat) : Int32 := Int32.ofNat (2 ^ me - 1) &&& (orF (fun m => bdB ba (H m)) me ^^^ -1)
noncomputable def otF (ba : Int32) (H : Nat → Int32) (me m : Nat) : Int32 := haF ba H me &&& (sB m ^^^ -1)
theorem haF_cg {ba : Int32} {H H' : Nat → Int32} {me : Nat} (h : ∀ m, m < me → H' m = H m) : haF ba H' me = haF ba H me := by
  unfold haF
  rw [orF_cg (p := fun m => bdB ba (H m)) (q := fun m => bdB ba (H' m)) me (fun m hm => by
    show bdB ba (H' m) = bdB ba (H m)
    rw [h m hm])]
/-- a set whose votes are too few without a man and enough with him: the class, the reference -/
noncomputable def tnP (vo : Nat → Int32) (oth needs : Int32) (me m s : Nat) : Bool := decide (Int32.ofNat s &&& (oth ^^^ -1) = 0) && (bdB needs (voF vo (Int32.ofNat s) me) && geB (voF vo (Int32.ofNat s) me + vo m) needs)
noncomputable def tnQ (vo : Nat → Int32) (oth needs : Int32) (me m s : Nat) : Bool := decide (Int32.ofNat s &&& (oth ^^^ -1) = 0) && (bdB needs (voF vo (Int32.ofNat s) me) && geB (voF vo (Int32.ofNat s ||| sB m) me) needs)
/-- the turns of a man -/
noncomputable def tnF (ba needs : Int32) (H vo : Nat → Int32) (me m : Nat) : Int32 := if bdB ba (H m) = true then 0 else cnF (tnP vo (otF ba H me m) needs me m) (2 ^ me)
noncomputable def tnG (ba needs : Int32) (H vo : Nat → Int32) (me m : Nat) : Int32 := if bdB ba (H m) = true then 0 else cnF (tnQ vo (otF ba H me m) needs me m) (2 ^ me)
theorem tn_t {b : Bool} {x : Int32} (h : b = true) : (if b = true then (0 : Int32) else x) = 0 := if_pos h
theorem tn_f {b : Bool} {x : Int32} (h : b = false) : (if b = true then (0 : Int32) else x) = x := if_neg (by rw [h]; decide)
theorem tnG_cg {ba needs : Int32} {H H' vo vo' : Nat → Int32} {me m : Nat} (hm : m < me) (h : ∀ j, j < me → H' j = H j) (g : ∀ j, j < me → vo' j = vo j) : tnG ba needs H' vo' me m = tnG ba needs H vo me m := by
  unfold tnG otF
  rw [h m hm, haF_cg h, cnF_cg (p := tnQ vo (haF ba H me &&& (sB m ^^^ -1)) needs me m) (q := tnQ vo' (haF ba H me &&& (sB m ^^^ -1)) needs me m) (2 ^ me) (fun s hs => by
    unfold tnQ
    rw [voF_cg (vo := vo) (vo' := vo') (set := Int32.ofNat s) me g, voF_cg (vo := vo) (vo' := vo') (set := Int32.ofNat s ||| sB m) me g])]
theorem or6_t : ∀ a, a < 64 → ∀ k, k < 6 → Int32.ofNat a ||| sB k = Int32.ofNat (a ||| 2 ^ k) ∧ (a ||| 2 ^ k) < 64 := by decide +kernel
theorem orF_n (p : Nat → Bool) : ∀ n, n ≤ 6 → ∃ y, y < 64 ∧ orF p n = Int32.ofNat y
  | 0, _ => ⟨0, by decide, rfl⟩
  | n + 1, h => by
    obtain ⟨y, y1, y2⟩ := orF_n p n (by omega)
    cases q : p n with
    | true =>
      obtain ⟨a, b⟩ := or6_t y y1 n (by omega)
      exact ⟨_, b, by rw [orF_t q, y2, a]⟩
    | false => exact ⟨y, y1, by rw [orF_f q, y2]⟩
theorem p2m : ∀ me, me < 7 → 2 ^ me - 1 < 64 ∧ 2 ^ me ≤ 64 := by decide
theorem haF_n {ba : Int32} {H : Nat → Int32} {me : Nat} (hme : me ≤ 6) : ∃ x, x < 64 ∧ haF ba H me = Int32.ofNat x := by
  obtain ⟨y, y1, y2⟩ := orF_n (fun m => bdB ba (H m)) me hme
  obtain ⟨a, b⟩ := and_t (2 ^ me - 1) (p2m me (by omega)).1 y y1
  exact ⟨_, b, by unfold haF; rw [y2, a]⟩
theorem otF_n {ba : Int32} {H : Nat → Int32} {me m : Nat} (hme : me ≤ 6) (hm : m < 6) : ∃ o, o < 64 ∧ otF ba H me m = Int32.ofNat o ∧ o / 2 ^ m % 2 = 0 := by
  have t : ∀ x, x < 64 → ∀ m, m < 6 → cpl (2 ^ m) x / 2 ^ m % 2 = 0 := by decide +kernel
  obtain ⟨x, x1, x2⟩ := haF_n (ba := ba) (H := H) hme
  have p6 : ∀ m, m < 6 → 2 ^ m < 64 := by decide
  obtain ⟨a, b⟩ := and_t x x1 (2 ^ m) (p6 m hm)
  exact ⟨_, b, by unfold otF; rw [x2, sB_t m (by omega), a], t x x1 m hm⟩
theorem out_bit {ba : Int32} {H : Nat → Int32} {me m s : Nat} (hme : me ≤ 6) (hm : m < 6) (hs : s < 64) (h : Int32.ofNat s &&& (otF ba H me m ^^^ -1) = 0) : s / 2 ^ m % 2 = 0 := by
  have t : ∀ o, o < 64 → ∀ s, s < 64 → cpl o s = 0 → ∀ m, m < 6 → o / 2 ^ m % 2 = 0 → s / 2 ^ m % 2 = 0 := by decide +kernel
  obtain ⟨o, o1, o2, o3⟩ := otF_n (ba := ba) (H := H) hme hm
  obtain ⟨a, b⟩ := and_t s hs o o1
  rw [o2, a, ofn_0 (by omega)] at h
  exact t o o1 s hs h m hm o3
theorem hb_or : ∀ s, s < 64 → ∀ m, m < 6 → ∀ j, j < 6 → hb (Int32.ofNat s ||| sB m) j = (hb (Int32.ofNat s) j || decide (j = m)) := by decide +kernel
theorem hb_n0 : ∀ s, s < 64 → ∀ m, m < 6 → s / 2 ^ m % 2 = 0 → hb (Int32.ofNat s) m = false := by decide +kernel
theorem voF_or {vo : Nat → Int32} {s m : Nat} (hs : s < 64) (hm : m < 6) (h : s / 2 ^ m % 2 = 0) : ∀ n, n ≤ 6 → voF vo (Int32.ofNat s ||| sB m) n = if m < n then voF vo (Int32.ofNat s) n + vo m else voF vo (Int32.ofNat s) n
  | 0, _ => by
    rw [if_neg (by omega)]
    try rfl
  | n + 1, hn => by
    have ih := voF_or (vo := vo) hs hm h n (by omega)
    have hq := hb_or s hs m hm n (by omega)
    by_cases e : n = m
    · subst e
      rw [hb_n0 s hs n hm h, decide_eq_true rfl, Bool.or_true] at hq
      rw [voF_t hq, voF_f (hb_n0 s hs n hm h), ih, if_neg (by omega), if_pos (by omega)]
    · rw [decide_eq_false e, Bool.or_false] at hq
      cases b : hb (Int32.ofNat s) n with
      | true =>
        rw [b] at hq
        rw [voF_t hq, voF_t b, ih]
        by_cases q : m < n
        · rw [if_pos q, if_pos (by omega), Int32.add_assoc, Int32.add_comm (vo m), ← Int32.add_assoc]
        · rw [if_neg q, if_neg (by omega)]
      | false =>
        rw [b] at hq
        rw [voF_f hq, voF_f b, ih]
        by_cases q : m < n
        · rw [if_pos q, if_pos (by omega)]
        · rw [if_neg q, if_neg (by omega)]
theorem tn_eq {ba needs : Int32} {H vo : Nat → Int32} {me m : Nat} (hme : me ≤ 6) (hm : m < me) : tnG ba needs H vo me m = tnF ba needs H vo me m := by
  unfold tnG tnF
  rw [cnF_cg (p := tnP vo (otF ba H me m) needs me m) (q := tnQ vo (otF ba H me m) needs me m) (2 ^ me) (fun s hs => by
    have s64 : s < 64 := by
      have := (p2m me (by omega)).2
      omega
    unfold tnP tnQ
    by_cases e : Int32.ofNat s &&& (otF ba H me m ^^^ -1) = 0
    · rw [voF_or s64 (by omega) (out_bit hme (by omega) s64 e) me hme, if_pos hm]
    · rw [decide_eq_false e, Bool.false_and, Bool.false_and])]
theorem tnP_0 {vo : Nat → Int32} {oth needs : Int32} {me m s : Nat} (h : Int32.ofNat s &&& (oth ^^^ -1) ≠ 0) : tnP vo oth needs me m s = false := by
  unfold tnP
  rw [decide_eq_false h, Bool.false_and]
theorem tnP_1 {vo : Nat → Int32} {oth needs : Int32} {me m s : Nat} (h : bdB needs (voF vo (Int32.ofNat s) me) = false) : tnP vo oth needs me m s = false := by
  unfold tnP
  rw [h, Bool.false_and, Bool.and_false]
theorem tnP_2 {vo : Nat → Int32} {oth needs : Int32} {me m s : Nat} (h : geB (voF vo (Int32.ofNat s) me + vo m) needs = false) : tnP vo oth needs me m s = false := by
  unfold tnP
  rw [h, Bool.and_false, Bool.and_false]
theorem tnP_3 {vo : Nat → Int32} {oth needs : Int32} {me m s : Nat} (h0 : Int32.ofNat s &&& (oth ^^^ -1) = 0) (h1 : bdB needs (voF vo (Int32.ofNat s) me) = true) (h2 : geB (voF vo (Int32.ofNat s) me + vo m) needs = true) : tnP vo oth needs me m s = true := by
  unfold tnP
  rw [decide_eq_true h0, h1, h2]
  try rfl
theorem tnQ_0 {vo : Nat → Int32} {oth needs : Int32} {me m s : Nat} (h : Int32.ofNat s &&& (oth ^^^ -1) ≠ 0) : tnQ vo oth needs me m s = false := by
  unfold tnQ
  rw [decide_eq_false h, Bool.false_and]
theorem tnQ_1 {vo : Nat → Int32} {oth needs : Int32} {me m s : Nat} (h : bdB needs (voF vo (Int32.ofNat s) me) = false) : tnQ vo oth needs me m s = false := by
  unfold tnQ
  rw [h, Bool.false_and, Bool.and_false]
theorem tnQ_2 {vo : Nat → Int32} {oth needs : Int32} {me m s : Nat} (h : geB (voF vo (Int32.ofNat s ||| sB m) me) needs = false) : tnQ vo oth needs me m s = false := by
  unfold tnQ
  rw [h, Bool.and_false, Bool.and_false]
theorem tnQ_3 {vo : Nat → Int32} {oth needs : Int32} {me m s : Nat} (h0 : Int32.ofNat s &&& (oth ^^^ -1) = 0) (h1 : bdB needs (voF vo (Int32.ofNat s) me) = true) (h2 : geB (voF vo (Int32.ofNat s ||| sB m) me) needs = true) : tnQ vo oth needs me m s = true := by
  unfold tnQ
  rw [decide_eq_true h0, h1, h2]
  try rfl
set_option maxRecDepth 100000 in
theorem c_turns {M : cm_M} {c T' me m : Nat} (r0 : M.2.2 c 0 = some (c + 1)) (h6 : M.2.2 T' 6 = some (T' + 3)) (h3 : M.1 T' 3 = Int32.ofNat me) (hme : me ≤ 6) (hm : m < me) (needs : Int32) : cm_Lc cm_ms 37 [.ref c, .ref T', .int (Int32.ofNat m), .int needs] M (fun v M' => M' = M ∧ v = some (.int (tnF (M.1 T' 1) needs (M.1 (c + 1)) (M.1 (T' + 3)) me m))) := by
  have em := fn_nat (show m < 2147483648 by omega)
  have e2 : (1 : Int32) <<< (M.1 T' 3 &&& 31) = Int32.ofNat (2 ^ me) := by
    rw [h3]
    exact sB_t me (by omega)
  have p64 := (p2m me (by omega)).2
  refine lb_of (mi := mr_37) rfl [(30, [0, 1, 2, 3, 4, 5, 6])] (fun S => ∃ s, bdB (M.1 T' 1) (M.1 (c + 1) m) = false ∧ s ≤ 2 ^ me ∧ S = (30, [(0, .ref c), (1, .ref T'), (2, .int (Int32.ofNat m)), (3, .int needs), (4, .int (otF (M.1 T' 1) (M.1 (c + 1)) me m)), (5, .int (cnF (tnP (M.1 (T' + 3)) (otF (M.1 T' 1) (M.1 (c + 1)) me m) needs me m) s)), (6, .int (Int32.ofNat s))], [], M)) 400 (fun S hS => ?_) 400 ?_
  · obtain ⟨s, ehb, hs, rfl⟩ := hS
    show (ev_cmp 3 (Int32.ofNat s) (1 <<< ((M.1 T' 3) &&& 31)) = true → _) ∧ (ev_cmp 3 (Int32.ofNat s) (1 <<< ((M.1 T' 3) &&& 31)) = false → _)
    refine ⟨fun hL => ?_, fun hL => ?_⟩
    · have g := fn_ge hL
      rw [e2, fn_toInt (by omega), fn_toInt (by omega)] at g
      have : s = 2 ^ me := by omega
      subst this
      refine ⟨rfl, ?_⟩
      show some (Value.int (cnF _ _)) = some (Value.int (tnF _ _ _ _ _ _))
      unfold tnF
      rw [tn_f ehb]
    · have g := fn_nge hL
      rw [e2, fn_toInt (by omega), fn_toInt (by omega)] at g
      show (ev_cmp 1 ((Int32.ofNat s) &&& ((otF (M.1 T' 1) (M.1 (c + 1)) me m) ^^^ (-1))) 0 = true → _) ∧ (ev_cmp 1 ((Int32.ofNat s) &&& ((otF (M.1 T' 1) (M.1 (c + 1)) me m) ^^^ (-1))) 0 = false → _)
      refine ⟨fun hLf => ?_, fun hLf => ?_⟩
      · show (fun (S : cm_S) => ∃ s, bdB (M.1 T' 1) (M.1 (c + 1) m) = false ∧ s ≤ 2 ^ me ∧ S = (30, [(0, .ref c), (1, .ref T'), (2, .int (Int32.ofNat m)), (3, .int needs), (4, .int (otF (M.1 T' 1) (M.1 (c + 1)) me m)), (5, .int (cnF (tnP (M.1 (T' + 3)) (otF (M.1 T' 1) (M.1 (c + 1)) me m) needs me m) s)), (6, .int (Int32.ofNat s))], [], M)) (30, [(0, .ref c), (1, .ref T'), (2, .int (Int32.ofNat m)), (3, .int needs), (4, .int (otF (M.1 T' 1) (M.1 (c + 1)) me m)), (5, .int (cnF (tnP (M.1 (T' + 3)) (otF (M.1 T' 1) (M.1 (c + 1)) me m) needs me m) s)), (6, .int ((Int32.ofNat s) + 1))], [], M)
        refine ⟨s + 1, ehb, by omega, ?_⟩
        rw [ofn_s1, cnF_f (tnP_0 (fn_ne hLf))]
      · show ∃ R, cm_Lc cm_ms 13 [.ref T', .int (Int32.ofNat s)] M R ∧ ∀ v M', R v M' → _
        refine ⟨_, c_votes h6 h3 hme (Int32.ofNat s), ?_⟩
        rintro v M' ⟨hM, rfl⟩
        subst M'
        show (ev_cmp 3 (voF (M.1 (T' + 3)) (Int32.ofNat s) me) needs = true → _) ∧ (ev_cmp 3 (voF (M.1 (T' + 3)) (Int32.ofNat s) me) needs = false → _)
        refine ⟨fun hLffc => ?_, fun hLffc => ?_⟩
        · show (fun (S : cm_S) => ∃ s, bdB (M.1 T' 1) (M.1 (c + 1) m) = false ∧ s ≤ 2 ^ me ∧ S = (30, [(0, .ref c), (1, .ref T'), (2, .int (Int32.ofNat m)), (3, .int needs), (4, .int (otF (M.1 T' 1) (M.1 (c + 1)) me m)), (5, .int (cnF (tnP (M.1 (T' + 3)) (otF (M.1 T' 1) (M.1 (c + 1)) me m) needs me m) s)), (6, .int (Int32.ofNat s))], [], M)) (30, [(0, .ref c), (1, .ref T'), (2, .int (Int32.ofNat m)), (3, .int needs), (4, .int (otF (M.1 T' 1) (M.1 (c + 1)) me m)), (5, .int (cnF (tnP (M.1 (T' + 3)) (otF (M.1 T' 1) (M.1 (c + 1)) me m) needs me m) s)), (6, .int ((Int32.ofNat s) + 1))], [], M)
          refine ⟨s + 1, ehb, by omega, ?_⟩
          rw [ofn_s1, cnF_f (tnP_1 (bd_0 (fn_ge hLffc)))]
        · first | refine lb_to (T := (68, [(0, .ref c), (1, .ref T'), (2, .int (Int32.ofNat m)), (3, .int needs), (4, .int (otF (M.1 T' 1) (M.1 (c + 1)) me m)), (5, .int (cnF (tnP (M.1 (T' + 3)) (otF (M.1 T' 1) (M.1 (c + 1)) me m) needs me m) s)), (6, .int (Int32.ofNat s)), (7, .int (voF (M.1 (T' + 3)) (Int32.ofNat s) me))], [.ref T', .int (voF (M.1 (T' + 3)) (Int32.ofNat s) me)], M)) 68 [0, 1, 2, 3, 4, 5, 6, 7] rfl rfl rfl (fun J' h => h) (lb_g0 rfl rfl h6 ?_) | refine lb_to0 (T := (68, [(0, .ref c), (1, .ref T'), (2, .int (Int32.ofNat m)), (3, .int needs), (4, .int (otF (M.1 T' 1) (M.1 (c + 1)) me m)), (5, .int (cnF (tnP (M.1 (T' + 3)) (otF (M.1 T' 1) (M.1 (c + 1)) me m) needs me m) s)), (6, .int (Int32.ofNat s)), (7, .int (voF (M.1 (T' + 3)) (Int32.ofNat s) me))], [.ref T', .int (voF (M.1 (T' + 3)) (Int32.ofNat s) me)], M)) 68 [0, 1, 2, 3, 4, 5, 6, 7] rfl rfl rfl (fun J' h => h) (lb_g0 rfl rfl h6 ?_)
          show (ev_cmp 2 ((voF (M.1 (T' + 3)) (Int32.ofNat s) me) + (M.1 (T' + 3) ((Int32.ofNat m).toNatClampNeg))) needs = true → _) ∧ (ev_cmp 2 ((voF (M.1 (T' + 3)) (Int32.ofNat s) me) + (M.1 (T' + 3) ((Int32.ofNat m).toNatClampNeg))) needs = false → _)
          refine ⟨fun hLffcf => ?_, fun hLffcf => ?_⟩
          · show (fun (S : cm_S) => ∃ s, bdB (M.1 T' 1) (M.1 (c + 1) m) = false ∧ s ≤ 2 ^ me ∧ S = (30, [(0, .ref c), (1, .ref T'), (2, .int (Int32.ofNat m)), (3, .int needs), (4, .int (otF (M.1 T' 1) (M.1 (c + 1)) me m)), (5, .int (cnF (tnP (M.1 (T' + 3)) (otF (M.1 T' 1) (M.1 (c + 1)) me m) needs me m) s)), (6, .int (Int32.ofNat s))], [], M)) (30, [(0, .ref c), (1, .ref T'), (2, .int (Int32.ofNat m)), (3, .int needs), (4, .int (otF (M.1 T' 1) (M.1 (c + 1)) me m)), (5, .int (cnF (tnP (M.1 (T' + 3)) (otF (M.1 T' 1) (M.1 (c + 1)) me m) needs me m) s)), (6, .int ((Int32.ofNat s) + 1))], [], M)
            have zz := fn_lt hLffcf
            rw [em] at zz
            refine ⟨s + 1, ehb, by omega, ?_⟩
            rw [ofn_s1, cnF_f (tnP_2 (ge_0 zz))]
          · show (fun (S : cm_S) => ∃ s, bdB (M.1 T' 1) (M.1 (c + 1) m) = false ∧ s ≤ 2 ^ me ∧ S = (30, [(0, .ref c), (1, .ref T'), (2, .int (Int32.ofNat m)), (3, .int needs), (4, .int (otF (M.1 T' 1) (M.1 (c + 1)) me m)), (5, .int (cnF (tnP (M.1 (T' + 3)) (otF (M.1 T' 1) (M.1 (c + 1)) me m) needs me m) s)), (6, .int (Int32.ofNat s))], [], M)) (30, [(0, .ref c), (1, .ref T'), (2, .int (Int32.ofNat m)), (3, .int needs), (4, .int (otF (M.1 T' 1) (M.1 (c + 1)) me m)), (5, .int ((cnF (tnP (M.1 (T' + 3)) (otF (M.1 T' 1) (M.1 (c + 1)) me m) needs me m) s) + 1)), (6, .int ((Int32.ofNat s) + 1))], [], M)
            have zz := fn_nlt hLffcf
            rw [em] at zz
            refine ⟨s + 1, ehb, by omega, ?_⟩
            rw [ofn_s1, cnF_t (tnP_3 (fn_eq hLf) (bd_1 (fn_nge hLffc)) (ge_1 zz))]
  · show ∃ R, cm_Lc cm_ms 25 [.ref c, .ref T', .int (Int32.ofNat m)] M R ∧ ∀ v M', R v M' → _
    have hbd := c_isBald (M := M) (T' := T') r0 (Int32.ofNat m)
    rw [em] at hbd
    refine ⟨_, hbd, ?_⟩
    rintro v M' ⟨hM, rfl⟩
    subst M'
    show (ev_cmp 0 (bi (bdB (M.1 T' 1) (M.1 (c + 1) m))) 0 = true → _) ∧ (ev_cmp 0 (bi (bdB (M.1 T' 1) (M.1 (c + 1) m))) 0 = false → _)
    refine ⟨fun hc => ?_, fun hc => ?_⟩
    · show ∃ R, cm_Lc cm_ms 27 [.ref c, .ref T'] M R ∧ ∀ v M', R v M' → _
      have hha : cm_Lc cm_ms 27 [.ref c, .ref T'] M (fun v M' => M' = M ∧ v = some (.int (haF (M.1 T' 1) (M.1 (c + 1)) me))) := c_hairy r0 h3 hme
      refine ⟨_, hha, ?_⟩
      rintro v M' ⟨hM, rfl⟩
      subst M'
      show (fun (S : cm_S) => ∃ s, bdB (M.1 T' 1) (M.1 (c + 1) m) = false ∧ s ≤ 2 ^ me ∧ S = (30, [(0, .ref c), (1, .ref T'), (2, .int (Int32.ofNat m)), (3, .int needs), (4, .int (otF (M.1 T' 1) (M.1 (c + 1)) me m)), (5, .int (cnF (tnP (M.1 (T' + 3)) (otF (M.1 T' 1) (M.1 (c + 1)) me m) needs me m) s)), (6, .int (Int32.ofNat s))], [], M)) (30, [(0, .ref c), (1, .ref T'), (2, .int (Int32.ofNat m)), (3, .int needs), (4, .int ((haF (M.1 T' 1) (M.1 (c + 1)) me) &&& ((1 <<< ((Int32.ofNat m) &&& 31)) ^^^ (-1)))), (5, .int 0), (6, .int 0)], [], M)
      exact ⟨0, bi_0 hc, Nat.zero_le _, rfl⟩
    · refine ⟨rfl, ?_⟩
      show some (Value.int 0) = some (Value.int (tnF _ _ _ _ _ _))
      unfold tnF
      rw [tn_t (bi_1 hc)]
set_option maxRecDepth 100000 in
theorem m_turnsOf {M : cm_M} {me m : Nat} (h15 : M.2.2 124 15 = some 127) (h17 : M.2.2 124 17 = some 129) (h3 : M.1 127 3 = Int32.ofNat me) (hme : me ≤ 6) (hm : m < me) (needs : Int32) : cm_Lc cm_ms 249 [.ref 124, .int (Int32.ofNat m), .int needs] M (fun v M' => M' = M ∧ v = some (.int (tnG (M.1 127 1) needs (M.1 129) (fun m => M.1 127 (13 + 3 * m)) me m))) := by
  have em := fn_nat (show m < 2147483648 by omega)
  have p64 := (p2m me (by omega)).2
  refine lb_of (mi := mr_249) rfl [(31, [0, 1, 2, 3, 4, 5])] (fun S => ∃ s, bdB (M.1 127 1) (M.1 129 m) = false ∧ s ≤ 2 ^ me ∧ S = (31, [(0, .ref 124), (1, .int (Int32.ofNat m)), (2, .int needs), (3, .int (otF (M.1 127 1) (M.1 129) me m)), (4, .int (cnF (tnQ (fun m => M.1 127 (13 + 3 * m)) (otF (M.1 127 1) (M.1 129) me m) needs me m) s)), (5, .int (Int32.ofNat s))], [], M)) 400 (fun S hS => ?_) 400 ?_
  · obtain ⟨s, ehb, hs, rfl⟩ := hS
    show ∃ R, cm_Lc cm_ms 208 [.ref 124] M R ∧ ∀ v M', R v M' → _
    refine ⟨_, m_allMen h15 h3 hme, ?_⟩
    rintro v M' ⟨hM, rfl⟩
    subst M'
    show (ev_cmp 4 (Int32.ofNat s) (Int32.ofNat (2 ^ me - 1)) = true → _) ∧ (ev_cmp 4 (Int32.ofNat s) (Int32.ofNat (2 ^ me - 1)) = false → _)
    refine ⟨fun hLc => ?_, fun hLc => ?_⟩
    · have g := fn_gt hLc
      rw [fn_toInt (by omega), fn_toInt (by omega)] at g
      have : s = 2 ^ me := by omega
      subst this
      refine ⟨rfl, ?_⟩
      show some (Value.int (cnF _ _)) = some (Value.int (tnG _ _ _ _ _ _))
      unfold tnG
      rw [tn_f ehb]
    · have g := fn_ngt hLc
      rw [fn_toInt (by omega), fn_toInt (by omega)] at g
      have slt : s < 2 ^ me := by
        have : 0 < 2 ^ me := Nat.pos_of_ne_zero (by
          intro q
          have := Nat.two_pow_pos me
          omega)
        omega
      show (ev_cmp 1 ((Int32.ofNat s) &&& ((otF (M.1 127 1) (M.1 129) me m) ^^^ (-1))) 0 = true → _) ∧ (ev_cmp 1 ((Int32.ofNat s) &&& ((otF (M.1 127 1) (M.1 129) me m) ^^^ (-1))) 0 = false → _)
      refine ⟨fun hLcf => ?_, fun hLcf => ?_⟩
      · show (fun (S : cm_S) => ∃ s, bdB (M.1 127 1) (M.1 129 m) = false ∧ s ≤ 2 ^ me ∧ S = (31, [(0, .ref 124), (1, .int (Int32.ofNat m)), (2, .int needs), (3, .int (otF (M.1 127 1) (M.1 129) me m)), (4, .int (cnF (tnQ (fun m => M.1 127 (13 + 3 * m)) (otF (M.1 127 1) (M.1 129) me m) needs me m) s)), (5, .int (Int32.ofNat s))], [], M)) (31, [(0, .ref 124), (1, .int (Int32.ofNat m)), (2, .int needs), (3, .int (otF (M.1 127 1) (M.1 129) me m)), (4, .int ((cnF (tnQ (fun m => M.1 127 (13 + 3 * m)) (otF (M.1 127 1) (M.1 129) me m) needs me m) s) + 0)), (5, .int ((Int32.ofNat s) + 1))], [], M)
        refine ⟨s + 1, ehb, by omega, ?_⟩
        rw [ofn_s1, cnF_f (tnQ_0 (fn_ne hLcf)), Int32.add_zero]
      · show ∃ R, cm_Lc cm_ms 213 [.ref 124, .int (Int32.ofNat s)] M R ∧ ∀ v M', R v M' → _
        refine ⟨_, m_votes h15 h3 hme (Int32.ofNat s), ?_⟩
        rintro v M' ⟨hM, rfl⟩
        subst M'
        show (ev_cmp 3 (voF (fun m => M.1 127 (13 + 3 * m)) (Int32.ofNat s) me) needs = true → _) ∧ (ev_cmp 3 (voF (fun m => M.1 127 (13 + 3 * m)) (Int32.ofNat s) me) needs = false → _)
        refine ⟨fun hLcffc => ?_, fun hLcffc => ?_⟩
        · show (fun (S : cm_S) => ∃ s, bdB (M.1 127 1) (M.1 129 m) = false ∧ s ≤ 2 ^ me ∧ S = (31, [(0, .ref 124), (1, .int (Int32.ofNat m)), (2, .int needs), (3, .int (otF (M.1 127 1) (M.1 129) me m)), (4, .int (cnF (tnQ (fun m => M.1 127 (13 + 3 * m)) (otF (M.1 127 1) (M.1 129) me m) needs me m) s)), (5, .int (Int32.ofNat s))], [], M)) (31, [(0, .ref 124), (1, .int (Int32.ofNat m)), (2, .int needs), (3, .int (otF (M.1 127 1) (M.1 129) me m)), (4, .int ((cnF (tnQ (fun m => M.1 127 (13 + 3 * m)) (otF (M.1 127 1) (M.1 129) me m) needs me m) s) + 0)), (5, .int ((Int32.ofNat s) + 1))], [], M)
          refine ⟨s + 1, ehb, by omega, ?_⟩
          rw [ofn_s1, cnF_f (tnQ_1 (bd_0 (fn_ge hLcffc))), Int32.add_zero]
        · show ∃ R, cm_Lc cm_ms 213 [.ref 124, .int ((Int32.ofNat s) ||| (1 <<< ((Int32.ofNat m) &&& 31)))] M R ∧ ∀ v M', R v M' → _
          refine ⟨_, m_votes h15 h3 hme (Int32.ofNat s ||| sB m), ?_⟩
          rintro v M' ⟨hM, rfl⟩
          subst M'
          show (ev_cmp 2 (voF (fun m => M.1 127 (13 + 3 * m)) (Int32.ofNat s ||| sB m) me) needs = true → _) ∧ (ev_cmp 2 (voF (fun m => M.1 127 (13 + 3 * m)) (Int32.ofNat s ||| sB m) me) needs = false → _)
          refine ⟨fun hLcffcfc => ?_, fun hLcffcfc => ?_⟩
          · show (fun (S : cm_S) => ∃ s, bdB (M.1 127 1) (M.1 129 m) = false ∧ s ≤ 2 ^ me ∧ S = (31, [(0, .ref 124), (1, .int (Int32.ofNat m)), (2, .int needs), (3, .int (otF (M.1 127 1) (M.1 129) me m)), (4, .int (cnF (tnQ (fun m => M.1 127 (13 + 3 * m)) (otF (M.1 127 1) (M.1 129) me m) needs me m) s)), (5, .int (Int32.ofNat s))], [], M)) (31, [(0, .ref 124), (1, .int (Int32.ofNat m)), (2, .int needs), (3, .int (otF (M.1 127 1) (M.1 129) me m)), (4, .int ((cnF (tnQ (fun m => M.1 127 (13 + 3 * m)) (otF (M.1 127 1) (M.1 129) me m) needs me m) s) + 0)), (5, .int ((Int32.ofNat s) + 1))], [], M)
            refine ⟨s + 1, ehb, by omega, ?_⟩
            rw [ofn_s1, cnF_f (tnQ_2 (ge_0 (fn_lt hLcffcfc))), Int32.add_zero]
          · show (fun (S : cm_S) => ∃ s, bdB (M.1 127 1) (M.1 129 m) = false ∧ s ≤ 2 ^ me ∧ S = (31, [(0, .ref 124), (1, .int (Int32.ofNat m)), (2, .int needs), (3, .int (otF (M.1 127 1) (M.1 129) me m)), (4, .int (cnF (tnQ (fun m => M.1 127 (13 + 3 * m)) (otF (M.1 127 1) (M.1 129) me m) needs me m) s)), (5, .int (Int32.ofNat s))], [], M)) (31, [(0, .ref 124), (1, .int (Int32.ofNat m)), (2, .int needs), (3, .int (otF (M.1 127 1) (M.1 129) me m)), (4, .int ((cnF (tnQ (fun m => M.1 127 (13 + 3 * m)) (otF (M.1 127 1) (M.1 129) me m) needs me m) s) + 1)), (5, .int ((Int32.ofNat s) + 1))], [], M)
            refine ⟨s + 1, ehb, by omega, ?_⟩
            rw [ofn_s1, cnF_t (tnQ_3 (fn_eq hLcf) (bd_1 (fn_nge hLcffc)) (ge_1 (fn_nlt hLcffcfc)))]
  · first | refine lb_to (T := (2, [(0, .ref 124), (1, .int (Int32.ofNat m)), (2, .int needs)], [.ref 124, .ref 124], M)) 2 [0, 1, 2] rfl rfl rfl (fun J' h => h) (lb_g0 rfl rfl h17 ?_) | refine lb_to0 (T := (2, [(0, .ref 124), (1, .int (Int32.ofNat m)), (2, .int needs)], [.ref 124, .ref 124], M)) 2 [0, 1, 2] rfl rfl rfl (fun J' h => h) (lb_g0 rfl rfl h17 ?_)
    show ∃ R, cm_Lc cm_ms 209 [.ref 124, .ref 129, .int (Int32.ofNat m)] M R ∧ ∀ v M', R v M' → _
    have hbd := m_isBaldR (M := M) (d := 129) h15 (Int32.ofNat m)
    rw [em] at hbd
    refine ⟨_, hbd, ?_⟩
    rintro v M' ⟨hM, rfl⟩
    subst M'
    show (ev_cmp 0 (bi (bdB (M.1 127 1) (M.1 129 m))) 0 = true → _) ∧ (ev_cmp 0 (bi (bdB (M.1 127 1) (M.1 129 m))) 0 = false → _)
    refine ⟨fun hc => ?_, fun hc => ?_⟩
    · show ∃ R, cm_Lc cm_ms 228 [.ref 124] M R ∧ ∀ v M', R v M' → _
      have hha : cm_Lc cm_ms 228 [.ref 124] M (fun v M' => M' = M ∧ v = some (.int (haF (M.1 127 1) (M.1 129) me))) := m_hairy h15 h17 h3 hme
      refine ⟨_, hha, ?_⟩
      rintro v M' ⟨hM, rfl⟩
      subst M'
      show (fun (S : cm_S) => ∃ s, bdB (M.1 127 1) (M.1 129 m) = false ∧ s ≤ 2 ^ me ∧ S = (31, [(0, .ref 124), (1, .int (Int32.ofNat m)), (2, .int needs), (3, .int (otF (M.1 127 1) (M.1 129) me m)), (4, .int (cnF (tnQ (fun m => M.1 127 (13 + 3 * m)) (otF (M.1 127 1) (M.1 129) me m) needs me m) s)), (5, .int (Int32.ofNat s))], [], M)) (31, [(0, .ref 124), (1, .int (Int32.ofNat m)), (2, .int needs), (3, .int ((haF (M.1 127 1) (M.1 129) me) &&& ((1 <<< ((Int32.ofNat m) &&& 31)) ^^^ (-1)))), (4, .int 0), (5, .int 0)], [], M)
      exact ⟨0, bi_0 hc, Nat.zero_le _, rfl⟩
    · refine ⟨rfl, ?_⟩
      show some (Value.int 0) = some (Value.int (tnG _ _ _ _ _ _))
      unfold tnG
      rw [tn_t (bi_1 hc)]
theorem nd_out {y : Int32} (h : y.toInt < 0 ∨ 54 < y.toInt) : inB y 0 54 = false := by
  unfold inB
  rw [show (0 : Int32).toInt = 0 by decide, show (54 : Int32).toInt = 54 by decide, Bool.and_eq_false_iff, decide_eq_false_iff_not, decide_eq_false_iff_not]
  omega
theorem nd_ok {y : Int32} (h1 : 0 ≤ y.toInt) (h2 : y.toInt ≤ 54) : inB y 0 54 = true := by
  unfold inB
  rw [show (0 : Int32).toInt = 0 by decide, show (54 : Int32).toInt = 54 by decide, decide_eq_true h1, decide_eq_true h2]
  try rfl
theorem c_needs {M : cm_M} (y : Int32) : cm_Lc cm_ms 127 [.ref 0, .int y] M (fun v M' => M' = M ∧ v = some (.int (bi (!inB y 0 54)))) := by
  have z0 : (0 : Int32).toInt = 0 := by decide
  have z54 : (54 : Int32).toInt = 54 := by decide
  refine lb_st0 (mi := mr_127) rfl 400 ?_
  show (ev_cmp 2 y 0 = true → _) ∧ (ev_cmp 2 y 0 = false → _)
  refine ⟨fun h => ?_, fun h => ?_⟩
  · have q := fn_lt h
    rw [z0] at q
    refine ⟨rfl, ?_⟩
    rw [nd_out (Or.inl q)]
    try rfl
  · have q := fn_nlt h
    rw [z0] at q
    show (ev_cmp 5 y 54 = true → _) ∧ (ev_cmp 5 y 54 = false → _)
    refine ⟨fun hf => ?_, fun hf => ?_⟩
    · have q2 := fn_le hf
      rw [z54] at q2
      refine ⟨rfl, ?_⟩
      rw [nd_ok q q2]
      try rfl
    · have q2 := fn_nle hf
      rw [z54] at q2
      refine ⟨rfl, ?_⟩
      rw [nd_out (Or.inr q2)]
      try rfl
/-- the mightiest: who, his turns -/
noncomputable def miF (t : Nat → Int32) : Nat → Int32 × Int32
  | 0 => (-2, 0)
  | m + 1 => if (miF t m).2.toInt < (t m).toInt then (Int32.ofNat m, t m) else miF t m
theorem miF_y {t : Nat → Int32} {m : Nat} (h : (miF t m).2.toInt < (t m).toInt) : miF t (m + 1) = (Int32.ofNat m, t m) := if_pos h
theorem miF_n {t : Nat → Int32} {m : Nat} (h : ¬ (miF t m).2.toInt < (t m).toInt) : miF t (m + 1) = miF t m := if_neg h
theorem miF_cg {t t' : Nat → Int32} : ∀ n, (∀ m, m < n → t' m = t m) → miF t' n = miF t n
  | 0, _ => rfl
  | n + 1, h => by
    unfold miF
    rw [h n (by omega), miF_cg (t := t) n (fun m hm => h m (by omega))]
theorem c_mighty_no {M : cm_M} {T' me mo : Nat} (hx : CTX T' me mo M) (y : Int32) (ho : (!inB y 0 54 || decide (M.1 T' 3 = 0)) = true) : cm_Lc cm_ms 121 [.ref 0, .int y] M (fun v _ => v = some (.int (-1))) := by
  have h6T : 6 ≤ T' := by have := hx.1; omega
  have hT19 : T' ≤ 19 := by have := hx.1; omega
  have hme6 := hx.2.2.2.2.2.1
  have hr := c_refusedOf h6T hx.2.1.1 (!inB y 0 54)
  rw [ho] at hr
  refine lb_st0 (mi := mr_121) rfl 400 ?_
  show ∃ R, cm_Lc cm_ms 127 [.ref 0, .int y] M R ∧ ∀ v M', R v M' → _
  refine ⟨_, c_needs (M := M) y, ?_⟩
  rintro v M' ⟨hM, rfl⟩
  subst M'
  show ∃ R, cm_Lc cm_ms 158 [.ref 0, .int (bi !inB y 0 54)] M R ∧ ∀ v M', R v M' → _
  refine ⟨_, hr, ?_⟩
  rintro v Mb ⟨rfl, hs, -⟩
  show (ev_cmp 0 (bi true) 0 = true → _) ∧ (ev_cmp 0 (bi true) 0 = false → _)
  refine ⟨fun hcc => ?_, fun hcc => ?_⟩
  · exact absurd hcc (by decide)
  · exact rfl
theorem m_mighty_no {a : Bool} {me mo : Nat} {M : cm_M} (hx : MTX a me mo M) (y : Int32) (ho : (a && inB y 0 54) = false) : cm_Lc cm_ms 251 [.ref 124, .int y] M (fun v _ => v = some (.int (-1))) := by
  refine lb_st0 (mi := mr_251) rfl 400 ?_
  show ∃ R, cm_Lc cm_ms 164 [.ref 124] M R ∧ ∀ v M', R v M' → _
  refine ⟨_, m_goodG M, ?_⟩
  rintro v M' ⟨rfl, rfl⟩
  have hg := MTX_gd hx
  have hme6 := hx.2.2.2.2.2.1
  have hmo5 := hx.2.2.2.2.2.2
  have e127 : (gdM M).1 127 = M.1 127 := funext fun j => gd_n (by omega)
  have e129 : (gdM M).1 129 = M.1 129 := funext fun j => gd_n (by omega)
  show ∃ R, cm_Lc cm_ms 167 [.int y, .int 0, .int 54] (gdM M) R ∧ ∀ v M', R v M' → _
  refine ⟨_, m_in2 y 0 54 (gdM M), ?_⟩
  rintro v M' ⟨hM, rfl⟩
  subst M'
  show ∃ R, cm_Lc cm_ms 233 [.ref 124, .int ((gdM M).1 124 14), .int (bi (inB y 0 54))] (gdM M) R ∧ ∀ v M', R v M' → _
  have hw := m_why a (inB y 0 54) (gdM M)
  rw [← hx.1, ← gd_n (M := M) (d := 124) (j := 14) (by omega)] at hw
  refine ⟨_, hw, ?_⟩
  rintro v Mz ⟨hM, rfl⟩
  subst Mz
  show (ev_cmp 0 (whyF a (inB y 0 54)) 0 = true → _) ∧ (ev_cmp 0 (whyF a (inB y 0 54)) 0 = false → _)
  refine ⟨fun hccc => ?_, fun hccc => ?_⟩
  · have q := fn_eq0 hccc
    have q1 : (a && inB y 0 54) = true := by
      cases a <;> cases hi : inB y 0 54 <;> rw [hi] at q <;> first | rfl | exact absurd q (by decide)
    rw [ho] at q1
    cases q1
  · show ∃ R, cm_Lc cm_ms 165 [.ref 124, .int (whyF a (inB y 0 54))] (gdM M) R ∧ ∀ v M', R v M' → _
    refine ⟨_, m_noG (whyF a (inB y 0 54)) (gdM M), ?_⟩
    rintro v Mz ⟨hG, rfl⟩
    exact rfl
set_option maxRecDepth 100000 in
theorem c_mighty_k {M : cm_M} {T' me mo : Nat} (hx : CTX T' me mo M) (h0 : 0 < me) (y : Int32) (hy : inB y 0 54 = true) : cm_Lc cm_ms 121 [.ref 0, .int y] M (fun v _ => v = some (.int ((miF (fun m => tnF (M.1 T' 1) y (M.1 33) (M.1 (T' + 3)) me m) me).1))) := by
  have h6T : 6 ≤ T' := by have := hx.1; omega
  have hT19 : T' ≤ 19 := by have := hx.1; omega
  have hme6 := hx.2.2.2.2.2.1
  have hr := c_refusedOf h6T hx.2.1.1 (!inB y 0 54)
  have hz : decide (M.1 T' 3 = 0) = false := decide_eq_false (by
    rw [hx.2.2.2.2.1.1]
    intro q
    rw [ofn_0 (by omega)] at q
    omega)
  rw [hz] at hr
  have hr : cm_Lc cm_ms 158 [.ref 0, .int (bi (!inB y 0 54))] M (fun v M' => v = some (.int (bi false)) ∧ sT M M' ∧ True) := cm_Lc_im hr (fun v M' q => ⟨(by rw [q.1, hy]; try rfl), q.2.1, trivial⟩)
  refine lb_of (mi := mr_121) rfl [(22, [0, 1, 2, 3, 4])] (fun S => ∃ m Mb, m ≤ me ∧ sT M Mb ∧ S = (22, [(0, .ref 0), (1, .int y), (2, .int ((miF (fun m => tnF (M.1 T' 1) y (M.1 33) (M.1 (T' + 3)) me m) m).1)), (3, .int ((miF (fun m => tnF (M.1 T' 1) y (M.1 33) (M.1 (T' + 3)) me m) m).2)), (4, .int (Int32.ofNat m))], [], Mb)) 400 (fun S hS => ?_) 400 ?_
  · obtain ⟨m, Mb, hm, hs, rfl⟩ := hS
    have r3 : Mb.2.2 0 3 = some T' := by rw [hs.1]; exact hx.2.1.1
    have r5 : Mb.2.2 0 5 = some 32 := by rw [hs.1]; exact hx.2.1.2.1
    have r33 : Mb.2.2 32 0 = some 33 := by rw [hs.1]; exact hx.2.2.1.2.2.1.1
    have q6 : Mb.2.2 T' 6 = some (T' + 3) := by rw [hs.1]; exact hx.2.2.2.1 6 3 (by decide)
    have eT : ∀ i, i ≤ 12 → Mb.1 (T' + i) = M.1 (T' + i) := fun i hi => funext fun j => hs.2 (T' + i) j (by omega) (by omega)
    have eT0 : Mb.1 T' = M.1 T' := eT 0 (by omega)
    have e33 : Mb.1 33 = M.1 33 := funext fun j => hs.2 33 j (by omega) (by omega)
    have k3 : Mb.1 T' 3 = Int32.ofNat me := by rw [eT0]; exact hx.2.2.2.2.1.1
    first | refine lb_to (T := (25, [(0, .ref 0), (1, .int y), (2, .int ((miF (fun m => tnF (M.1 T' 1) y (M.1 33) (M.1 (T' + 3)) me m) m).1)), (3, .int ((miF (fun m => tnF (M.1 T' 1) y (M.1 33) (M.1 (T' + 3)) me m) m).2)), (4, .int (Int32.ofNat m))], [.ref 0, .int (Int32.ofNat m)], Mb)) 25 [0, 1, 2, 3, 4] rfl rfl rfl (fun J' h => h) (lb_g0 rfl rfl r3 ?_) | refine lb_to0 (T := (25, [(0, .ref 0), (1, .int y), (2, .int ((miF (fun m => tnF (M.1 T' 1) y (M.1 33) (M.1 (T' + 3)) me m) m).1)), (3, .int ((miF (fun m => tnF (M.1 T' 1) y (M.1 33) (M.1 (T' + 3)) me m) m).2)), (4, .int (Int32.ofNat m))], [.ref 0, .int (Int32.ofNat m)], Mb)) 25 [0, 1, 2, 3, 4] rfl rfl rfl (fun J' h => h) (lb_g0 rfl rfl r3 ?_)
    show (ev_cmp 3 (Int32.ofNat m) (Mb.1 T' 3) = true → _) ∧ (ev_cmp 3 (Int32.ofNat m) (Mb.1 T' 3) = false → _)
    refine ⟨fun hL => ?_, fun hL => ?_⟩
    · have g := fn_ge hL
      rw [k3, fn_toInt (by omega), fn_toInt (by omega)] at g
      have : m = me := by omega
      show ∃ R, cm_Lc cm_ms 159 [.ref 0, .int ((miF (fun m => tnF (M.1 T' 1) y (M.1 33) (M.1 (T' + 3)) me m) m).1)] Mb R ∧ ∀ v M', R v M' → _
      refine ⟨_, c_granted _ _, ?_⟩
      rintro v Mc ⟨hG, rfl⟩
      exact congrArg (fun z => some (Value.int ((miF (fun m => tnF (M.1 T' 1) y (M.1 33) (M.1 (T' + 3)) me m) z).1))) this
    · have g := fn_nge hL
      rw [k3, fn_toInt (by omega), fn_toInt (by omega)] at g
      first | refine lb_to (T := (35, [(0, .ref 0), (1, .int y), (2, .int ((miF (fun m => tnF (M.1 T' 1) y (M.1 33) (M.1 (T' + 3)) me m) m).1)), (3, .int ((miF (fun m => tnF (M.1 T' 1) y (M.1 33) (M.1 (T' + 3)) me m) m).2)), (4, .int (Int32.ofNat m))], [.ref 0], Mb)) 35 [0, 1, 2, 3, 4] rfl rfl rfl (fun J' h => h) (lb_g0 rfl rfl r5 ?_) | refine lb_to0 (T := (35, [(0, .ref 0), (1, .int y), (2, .int ((miF (fun m => tnF (M.1 T' 1) y (M.1 33) (M.1 (T' + 3)) me m) m).1)), (3, .int ((miF (fun m => tnF (M.1 T' 1) y (M.1 33) (M.1 (T' + 3)) me m) m).2)), (4, .int (Int32.ofNat m))], [.ref 0], Mb)) 35 [0, 1, 2, 3, 4] rfl rfl rfl (fun J' h => h) (lb_g0 rfl rfl r5 ?_)
      first | refine lb_to (T := (39, [(0, .ref 0), (1, .int y), (2, .int ((miF (fun m => tnF (M.1 T' 1) y (M.1 33) (M.1 (T' + 3)) me m) m).1)), (3, .int ((miF (fun m => tnF (M.1 T' 1) y (M.1 33) (M.1 (T' + 3)) me m) m).2)), (4, .int (Int32.ofNat m))], [.ref 0, .ref 32], Mb)) 39 [0, 1, 2, 3, 4] rfl rfl rfl (fun J' h => h) (lb_g0 rfl rfl r3 ?_) | refine lb_to0 (T := (39, [(0, .ref 0), (1, .int y), (2, .int ((miF (fun m => tnF (M.1 T' 1) y (M.1 33) (M.1 (T' + 3)) me m) m).1)), (3, .int ((miF (fun m => tnF (M.1 T' 1) y (M.1 33) (M.1 (T' + 3)) me m) m).2)), (4, .int (Int32.ofNat m))], [.ref 0, .ref 32], Mb)) 39 [0, 1, 2, 3, 4] rfl rfl rfl (fun J' h => h) (lb_g0 rfl rfl r3 ?_)
      show ∃ R, cm_Lc cm_ms 37 [.ref 32, .ref T', .int (Int32.ofNat m), .int y] Mb R ∧ ∀ v M', R v M' → _
      have ht2 : cm_Lc cm_ms 37 [.ref 32, .ref T', .int (Int32.ofNat m), .int y] Mb (fun v M' => M' = Mb ∧ v = some (.int (tnF (M.1 T' 1) y (M.1 33) (M.1 (T' + 3)) me m))) := by
        have q := c_turns (M := Mb) (c := 32) (T' := T') (me := me) (m := m) r33 q6 k3 hme6 (by omega) y
        rw [eT0, eT 3 (by omega), show Mb.1 (32 + 1) = M.1 33 from e33] at q
        exact q
      refine ⟨_, ht2, ?_⟩
      rintro v Mz ⟨hM, rfl⟩
      subst Mz
      show (ev_cmp 5 (tnF (M.1 T' 1) y (M.1 33) (M.1 (T' + 3)) me m) ((miF (fun m => tnF (M.1 T' 1) y (M.1 33) (M.1 (T' + 3)) me m) m).2) = true → _) ∧ (ev_cmp 5 (tnF (M.1 T' 1) y (M.1 33) (M.1 (T' + 3)) me m) ((miF (fun m => tnF (M.1 T' 1) y (M.1 33) (M.1 (T' + 3)) me m) m).2) = false → _)
      refine ⟨fun hLfc => ?_, fun hLfc => ?_⟩
      · show (fun (S : cm_S) => ∃ m Mb, m ≤ me ∧ sT M Mb ∧ S = (22, [(0, .ref 0), (1, .int y), (2, .int ((miF (fun m => tnF (M.1 T' 1) y (M.1 33) (M.1 (T' + 3)) me m) m).1)), (3, .int ((miF (fun m => tnF (M.1 T' 1) y (M.1 33) (M.1 (T' + 3)) me m) m).2)), (4, .int (Int32.ofNat m))], [], Mb)) (22, [(0, .ref 0), (1, .int y), (2, .int ((miF (fun m => tnF (M.1 T' 1) y (M.1 33) (M.1 (T' + 3)) me m) m).1)), (3, .int ((miF (fun m => tnF (M.1 T' 1) y (M.1 33) (M.1 (T' + 3)) me m) m).2)), (4, .int ((Int32.ofNat m) + 1))], [], Mb)
        have q := fn_le hLfc
        exact ⟨m + 1, Mb, by omega, hs, by rw [ofn_s1, miF_n (t := (fun m => tnF (M.1 T' 1) y (M.1 33) (M.1 (T' + 3)) me m)) (m := m) (show ¬ (miF (fun m => tnF (M.1 T' 1) y (M.1 33) (M.1 (T' + 3)) me m) m).2.toInt < (tnF (M.1 T' 1) y (M.1 33) (M.1 (T' + 3)) me m).toInt by omega)]; try rfl⟩
      · show (fun (S : cm_S) => ∃ m Mb, m ≤ me ∧ sT M Mb ∧ S = (22, [(0, .ref 0), (1, .int y), (2, .int ((miF (fun m => tnF (M.1 T' 1) y (M.1 33) (M.1 (T' + 3)) me m) m).1)), (3, .int ((miF (fun m => tnF (M.1 T' 1) y (M.1 33) (M.1 (T' + 3)) me m) m).2)), (4, .int (Int32.ofNat m))], [], Mb)) (22, [(0, .ref 0), (1, .int y), (2, .int (Int32.ofNat m)), (3, .int (tnF (M.1 T' 1) y (M.1 33) (M.1 (T' + 3)) me m)), (4, .int ((Int32.ofNat m) + 1))], [], Mb)
        have q := fn_nle hLfc
        exact ⟨m + 1, Mb, by omega, hs, by rw [ofn_s1, miF_y (t := (fun m => tnF (M.1 T' 1) y (M.1 33) (M.1 (T' + 3)) me m)) (m := m) q]; try rfl⟩
  · show ∃ R, cm_Lc cm_ms 127 [.ref 0, .int y] M R ∧ ∀ v M', R v M' → _
    refine ⟨_, c_needs (M := M) y, ?_⟩
    rintro v M' ⟨hM, rfl⟩
    subst M'
    show ∃ R, cm_Lc cm_ms 158 [.ref 0, .int (bi !inB y 0 54)] M R ∧ ∀ v M', R v M' → _
    refine ⟨_, hr, ?_⟩
    rintro v Mb ⟨rfl, hs, -⟩
    show (ev_cmp 0 (bi false) 0 = true → _) ∧ (ev_cmp 0 (bi false) 0 = false → _)
    refine ⟨fun hcc => ?_, fun hcc => ?_⟩
    · show (fun (S : cm_S) => ∃ m Mb, m ≤ me ∧ sT M Mb ∧ S = (22, [(0, .ref 0), (1, .int y), (2, .int ((miF (fun m => tnF (M.1 T' 1) y (M.1 33) (M.1 (T' + 3)) me m) m).1)), (3, .int ((miF (fun m => tnF (M.1 T' 1) y (M.1 33) (M.1 (T' + 3)) me m) m).2)), (4, .int (Int32.ofNat m))], [], Mb)) (22, [(0, .ref 0), (1, .int y), (2, .int (-2)), (3, .int 0), (4, .int 0)], [], Mb)
      exact ⟨0, Mb, Nat.zero_le _, hs, rfl⟩
    · exact absurd hcc (by decide)
set_option maxRecDepth 100000 in
theorem m_mighty_k {a : Bool} {me mo : Nat} {M : cm_M} (hx : MTX a me mo M) (ha : a = true) (y : Int32) (hy : inB y 0 54 = true) : cm_Lc cm_ms 251 [.ref 124, .int y] M (fun v _ => v = some (.int ((miF (fun m => tnG (M.1 127 1) y (M.1 129) (fun j => M.1 127 (13 + 3 * j)) me m) me).1))) := by
  have h15 := hx.2.1.1
  have h17 := hx.2.1.2.1
  have hme6 := hx.2.2.2.2.2.1
  have hg := MTX_gd hx
  have e127 : (gdM M).1 127 = M.1 127 := funext fun j => gd_n (by omega)
  have e129 : (gdM M).1 129 = M.1 129 := funext fun j => gd_n (by omega)
  have h3 : (gdM M).1 127 3 = Int32.ofNat me := by rw [e127]; exact (hx.2.2.1 ha).1
  refine lb_of (mi := mr_251) rfl [(39, [0, 1, 2, 3, 4, 5])] (fun S => ∃ m, m ≤ me ∧ S = (39, [(0, .ref 124), (1, .int y), (2, .int (whyF true true)), (3, .int ((miF (fun m => tnG (M.1 127 1) y (M.1 129) (fun j => M.1 127 (13 + 3 * j)) me m) m).1)), (4, .int ((miF (fun m => tnG (M.1 127 1) y (M.1 129) (fun j => M.1 127 (13 + 3 * j)) me m) m).2)), (5, .int (Int32.ofNat m))], [], gdM M)) 400 (fun S hS => ?_) 400 ?_
  · obtain ⟨m, hm, rfl⟩ := hS
    first | refine lb_to (T := (42, [(0, .ref 124), (1, .int y), (2, .int (whyF true true)), (3, .int ((miF (fun m => tnG (M.1 127 1) y (M.1 129) (fun j => M.1 127 (13 + 3 * j)) me m) m).1)), (4, .int ((miF (fun m => tnG (M.1 127 1) y (M.1 129) (fun j => M.1 127 (13 + 3 * j)) me m) m).2)), (5, .int (Int32.ofNat m))], [.ref 124, .int (Int32.ofNat m)], (gdM M))) 42 [0, 1, 2, 3, 4, 5] rfl rfl rfl (fun J' h => h) (lb_g0 rfl rfl h15 ?_) | refine lb_to0 (T := (42, [(0, .ref 124), (1, .int y), (2, .int (whyF true true)), (3, .int ((miF (fun m => tnG (M.1 127 1) y (M.1 129) (fun j => M.1 127 (13 + 3 * j)) me m) m).1)), (4, .int ((miF (fun m => tnG (M.1 127 1) y (M.1 129) (fun j => M.1 127 (13 + 3 * j)) me m) m).2)), (5, .int (Int32.ofNat m))], [.ref 124, .int (Int32.ofNat m)], (gdM M))) 42 [0, 1, 2, 3, 4, 5] rfl rfl rfl (fun J' h => h) (lb_g0 rfl rfl h15 ?_)
    show (ev_cmp 3 (Int32.ofNat m) ((gdM M).1 127 3) = true → _) ∧ (ev_cmp 3 (Int32.ofNat m) ((gdM M).1 127 3) = false → _)
    refine ⟨fun hL => ?_, fun hL => ?_⟩
    · have g := fn_ge hL
      rw [h3, fn_toInt (by omega), fn_toInt (by omega)] at g
      have : m = me := by omega
      subst this
      exact rfl
    · have g := fn_nge hL
      rw [h3, fn_toInt (by omega), fn_toInt (by omega)] at g
      show ∃ R, cm_Lc cm_ms 249 [.ref 124, .int (Int32.ofNat m), .int y] (gdM M) R ∧ ∀ v M', R v M' → _
      have ht := m_turnsOf (M := gdM M) (me := me) (m := m) h15 h17 h3 hme6 (by omega) y
      rw [e127, e129] at ht
      refine ⟨_, ht, ?_⟩
      rintro v M' ⟨hM, rfl⟩
      subst M'
      show (ev_cmp 4 (tnG (M.1 127 1) y (M.1 129) (fun j => M.1 127 (13 + 3 * j)) me m) ((miF (fun m => tnG (M.1 127 1) y (M.1 129) (fun j => M.1 127 (13 + 3 * j)) me m) m).2) = true → _) ∧ (ev_cmp 4 (tnG (M.1 127 1) y (M.1 129) (fun j => M.1 127 (13 + 3 * j)) me m) ((miF (fun m => tnG (M.1 127 1) y (M.1 129) (fun j => M.1 127 (13 + 3 * j)) me m) m).2) = false → _)
      refine ⟨fun hLfc => ?_, fun hLfc => ?_⟩
      · show ∃ R, cm_Lc cm_ms 249 [.ref 124, .int (Int32.ofNat m), .int y] (gdM M) R ∧ ∀ v M', R v M' → _
        have ht := m_turnsOf (M := gdM M) (me := me) (m := m) h15 h17 h3 hme6 (by omega) y
        rw [e127, e129] at ht
        refine ⟨_, ht, ?_⟩
        rintro v M' ⟨hM, rfl⟩
        subst M'
        show (fun (S : cm_S) => ∃ m, m ≤ me ∧ S = (39, [(0, .ref 124), (1, .int y), (2, .int (whyF true true)), (3, .int ((miF (fun m => tnG (M.1 127 1) y (M.1 129) (fun j => M.1 127 (13 + 3 * j)) me m) m).1)), (4, .int ((miF (fun m => tnG (M.1 127 1) y (M.1 129) (fun j => M.1 127 (13 + 3 * j)) me m) m).2)), (5, .int (Int32.ofNat m))], [], gdM M)) (39, [(0, .ref 124), (1, .int y), (2, .int (whyF true true)), (3, .int (Int32.ofNat m)), (4, .int (tnG (M.1 127 1) y (M.1 129) (fun j => M.1 127 (13 + 3 * j)) me m)), (5, .int ((Int32.ofNat m) + 1))], [], (gdM M))
        have q := fn_gt hLfc
        exact ⟨m + 1, by omega, by rw [ofn_s1, miF_y (t := (fun m => tnG (M.1 127 1) y (M.1 129) (fun j => M.1 127 (13 + 3 * j)) me m)) (m := m) q]; try rfl⟩
      · show (fun (S : cm_S) => ∃ m, m ≤ me ∧ S = (39, [(0, .ref 124), (1, .int y), (2, .int (whyF true true)), (3, .int ((miF (fun m => tnG (M.1 127 1) y (M.1 129) (fun j => M.1 127 (13 + 3 * j)) me m) m).1)), (4, .int ((miF (fun m => tnG (M.1 127 1) y (M.1 129) (fun j => M.1 127 (13 + 3 * j)) me m) m).2)), (5, .int (Int32.ofNat m))], [], gdM M)) (39, [(0, .ref 124), (1, .int y), (2, .int (whyF true true)), (3, .int ((miF (fun m => tnG (M.1 127 1) y (M.1 129) (fun j => M.1 127 (13 + 3 * j)) me m) m).1)), (4, .int ((miF (fun m => tnG (M.1 127 1) y (M.1 129) (fun j => M.1 127 (13 + 3 * j)) me m) m).2)), (5, .int ((Int32.ofNat m) + 1))], [], (gdM M))
        have q := fn_ngt hLfc
        exact ⟨m + 1, by omega, by rw [ofn_s1, miF_n (t := (fun m => tnG (M.1 127 1) y (M.1 129) (fun j => M.1 127 (13 + 3 * j)) me m)) (m := m) (show ¬ (miF (fun m => tnG (M.1 127 1) y (M.1 129) (fun j => M.1 127 (13 + 3 * j)) me m) m).2.toInt < (tnG (M.1 127 1) y (M.1 129) (fun j => M.1 127 (13 + 3 * j)) me m).toInt by omega)]; try rfl⟩
  · show ∃ R, cm_Lc cm_ms 164 [.ref 124] M R ∧ ∀ v M', R v M' → _
    refine ⟨_, m_goodG M, ?_⟩
    rintro v M' ⟨rfl, rfl⟩
    show ∃ R, cm_Lc cm_ms 167 [.int y, .int 0, .int 54] (gdM M) R ∧ ∀ v M', R v M' → _
    have hi := m_in2 y 0 54 (gdM M)
    rw [hy] at hi
    refine ⟨_, hi, ?_⟩
    rintro v M' ⟨hM, rfl⟩
    subst M'
    show ∃ R, cm_Lc cm_ms 233 [.ref 124, .int ((gdM M).1 124 14), .int (bi true)] (gdM M) R ∧ ∀ v M', R v M' → _
    have hw : cm_Lc cm_ms 233 [.ref 124, .int ((gdM M).1 124 14), .int (bi true)] (gdM M) (fun v M' => M' = gdM M ∧ v = some (.int (whyF true true))) := by
      rw [show (gdM M).1 124 14 = bi true from by rw [gd_n (by omega), hx.1, ha]]
      exact m_why true true (gdM M)
    refine ⟨_, hw, ?_⟩
    rintro v Mz ⟨hM, rfl⟩
    subst Mz
    show (ev_cmp 0 (whyF true true) 0 = true → _) ∧ (ev_cmp 0 (whyF true true) 0 = false → _)
    refine ⟨fun hccc => ?_, fun hccc => ?_⟩
    · show (fun (S : cm_S) => ∃ m, m ≤ me ∧ S = (39, [(0, .ref 124), (1, .int y), (2, .int (whyF true true)), (3, .int ((miF (fun m => tnG (M.1 127 1) y (M.1 129) (fun j => M.1 127 (13 + 3 * j)) me m) m).1)), (4, .int ((miF (fun m => tnG (M.1 127 1) y (M.1 129) (fun j => M.1 127 (13 + 3 * j)) me m) m).2)), (5, .int (Int32.ofNat m))], [], gdM M)) (39, [(0, .ref 124), (1, .int y), (2, .int (whyF true true)), (3, .int (-2)), (4, .int 0), (5, .int 0)], [], (gdM M))
      exact ⟨0, Nat.zero_le _, rfl⟩
    · exact absurd hccc (by decide)
