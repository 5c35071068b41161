theorem and01 (x : Int32) : x &&& 1 = 0 ∨ x &&& 1 = 1 := by
  have h2 : (x.toBitVec &&& 1#32).toNat = x.toBitVec.toNat % 2 := by
    rw [BitVec.toNat_and]
    exact Nat.and_one_is_mod _
  rcases (show x.toBitVec.toNat % 2 = 0 ∨ x.toBitVec.toNat % 2 = 1 by omega) with q | q
  · refine Or.inl (Int32.toBitVec_inj.mp (BitVec.eq_of_toNat_eq ?_))
    show (x.toBitVec &&& 1#32).toNat = _
    rw [h2, q]
    try rfl
  · refine Or.inr (Int32.toBitVec_inj.mp (BitVec.eq_of_toNat_eq ?_))
    show (x.toBitVec &&& 1#32).toNat = _
    rw [h2, q]
    try rfl
/-- a bit -/
noncomputable def hb (a : Int32) (k : Nat) : Bool := decide ((a >>> (Int32.ofNat k &&& 31)) &&& 1 = 1)
theorem hb_0 {a : Int32} {k : Nat} (h : (a >>> (Int32.ofNat k &&& 31)) &&& 1 = 0) : hb a k = false := by
  unfold hb
  rw [h]
  try rfl
theorem hb_1 {a : Int32} {k : Nat} (h : ¬ (a >>> (Int32.ofNat k &&& 31)) &&& 1 = 0) : hb a k = true := by
  unfold hb
  rw [(and01 _).resolve_left h]
  try rfl
noncomputable def bdB (ba h : Int32) : Bool := decide (h.toInt < ba.toInt)
theorem bd_1 {ba h : Int32} (q : h.toInt < ba.toInt) : bdB ba h = true := decide_eq_true q
theorem bd_0 {ba h : Int32} (q : ba.toInt ≤ h.toInt) : bdB ba h = false := decide_eq_false (by omega)
/-- a set, collected -/
noncomputable def orF (p : Nat → Bool) : Nat → Int32
  | 0 => 0
  | m + 1 => if p m = true then orF p m ||| sB m else orF p m
theorem orF_t {p : Nat → Bool} {m : Nat} (h : p m = true) : orF p (m + 1) = orF p m ||| sB m := by
  show (if _ then _ else _) = _
  rw [if_pos h]
theorem orF_f {p : Nat → Bool} {m : Nat} (h : p m = false) : orF p (m + 1) = orF p m := by
  show (if _ then _ else _) = _
  rw [h, if_neg (by decide)]
theorem orF_cg {p q : Nat → Bool} : ∀ n, (∀ m, m < n → q m = p m) → orF q n = orF p n
  | 0, _ => rfl
  | n + 1, h => by
    unfold orF
    rw [orF_cg (p := p) n (fun m hm => h m (by omega)), h n (by omega)]
/-- who says yes -/
noncomputable def syB (ba cu ag h : Int32) (k : Nat) : Bool := !bdB ba h && (!bdB cu h && !hb ag k)
/-- votes of a set -/
noncomputable def voF (vo : Nat → Int32) (set : Int32) : Nat → Int32
  | 0 => 0
  | m + 1 => if hb set m = true then voF vo set m + vo m else voF vo set m
theorem voF_t {vo : Nat → Int32} {set : Int32} {m : Nat} (h : hb set m = true) : voF vo set (m + 1) = voF vo set m + vo m := by
  show (if _ then _ else _) = _
  rw [if_pos h]
theorem voF_f {vo : Nat → Int32} {set : Int32} {m : Nat} (h : hb set m = false) : voF vo set (m + 1) = voF vo set m := by
  show (if _ then _ else _) = _
  rw [h, if_neg (by decide)]
theorem voF_cg {vo vo' : Nat → Int32} {set : Int32} : ∀ n, (∀ m, m < n → vo' m = vo m) → voF vo' set n = voF vo set n
  | 0, _ => rfl
  | n + 1, h => by
    unfold voF
    rw [voF_cg (vo := vo) n (fun m hm => h m (by omega)), h n (by omega)]
/-- at least -/
noncomputable def geB (x y : Int32) : Bool := decide (y.toInt ≤ x.toInt)
theorem ge_1 {x y : Int32} (q : y.toInt ≤ x.toInt) : geB x y = true := decide_eq_true q
theorem ge_0 {x y : Int32} (q : x.toInt < y.toInt) : geB x y = false := decide_eq_false (by omega)
theorem c_isBald {M : cm_M} {c T' : Nat} (r0 : M.2.2 c 0 = some (c + 1)) (m : Int32) : cm_Lc cm_ms 25 [.ref c, .ref T', .int m] M (fun v M' => M' = M ∧ v = some (.int (bi (bdB (M.1 T' 1) (M.1 (c + 1) m.toNatClampNeg))))) := by
  refine lb_st0 (mi := mr_25) rfl 400 ?_
  first | refine lb_to (T := (1, [(0, .ref c), (1, .ref T'), (2, .int m)], [.ref c], M)) 1 [0, 1, 2] rfl rfl rfl (fun J' h => h) (lb_g0 rfl rfl r0 ?_) | refine lb_to0 (T := (1, [(0, .ref c), (1, .ref T'), (2, .int m)], [.ref c], M)) 1 [0, 1, 2] rfl rfl rfl (fun J' h => h) (lb_g0 rfl rfl r0 ?_)
  show (ev_cmp 3 (M.1 (c + 1) m.toNatClampNeg) (M.1 T' 1) = true → _) ∧ (ev_cmp 3 (M.1 (c + 1) m.toNatClampNeg) (M.1 T' 1) = false → _)
  refine ⟨fun h => ?_, fun h => ?_⟩
  · refine ⟨rfl, ?_⟩
    rw [bd_0 (fn_ge h)]
    try rfl
  · refine ⟨rfl, ?_⟩
    rw [bd_1 (fn_nge h)]
    try rfl
set_option maxRecDepth 100000 in
theorem c_baldMen {M : cm_M} {c T' me : Nat} (r0 : M.2.2 c 0 = some (c + 1)) (h3 : M.1 T' 3 = Int32.ofNat me) (hme : me ≤ 6) : cm_Lc cm_ms 26 [.ref c, .ref T'] M (fun v M' => M' = M ∧ v = some (.int (orF (fun m => bdB (M.1 T' 1) (M.1 (c + 1) m)) me))) := by
  refine lb_of (mi := mr_26) rfl [(4, [0, 1, 2, 3])] (fun S => ∃ m, m ≤ me ∧ S = (4, [(0, .ref c), (1, .ref T'), (2, .int (orF (fun m => bdB (M.1 T' 1) (M.1 (c + 1) m)) m)), (3, .int (Int32.ofNat m))], [], M)) 400 (fun S hS => ?_) 400 ?_
  · obtain ⟨m, hm, rfl⟩ := hS
    show (ev_cmp 3 (Int32.ofNat m) (M.1 T' 3) = true → _) ∧ (ev_cmp 3 (Int32.ofNat m) (M.1 T' 3) = false → _)
    refine ⟨fun hL => ?_, fun hL => ?_⟩
    · have g := fn_ge hL
      rw [h3, fn_toInt (by omega), fn_toInt (by omega)] at g
      have : m = me := by omega
      subst this
      exact ⟨rfl, rfl⟩
    · have gi := fn_nge hL
      rw [h3, fn_toInt (by omega), fn_toInt (by omega)] at gi
      have hc : cm_Lc cm_ms 25 [.ref c, .ref T', .int (Int32.ofNat m)] M (fun v M' => M' = M ∧ v = some (.int (bi (bdB (M.1 T' 1) (M.1 (c + 1) m))))) := by
        have q := c_isBald (T' := T') r0 (Int32.ofNat m)
        rw [fn_nat (show m < 2147483648 by omega)] at q
        exact q
      show ∃ R, cm_Lc cm_ms 25 [.ref c, .ref T', .int (Int32.ofNat m)] M R ∧ ∀ v M', R v M' → _
      refine ⟨_, hc, ?_⟩
      rintro v M' ⟨hM, rfl⟩
      subst M'
      show (ev_cmp 0 (bi (bdB (M.1 T' 1) (M.1 (c + 1) m))) 0 = true → _) ∧ (ev_cmp 0 (bi (bdB (M.1 T' 1) (M.1 (c + 1) m))) 0 = false → _)
      refine ⟨fun hLfc => ?_, fun hLfc => ?_⟩
      · show (fun (S : cm_S) => ∃ m, m ≤ me ∧ S = (4, [(0, .ref c), (1, .ref T'), (2, .int (orF (fun m => bdB (M.1 T' 1) (M.1 (c + 1) m)) m)), (3, .int (Int32.ofNat m))], [], M)) (4, [(0, .ref c), (1, .ref T'), (2, .int (orF (fun m => bdB (M.1 T' 1) (M.1 (c + 1) m)) m)), (3, .int ((Int32.ofNat m) + 1))], [], M)
        refine ⟨m + 1, by omega, ?_⟩
        rw [ofn_s1, orF_f (p := fun m => bdB (M.1 T' 1) (M.1 (c + 1) m)) (bi_0 hLfc)]
      · show (fun (S : cm_S) => ∃ m, m ≤ me ∧ S = (4, [(0, .ref c), (1, .ref T'), (2, .int (orF (fun m => bdB (M.1 T' 1) (M.1 (c + 1) m)) m)), (3, .int (Int32.ofNat m))], [], M)) (4, [(0, .ref c), (1, .ref T'), (2, .int ((orF (fun m => bdB (M.1 T' 1) (M.1 (c + 1) m)) m) ||| (1 <<< ((Int32.ofNat m) &&& 31)))), (3, .int ((Int32.ofNat m) + 1))], [], M)
        refine ⟨m + 1, by omega, ?_⟩
        rw [ofn_s1, orF_t (p := fun m => bdB (M.1 T' 1) (M.1 (c + 1) m)) (bi_1 hLfc)]
        try rfl
  · show (fun (S : cm_S) => ∃ m, m ≤ me ∧ S = (4, [(0, .ref c), (1, .ref T'), (2, .int (orF (fun m => bdB (M.1 T' 1) (M.1 (c + 1) m)) m)), (3, .int (Int32.ofNat m))], [], M)) (4, [(0, .ref c), (1, .ref T'), (2, .int 0), (3, .int 0)], [], M)
    exact ⟨0, Nat.zero_le _, rfl⟩
theorem sB_m : ∀ me, me < 7 → sB me - 1 = Int32.ofNat (2 ^ me - 1) := by decide +kernel
theorem c_hairy {M : cm_M} {c T' me : Nat} (r0 : M.2.2 c 0 = some (c + 1)) (h3 : M.1 T' 3 = Int32.ofNat me) (hme : me ≤ 6) : cm_Lc cm_ms 27 [.ref c, .ref T'] M (fun v M' => M' = M ∧ v = some (.int (Int32.ofNat (2 ^ me - 1) &&& (orF (fun m => bdB (M.1 T' 1) (M.1 (c + 1) m)) me ^^^ -1)))) := by
  refine lb_st0 (mi := mr_27) rfl 400 ?_
  show ∃ R, cm_Lc cm_ms 26 [.ref c, .ref T'] M R ∧ ∀ v M', R v M' → _
  refine ⟨_, c_baldMen r0 h3 hme, ?_⟩
  rintro v M' ⟨hM, rfl⟩
  subst M'
  refine ⟨rfl, ?_⟩
  show some (Value.int (((1 : Int32) <<< (M.1 T' 3 &&& 31) - 1) &&& (orF (fun m => bdB (M.1 T' 1) (M.1 (c + 1) m)) me ^^^ -1))) = _
  have e : (1 : Int32) <<< (M.1 T' 3 &&& 31) - 1 = Int32.ofNat (2 ^ me - 1) := by
    rw [h3]
    exact sB_m me (by omega)
  rw [e]
theorem c_says {M : cm_M} {c T' m k : Nat} (r0 : M.2.2 c 0 = some (c + 1)) (h10 : M.2.2 T' 10 = some (T' + 6)) (h7 : M.2.2 T' 7 = some (T' + 4)) (hm : m < 1000) (hk : k < 1000) : cm_Lc cm_ms 28 [.ref c, .ref T', .int (Int32.ofNat m), .int (Int32.ofNat k)] M (fun v M' => M' = M ∧ v = some (.int (bi (syB (M.1 T' 1) (M.1 (T' + 6) k) (M.1 (T' + 4) m) (M.1 (c + 1) m) k)))) := by
  have em := fn_nat (show m < 2147483648 by omega)
  have ek := fn_nat (show k < 2147483648 by omega)
  refine lb_st0 (mi := mr_28) rfl 400 ?_
  first | refine lb_to (T := (1, [(0, .ref c), (1, .ref T'), (2, .int (Int32.ofNat m)), (3, .int (Int32.ofNat k))], [.ref c], M)) 1 [0, 1, 2, 3] rfl rfl rfl (fun J' h => h) (lb_g0 rfl rfl r0 ?_) | refine lb_to0 (T := (1, [(0, .ref c), (1, .ref T'), (2, .int (Int32.ofNat m)), (3, .int (Int32.ofNat k))], [.ref c], M)) 1 [0, 1, 2, 3] rfl rfl rfl (fun J' h => h) (lb_g0 rfl rfl r0 ?_)
  show (ev_cmp 2 (M.1 (c + 1) ((Int32.ofNat m).toNatClampNeg)) (M.1 T' 1) = true → _) ∧ (ev_cmp 2 (M.1 (c + 1) ((Int32.ofNat m).toNatClampNeg)) (M.1 T' 1) = false → _)
  refine ⟨fun h => ?_, fun h => ?_⟩
  · have g := fn_lt h
    rw [em] at g
    refine ⟨rfl, ?_⟩
    unfold syB
    rw [bd_1 g]
    try rfl
  · have g := fn_nlt h
    rw [em] at g
    first | refine lb_to (T := (14, [(0, .ref c), (1, .ref T'), (2, .int (Int32.ofNat m)), (3, .int (Int32.ofNat k))], [.ref c], M)) 14 [0, 1, 2, 3] rfl rfl rfl (fun J' h => h) (lb_g0 rfl rfl r0 ?_) | refine lb_to0 (T := (14, [(0, .ref c), (1, .ref T'), (2, .int (Int32.ofNat m)), (3, .int (Int32.ofNat k))], [.ref c], M)) 14 [0, 1, 2, 3] rfl rfl rfl (fun J' h => h) (lb_g0 rfl rfl r0 ?_)
    first | refine lb_to (T := (20, [(0, .ref c), (1, .ref T'), (2, .int (Int32.ofNat m)), (3, .int (Int32.ofNat k))], [.ref T', .int (M.1 (c + 1) ((Int32.ofNat m).toNatClampNeg))], M)) 20 [0, 1, 2, 3] rfl rfl rfl (fun J' h => h) (lb_g0 rfl rfl h10 ?_) | refine lb_to0 (T := (20, [(0, .ref c), (1, .ref T'), (2, .int (Int32.ofNat m)), (3, .int (Int32.ofNat k))], [.ref T', .int (M.1 (c + 1) ((Int32.ofNat m).toNatClampNeg))], M)) 20 [0, 1, 2, 3] rfl rfl rfl (fun J' h => h) (lb_g0 rfl rfl h10 ?_)
    show (ev_cmp 2 (M.1 (c + 1) ((Int32.ofNat m).toNatClampNeg)) (M.1 (T' + 6) ((Int32.ofNat k).toNatClampNeg)) = true → _) ∧ (ev_cmp 2 (M.1 (c + 1) ((Int32.ofNat m).toNatClampNeg)) (M.1 (T' + 6) ((Int32.ofNat k).toNatClampNeg)) = false → _)
    refine ⟨fun hf => ?_, fun hf => ?_⟩
    · have g2 := fn_lt hf
      rw [em, ek] at g2
      refine ⟨rfl, ?_⟩
      unfold syB
      rw [bd_0 g, bd_1 g2]
      try rfl
    · have g2 := fn_nlt hf
      rw [em, ek] at g2
      first | refine lb_to (T := (29, [(0, .ref c), (1, .ref T'), (2, .int (Int32.ofNat m)), (3, .int (Int32.ofNat k))], [.ref T'], M)) 29 [0, 1, 2, 3] rfl rfl rfl (fun J' h => h) (lb_g0 rfl rfl h7 ?_) | refine lb_to0 (T := (29, [(0, .ref c), (1, .ref T'), (2, .int (Int32.ofNat m)), (3, .int (Int32.ofNat k))], [.ref T'], M)) 29 [0, 1, 2, 3] rfl rfl rfl (fun J' h => h) (lb_g0 rfl rfl h7 ?_)
      show (ev_cmp 1 (((M.1 (T' + 4) ((Int32.ofNat m).toNatClampNeg)) >>> ((Int32.ofNat k) &&& 31)) &&& 1) 0 = true → _) ∧ (ev_cmp 1 (((M.1 (T' + 4) ((Int32.ofNat m).toNatClampNeg)) >>> ((Int32.ofNat k) &&& 31)) &&& 1) 0 = false → _)
      refine ⟨fun hff => ?_, fun hff => ?_⟩
      · have g3 := fn_ne hff
        rw [em] at g3
        refine ⟨rfl, ?_⟩
        unfold syB
        rw [bd_0 g, bd_0 g2, hb_1 g3]
        try rfl
      · have g3 := fn_eq hff
        rw [em] at g3
        refine ⟨rfl, ?_⟩
        unfold syB
        rw [bd_0 g, bd_0 g2, hb_0 g3]
        try rfl
set_option maxRecDepth 100000 in
theorem c_yesMen {M : cm_M} {c T' me k : Nat} (r0 : M.2.2 c 0 = some (c + 1)) (h10 : M.2.2 T' 10 = some (T' + 6)) (h7 : M.2.2 T' 7 = some (T' + 4)) (h3 : M.1 T' 3 = Int32.ofNat me) (hme : me ≤ 6) (hk : k < 1000) : cm_Lc cm_ms 30 [.ref c, .ref T', .int (Int32.ofNat k)] M (fun v M' => M' = M ∧ v = some (.int (orF (fun m => syB (M.1 T' 1) (M.1 (T' + 6) k) (M.1 (T' + 4) m) (M.1 (c + 1) m) k) me))) := by
  refine lb_of (mi := mr_30) rfl [(5, [0, 1, 2, 3, 4])] (fun S => ∃ m, m ≤ me ∧ S = (5, [(0, .ref c), (1, .ref T'), (2, .int (Int32.ofNat k)), (3, .int (orF (fun m => syB (M.1 T' 1) (M.1 (T' + 6) k) (M.1 (T' + 4) m) (M.1 (c + 1) m) k) m)), (4, .int (Int32.ofNat m))], [], M)) 400 (fun S hS => ?_) 400 ?_
  · obtain ⟨m, hm, rfl⟩ := hS
    show (ev_cmp 3 (Int32.ofNat m) (M.1 T' 3) = true → _) ∧ (ev_cmp 3 (Int32.ofNat m) (M.1 T' 3) = false → _)
    refine ⟨fun hL => ?_, fun hL => ?_⟩
    · have g := fn_ge hL
      rw [h3, fn_toInt (by omega), fn_toInt (by omega)] at g
      have : m = me := by omega
      subst this
      exact ⟨rfl, rfl⟩
    · have gi := fn_nge hL
      rw [h3, fn_toInt (by omega), fn_toInt (by omega)] at gi
      have hc : cm_Lc cm_ms 28 [.ref c, .ref T', .int (Int32.ofNat m), .int (Int32.ofNat k)] M (fun v M' => M' = M ∧ v = some (.int (bi (syB (M.1 T' 1) (M.1 (T' + 6) k) (M.1 (T' + 4) m) (M.1 (c + 1) m) k)))) := c_says (m := m) r0 h10 h7 (by omega) hk
      show ∃ R, cm_Lc cm_ms 28 [.ref c, .ref T', .int (Int32.ofNat m), .int (Int32.ofNat k)] M R ∧ ∀ v M', R v M' → _
      refine ⟨_, hc, ?_⟩
      rintro v M' ⟨hM, rfl⟩
      subst M'
      show (ev_cmp 0 (bi (syB (M.1 T' 1) (M.1 (T' + 6) k) (M.1 (T' + 4) m) (M.1 (c + 1) m) k)) 0 = true → _) ∧ (ev_cmp 0 (bi (syB (M.1 T' 1) (M.1 (T' + 6) k) (M.1 (T' + 4) m) (M.1 (c + 1) m) k)) 0 = false → _)
      refine ⟨fun hLfc => ?_, fun hLfc => ?_⟩
      · show (fun (S : cm_S) => ∃ m, m ≤ me ∧ S = (5, [(0, .ref c), (1, .ref T'), (2, .int (Int32.ofNat k)), (3, .int (orF (fun m => syB (M.1 T' 1) (M.1 (T' + 6) k) (M.1 (T' + 4) m) (M.1 (c + 1) m) k) m)), (4, .int (Int32.ofNat m))], [], M)) (5, [(0, .ref c), (1, .ref T'), (2, .int (Int32.ofNat k)), (3, .int (orF (fun m => syB (M.1 T' 1) (M.1 (T' + 6) k) (M.1 (T' + 4) m) (M.1 (c + 1) m) k) m)), (4, .int ((Int32.ofNat m) + 1))], [], M)
        refine ⟨m + 1, by omega, ?_⟩
        rw [ofn_s1, orF_f (p := fun m => syB (M.1 T' 1) (M.1 (T' + 6) k) (M.1 (T' + 4) m) (M.1 (c + 1) m) k) (bi_0 hLfc)]
      · show (fun (S : cm_S) => ∃ m, m ≤ me ∧ S = (5, [(0, .ref c), (1, .ref T'), (2, .int (Int32.ofNat k)), (3, .int (orF (fun m => syB (M.1 T' 1) (M.1 (T' + 6) k) (M.1 (T' + 4) m) (M.1 (c + 1) m) k) m)), (4, .int (Int32.ofNat m))], [], M)) (5, [(0, .ref c), (1, .ref T'), (2, .int (Int32.ofNat k)), (3, .int ((orF (fun m => syB (M.1 T' 1) (M.1 (T' + 6) k) (M.1 (T' + 4) m) (M.1 (c + 1) m) k) m) ||| (1 <<< ((Int32.ofNat m) &&& 31)))), (4, .int ((Int32.ofNat m) + 1))], [], M)
        refine ⟨m + 1, by omega, ?_⟩
        rw [ofn_s1, orF_t (p := fun m => syB (M.1 T' 1) (M.1 (T' + 6) k) (M.1 (T' + 4) m) (M.1 (c + 1) m) k) (bi_1 hLfc)]
        try rfl
  · show (fun (S : cm_S) => ∃ m, m ≤ me ∧ S = (5, [(0, .ref c), (1, .ref T'), (2, .int (Int32.ofNat k)), (3, .int (orF (fun m => syB (M.1 T' 1) (M.1 (T' + 6) k) (M.1 (T' + 4) m) (M.1 (c + 1) m) k) m)), (4, .int (Int32.ofNat m))], [], M)) (5, [(0, .ref c), (1, .ref T'), (2, .int (Int32.ofNat k)), (3, .int 0), (4, .int 0)], [], M)
    exact ⟨0, Nat.zero_le _, rfl⟩
set_option maxRecDepth 100000 in
theorem c_votes {M : cm_M} {T' me : Nat} (h6 : M.2.2 T' 6 = some (T' + 3)) (h3 : M.1 T' 3 = Int32.ofNat me) (hme : me ≤ 6) (set : Int32) : cm_Lc cm_ms 13 [.ref T', .int set] M (fun v M' => M' = M ∧ v = some (.int (voF (M.1 (T' + 3)) set me))) := by
  refine lb_of (mi := mr_13) rfl [(4, [0, 1, 2, 3])] (fun S => ∃ m, m ≤ me ∧ S = (4, [(0, .ref T'), (1, .int set), (2, .int (voF (M.1 (T' + 3)) set m)), (3, .int (Int32.ofNat m))], [], M)) 400 (fun S hS => ?_) 400 ?_
  · obtain ⟨m, hm, rfl⟩ := hS
    show (ev_cmp 3 (Int32.ofNat m) (M.1 T' 3) = true → _) ∧ (ev_cmp 3 (Int32.ofNat m) (M.1 T' 3) = false → _)
    refine ⟨fun hL => ?_, fun hL => ?_⟩
    · have g := fn_ge hL
      rw [h3, fn_toInt (by omega), fn_toInt (by omega)] at g
      have : m = me := by omega
      subst this
      exact ⟨rfl, rfl⟩
    · have gi := fn_nge hL
      rw [h3, fn_toInt (by omega), fn_toInt (by omega)] at gi
      show (ev_cmp 0 ((set >>> ((Int32.ofNat m) &&& 31)) &&& 1) 0 = true → _) ∧ (ev_cmp 0 ((set >>> ((Int32.ofNat m) &&& 31)) &&& 1) 0 = false → _)
      refine ⟨fun hLf => ?_, fun hLf => ?_⟩
      · show (fun (S : cm_S) => ∃ m, m ≤ me ∧ S = (4, [(0, .ref T'), (1, .int set), (2, .int (voF (M.1 (T' + 3)) set m)), (3, .int (Int32.ofNat m))], [], M)) (4, [(0, .ref T'), (1, .int set), (2, .int (voF (M.1 (T' + 3)) set m)), (3, .int ((Int32.ofNat m) + 1))], [], M)
        refine ⟨m + 1, by omega, ?_⟩
        rw [ofn_s1, voF_f (hb_0 (fn_eq0 hLf))]
      · first | refine lb_to (T := (22, [(0, .ref T'), (1, .int set), (2, .int (voF (M.1 (T' + 3)) set m)), (3, .int (Int32.ofNat m))], [.ref T', .int (voF (M.1 (T' + 3)) set m)], M)) 22 [0, 1, 2, 3] rfl rfl rfl (fun J' h => h) (lb_g0 rfl rfl h6 ?_) | refine lb_to0 (T := (22, [(0, .ref T'), (1, .int set), (2, .int (voF (M.1 (T' + 3)) set m)), (3, .int (Int32.ofNat m))], [.ref T', .int (voF (M.1 (T' + 3)) set m)], M)) 22 [0, 1, 2, 3] rfl rfl rfl (fun J' h => h) (lb_g0 rfl rfl h6 ?_)
        show (fun (S : cm_S) => ∃ m, m ≤ me ∧ S = (4, [(0, .ref T'), (1, .int set), (2, .int (voF (M.1 (T' + 3)) set m)), (3, .int (Int32.ofNat m))], [], M)) (4, [(0, .ref T'), (1, .int set), (2, .int ((voF (M.1 (T' + 3)) set m) + (M.1 (T' + 3) ((Int32.ofNat m).toNatClampNeg)))), (3, .int ((Int32.ofNat m) + 1))], [], M)
        refine ⟨m + 1, by omega, ?_⟩
        rw [ofn_s1, voF_t (hb_1 (fn_ne0 hLf)), fn_nat (show m < 2147483648 by omega)]
  · show (fun (S : cm_S) => ∃ m, m ≤ me ∧ S = (4, [(0, .ref T'), (1, .int set), (2, .int (voF (M.1 (T' + 3)) set m)), (3, .int (Int32.ofNat m))], [], M)) (4, [(0, .ref T'), (1, .int set), (2, .int 0), (3, .int 0)], [], M)
    exact ⟨0, Nat.zero_le _, rfl⟩
theorem c_wasC {M : cm_M} {c k : Nat} : cm_Lc cm_ms 33 [.ref c, .int (Int32.ofNat k)] M (fun v M' => M' = M ∧ v = some (.int (bi (hb (M.1 c 2) k)))) := by
  refine lb_st0 (mi := mr_33) rfl 400 ?_
  show (ev_cmp 0 (((M.1 c 2) >>> ((Int32.ofNat k) &&& 31)) &&& 1) 0 = true → _) ∧ (ev_cmp 0 (((M.1 c 2) >>> ((Int32.ofNat k) &&& 31)) &&& 1) 0 = false → _)
  refine ⟨fun h => ?_, fun h => ?_⟩
  · refine ⟨rfl, ?_⟩
    rw [hb_0 (fn_eq0 h)]
    try rfl
  · refine ⟨rfl, ?_⟩
    rw [hb_1 (fn_ne0 h)]
    try rfl
/-- a motion may be put -/
noncomputable def mbB (ca am : Int32) (k : Nat) : Bool := !hb ca k && decide (am &&& (ca ^^^ -1) = 0)
theorem c_mayBe {M : cm_M} {c T' k : Nat} (h13 : M.2.2 T' 13 = some (T' + 9)) (hk : k < 1000) : cm_Lc cm_ms 34 [.ref c, .ref T', .int (Int32.ofNat k)] M (fun v M' => M' = M ∧ v = some (.int (bi (mbB (M.1 c 2) (M.1 (T' + 9) k) k)))) := by
  refine lb_st0 (mi := mr_34) rfl 400 ?_
  show ∃ R, cm_Lc cm_ms 33 [.ref c, .int (Int32.ofNat k)] M R ∧ ∀ v M', R v M' → _
  refine ⟨_, c_wasC, ?_⟩
  rintro v M' ⟨hM, rfl⟩
  subst M'
  show (ev_cmp 1 (bi (hb (M.1 c 2) k)) 0 = true → _) ∧ (ev_cmp 1 (bi (hb (M.1 c 2) k)) 0 = false → _)
  refine ⟨fun hc => ?_, fun hc => ?_⟩
  · refine ⟨rfl, ?_⟩
    unfold mbB
    rw [bi_t hc]
    try rfl
  · first | refine lb_to (T := (9, [(0, .ref c), (1, .ref T'), (2, .int (Int32.ofNat k))], [.ref T'], M)) 9 [0, 1, 2] rfl rfl rfl (fun J' h => h) (lb_g0 rfl rfl h13 ?_) | refine lb_to0 (T := (9, [(0, .ref c), (1, .ref T'), (2, .int (Int32.ofNat k))], [.ref T'], M)) 9 [0, 1, 2] rfl rfl rfl (fun J' h => h) (lb_g0 rfl rfl h13 ?_)
    show (ev_cmp 1 ((M.1 (T' + 9) ((Int32.ofNat k).toNatClampNeg)) &&& ((M.1 c 2) ^^^ (-1))) 0 = true → _) ∧ (ev_cmp 1 ((M.1 (T' + 9) ((Int32.ofNat k).toNatClampNeg)) &&& ((M.1 c 2) ^^^ (-1))) 0 = false → _)
    refine ⟨fun hcf => ?_, fun hcf => ?_⟩
    · have g := fn_ne hcf
      rw [fn_nat (show k < 2147483648 by omega)] at g
      refine ⟨rfl, ?_⟩
      unfold mbB
      rw [bi_f hc, decide_eq_false g]
      try rfl
    · have g := fn_eq hcf
      rw [fn_nat (show k < 2147483648 by omega)] at g
      refine ⟨rfl, ?_⟩
      unfold mbB
      rw [bi_f hc, decide_eq_true g]
      try rfl
