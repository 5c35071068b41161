/-! ANSWERS OF BOTH SIDES: parting, left, peace -/
def cpl (s a : Nat) : Nat := a &&& (63 ^^^ s)
set_option maxRecDepth 100000 in
theorem and_t : ∀ a, a < 64 → ∀ s, s < 64 → Int32.ofNat a &&& (Int32.ofNat s ^^^ -1) = Int32.ofNat (cpl s a) ∧ cpl s a < 64 := by decide +kernel
set_option maxRecDepth 100000 in
theorem bitv_t : ∀ a, a < 64 → ∀ k, k < 6 → ((Int32.ofNat a >>> (Int32.ofNat k &&& 31)) &&& 1) = Int32.ofNat (a / 2 ^ k % 2) := by decide +kernel
def onF (x : Int32) : Nat → Int32
  | 0 => 0
  | k + 1 => onF x k + ((x >>> (Int32.ofNat k &&& 31)) &&& 1)
set_option maxRecDepth 100000 in
theorem onF_t : ∀ a, a < 64 → onF (Int32.ofNat a) 8 = Int32.ofNat (pc a) := by decide +kernel
set_option maxRecDepth 100000 in
theorem m_ones0 (x : Int32) (M : cm_M) : cm_Lc cm_ms 169 [.int x] M (fun v M' => M' = M ∧ v = some (.int (onF x 8))) := by
  refine lb_of (mi := mr_169) rfl [(4, [0, 1, 2])] (fun S => ∃ k, k ≤ 8 ∧ S = (4, [(0, .int x), (1, .int (onF x k)), (2, .int (Int32.ofNat k))], [], M)) 400 (fun S hS => ?_) 400 ?_
  · obtain ⟨k, hk, rfl⟩ := hS
    have e8 : (8 : Int32).toInt = 8 := by decide
    show (ev_cmp 3 (Int32.ofNat k) 8 = true → _) ∧ (ev_cmp 3 (Int32.ofNat k) 8 = false → ∃ k', k' ≤ 8 ∧ (4, [(0, Value.int x), (1, .int (onF x k + ((x >>> (Int32.ofNat k &&& 31)) &&& 1))), (2, .int (Int32.ofNat k + 1))], [], M) = _)
    refine ⟨fun h => ?_, fun h => ?_⟩
    · have g := fn_ge h
      rw [e8, fn_toInt (by omega)] at g
      have : k = 8 := by omega
      subst this
      exact ⟨rfl, rfl⟩
    · have g := fn_nge h
      rw [e8, fn_toInt (by omega)] at g
      refine ⟨k + 1, by omega, ?_⟩
      rw [ofn_s1]
      try rfl
  · show ∃ k', k' ≤ 8 ∧ (4, [(0, Value.int x), (1, .int 0), (2, .int (Int32.ofNat 0))], [], M) = _
    exact ⟨0, Nat.zero_le _, rfl⟩
theorem m_ones {a : Nat} (ha : a < 64) (M : cm_M) : cm_Lc cm_ms 169 [.int (Int32.ofNat a)] M (fun v M' => M' = M ∧ v = some (.int (Int32.ofNat (pc a)))) := by
  have q := m_ones0 (Int32.ofNat a) M
  rw [onF_t a ha] at q
  exact q
/-- what the men of a side have with another set -/
def qg (g : Nat → Nat) (qu : Nat → Nat) (s : Nat) : Nat → Nat
  | 0 => 0
  | m + 1 => qg g qu s m + if s / 2 ^ m % 2 = 0 then 0 else pc (g (qu m))
theorem qg_le (g qu : Nat → Nat) (s : Nat) : ∀ n, qg g qu s n ≤ 6 * n
  | 0 => Nat.le_refl _
  | n + 1 => by
    have := qg_le g qu s n
    have := pc_6 (g (qu n))
    unfold qg
    split <;> omega
theorem qg_0 (g qu : Nat → Nat) : ∀ n, qg g qu 0 n = 0
  | 0 => rfl
  | n + 1 => by
    unfold qg
    rw [qg_0 g qu n, Nat.zero_div, if_pos rfl]
def qa (qu : Nat → Nat) (s n : Nat) : Nat := qg (cpl s) qu s n
/-- the town's quarrels -/
def QU (me : Nat) (A : Nat → Int32) (qu : Nat → Nat) : Prop := ∀ m, m < me → A m = Int32.ofNat (qu m) ∧ qu m < 64
set_option maxRecDepth 100000 in
theorem sB_t : ∀ k, k < 7 → sB k = Int32.ofNat (2 ^ k) := by decide +kernel
theorem p2_64 {k : Nat} (h : k ≤ 6) : 2 ^ k ≤ 64 := by
  have := Nat.pow_le_pow_right (n := 2) (by omega) h
  omega
set_option maxRecDepth 100000 in
theorem c_across {M : cm_M} {T' me s : Nat} {qu : Nat → Nat} (h8 : M.2.2 T' 8 = some (T' + 5)) (h3 : M.1 T' 3 = Int32.ofNat me) (hme : me ≤ 6) (hq : QU me (M.1 (T' + 5)) qu) (hs : s < 64) : cm_Lc cm_ms 17 [.ref T', .int (Int32.ofNat s)] M (fun v M' => M' = M ∧ v = some (.int (Int32.ofNat (qa qu s me)))) := by
  refine lb_of (mi := mr_17) rfl [(4, [0, 1, 2, 3])] (fun S => ∃ m, m ≤ me ∧ S = (4, [(0, .ref T'), (1, .int (Int32.ofNat s)), (2, .int (Int32.ofNat (qa qu s m))), (3, .int (Int32.ofNat m))], [], M)) 400 (fun S hS => ?_) 400 ?_
  · obtain ⟨m, hm, rfl⟩ := hS
    show (ev_cmp 3 (Int32.ofNat m) (M.1 T' 3) = true → _) ∧ (ev_cmp 3 (Int32.ofNat m) (M.1 T' 3) = false → (ev_cmp 0 ((Int32.ofNat s >>> (Int32.ofNat m &&& 31)) &&& 1) 0 = true → ∃ m', m' ≤ me ∧ (4, [(0, Value.ref T'), (1, .int (Int32.ofNat s)), (2, .int (Int32.ofNat (qa qu s m))), (3, .int (Int32.ofNat m + 1))], [], M) = _) ∧ (ev_cmp 0 ((Int32.ofNat s >>> (Int32.ofNat m &&& 31)) &&& 1) 0 = false → _))
    refine ⟨fun h => ⟨rfl, ?_⟩, fun h => ⟨fun h2 => ?_, fun h2 => lb_to (T := (22, [(0, .ref T'), (1, .int (Int32.ofNat s)), (2, .int (Int32.ofNat (qa qu s m))), (3, .int (Int32.ofNat m))], [.ref T', .int (Int32.ofNat (qa qu s m))], M)) 22 [0, 1, 2, 3] rfl rfl rfl (fun J' h => h) (lb_g0 rfl rfl h8 ?_)⟩⟩
    · have g := fn_ge h
      rw [h3, fn_toInt (by omega), fn_toInt (by omega)] at g
      have : m = me := by omega
      subst this
      rfl
    · have g := fn_nge h
      rw [h3, fn_toInt (by omega), fn_toInt (by omega)] at g
      refine ⟨m + 1, by omega, ?_⟩
      have e : qa qu s (m + 1) = qa qu s m := by
        show qg _ _ _ _ + _ = _
        rw [if_pos ((bit_t s hs m (by omega)).mp (fn_eq0 h2))]
        try rfl
      rw [ofn_s1, e]
    · have g := fn_nge h
      rw [h3, fn_toInt (by omega), fn_toInt (by omega)] at g
      show ∃ R, cm_Lc cm_ms 0 [.int (M.1 (T' + 5) (Int32.ofNat m).toNatClampNeg &&& (Int32.ofNat s ^^^ -1))] M R ∧ ∀ v M', R v M' → _
      have q := f_bc (M.1 (T' + 5) (Int32.ofNat m).toNatClampNeg &&& (Int32.ofNat s ^^^ -1)) M
      have e : bcF (M.1 (T' + 5) (Int32.ofNat m).toNatClampNeg &&& (Int32.ofNat s ^^^ -1)) = Int32.ofNat (pc (cpl s (qu m))) := by
        have k1 := hq m (by omega)
        have k2 := and_t (qu m) k1.2 s hs
        rw [fn_nat (by omega), k1.1, k2.1, bc_t _ k2.2]
      rw [e] at q
      refine ⟨_, q, ?_⟩
      rintro v M1 ⟨rfl, rfl⟩
      show ∃ m', m' ≤ me ∧ (4, [(0, Value.ref T'), (1, .int (Int32.ofNat s)), (2, .int (Int32.ofNat (qa qu s m) + Int32.ofNat (pc (cpl s (qu m))))), (3, .int (Int32.ofNat m + 1))], [], M1) = _
      refine ⟨m + 1, by omega, ?_⟩
      have e2 : qa qu s (m + 1) = qa qu s m + pc (cpl s (qu m)) := by
        show qg _ _ _ _ + _ = _
        rw [if_neg (fun z => fn_ne0 h2 ((bit_t s hs m (by omega)).mpr z))]
        try rfl
      rw [ofn_s1, e2, ← Int32.ofNat_add (qa qu s m) (pc (cpl s (qu m)))]
  · show ∃ m', m' ≤ me ∧ (4, [(0, Value.ref T'), (1, .int (Int32.ofNat s)), (2, .int (Int32.ofNat 0)), (3, .int (Int32.ofNat 0))], [], M) = _
    exact ⟨0, Nat.zero_le _, rfl⟩
/-- the best side among the first -/
def bsF (qu : Nat → Nat) (me : Nat) : Nat → Nat
  | 0 => 0
  | d + 1 => if qa qu (bsF qu me d) me < qa qu (2 * d) me then 2 * d else bsF qu me d
theorem bsF_le (qu : Nat → Nat) (me : Nat) : ∀ d, bsF qu me d ≤ 2 * d
  | 0 => Nat.le_refl _
  | d + 1 => by
    have := bsF_le qu me d
    unfold bsF
    split <;> omega
theorem bsF_lt (qu : Nat → Nat) (me : Nat) : ∀ d, 0 < d → bsF qu me d < 2 * d
  | d + 1, _ => by
    have := bsF_le qu me d
    unfold bsF
    split <;> omega
theorem qa_le (qu : Nat → Nat) (s n : Nat) : qa qu s n ≤ 6 * n := qg_le _ _ _ _
/-- how many even sets -/
def hv (me : Nat) : Nat := 2 ^ me / 2
theorem hv_2 {me : Nat} (h : 0 < me) : 2 * hv me = 2 ^ me := by
  obtain ⟨k, rfl⟩ : ∃ k, me = k + 1 := ⟨me - 1, by omega⟩
  unfold hv
  rw [Nat.pow_succ]
  omega
set_option maxRecDepth 100000 in
theorem c_best {M : cm_M} {T' me : Nat} {qu : Nat → Nat} (h8 : M.2.2 T' 8 = some (T' + 5)) (h3 : M.1 T' 3 = Int32.ofNat me) (hme : me ≤ 6) (hm0 : 0 < me) (hq : QU me (M.1 (T' + 5)) qu) : cm_Lc cm_ms 18 [.ref T'] M (fun v M' => M' = M ∧ v = some (.int (Int32.ofNat (bsF qu me (hv me))))) := by
  have hh := hv_2 hm0
  have h64 := p2_64 hme
  have hpw : (1 : Int32) <<< (M.1 T' 3 &&& 31) = Int32.ofNat (2 ^ me) := by
    rw [h3]
    exact sB_t me (by omega)
  refine lb_of (mi := mr_18) rfl [(6, [0, 1, 2, 3])] (fun S => ∃ d, d ≤ hv me ∧ S = (6, [(0, .ref T'), (1, .int (Int32.ofNat (bsF qu me d))), (2, .int (Int32.ofNat (qa qu (bsF qu me d) me))), (3, .int (Int32.ofNat (2 * d)))], [], M)) 400 (fun S hS => ?_) 400 ?_
  · obtain ⟨d, hd, rfl⟩ := hS
    show (ev_cmp 3 (Int32.ofNat (2 * d)) ((1 : Int32) <<< (M.1 T' 3 &&& 31)) = true → _) ∧ (ev_cmp 3 (Int32.ofNat (2 * d)) ((1 : Int32) <<< (M.1 T' 3 &&& 31)) = false → ∃ R, cm_Lc cm_ms 17 [.ref T', .int (Int32.ofNat (2 * d))] M R ∧ ∀ v M', R v M' → _)
    refine ⟨fun h => ⟨rfl, ?_⟩, fun h => ?_⟩
    · have g := fn_ge h
      rw [hpw, fn_toInt (by omega), fn_toInt (by omega)] at g
      have : d = hv me := by omega
      subst this
      rfl
    · have g := fn_nge h
      rw [hpw, fn_toInt (by omega), fn_toInt (by omega)] at g
      refine ⟨_, c_across h8 h3 hme hq (s := 2 * d) (by omega), ?_⟩
      rintro v M1 ⟨rfl, rfl⟩
      have l1 := qa_le qu (2 * d) me
      have l2 := qa_le qu (bsF qu me d) me
      have es : bsF qu me (d + 1) = if qa qu (bsF qu me d) me < qa qu (2 * d) me then 2 * d else bsF qu me d := rfl
      show (ev_cmp 5 (Int32.ofNat (qa qu (2 * d) me)) (Int32.ofNat (qa qu (bsF qu me d) me)) = true → ∃ d', d' ≤ hv me ∧ (6, [(0, Value.ref T'), (1, .int (Int32.ofNat (bsF qu me d))), (2, .int (Int32.ofNat (qa qu (bsF qu me d) me))), (3, .int (Int32.ofNat (2 * d) + 2))], [], M1) = _) ∧ (ev_cmp 5 (Int32.ofNat (qa qu (2 * d) me)) (Int32.ofNat (qa qu (bsF qu me d) me)) = false → ∃ d', d' ≤ hv me ∧ (6, [(0, Value.ref T'), (1, .int (Int32.ofNat (2 * d))), (2, .int (Int32.ofNat (qa qu (2 * d) me))), (3, .int (Int32.ofNat (2 * d) + 2))], [], M1) = _)
      have e2 : Int32.ofNat (2 * d) + 2 = Int32.ofNat (2 * (d + 1)) := by
        rw [show (2 : Int32) = Int32.ofNat 2 from rfl, ← Int32.ofNat_add]
        try rfl
      refine ⟨fun h2 => ⟨d + 1, by omega, ?_⟩, fun h2 => ⟨d + 1, by omega, ?_⟩⟩
      · have g2 := fn_le h2
        rw [fn_toInt (by omega), fn_toInt (by omega)] at g2
        rw [e2, es, if_neg (by omega)]
      · have g2 := fn_nle h2
        rw [fn_toInt (by omega), fn_toInt (by omega)] at g2
        rw [e2, es, if_pos (by omega)]
  · show ∃ d', d' ≤ hv me ∧ (6, [(0, Value.ref T'), (1, .int (Int32.ofNat 0)), (2, .int (Int32.ofNat 0)), (3, .int (Int32.ofNat (2 * 0)))], [], M) = _
    exact ⟨0, Nat.zero_le _, by rw [show bsF qu me 0 = 0 from rfl, show qa qu 0 me = 0 from qg_0 _ _ _]⟩
def pgF (a : Bool) (x : Int32) : Int32 := if a = true then x else -1
theorem c_parting {M : cm_M} {T' me : Nat} {a : Bool} {qu : Nat → Nat} (h03 : M.2.2 0 3 = some T') (h8 : M.2.2 T' 8 = some (T' + 5)) (h3 : M.1 T' 3 = Int32.ofNat me) (hme : me ≤ 6) (ha : decide (M.1 T' 3 = 0) = !a) (hm0 : a = true → 0 < me) (hq : QU me (M.1 (T' + 5)) qu) : cm_Lc cm_ms 124 [.ref 0] M (fun v _ => v = some (.int (pgF a (Int32.ofNat (bsF qu me (hv me)))))) := by
  have q := c_noTown h03
  rw [ha] at q
  refine lb_st0 (mi := mr_124) rfl 400 ?_
  show ∃ R, cm_Lc cm_ms 160 [.ref 0] M R ∧ ∀ v M', R v M' → _
  refine ⟨_, q, ?_⟩
  rintro v M1 ⟨rfl, rfl⟩
  show (ev_cmp 0 (bi !a) 0 = true → _) ∧ (ev_cmp 0 (bi !a) 0 = false → ∃ R, cm_Lc cm_ms 157 [.ref 0, .int 1] M1 R ∧ ∀ v M', R v M' → _)
  refine ⟨fun h => lb_to (T := (17, [(0, .ref 0)], [.ref 0, .ref 0], M1)) 17 [0] rfl rfl rfl (fun J' h => h) (lb_g0 rfl rfl h03 ?_), fun h => ⟨_, c_refused 1 M1, ?_⟩⟩
  · have e := bi_0 h
    rw [Bool.not_eq_false'] at e
    show ∃ R, cm_Lc cm_ms 18 [.ref T'] M1 R ∧ ∀ v M', R v M' → _
    refine ⟨_, c_best h8 h3 hme (hm0 e) hq, ?_⟩
    rintro v M2 ⟨rfl, rfl⟩
    show ∃ R, cm_Lc cm_ms 159 [.ref 0, .int (Int32.ofNat (bsF qu me (hv me)))] M2 R ∧ ∀ v M', R v M' → _
    refine ⟨_, c_granted _ M2, ?_⟩
    rintro v M3 ⟨-, rfl⟩
    show some (Value.int (Int32.ofNat (bsF qu me (hv me)))) = _
    rw [e]
    try rfl
  · rintro v M2 ⟨-, rfl⟩
    have e := bi_1 h
    rw [Bool.not_eq_true'] at e
    show some (Value.int (-1)) = _
    rw [e]
    try rfl
/-! the reference's -/
theorem ix55 {k : Nat} (h : k < 100) : ((55 : Int32) + Int32.ofNat k).toNatClampNeg = 55 + k := by
  rw [show (55 : Int32) = Int32.ofNat 55 from rfl, ← Int32.ofNat_add, fn_nat (by omega)]
set_option maxRecDepth 100000 in
theorem m_qOf {M : cm_M} {me s : Nat} {qu g : Nat → Nat} {y : Int32} (h15 : M.2.2 124 15 = some 127) (h3 : M.1 127 3 = Int32.ofNat me) (hme : me ≤ 6) (hq : QU me (fun m => M.1 127 (55 + m)) qu) (hs : s < 64) (hg : ∀ a, a < 64 → Int32.ofNat a &&& y = Int32.ofNat (g a) ∧ g a < 64) : cm_Lc cm_ms 254 [.ref 124, .int (Int32.ofNat s), .int y] M (fun v M' => M' = M ∧ v = some (.int (Int32.ofNat (qg g qu s me)))) := by
  refine lb_of (mi := mr_254) rfl [(5, [0, 1, 2, 3, 4])] (fun S => ∃ m, m ≤ me ∧ S = (5, [(0, .ref 124), (1, .int (Int32.ofNat s)), (2, .int y), (3, .int (Int32.ofNat (qg g qu s m))), (4, .int (Int32.ofNat m))], [], M)) 400 (fun S hS => ?_) 400 ?_
  · obtain ⟨m, hm, rfl⟩ := hS
    first | refine lb_to (T := (8, [(0, .ref 124), (1, .int (Int32.ofNat s)), (2, .int y), (3, .int (Int32.ofNat (qg g qu s m))), (4, .int (Int32.ofNat m))], [.ref 124, .int (Int32.ofNat m)], M)) 8 [0, 1, 2, 3, 4] rfl rfl rfl (fun J' h => h) (lb_g0 rfl rfl h15 ?_) | refine lb_to0 (T := (8, [(0, .ref 124), (1, .int (Int32.ofNat s)), (2, .int y), (3, .int (Int32.ofNat (qg g qu s m))), (4, .int (Int32.ofNat m))], [.ref 124, .int (Int32.ofNat m)], M)) 8 [0, 1, 2, 3, 4] rfl rfl rfl (fun J' h => h) (lb_g0 rfl rfl h15 ?_)
    show (ev_cmp 3 (Int32.ofNat m) (M.1 127 3) = true → _) ∧ (ev_cmp 3 (Int32.ofNat m) (M.1 127 3) = false → ∃ R, cm_Lc cm_ms 168 [.int (Int32.ofNat s), .int (Int32.ofNat m)] M R ∧ ∀ v M', R v M' → _)
    refine ⟨fun h => ⟨rfl, ?_⟩, fun h => ⟨_, m_hasBit _ _ M, ?_⟩⟩
    · have k := fn_ge h
      rw [h3, fn_toInt (by omega), fn_toInt (by omega)] at k
      have : m = me := by omega
      subst this
      rfl
    · rintro v M1 ⟨rfl, rfl⟩
      have k := fn_nge h
      rw [h3, fn_toInt (by omega), fn_toInt (by omega)] at k
      have hb := bit_t s hs m (by omega)
      have ho := bit_o s hs m (by omega)
      show (ev_cmp 0 (bi (decide ((Int32.ofNat s >>> (Int32.ofNat m &&& 31)) &&& 1 = 1))) 0 = true → ∃ m', m' ≤ me ∧ (5, [(0, Value.ref 124), (1, .int (Int32.ofNat s)), (2, .int y), (3, .int (Int32.ofNat (qg g qu s m) + 0)), (4, .int (Int32.ofNat m + 1))], [], M1) = _) ∧ (ev_cmp 0 (bi (decide ((Int32.ofNat s >>> (Int32.ofNat m &&& 31)) &&& 1 = 1))) 0 = false → _)
      refine ⟨fun h2 => ⟨m + 1, by omega, ?_⟩, fun h2 => lb_to (T := (27, [(0, .ref 124), (1, .int (Int32.ofNat s)), (2, .int y), (3, .int (Int32.ofNat (qg g qu s m))), (4, .int (Int32.ofNat m))], [.ref 124, .int (Int32.ofNat (qg g qu s m))], M1)) 27 [0, 1, 2, 3, 4] rfl rfl rfl (fun J' h => h) (lb_g0 rfl rfl h15 ?_)⟩
      · have e0 := of_decide_eq_false (bi_0 h2)
        have e1 : s / 2 ^ m % 2 = 0 := hb.mp (ho.resolve_right e0)
        have e2 : qg g qu s (m + 1) = qg g qu s m := by
          show _ + _ = _
          rw [if_pos e1]
          try rfl
        rw [ofn_s1, e2, Int32.add_zero]
      · have e0 := of_decide_eq_true (bi_1 h2)
        have e1 : ¬ s / 2 ^ m % 2 = 0 := fun z => by
          have := hb.mpr z
          rw [this] at e0
          exact absurd e0 (by decide)
        have kq := hq m (by omega)
        have kg := hg (qu m) kq.2
        have ex : M1.1 127 (55 + Int32.ofNat m).toNatClampNeg &&& y = Int32.ofNat (g (qu m)) := by
          rw [ix55 (by omega)]
          exact (congrArg (· &&& y) kq.1).trans kg.1
        have qo := m_ones kg.2 M1
        rw [← ex] at qo
        show ∃ R, cm_Lc cm_ms 169 [.int (M1.1 127 (55 + Int32.ofNat m).toNatClampNeg &&& y)] M1 R ∧ ∀ v M', R v M' → _
        refine ⟨_, qo, ?_⟩
        rintro v M2 ⟨rfl, rfl⟩
        show ∃ m', m' ≤ me ∧ (5, [(0, Value.ref 124), (1, .int (Int32.ofNat s)), (2, .int y), (3, .int (Int32.ofNat (qg g qu s m) + Int32.ofNat (pc (g (qu m))))), (4, .int (Int32.ofNat m + 1))], [], M2) = _
        refine ⟨m + 1, by omega, ?_⟩
        have e2 : qg g qu s (m + 1) = qg g qu s m + pc (g (qu m)) := by
          show _ + _ = _
          rw [if_neg e1]
        rw [ofn_s1, e2, ← Int32.ofNat_add (qg g qu s m) (pc (g (qu m)))]
  · show ∃ m', m' ≤ me ∧ (5, [(0, Value.ref 124), (1, .int (Int32.ofNat s)), (2, .int y), (3, .int (Int32.ofNat 0)), (4, .int (Int32.ofNat 0))], [], M) = _
    exact ⟨0, Nat.zero_le _, rfl⟩
theorem m_allMen {M : cm_M} {me : Nat} (h15 : M.2.2 124 15 = some 127) (h3 : M.1 127 3 = Int32.ofNat me) (hme : me ≤ 6) : cm_Lc cm_ms 208 [.ref 124] M (fun v M' => M' = M ∧ v = some (.int (Int32.ofNat (2 ^ me - 1)))) := by
  refine lb_st0 (mi := mr_208) rfl 400 ?_
  first | refine lb_to (T := (2, [(0, .ref 124)], [.ref 124, .int 1], M)) 2 [0] rfl rfl rfl (fun J' h => h) (lb_g0 rfl rfl h15 ?_) | refine lb_to0 (T := (2, [(0, .ref 124)], [.ref 124, .int 1], M)) 2 [0] rfl rfl rfl (fun J' h => h) (lb_g0 rfl rfl h15 ?_)
  refine ⟨rfl, ?_⟩
  show some (Value.int ((1 : Int32) <<< (M.1 127 3 &&& 31) - 1)) = _
  have e : (1 : Int32) <<< (M.1 127 3 &&& 31) = Int32.ofNat (2 ^ me) := by
    rw [h3]
    exact sB_t me (by omega)
  have t : ∀ k, k < 7 → Int32.ofNat (2 ^ k) - 1 = Int32.ofNat (2 ^ k - 1) := by decide +kernel
  rw [e, t me (by omega)]
set_option maxRecDepth 100000 in
theorem m_partingOf {M : cm_M} {me : Nat} {qu : Nat → Nat} (h15 : M.2.2 124 15 = some 127) (h3 : M.1 127 3 = Int32.ofNat me) (hme : me ≤ 6) (hm0 : 0 < me) (hq : QU me (fun m => M.1 127 (55 + m)) qu) : cm_Lc cm_ms 255 [.ref 124] M (fun v M' => M' = M ∧ v = some (.int (Int32.ofNat (bsF qu me (hv me))))) := by
  have hh := hv_2 hm0
  have h64 := p2_64 hme
  refine lb_of (mi := mr_255) rfl [(4, [0, 1, 2])] (fun S => ∃ d, 0 < d ∧ d ≤ hv me ∧ S = (4, [(0, .ref 124), (1, .int (Int32.ofNat (bsF qu me d))), (2, .int (Int32.ofNat (2 * d)))], [], M)) 400 (fun S hS => ?_) 400 ?_
  · obtain ⟨d, hd0, hd, rfl⟩ := hS
    show ∃ R, cm_Lc cm_ms 208 [.ref 124] M R ∧ ∀ v M', R v M' → _
    refine ⟨_, m_allMen h15 h3 hme, ?_⟩
    rintro v M1 ⟨rfl, rfl⟩
    show (ev_cmp 4 (Int32.ofNat (2 * d)) (Int32.ofNat (2 ^ me - 1)) = true → _) ∧ (ev_cmp 4 (Int32.ofNat (2 * d)) (Int32.ofNat (2 ^ me - 1)) = false → ∃ R, cm_Lc cm_ms 254 [.ref 124, .int (Int32.ofNat (2 * d)), .int (Int32.ofNat (2 * d) ^^^ -1)] M1 R ∧ ∀ v M', R v M' → _)
    refine ⟨fun h => ⟨rfl, ?_⟩, fun h => ?_⟩
    · have g := fn_gt h
      rw [fn_toInt (by omega), fn_toInt (by omega)] at g
      have : d = hv me := by omega
      subst this
      rfl
    · have g := fn_ngt h
      rw [fn_toInt (by omega), fn_toInt (by omega)] at g
      have lb := bsF_lt qu me d hd0
      refine ⟨_, m_qOf h15 h3 hme hq (s := 2 * d) (by omega) (g := cpl (2 * d)) (fun a ha => and_t a ha _ (by omega)), ?_⟩
      rintro v M2 ⟨rfl, rfl⟩
      show ∃ R, cm_Lc cm_ms 254 [.ref 124, .int (Int32.ofNat (bsF qu me d)), .int (Int32.ofNat (bsF qu me d) ^^^ -1)] M2 R ∧ ∀ v M', R v M' → _
      refine ⟨_, m_qOf h15 h3 hme hq (s := bsF qu me d) (by omega) (g := cpl (bsF qu me d)) (fun a ha => and_t a ha _ (by omega)), ?_⟩
      rintro v M3 ⟨rfl, rfl⟩
      have l1 := qg_le (cpl (2 * d)) qu (2 * d) me
      have l2 := qg_le (cpl (bsF qu me d)) qu (bsF qu me d) me
      have es : bsF qu me (d + 1) = if qg (cpl (bsF qu me d)) qu (bsF qu me d) me < qg (cpl (2 * d)) qu (2 * d) me then 2 * d else bsF qu me d := rfl
      show (ev_cmp 5 (Int32.ofNat (qg (cpl (2 * d)) qu (2 * d) me)) (Int32.ofNat (qg (cpl (bsF qu me d)) qu (bsF qu me d) me)) = true → ∃ d', 0 < d' ∧ d' ≤ hv me ∧ (4, [(0, Value.ref 124), (1, .int (Int32.ofNat (bsF qu me d))), (2, .int (Int32.ofNat (2 * d) + 2))], [], M3) = _) ∧ (ev_cmp 5 (Int32.ofNat (qg (cpl (2 * d)) qu (2 * d) me)) (Int32.ofNat (qg (cpl (bsF qu me d)) qu (bsF qu me d) me)) = false → ∃ d', 0 < d' ∧ d' ≤ hv me ∧ (4, [(0, Value.ref 124), (1, .int (Int32.ofNat (2 * d))), (2, .int (Int32.ofNat (2 * d) + 2))], [], M3) = _)
      have e2 : Int32.ofNat (2 * d) + 2 = Int32.ofNat (2 * (d + 1)) := by
        rw [show (2 : Int32) = Int32.ofNat 2 from rfl, ← Int32.ofNat_add]
        try rfl
      refine ⟨fun h2 => ⟨d + 1, by omega, by omega, ?_⟩, fun h2 => ⟨d + 1, by omega, by omega, ?_⟩⟩
      · have g2 := fn_le h2
        rw [fn_toInt (by omega), fn_toInt (by omega)] at g2
        rw [e2, es, if_neg (by omega)]
      · have g2 := fn_nle h2
        rw [fn_toInt (by omega), fn_toInt (by omega)] at g2
        rw [e2, es, if_pos (by omega)]
  · show ∃ d', 0 < d' ∧ d' ≤ hv me ∧ (4, [(0, Value.ref 124), (1, .int (Int32.ofNat 0)), (2, .int (Int32.ofNat (2 * 1)))], [], M) = _
    have hv0 : 0 < hv me := by
      have := Nat.one_le_two_pow (n := me)
      have : 2 ≤ 2 ^ me := by
        have := Nat.pow_le_pow_right (n := 2) (by omega) hm0
        omega
      omega
    refine ⟨1, by omega, by omega, ?_⟩
    have e : bsF qu me 1 = 0 := by
      show (if _ then _ else _) = _
      split <;> rfl
    rw [e]
theorem m_parting {M : cm_M} {me : Nat} {a : Bool} {qu : Nat → Nat} (ha : M.1 124 14 = bi a) (h15 : M.2.2 124 15 = some 127) (h3 : a = true → M.1 127 3 = Int32.ofNat me ∧ 0 < me ∧ QU me (fun m => M.1 127 (55 + m)) qu) (hme : me ≤ 6) : cm_Lc cm_ms 256 [.ref 124] M (fun v _ => v = some (.int (pgF a (Int32.ofNat (bsF qu me (hv me)))))) := by
  refine lb_st0 (mi := mr_256) rfl 400 ?_
  show ∃ R, cm_Lc cm_ms 164 [.ref 124] M R ∧ ∀ v M', R v M' → _
  refine ⟨_, m_good2 M, ?_⟩
  rintro v M1 ⟨rfl, rfl⟩
  show (ev_cmp 0 (M.1 124 14) 0 = true → ∃ R, cm_Lc cm_ms 165 [.ref 124, .int 1] (cm_wi (cm_wi M 124 0 0) 124 11 0) R ∧ ∀ v M', R v M' → _) ∧ (ev_cmp 0 (M.1 124 14) 0 = false → ∃ R, cm_Lc cm_ms 255 [.ref 124] (cm_wi (cm_wi M 124 0 0) 124 11 0) R ∧ ∀ v M', R v M' → _)
  refine ⟨fun h => ⟨_, m_no2 _ _, ?_⟩, fun h => ?_⟩
  · rintro v M1 ⟨rfl, -⟩
    rw [ha] at h
    show some (Value.int (-1)) = _
    rw [bi_0 h]
    try rfl
  · rw [ha] at h
    have e := bi_1 h
    obtain ⟨k1, k2, k3⟩ := h3 e
    refine ⟨_, m_partingOf (M := cm_wi (cm_wi M 124 0 0) 124 11 0) h15 k1 hme k2 k3, ?_⟩
    rintro v M1 ⟨-, rfl⟩
    show some (Value.int (Int32.ofNat (bsF qu me (hv me)))) = _
    rw [e]
    try rfl
