theorem wl_at (M : cm_M) (c i : Nat) (x : Int64) : (cm_wl M c i x).2.1 c i = x := if_pos ⟨rfl, rfl⟩
theorem wl_n {M : cm_M} {c i j : Nat} {x : Int64} (h : j ≠ i) : (cm_wl M c i x).2.1 c j = M.2.1 c j := if_neg (fun q => h q.2)
noncomputable def btN (t m : Nat) : Nat := t / 2 ^ m % 2
/-- how likely (of 100 for each man) just the men of t are shaved -/
noncomputable def wtN (s t : Nat) : Nat → Nat
  | 0 => 1
  | m + 1 => wtN s t m * (if btN t m = 1 then s else 100 - s)
noncomputable def cnN (t : Nat) : Nat → Nat
  | 0 => 0
  | m + 1 => cnN t m + btN t m
theorem bt_01 (t m : Nat) : btN t m = 0 ∨ btN t m = 1 := Nat.mod_two_eq_zero_or_one _
theorem wt_c (s t : Nat) : ∀ m, wtN s t m = s ^ cnN t m * (100 - s) ^ (m - cnN t m) ∧ cnN t m ≤ m
  | 0 => ⟨rfl, Nat.le_refl 0⟩
  | m + 1 => by
    obtain ⟨a, b⟩ := wt_c s t m
    show wtN s t m * (if btN t m = 1 then s else 100 - s) = s ^ (cnN t m + btN t m) * (100 - s) ^ (m + 1 - (cnN t m + btN t m)) ∧ cnN t m + btN t m ≤ m + 1
    rcases bt_01 t m with h | h
    · rw [h, if_neg (by decide), a, show m + 1 - (cnN t m + 0) = (m - cnN t m) + 1 from by omega, Nat.pow_succ, Nat.add_zero, Nat.mul_assoc]
      exact ⟨rfl, by omega⟩
    · rw [h, if_pos rfl, a, show m + 1 - (cnN t m + 1) = m - cnN t m from by omega, Nat.pow_succ, Nat.mul_right_comm]
      exact ⟨rfl, by omega⟩
theorem pc_cn : ∀ me, me < 7 → ∀ t, t < 2 ^ me → pc t = cnN t me := by decide +kernel
theorem wt_p {s t me : Nat} (hme : me ≤ 6) (ht : t < 2 ^ me) : wtN s t me = s ^ pc t * (100 - s) ^ (me - pc t) ∧ pc t ≤ me := by
  rw [pc_cn me (by omega) t ht]
  exact wt_c s t me
/-- sums -/
noncomputable def smN (f : Nat → Nat) : Nat → Nat
  | 0 => 0
  | n + 1 => smN f n + f n
theorem sm_cg {f h : Nat → Nat} : ∀ n, (∀ i, i < n → h i = f i) → smN h n = smN f n
  | 0, _ => rfl
  | n + 1, q => by
    show smN h n + h n = smN f n + f n
    rw [sm_cg n (fun i hi => q i (by omega)), q n (by omega)]
theorem sm_le {f h : Nat → Nat} : ∀ n, (∀ i, i < n → h i ≤ f i) → smN h n ≤ smN f n
  | 0, _ => Nat.le_refl 0
  | n + 1, q => by
    show smN h n + h n ≤ smN f n + f n
    have := sm_le n (fun i hi => q i (by omega))
    have := q n (by omega)
    omega
theorem sm_ap (f : Nat → Nat) (a : Nat) : ∀ b, smN f (a + b) = smN f a + smN (fun i => f (a + i)) b
  | 0 => rfl
  | b + 1 => by
    show smN f (a + b) + f (a + b) = smN f a + (smN (fun i => f (a + i)) b + f (a + b))
    rw [sm_ap f a b, Nat.add_assoc]
theorem sm_mul (f : Nat → Nat) (c : Nat) : ∀ n, smN (fun i => f i * c) n = smN f n * c
  | 0 => (Nat.zero_mul c).symm
  | n + 1 => by
    show smN (fun i => f i * c) n + f n * c = (smN f n + f n) * c
    rw [sm_mul f c n, Nat.add_mul]
theorem bt_lo : ∀ m, m < 6 → ∀ t, t < 2 ^ m → ∀ j, j < m → btN (2 ^ m + t) j = btN t j := by decide +kernel
theorem bt_hi : ∀ m, m < 6 → ∀ t, t < 2 ^ m → btN (2 ^ m + t) m = 1 ∧ btN t m = 0 := by decide +kernel
theorem wt_cg {s t t' : Nat} : ∀ m, (∀ j, j < m → btN t' j = btN t j) → wtN s t' m = wtN s t m
  | 0, _ => rfl
  | m + 1, h => by
    show wtN s t' m * (if btN t' m = 1 then s else 100 - s) = wtN s t m * (if btN t m = 1 then s else 100 - s)
    rw [wt_cg m (fun j hj => h j (by omega)), h m (by omega)]
theorem wt_lo {s m t : Nat} (hm : m < 6) (ht : t < 2 ^ m) : wtN s t (m + 1) = wtN s t m * (100 - s) := by
  show wtN s t m * (if btN t m = 1 then s else 100 - s) = _
  rw [(bt_hi m hm t ht).2, if_neg (by decide)]
theorem wt_hi {s m t : Nat} (hm : m < 6) (ht : t < 2 ^ m) : wtN s (2 ^ m + t) (m + 1) = wtN s t m * s := by
  show wtN s (2 ^ m + t) m * (if btN (2 ^ m + t) m = 1 then s else 100 - s) = _
  rw [(bt_hi m hm t ht).1, if_pos rfl, wt_cg m (bt_lo m hm t ht)]
theorem wt_all {s : Nat} (hs : s ≤ 100) : ∀ m, m ≤ 6 → smN (fun t => wtN s t m) (2 ^ m) = 100 ^ m
  | 0, _ => rfl
  | m + 1, h => by
    have ih := wt_all hs m (by omega)
    have h1 : smN (fun t => wtN s t (m + 1)) (2 ^ m) = smN (fun t => wtN s t m) (2 ^ m) * (100 - s) := (sm_cg (f := fun t => wtN s t m * (100 - s)) (2 ^ m) (fun i hi => wt_lo (by omega) hi)).trans (sm_mul _ _ _)
    have h2 : smN (fun i => wtN s (2 ^ m + i) (m + 1)) (2 ^ m) = smN (fun t => wtN s t m) (2 ^ m) * s := (sm_cg (f := fun t => wtN s t m * s) (2 ^ m) (fun i hi => wt_hi (by omega) hi)).trans (sm_mul _ _ _)
    rw [show 2 ^ (m + 1) = 2 ^ m + 2 ^ m from by rw [Nat.pow_succ]; omega, sm_ap]
    show smN (fun t => wtN s t (m + 1)) (2 ^ m) + smN (fun i => wtN s (2 ^ m + i) (m + 1)) (2 ^ m) = 100 ^ (m + 1)
    rw [h1, h2, ih, ← Nat.mul_add, show 100 - s + s = 100 from by omega, Nat.pow_succ]
theorem p100 : ∀ m, m ≤ 6 → 0 < 100 ^ m ∧ 100 ^ m < 2 ^ 47 := by
  have k : ∀ m, m < 7 → 0 < 100 ^ m ∧ 100 ^ m < 2 ^ 47 := by decide +kernel
  exact fun m hm => k m (by omega)
/-- those that are enough -/
noncomputable def odF (vo : Nat → Int32) (nd y : Int32) (s me t : Nat) : Nat := if geB (voF vo (y &&& (Int32.ofNat t ^^^ (-1))) me) nd = true then wtN s t me else 0
theorem od_0 {vo : Nat → Int32} {nd y : Int32} {s me t : Nat} (h : geB (voF vo (y &&& (Int32.ofNat t ^^^ (-1))) me) nd = false) : smN (odF vo nd y s me) (t + 1) = smN (odF vo nd y s me) t := by
  show smN (odF vo nd y s me) t + (if geB (voF vo (y &&& (Int32.ofNat t ^^^ (-1))) me) nd = true then wtN s t me else 0) = _
  rw [h, if_neg (by decide), Nat.add_zero]
theorem od_1 {vo : Nat → Int32} {nd y : Int32} {s me t : Nat} (h : geB (voF vo (y &&& (Int32.ofNat t ^^^ (-1))) me) nd = true) : smN (odF vo nd y s me) (t + 1) = smN (odF vo nd y s me) t + wtN s t me := by
  show smN (odF vo nd y s me) t + (if geB (voF vo (y &&& (Int32.ofNat t ^^^ (-1))) me) nd = true then wtN s t me else 0) = _
  rw [if_pos h]
theorem od_le {vo : Nat → Int32} {nd y : Int32} {s me : Nat} (hs : s ≤ 100) (hme : me ≤ 6) : smN (odF vo nd y s me) (2 ^ me) < 2 ^ 47 := by
  have h := sm_le (f := fun t => wtN s t me) (h := odF vo nd y s me) (2 ^ me) (fun i _ => by
    show (if geB (voF vo (y &&& (Int32.ofNat i ^^^ (-1))) me) nd = true then wtN s i me else 0) ≤ wtN s i me
    split
    · exact Nat.le_refl _
    · exact Nat.zero_le _)
  rw [wt_all hs me hme] at h
  exact Nat.lt_of_le_of_lt h (p100 me hme).2
noncomputable def EU (a b x y i : Nat) : Prop := i ≤ 128 ∧ x < 2 ^ 47 ∧ y < 2 ^ 47 ∧ Nat.gcd y x = Nat.gcd a b ∧ (i = 0 ∨ (y < x ∧ x * y * 2 ^ (i - 1) ≤ 2 ^ 94))
theorem EU_0 {a b : Nat} (ha : a < 2 ^ 47) (hb : b < 2 ^ 47) : EU a b b a 0 := ⟨Nat.zero_le _, hb, ha, rfl, Or.inl rfl⟩
theorem EU_g {a b x y i : Nat} (h : EU a b x y i) : Nat.gcd (x % y) y = Nat.gcd a b := (Nat.gcd_rec y x).symm.trans h.2.2.2.1
theorem EU_s0 {a b x y : Nat} (h : EU a b x y 0) (hy : y ≠ 0) : EU a b y (x % y) 0 := ⟨Nat.zero_le _, h.2.2.1, Nat.lt_trans (Nat.mod_lt x (Nat.pos_of_ne_zero hy)) h.2.2.1, EU_g h, Or.inl rfl⟩
theorem EU_s {a b x y i : Nat} (h : EU a b x y i) (hi : i < 128) (hy : y ≠ 0) : EU a b y (x % y) (i + 1) := by
  have hlt := Nat.mod_lt x (Nat.pos_of_ne_zero hy)
  have hg := EU_g h
  obtain ⟨h1, h2, h3, -, h5⟩ := h
  refine ⟨by omega, h3, by omega, hg, Or.inr ⟨hlt, ?_⟩⟩
  show y * (x % y) * 2 ^ i ≤ 2 ^ 94
  rcases h5 with h5 | ⟨h6, h7⟩
  · subst h5
    have k : y * (x % y) ≤ 2 ^ 47 * 2 ^ 47 := Nat.mul_le_mul (by omega) (by omega)
    have e : (2 : Nat) ^ 47 * 2 ^ 47 = 2 ^ 94 := by decide
    rw [e] at k
    rw [Nat.pow_zero, Nat.mul_one]
    exact k
  · by_cases i0 : i = 0
    · subst i0
      have k : y * (x % y) ≤ 2 ^ 47 * 2 ^ 47 := Nat.mul_le_mul (by omega) (by omega)
      have e : (2 : Nat) ^ 47 * 2 ^ 47 = 2 ^ 94 := by decide
      rw [e] at k
      rw [Nat.pow_zero, Nat.mul_one]
      exact k
    · have q : x % y ≤ x - y := by
        rw [Nat.mod_eq_sub_mod (by omega)]
        exact Nat.mod_le _ _
      have q2 : 2 * (x % y) ≤ x := by omega
      have e2 : 2 ^ i = 2 * 2 ^ (i - 1) := by
        obtain ⟨j, rfl⟩ : ∃ j, i = j + 1 := ⟨i - 1, by omega⟩
        rw [Nat.pow_succ, Nat.mul_comm, Nat.add_sub_cancel]
      have e3 : y * (x % y) * 2 ^ i = y * (2 * (x % y)) * 2 ^ (i - 1) := by
        rw [e2, ← Nat.mul_assoc (y * (x % y)) 2 (2 ^ (i - 1)), Nat.mul_assoc y (x % y) 2, Nat.mul_comm (x % y) 2]
      rw [e3]
      refine Nat.le_trans (Nat.mul_le_mul_right _ (Nat.mul_le_mul_left y q2)) ?_
      rw [Nat.mul_comm y x]
      exact h7
theorem EU_128 {a b x y i : Nat} (h : EU a b x y i) (hi : i = 128) : y = 0 := by
  subst hi
  obtain ⟨-, -, -, -, h5⟩ := h
  rcases h5 with h5 | ⟨h6, h7⟩
  · cases h5
  · by_cases hy : y = 0
    · exact hy
    · exfalso
      have k : 1 ≤ x * y := Nat.mul_pos (by omega) (by omega)
      have k2 : 1 * 2 ^ 127 ≤ x * y * 2 ^ 127 := Nat.mul_le_mul_right _ k
      have k3 : 1 * 2 ^ 127 ≤ 2 ^ 94 := Nat.le_trans k2 h7
      exact absurd k3 (by decide)
theorem EU_e {a b x y i : Nat} (h : EU a b x y i) (hy : y = 0) : x = Nat.gcd a b := by
  have q := h.2.2.2.1
  rw [hy, Nat.gcd_zero_left] at q
  exact q
theorem tl_of {n : Nat} (h : n ≤ 2147483647) : (Int32.ofNat n).toInt64 = Int64.ofNat n := Int32.toInt64_ofNat' (by
  have : Int32.maxValue.toInt = 2147483647 := by decide
  omega)
theorem lz_1 {y : Nat} (h : ev_cmp 1 (lg_cmp (Int64.ofNat y) 0) 0 = true) : y ≠ 0 := fun e => fn_lne h (by rw [e]; try rfl)
theorem lz_2 {y : Nat} (hy : y < 2 ^ 63) (h : ev_cmp 1 (lg_cmp (Int64.ofNat y) 0) 0 = false) : y = 0 := by
  have q := congrArg Int64.toInt (fn_leq h)
  rw [Int64.toInt_ofNat_of_lt hy, show (0 : Int64).toInt = 0 from by decide] at q
  omega
theorem lz_3 {y : Nat} (hy : y < 2 ^ 63) (h : ev_cmp 0 (lg_cmp (Int64.ofNat y) 0) 0 = true) : y = 0 := lz_2 hy (show (!ev_cmp 0 (lg_cmp (Int64.ofNat y) 0) 0) = false from congrArg not h)
theorem lz_4 {y : Nat} (h : ev_cmp 0 (lg_cmp (Int64.ofNat y) 0) 0 = false) : y ≠ 0 := lz_1 (show (!ev_cmp 0 (lg_cmp (Int64.ofNat y) 0) 0) = true from congrArg not h)
theorem lr_mod {x y : Nat} (hx : x < 2 ^ 63) (hy : y < 2 ^ 63) : Int64.ofNat x - Int64.ofNat x / Int64.ofNat y * Int64.ofNat y = Int64.ofNat (x % y) := by
  have e : x - x / y * y = x % y := by
    have q := Nat.div_add_mod x y
    rw [Nat.mul_comm] at q
    omega
  rw [← Int64.ofNat_div hx hy, ← Int64.ofNat_mul, ← Int64.ofNat_sub _ _ (Nat.div_mul_le_self x y), e]
theorem hb_bv0 (a : Int32) : ∀ k, k < 6 → hb a k = a.toBitVec.getLsbD k := by
  have g : ∀ y : BitVec 32, decide (y &&& 1#32 = 1#32) = y.getLsbD 0 := fun y => by
    have h2 : (y &&& 1#32).toNat = y.toNat % 2 := by
      rw [BitVec.toNat_and]
      exact Nat.and_one_is_mod _
    have e : y.getLsbD 0 = decide (y.toNat % 2 = 1) := Nat.testBit_zero y.toNat
    rw [e]
    by_cases q : y.toNat % 2 = 1
    · rw [decide_eq_true q, decide_eq_true]
      refine BitVec.eq_of_toNat_eq ?_
      rw [h2, q]
      try rfl
    · rw [decide_eq_false q, decide_eq_false]
      intro z
      rw [z] at h2
      have h2 : 1 = y.toNat % 2 := h2
      omega
  have k1 : ∀ (k : Nat) (n : Nat), (Int32.ofNat k &&& 31).toBitVec.smod 32 = BitVec.ofNat 32 n → n < 32 → hb a k = a.toBitVec.getLsbD n := fun k n e hn => by
    have e1 : hb a k = decide ((a >>> (Int32.ofNat k &&& 31)).toBitVec &&& 1#32 = 1#32) := by
      unfold hb
      refine decide_eq_decide.mpr ⟨fun z => ?_, fun z => ?_⟩
      · have := congrArg Int32.toBitVec z
        exact this
      · exact Int32.toBitVec_inj.mp z
    rw [e1, g, Int32.toBitVec_shiftRight, e]
    show (a.toBitVec.sshiftRight (BitVec.ofNat 32 n).toNat).getLsbD 0 = _
    rw [BitVec.toNat_ofNat, Nat.mod_eq_of_lt (show n < 2 ^ 32 by omega), BitVec.getLsbD_sshiftRight]
    simp [hn]
  intro k hk
  match k, hk with
  | 0, _ => exact k1 0 0 (by decide) (by omega)
  | 1, _ => exact k1 1 1 (by decide) (by omega)
  | 2, _ => exact k1 2 2 (by decide) (by omega)
  | 3, _ => exact k1 3 3 (by decide) (by omega)
  | 4, _ => exact k1 4 4 (by decide) (by omega)
  | 5, _ => exact k1 5 5 (by decide) (by omega)
  | k + 6, h => exact absurd h (by omega)
/-- the sayers, without who is shaved -/
theorem hbv (a : Int32) : ∀ k, k < 6 → hb a k = a.toBitVec.getLsbD k := by
  intro k hk
  exact hb_bv0 a k hk
theorem hb_m1 : ∀ k, k < 6 → ((-1 : Int32).toBitVec).getLsbD k = true := by decide
theorem hb_an (a b : Int32) {k : Nat} (hk : k < 6) : hb (a &&& (b ^^^ (-1))) k = (hb a k && !hb b k) := by
  rw [hbv _ k hk, hbv _ k hk, hbv _ k hk]
  show (a.toBitVec &&& (b.toBitVec ^^^ (-1 : Int32).toBitVec)).getLsbD k = _
  rw [BitVec.getLsbD_and, BitVec.getLsbD_xor, hb_m1 k hk, Bool.xor_true]
theorem hb_bt : ∀ t, t < 64 → ∀ m, m < 6 → hb (Int32.ofNat t) m = decide (btN t m = 1) := by decide +kernel
theorem od_or : ∀ s, s < 64 → ∀ m, m < 6 → Int32.ofNat s ||| sB m = Int32.ofNat (s ||| 2 ^ m) ∧ s ||| 2 ^ m < 64 := by decide +kernel
theorem od_hor : ∀ s, s < 64 → ∀ m, m < 6 → ∀ j, j < 6 → hb (Int32.ofNat (s ||| 2 ^ m)) j = (hb (Int32.ofNat s) j || decide (j = m)) := by decide +kernel
theorem orF_bt (p : Nat → Bool) : ∀ n, n ≤ 6 → (∃ y, y < 64 ∧ orF p n = Int32.ofNat y) ∧ ∀ m, m < 6 → hb (orF p n) m = (decide (m < n) && p m)
  | 0, _ => ⟨⟨0, by decide, rfl⟩, fun m hm => by
    have k : ∀ m, m < 6 → hb 0 m = false := by decide
    show hb 0 m = _
    rw [k m hm, decide_eq_false (Nat.not_lt_zero m)]
    rfl⟩
  | n + 1, hn => by
    obtain ⟨⟨y, hy, e⟩, ih⟩ := orF_bt p n (by omega)
    cases hp : p n with
    | true =>
      obtain ⟨o1, o2⟩ := od_or y hy n (by omega)
      rw [orF_t hp, e, o1]
      refine ⟨⟨_, o2, rfl⟩, fun m hm => ?_⟩
      rw [od_hor y hy n (by omega) m hm, ← e, ih m hm]
      by_cases q : m = n
      · rw [decide_eq_true q, q, hp, decide_eq_true (show n < n + 1 by omega), Bool.or_true]
        try rfl
      · rw [decide_eq_false q, Bool.or_false, show decide (m < n + 1) = decide (m < n) from decide_eq_decide.mpr (by omega)]
    | false =>
      rw [orF_f hp]
      refine ⟨⟨y, hy, e⟩, fun m hm => ?_⟩
      rw [ih m hm]
      by_cases q : m = n
      · rw [q, hp, Bool.and_false, Bool.and_false]
      · rw [show decide (m < n + 1) = decide (m < n) from decide_eq_decide.mpr (by omega)]
theorem voF_hb {vo : Nat → Int32} {x y : Int32} : ∀ n, (∀ m, m < n → hb x m = hb y m) → voF vo x n = voF vo y n
  | 0, _ => rfl
  | n + 1, h => by
    have ih := voF_hb (vo := vo) n (fun m hm => h m (by omega))
    cases hy : hb y n with
    | true => rw [voF_t hy, voF_t ((h n (by omega)).trans hy), ih]
    | false => rw [voF_f hy, voF_f ((h n (by omega)).trans hy), ih]
theorem sh_eq {p q : Nat → Bool} {vo : Nat → Int32} {t me : Nat} (hme : me ≤ 6) (ht : t < 64) (h : ∀ m, m < me → q m = (p m && decide (btN t m = 0))) : voF vo (orF q me) me = voF vo (orF p me &&& (Int32.ofNat t ^^^ (-1))) me := voF_hb me (fun m hm => by
  rw [hb_an _ _ (by omega), (orF_bt p me hme).2 m (by omega), (orF_bt q me hme).2 m (by omega), decide_eq_true hm, h m hm, hb_bt t ht m (by omega)]
  rcases bt_01 t m with e | e <;> rw [e] <;> cases p m <;> rfl)
/-- a row with the shaved of the first m -/
noncomputable def zeR (t m : Nat) (r : Nat → Int32) : Nat → Int32 := fun j => if j < m ∧ btN t j = 1 then 0 else r j
theorem ze_sy {ba cu ag : Int32} {k t me m : Nat} {r : Nat → Int32} (hc : 1 ≤ cu.toInt) (hm : m < me) : syB ba cu ag (zeR t me r m) k = (syB ba cu ag (r m) k && decide (btN t m = 0)) := by
  rcases bt_01 t m with e | e
  · rw [show zeR t me r m = r m from if_neg (by omega), e]
    exact (Bool.and_true _).symm
  · rw [show zeR t me r m = 0 from if_pos ⟨hm, e⟩, e]
    have z : (0 : Int32).toInt = 0 := by decide
    have q : bdB cu 0 = true := bd_1 (by omega)
    show (!bdB ba 0 && (!bdB cu 0 && !hb ag k)) = _
    rw [q]
    cases bdB ba 0 <;> exact (Bool.and_false _).symm
set_option maxRecDepth 100000 in
theorem c_power {M : cm_M} {b n : Nat} (hb : b ≤ 100) (hn : n ≤ 6) : cm_Lc cm_ms 61 [.int (Int32.ofNat b), .int (Int32.ofNat n)] M (fun v M' => v = some (.long (Int64.ofNat (b ^ n))) ∧ M' = M) := by
  refine lb_of (mi := mr_61) rfl [(5, [0, 1, 2, 4])] (fun S => ∃ i, i ≤ n ∧ S = (5, [(0, .int (Int32.ofNat b)), (1, .int (Int32.ofNat n)), (2, .long (Int64.ofNat (b ^ i))), (4, .int (Int32.ofNat i))], [], M)) 400 (fun S hS => ?_) 400 ?_
  · obtain ⟨i, hi, rfl⟩ := hS
    show (ev_cmp 3 (Int32.ofNat i) (Int32.ofNat n) = true → _) ∧ (ev_cmp 3 (Int32.ofNat i) (Int32.ofNat n) = false → _)
    refine ⟨fun hL => ?_, fun hL => ?_⟩
    · have g := fn_ge hL
      rw [fn_toInt (by omega), fn_toInt (by omega)] at g
      have e : i = n := by omega
      subst e
      exact ⟨rfl, rfl⟩
    · show (fun (S : cm_S) => ∃ i, i ≤ n ∧ S = (5, [(0, .int (Int32.ofNat b)), (1, .int (Int32.ofNat n)), (2, .long (Int64.ofNat (b ^ i))), (4, .int (Int32.ofNat i))], [], M)) (5, [(0, .int (Int32.ofNat b)), (1, .int (Int32.ofNat n)), (2, .long ((Int64.ofNat (b ^ i)) * ((Int32.ofNat b).toInt64))), (4, .int ((Int32.ofNat i) + 1))], [], M)
      have g := fn_nge hL
      rw [fn_toInt (by omega), fn_toInt (by omega)] at g
      exact ⟨i + 1, by omega, by rw [ofn_s1, Nat.pow_succ, Int64.ofNat_mul, tl_of (by omega)]; try rfl⟩
  · show (fun (S : cm_S) => ∃ i, i ≤ n ∧ S = (5, [(0, .int (Int32.ofNat b)), (1, .int (Int32.ofNat n)), (2, .long (Int64.ofNat (b ^ i))), (4, .int (Int32.ofNat i))], [], M)) (5, [(0, .int (Int32.ofNat b)), (1, .int (Int32.ofNat n)), (2, .long 1), (4, .int 0)], [], M)
    exact ⟨0, Nat.zero_le _, rfl⟩
set_option maxRecDepth 100000 in
theorem c_reduce {M : cm_M} {a b : Nat} (ha : a < 2 ^ 47) (hb : b < 2 ^ 47) (h0 : 0 < b) : cm_Lc cm_ms 62 [.ref 123, .long (Int64.ofNat a), .long (Int64.ofNat b)] M (fun v M' => v = none ∧ M' = cm_wl (cm_wl M 123 0 (Int64.ofNat (a / Nat.gcd a b))) 123 1 (Int64.ofNat (b / Nat.gcd a b))) := by
  have z128 : (128 : Int32).toInt = 128 := by decide
  refine lb_of (mi := mr_62) rfl [(9, [0, 1, 3, 5, 7, 9])] (fun S => ∃ x y i, EU a b x y i ∧ S = (9, [(0, .ref 123), (1, .long (Int64.ofNat a)), (3, .long (Int64.ofNat b)), (5, .long (Int64.ofNat x)), (7, .long (Int64.ofNat y)), (9, .int (Int32.ofNat i))], [], M)) 400 (fun S hS => ?_) 400 ?_
  · obtain ⟨x, y, i, hE, rfl⟩ := hS
    have hi := hE.1
    show (ev_cmp 3 (Int32.ofNat i) 128 = true → _) ∧ (ev_cmp 3 (Int32.ofNat i) 128 = false → _)
    refine ⟨fun hL => ?_, fun hL => ?_⟩
    · have g := fn_ge hL
      rw [fn_toInt (by omega), z128] at g
      have ex := EU_e hE (EU_128 hE (by omega))
      have hx63 : x < 2 ^ 63 := by have := hE.2.1; omega
      have hxp : x ≠ 0 := by
        rw [ex]
        have := Nat.gcd_pos_of_pos_right a h0
        omega
      have hg : Nat.gcd a b < 2 ^ 63 := by rw [← ex]; exact hx63
      show (ev_cmp 1 (lg_cmp (Int64.ofNat x) 0) 0 = true → _) ∧ (ev_cmp 1 (lg_cmp (Int64.ofNat x) 0) 0 = false → _)
      refine ⟨fun hLt => ?_, fun hLt => ?_⟩
      · show (ev_cmp 1 (lg_cmp (Int64.ofNat x) 0) 0 = true → _) ∧ (ev_cmp 1 (lg_cmp (Int64.ofNat x) 0) 0 = false → _)
        refine ⟨fun hLtt => ?_, fun hLtt => ?_⟩
        · refine ⟨rfl, ?_⟩
          show cm_wl (cm_wl M 123 0 (Int64.ofNat a / Int64.ofNat x)) 123 1 (Int64.ofNat b / Int64.ofNat x) = _
          rw [Int64.ofNat_div (show a < 2 ^ 63 by omega) hg, Int64.ofNat_div (show b < 2 ^ 63 by omega) hg, ← ex]
        · exact absurd (lz_2 hx63 hLtt) hxp
      · exact absurd (lz_2 hx63 hLt) hxp
    · have g := fn_nge hL
      rw [fn_toInt (by omega), z128] at g
      have hy63 : y < 2 ^ 63 := by have := hE.2.2.1; omega
      show (ev_cmp 0 (lg_cmp (Int64.ofNat y) 0) 0 = true → _) ∧ (ev_cmp 0 (lg_cmp (Int64.ofNat y) 0) 0 = false → _)
      refine ⟨fun hLf => ?_, fun hLf => ?_⟩
      · have ex := EU_e hE (lz_3 hy63 hLf)
        have hx63 : x < 2 ^ 63 := by have := hE.2.1; omega
        have hxp : x ≠ 0 := by
          rw [ex]
          have := Nat.gcd_pos_of_pos_right a h0
          omega
        have hg : Nat.gcd a b < 2 ^ 63 := by rw [← ex]; exact hx63
        show (ev_cmp 1 (lg_cmp (Int64.ofNat x) 0) 0 = true → _) ∧ (ev_cmp 1 (lg_cmp (Int64.ofNat x) 0) 0 = false → _)
        refine ⟨fun hLft => ?_, fun hLft => ?_⟩
        · show (ev_cmp 1 (lg_cmp (Int64.ofNat x) 0) 0 = true → _) ∧ (ev_cmp 1 (lg_cmp (Int64.ofNat x) 0) 0 = false → _)
          refine ⟨fun hLftt => ?_, fun hLftt => ?_⟩
          · refine ⟨rfl, ?_⟩
            show cm_wl (cm_wl M 123 0 (Int64.ofNat a / Int64.ofNat x)) 123 1 (Int64.ofNat b / Int64.ofNat x) = _
            rw [Int64.ofNat_div (show a < 2 ^ 63 by omega) hg, Int64.ofNat_div (show b < 2 ^ 63 by omega) hg, ← ex]
          · exact absurd (lz_2 hx63 hLftt) hxp
        · exact absurd (lz_2 hx63 hLft) hxp
      · show (fun (S : cm_S) => ∃ x y i, EU a b x y i ∧ S = (9, [(0, .ref 123), (1, .long (Int64.ofNat a)), (3, .long (Int64.ofNat b)), (5, .long (Int64.ofNat x)), (7, .long (Int64.ofNat y)), (9, .int (Int32.ofNat i))], [], M)) (9, [(0, .ref 123), (1, .long (Int64.ofNat a)), (3, .long (Int64.ofNat b)), (5, .long (Int64.ofNat y)), (7, .long ((Int64.ofNat x) - (Int64.ofNat x) / (Int64.ofNat y) * (Int64.ofNat y))), (9, .int ((Int32.ofNat i) + 1))], [], M)
        have hx63 : x < 2 ^ 63 := by have := hE.2.1; omega
        exact ⟨y, x % y, i + 1, EU_s hE (by omega) (lz_4 hLf), by rw [ofn_s1, lr_mod hx63 hy63]; try rfl⟩
  · show (fun (S : cm_S) => ∃ x y i, EU a b x y i ∧ S = (9, [(0, .ref 123), (1, .long (Int64.ofNat a)), (3, .long (Int64.ofNat b)), (5, .long (Int64.ofNat x)), (7, .long (Int64.ofNat y)), (9, .int (Int32.ofNat i))], [], M)) (9, [(0, .ref 123), (1, .long (Int64.ofNat a)), (3, .long (Int64.ofNat b)), (5, .long (Int64.ofNat b)), (7, .long (Int64.ofNat a)), (9, .int 0)], [], M)
    exact ⟨b, a, 0, EU_0 ha hb, rfl⟩
/-- who says yes; what is weighed -/
noncomputable def ysM (M : cm_M) (c T' me k : Nat) : Int32 := orF (fun m => syB (M.1 T' 1) (M.1 (T' + 6) k) (M.1 (T' + 4) m) (M.1 (c + 1) m) k) me
noncomputable def odM (M : cm_M) (c T' me k s : Nat) : Nat → Nat := odF (M.1 (T' + 3)) (M.1 (T' + 7) k) (ysM M c T' me k) s me
set_option maxRecDepth 100000 in
theorem c_weighEnough {M : cm_M} {c T' me k s : Nat} (r0 : M.2.2 c 0 = some (c + 1)) (h10 : M.2.2 T' 10 = some (T' + 6)) (h7 : M.2.2 T' 7 = some (T' + 4)) (h6 : M.2.2 T' 6 = some (T' + 3)) (h11 : M.2.2 T' 11 = some (T' + 7)) (h3 : M.1 T' 3 = Int32.ofNat me) (hme : me ≤ 6) (hk : k < 1000) (h2 : M.1 T' 2 = Int32.ofNat s) (hs1 : s ≤ 100) : cm_Lc cm_ms 59 [.ref 123, .ref T', .ref c, .int (Int32.ofNat k)] M (fun v M' => v = none ∧ M' = cm_wl (cm_wl M 123 0 (Int64.ofNat (smN (odM M c T' me k s) (2 ^ me) / Nat.gcd (smN (odM M c T' me k s) (2 ^ me)) (100 ^ me)))) 123 1 (Int64.ofNat (100 ^ me / Nat.gcd (smN (odM M c T' me k s) (2 ^ me)) (100 ^ me)))) := by
  have p64 : 2 ^ me ≤ 64 := by
    have q : ∀ m, m < 7 → 2 ^ m ≤ 64 := by decide
    exact q me (by omega)
  have ek := fn_nat (show k < 2147483648 by omega)
  have e2 : (1 : Int32) <<< (M.1 T' 3 &&& 31) = Int32.ofNat (2 ^ me) := by
    rw [h3]
    exact sB_t me (by omega)
  refine lb_of (mi := mr_59) rfl [(14, [0, 1, 3, 4, 5, 7])] (fun S => ∃ t, t ≤ 2 ^ me ∧ S = (14, [(0, .ref 123), (1, .ref T'), (3, .int (Int32.ofNat k)), (4, .int (ysM M c T' me k)), (5, .long (Int64.ofNat (smN (odM M c T' me k s) t))), (7, .int (Int32.ofNat t))], [], M)) 400 (fun S hS => ?_) 400 ?_
  · obtain ⟨t, ht, rfl⟩ := hS
    show (ev_cmp 3 (Int32.ofNat t) (1 <<< ((M.1 T' 3) &&& 31)) = true → _) ∧ (ev_cmp 3 (Int32.ofNat t) (1 <<< ((M.1 T' 3) &&& 31)) = false → _)
    refine ⟨fun hL => ?_, fun hL => ?_⟩
    · have g := fn_ge hL
      rw [e2, fn_toInt (by omega), fn_toInt (by omega)] at g
      have et : t = 2 ^ me := by omega
      show ∃ R, cm_Lc cm_ms 61 [.int 100, .int (M.1 T' 3)] M R ∧ ∀ v M', R v M' → _
      have hp3 : cm_Lc cm_ms 61 [.int 100, .int (M.1 T' 3)] M (fun v M' => v = some (.long (Int64.ofNat (100 ^ me))) ∧ M' = M) := by
        rw [h3]
        exact c_power (b := 100) (Nat.le_refl _) hme
      refine ⟨_, hp3, ?_⟩
      rintro v M' ⟨rfl, hM⟩
      subst M'
      show ∃ R, cm_Lc cm_ms 62 [.ref 123, .long (Int64.ofNat (smN (odM M c T' me k s) t)), .long (Int64.ofNat (100 ^ me))] M R ∧ ∀ v M', R v M' → _
      refine ⟨_, c_reduce (M := M) (a := smN (odM M c T' me k s) t) (b := 100 ^ me) (by rw [et]; exact od_le hs1 hme) (p100 me hme).2 (p100 me hme).1, ?_⟩
      rintro v Mz ⟨rfl, hM⟩
      refine ⟨rfl, ?_⟩
      rw [hM, et]
    · have g := fn_nge hL
      rw [e2, fn_toInt (by omega), fn_toInt (by omega)] at g
      have hlt : t < 2 ^ me := by omega
      show ∃ R, cm_Lc cm_ms 13 [.ref T', .int ((ysM M c T' me k) &&& ((Int32.ofNat t) ^^^ (-1)))] M R ∧ ∀ v M', R v M' → _
      refine ⟨_, c_votes (M := M) (T' := T') (me := me) h6 h3 hme _, ?_⟩
      rintro v M' ⟨hM, rfl⟩
      subst M'
      first | refine lb_to (T := (37, [(0, .ref 123), (1, .ref T'), (3, .int (Int32.ofNat k)), (4, .int (ysM M c T' me k)), (5, .long (Int64.ofNat (smN (odM M c T' me k s) t))), (7, .int (Int32.ofNat t))], [.ref T', .int (voF (M.1 (T' + 3)) ((ysM M c T' me k) &&& ((Int32.ofNat t) ^^^ (-1))) me)], M)) 37 [0, 1, 3, 4, 5, 7] rfl rfl rfl (fun J' h => h) (lb_g0 rfl rfl h11 ?_) | refine lb_to0 (T := (37, [(0, .ref 123), (1, .ref T'), (3, .int (Int32.ofNat k)), (4, .int (ysM M c T' me k)), (5, .long (Int64.ofNat (smN (odM M c T' me k s) t))), (7, .int (Int32.ofNat t))], [.ref T', .int (voF (M.1 (T' + 3)) ((ysM M c T' me k) &&& ((Int32.ofNat t) ^^^ (-1))) me)], M)) 37 [0, 1, 3, 4, 5, 7] rfl rfl rfl (fun J' h => h) (lb_g0 rfl rfl h11 ?_)
      show (ev_cmp 2 (voF (M.1 (T' + 3)) ((ysM M c T' me k) &&& ((Int32.ofNat t) ^^^ (-1))) me) (M.1 (T' + 7) ((Int32.ofNat k).toNatClampNeg)) = true → _) ∧ (ev_cmp 2 (voF (M.1 (T' + 3)) ((ysM M c T' me k) &&& ((Int32.ofNat t) ^^^ (-1))) me) (M.1 (T' + 7) ((Int32.ofNat k).toNatClampNeg)) = false → _)
      refine ⟨fun hLfc => ?_, fun hLfc => ?_⟩
      · show (fun (S : cm_S) => ∃ t, t ≤ 2 ^ me ∧ S = (14, [(0, .ref 123), (1, .ref T'), (3, .int (Int32.ofNat k)), (4, .int (ysM M c T' me k)), (5, .long (Int64.ofNat (smN (odM M c T' me k s) t))), (7, .int (Int32.ofNat t))], [], M)) (14, [(0, .ref 123), (1, .ref T'), (3, .int (Int32.ofNat k)), (4, .int (ysM M c T' me k)), (5, .long (Int64.ofNat (smN (odM M c T' me k s) t))), (7, .int ((Int32.ofNat t) + 1))], [], M)
        rw [ek] at hLfc
        exact ⟨t + 1, by omega, by rw [ofn_s1, show smN (odM M c T' me k s) (t + 1) = smN (odM M c T' me k s) t from od_0 (ge_0 (fn_lt hLfc))]; try rfl⟩
      · show ∃ R, cm_Lc cm_ms 0 [.int (Int32.ofNat t)] M R ∧ ∀ v M', R v M' → _
        have hbc := f_bc (Int32.ofNat t) M
        rw [bc_t t (by omega)] at hbc
        refine ⟨_, hbc, ?_⟩
        rintro v M' ⟨rfl, hM⟩
        subst M'
        show ∃ R, cm_Lc cm_ms 61 [.int (M.1 T' 2), .int (Int32.ofNat (pc t))] M R ∧ ∀ v M', R v M' → _
        have hp1 : cm_Lc cm_ms 61 [.int (M.1 T' 2), .int (Int32.ofNat (pc t))] M (fun v M' => v = some (.long (Int64.ofNat (s ^ pc t))) ∧ M' = M) := by
          rw [h2]
          exact c_power hs1 (by have := (wt_p (s := s) hme hlt).2; omega)
        refine ⟨_, hp1, ?_⟩
        rintro v M' ⟨rfl, hM⟩
        subst M'
        show ∃ R, cm_Lc cm_ms 61 [.int (100 - (M.1 T' 2)), .int ((M.1 T' 3) - (Int32.ofNat (pc t)))] M R ∧ ∀ v M', R v M' → _
        have hp2 : cm_Lc cm_ms 61 [.int (100 - (M.1 T' 2)), .int ((M.1 T' 3) - (Int32.ofNat (pc t)))] M (fun v M' => v = some (.long (Int64.ofNat ((100 - s) ^ (me - pc t)))) ∧ M' = M) := by
          have hpc := (wt_p (s := s) hme hlt).2
          rw [h2, h3, ← Int32.ofNat_sub me (pc t) hpc, show (100 : Int32) - Int32.ofNat s = Int32.ofNat (100 - s) from (Int32.ofNat_sub 100 s hs1).symm]
          exact c_power (by omega) (by omega)
        refine ⟨_, hp2, ?_⟩
        rintro v M' ⟨rfl, hM⟩
        subst M'
        show (fun (S : cm_S) => ∃ t, t ≤ 2 ^ me ∧ S = (14, [(0, .ref 123), (1, .ref T'), (3, .int (Int32.ofNat k)), (4, .int (ysM M c T' me k)), (5, .long (Int64.ofNat (smN (odM M c T' me k s) t))), (7, .int (Int32.ofNat t))], [], M)) (14, [(0, .ref 123), (1, .ref T'), (3, .int (Int32.ofNat k)), (4, .int (ysM M c T' me k)), (5, .long ((Int64.ofNat (smN (odM M c T' me k s) t)) + ((Int64.ofNat (s ^ pc t)) * (Int64.ofNat ((100 - s) ^ (me - pc t)))))), (7, .int ((Int32.ofNat t) + 1))], [], M)
        rw [ek] at hLfc
        exact ⟨t + 1, by omega, by rw [ofn_s1, show smN (odM M c T' me k s) (t + 1) = smN (odM M c T' me k s) t + wtN s t me from od_1 (ge_1 (fn_nlt hLfc)), (wt_p hme hlt).1, Int64.ofNat_add, Int64.ofNat_mul]; try rfl⟩
  · show ∃ R, cm_Lc cm_ms 30 [.ref c, .ref T', .int (Int32.ofNat k)] M R ∧ ∀ v M', R v M' → _
    refine ⟨_, c_yesMen (M := M) (c := c) (T' := T') (me := me) (k := k) r0 h10 h7 h3 hme hk, ?_⟩
    rintro v M' ⟨hM, rfl⟩
    subst M'
    show (fun (S : cm_S) => ∃ t, t ≤ 2 ^ me ∧ S = (14, [(0, .ref 123), (1, .ref T'), (3, .int (Int32.ofNat k)), (4, .int (ysM M c T' me k)), (5, .long (Int64.ofNat (smN (odM M c T' me k s) t))), (7, .int (Int32.ofNat t))], [], M)) (14, [(0, .ref 123), (1, .ref T'), (3, .int (Int32.ofNat k)), (4, .int (ysM M c T' me k)), (5, .long 0), (7, .int 0)], [], M)
    exact ⟨0, Nat.zero_le _, rfl⟩
theorem c_odds_out {M : cm_M} {T' me mo : Nat} (hx : CTX T' me mo M) (x lo : Int32) (ho : outB x (Int32.ofNat mo) = true) : cm_Lc cm_ms 144 [.ref 0, .int x, .int lo] M (fun v _ => v = some (.long (-1))) := by
  have hl := c_lacksMotion hx.2.1.1 x
  rw [hx.2.2.2.2.1.2, ho] at hl
  refine lb_st0 (mi := mr_144) rfl 400 ?_
  show ∃ R, cm_Lc cm_ms 162 [.ref 0, .int x] M R ∧ ∀ v M', R v M' → _
  refine ⟨_, hl, ?_⟩
  rintro v M' ⟨hM, rfl⟩
  subst M'
  show (ev_cmp 0 (bi true) 0 = true → _) ∧ (ev_cmp 0 (bi true) 0 = false → _)
  refine ⟨fun hc => ?_, fun hc => ?_⟩
  · exact absurd hc (by decide)
  · show ∃ R, cm_Lc cm_ms 157 [.ref 0, .int 1] M R ∧ ∀ v M', R v M' → _
    refine ⟨_, c_refused 1 M, ?_⟩
    rintro v M' ⟨hM, rfl⟩
    subst M'
    exact congrArg (fun z => some (Value.long z)) (show (-1 : Int32).toInt64 = -1 from by decide)
set_option maxRecDepth 100000 in
theorem c_odds_k {M : cm_M} {T' me mo : Nat} (hx : CTX T' me mo M) (ht : TRX M) {k s : Nat} (hk : k < mo) (h11c : M.2.2 0 11 = some 123) (h2s : M.1 T' 2 = Int32.ofNat s) (hs1 : s ≤ 100) (lo : Int32) : cm_Lc cm_ms 144 [.ref 0, .int (Int32.ofNat k), .int lo] M (fun v _ => v = some (.long (if lo = 0 then Int64.ofNat (smN (odF (M.1 (T' + 3)) (M.1 (T' + 7) k) (orF (fun m => syB (M.1 T' 1) (M.1 (T' + 6) k) (M.1 (T' + 4) m) (lkH (M.1 T' 0) me (M.1 33) 1 m) k) me) s me) (2 ^ me) / Nat.gcd (smN (odF (M.1 (T' + 3)) (M.1 (T' + 7) k) (orF (fun m => syB (M.1 T' 1) (M.1 (T' + 6) k) (M.1 (T' + 4) m) (lkH (M.1 T' 0) me (M.1 33) 1 m) k) me) s me) (2 ^ me)) (100 ^ me)) else Int64.ofNat (100 ^ me / Nat.gcd (smN (odF (M.1 (T' + 3)) (M.1 (T' + 7) k) (orF (fun m => syB (M.1 T' 1) (M.1 (T' + 6) k) (M.1 (T' + 4) m) (lkH (M.1 T' 0) me (M.1 33) 1 m) k) me) s me) (2 ^ me)) (100 ^ me))))) := by
  have hT19 : T' ≤ 19 := by have := hx.1; omega
  have h6T : 6 ≤ T' := by have := hx.1; omega
  have hme6 := hx.2.2.2.2.2.1
  have hmo5 := hx.2.2.2.2.2.2
  have hl := c_lacksMotion hx.2.1.1 (Int32.ofNat k)
  rw [hx.2.2.2.2.1.2, outB_lt hk (by omega)] at hl
  have r3 : M.2.2 0 3 = some T' := hx.2.1.1
  have r5 : M.2.2 0 5 = some 32 := hx.2.1.2.1
  have r6 : M.2.2 0 6 = some 35 := ht.1
  have r33 : M.2.2 32 0 = some 33 := hx.2.2.1.2.2.1.1
  have r36 : M.2.2 35 0 = some 36 := ht.2.1
  have r37 : M.2.2 35 1 = some 37 := ht.2.2
  have q10 : M.2.2 T' 10 = some (T' + 6) := hx.2.2.2.1 10 6 (by decide)
  have q7 : M.2.2 T' 7 = some (T' + 4) := hx.2.2.2.1 7 4 (by decide)
  have q6 : M.2.2 T' 6 = some (T' + 3) := hx.2.2.2.1 6 3 (by decide)
  have q11 : M.2.2 T' 11 = some (T' + 7) := hx.2.2.2.1 11 7 (by decide)
  have q13 : M.2.2 T' 13 = some (T' + 9) := hx.2.2.2.1 13 9 (by decide)
  refine lb_st0 (mi := mr_144) rfl 400 ?_
  show ∃ R, cm_Lc cm_ms 162 [.ref 0, .int (Int32.ofNat k)] M R ∧ ∀ v M', R v M' → _
  refine ⟨_, hl, ?_⟩
  rintro v M' ⟨hM, rfl⟩
  subst M'
  show (ev_cmp 0 (bi false) 0 = true → _) ∧ (ev_cmp 0 (bi false) 0 = false → _)
  refine ⟨fun hc => ?_, fun hc => ?_⟩
  · show ∃ R, cm_Lc cm_ms 112 [.ref 0, .int 1] M R ∧ ∀ v M', R v M' → _
    refine ⟨_, c_look hx ht (n := 1) (by omega), ?_⟩
    rintro v Mb ⟨rfl, we, hs⟩
    have r3 : Mb.2.2 0 3 = some T' := by rw [hs.1]; exact hx.2.1.1
    have r5 : Mb.2.2 0 5 = some 32 := by rw [hs.1]; exact hx.2.1.2.1
    have r6 : Mb.2.2 0 6 = some 35 := by rw [hs.1]; exact ht.1
    have r33 : Mb.2.2 32 0 = some 33 := by rw [hs.1]; exact hx.2.2.1.2.2.1.1
    have r36 : Mb.2.2 35 0 = some 36 := by rw [hs.1]; exact ht.2.1
    have r37 : Mb.2.2 35 1 = some 37 := by rw [hs.1]; exact ht.2.2
    have q10 : Mb.2.2 T' 10 = some (T' + 6) := by rw [hs.1]; exact hx.2.2.2.1 10 6 (by decide)
    have q7 : Mb.2.2 T' 7 = some (T' + 4) := by rw [hs.1]; exact hx.2.2.2.1 7 4 (by decide)
    have q6 : Mb.2.2 T' 6 = some (T' + 3) := by rw [hs.1]; exact hx.2.2.2.1 6 3 (by decide)
    have q11 : Mb.2.2 T' 11 = some (T' + 7) := by rw [hs.1]; exact hx.2.2.2.1 11 7 (by decide)
    have q13 : Mb.2.2 T' 13 = some (T' + 9) := by rw [hs.1]; exact hx.2.2.2.1 13 9 (by decide)
    have r11 : Mb.2.2 0 11 = some 123 := by rw [hs.1]; exact h11c
    have eT : ∀ i, i ≤ 12 → Mb.1 (T' + i) = M.1 (T' + i) := fun i hi => funext fun j => hs.2.1 (T' + i) j (by omega) (by omega) (by omega)
    have eT0 : Mb.1 T' = M.1 T' := eT 0 (by omega)
    first | refine lb_to (T := (21, [(0, .ref 0), (1, .int (Int32.ofNat k)), (2, .int lo)], [.ref 0], Mb)) 21 [0, 1, 2] rfl rfl rfl (fun J' h => h) (lb_g0 rfl rfl (by first | exact r11c | exact r11) ?_) | refine lb_to0 (T := (21, [(0, .ref 0), (1, .int (Int32.ofNat k)), (2, .int lo)], [.ref 0], Mb)) 21 [0, 1, 2] rfl rfl rfl (fun J' h => h) (lb_g0 rfl rfl (by first | exact r11c | exact r11) ?_)
    first | refine lb_to (T := (25, [(0, .ref 0), (1, .int (Int32.ofNat k)), (2, .int lo)], [.ref 0, .ref 123], Mb)) 25 [0, 1, 2] rfl rfl rfl (fun J' h => h) (lb_g0 rfl rfl r3 ?_) | refine lb_to0 (T := (25, [(0, .ref 0), (1, .int (Int32.ofNat k)), (2, .int lo)], [.ref 0, .ref 123], Mb)) 25 [0, 1, 2] rfl rfl rfl (fun J' h => h) (lb_g0 rfl rfl r3 ?_)
    first | refine lb_to (T := (29, [(0, .ref 0), (1, .int (Int32.ofNat k)), (2, .int lo)], [.ref 0, .ref T', .ref 123], Mb)) 29 [0, 1, 2] rfl rfl rfl (fun J' h => h) (lb_g0 rfl rfl r6 ?_) | refine lb_to0 (T := (29, [(0, .ref 0), (1, .int (Int32.ofNat k)), (2, .int lo)], [.ref 0, .ref T', .ref 123], Mb)) 29 [0, 1, 2] rfl rfl rfl (fun J' h => h) (lb_g0 rfl rfl r6 ?_)
    show ∃ R, cm_Lc cm_ms 59 [.ref 123, .ref T', .ref 35, .int (Int32.ofNat k)] Mb R ∧ ∀ v M', R v M' → _
    have eY : orF (fun m => syB (Mb.1 T' 1) (Mb.1 (T' + 6) k) (Mb.1 (T' + 4) m) (Mb.1 (35 + 1) m) k) me = orF (fun m => syB (M.1 T' 1) (M.1 (T' + 6) k) (M.1 (T' + 4) m) (lkH (M.1 T' 0) me (M.1 33) 1 m) k) me := orF_cg me (fun m hm => by
      show syB (Mb.1 T' 1) (Mb.1 (T' + 6) k) (Mb.1 (T' + 4) m) (Mb.1 (35 + 1) m) k = syB (M.1 T' 1) (M.1 (T' + 6) k) (M.1 (T' + 4) m) (lkH (M.1 T' 0) me (M.1 33) 1 m) k
      rw [eT0, eT 6 (by omega), eT 4 (by omega), hs.2.2.1 m (by omega)])
    have eO : odM Mb 35 T' me k s = odF (M.1 (T' + 3)) (M.1 (T' + 7) k) (orF (fun m => syB (M.1 T' 1) (M.1 (T' + 6) k) (M.1 (T' + 4) m) (lkH (M.1 T' 0) me (M.1 33) 1 m) k) me) s me := by
      unfold odM ysM
      rw [eY, eT 3 (by omega), eT 7 (by omega)]
    have hw : cm_Lc cm_ms 59 [.ref 123, .ref T', .ref 35, .int (Int32.ofNat k)] Mb (fun v M' => v = none ∧ M' = cm_wl (cm_wl Mb 123 0 (Int64.ofNat (smN (odF (M.1 (T' + 3)) (M.1 (T' + 7) k) (orF (fun m => syB (M.1 T' 1) (M.1 (T' + 6) k) (M.1 (T' + 4) m) (lkH (M.1 T' 0) me (M.1 33) 1 m) k) me) s me) (2 ^ me) / Nat.gcd (smN (odF (M.1 (T' + 3)) (M.1 (T' + 7) k) (orF (fun m => syB (M.1 T' 1) (M.1 (T' + 6) k) (M.1 (T' + 4) m) (lkH (M.1 T' 0) me (M.1 33) 1 m) k) me) s me) (2 ^ me)) (100 ^ me)))) 123 1 (Int64.ofNat (100 ^ me / Nat.gcd (smN (odF (M.1 (T' + 3)) (M.1 (T' + 7) k) (orF (fun m => syB (M.1 T' 1) (M.1 (T' + 6) k) (M.1 (T' + 4) m) (lkH (M.1 T' 0) me (M.1 33) 1 m) k) me) s me) (2 ^ me)) (100 ^ me)))) := by
      have q := c_weighEnough (M := Mb) (c := 35) (T' := T') (me := me) (k := k) (s := s) r36 q10 q7 q6 q11 (by rw [eT0]; exact hx.2.2.2.2.1.1) hme6 (by omega) (by rw [eT0]; exact h2s) hs1
      rw [eO] at q
      exact q
    refine ⟨_, hw, ?_⟩
    rintro v Mz ⟨rfl, hM⟩
    have r11z : Mz.2.2 0 11 = some 123 := by rw [hM]; exact r11
    show ∃ R, cm_Lc cm_ms 159 [.ref 0, .int 0] Mz R ∧ ∀ v M', R v M' → _
    refine ⟨_, c_granted 0 Mz, ?_⟩
    rintro v Mc ⟨hG, rfl⟩
    have r11c : Mc.2.2 0 11 = some 123 := by rw [hG]; exact r11z
    have hc2 : Mc.2 = Mz.2 := by rw [hG]; try rfl
    have u0 : Mc.2.1 123 0 = Int64.ofNat (smN (odF (M.1 (T' + 3)) (M.1 (T' + 7) k) (orF (fun m => syB (M.1 T' 1) (M.1 (T' + 6) k) (M.1 (T' + 4) m) (lkH (M.1 T' 0) me (M.1 33) 1 m) k) me) s me) (2 ^ me) / Nat.gcd (smN (odF (M.1 (T' + 3)) (M.1 (T' + 7) k) (orF (fun m => syB (M.1 T' 1) (M.1 (T' + 6) k) (M.1 (T' + 4) m) (lkH (M.1 T' 0) me (M.1 33) 1 m) k) me) s me) (2 ^ me)) (100 ^ me)) := by
      rw [hc2, hM]
      rw [wl_n (by decide), wl_at]
    have u1 : Mc.2.1 123 1 = Int64.ofNat (100 ^ me / Nat.gcd (smN (odF (M.1 (T' + 3)) (M.1 (T' + 7) k) (orF (fun m => syB (M.1 T' 1) (M.1 (T' + 6) k) (M.1 (T' + 4) m) (lkH (M.1 T' 0) me (M.1 33) 1 m) k) me) s me) (2 ^ me)) (100 ^ me)) := by
      rw [hc2, hM]
      rw [wl_at]
    show (ev_cmp 0 lo 0 = true → _) ∧ (ev_cmp 0 lo 0 = false → _)
    refine ⟨fun hctccc => ?_, fun hctccc => ?_⟩
    · first | refine lb_to (T := (57, [(0, .ref 0), (1, .int (Int32.ofNat k)), (2, .int lo)], [.ref 0], Mc)) 57 [0, 1, 2] rfl rfl rfl (fun J' h => h) (lb_g0 rfl rfl (by first | exact r11c | exact r11) ?_) | refine lb_to0 (T := (57, [(0, .ref 0), (1, .int (Int32.ofNat k)), (2, .int lo)], [.ref 0], Mc)) 57 [0, 1, 2] rfl rfl rfl (fun J' h => h) (lb_g0 rfl rfl (by first | exact r11c | exact r11) ?_)
      have q := fn_eq0 hctccc
      show some (Value.long (Mc.2.1 123 0)) = _
      rw [u0, if_pos q]
    · first | refine lb_to (T := (47, [(0, .ref 0), (1, .int (Int32.ofNat k)), (2, .int lo)], [.ref 0], Mc)) 47 [0, 1, 2] rfl rfl rfl (fun J' h => h) (lb_g0 rfl rfl (by first | exact r11c | exact r11) ?_) | refine lb_to0 (T := (47, [(0, .ref 0), (1, .int (Int32.ofNat k)), (2, .int lo)], [.ref 0], Mc)) 47 [0, 1, 2] rfl rfl rfl (fun J' h => h) (lb_g0 rfl rfl (by first | exact r11c | exact r11) ?_)
      have q := fn_ne0 hctccc
      show some (Value.long (Mc.2.1 123 1)) = _
      rw [u1, if_neg q]
  · exact absurd hc (by decide)
set_option maxRecDepth 100000 in
theorem m_lowest {M : cm_M} {a b : Nat} (ha : a < 2 ^ 47) (hb : b < 2 ^ 47) (h0 : 0 < b) (lo : Int32) : cm_Lc cm_ms 171 [.long (Int64.ofNat a), .long (Int64.ofNat b), .int lo] M (fun v M' => v = some (.long (if lo = 0 then Int64.ofNat (a / Nat.gcd a b) else Int64.ofNat (b / Nat.gcd a b))) ∧ M' = M) := by
  refine lb_of (mi := mr_171) rfl [(6, [0, 2, 4, 5, 7])] (fun S => ∃ x y, EU a b x y 0 ∧ S = (6, [(0, .long (Int64.ofNat a)), (2, .long (Int64.ofNat b)), (4, .int lo), (5, .long (Int64.ofNat x)), (7, .long (Int64.ofNat y))], [], M)) 400 (fun S hS => ?_) 400 ?_
  · obtain ⟨x, y, hE, rfl⟩ := hS
    have hx63 : x < 2 ^ 63 := by have := hE.2.1; omega
    have hy63 : y < 2 ^ 63 := by have := hE.2.2.1; omega
    show (ev_cmp 0 (lg_cmp (Int64.ofNat y) 0) 0 = true → _) ∧ (ev_cmp 0 (lg_cmp (Int64.ofNat y) 0) 0 = false → _)
    refine ⟨fun hL => ?_, fun hL => ?_⟩
    · have ex := EU_e hE (lz_3 hy63 hL)
      have hg : Nat.gcd a b < 2 ^ 63 := by rw [← ex]; exact hx63
      show (ev_cmp 0 lo 0 = true → _) ∧ (ev_cmp 0 lo 0 = false → _)
      refine ⟨fun hLt => ?_, fun hLt => ?_⟩
      · refine ⟨?_, rfl⟩
        show some (Value.long (Int64.ofNat a / Int64.ofNat x)) = _
        rw [if_pos (fn_eq0 hLt), Int64.ofNat_div (show a < 2 ^ 63 by omega) hg, ← ex]
      · refine ⟨?_, rfl⟩
        show some (Value.long (Int64.ofNat b / Int64.ofNat x)) = _
        rw [if_neg (fn_ne0 hLt), Int64.ofNat_div (show b < 2 ^ 63 by omega) hg, ← ex]
    · show (fun (S : cm_S) => ∃ x y, EU a b x y 0 ∧ S = (6, [(0, .long (Int64.ofNat a)), (2, .long (Int64.ofNat b)), (4, .int lo), (5, .long (Int64.ofNat x)), (7, .long (Int64.ofNat y))], [], M)) (6, [(0, .long (Int64.ofNat a)), (2, .long (Int64.ofNat b)), (4, .int lo), (5, .long (Int64.ofNat y)), (7, .long ((Int64.ofNat x) - (Int64.ofNat x) / (Int64.ofNat y) * (Int64.ofNat y)))], [], M)
      exact ⟨y, x % y, EU_s0 hE (lz_4 hL), by rw [lr_mod hx63 hy63]⟩
  · show (fun (S : cm_S) => ∃ x y, EU a b x y 0 ∧ S = (6, [(0, .long (Int64.ofNat a)), (2, .long (Int64.ofNat b)), (4, .int lo), (5, .long (Int64.ofNat x)), (7, .long (Int64.ofNat y))], [], M)) (6, [(0, .long (Int64.ofNat a)), (2, .long (Int64.ofNat b)), (4, .int lo), (5, .long (Int64.ofNat b)), (7, .long (Int64.ofNat a))], [], M)
    exact ⟨b, a, EU_0 ha hb, rfl⟩
/-- what the reference weighs -/
noncomputable def trY (M : cm_M) (me k t : Nat) : Int32 := voF (fun m => M.1 127 (13 + 3 * m)) (orF (fun m => syB (M.1 127 1) (M.1 127 (29 + 3 * k)) (M.1 127 (44 + m)) (zeR t me (lkR (M.1 127 0) me (M.1 129) 1) m) k) me) me
noncomputable def trF (M : cm_M) (s me k t : Nat) : Nat := if geB (trY M me k t) (M.1 127 (30 + 3 * k)) = true then wtN s t me else 0
noncomputable def sm64 (f : Nat → Int64) : Nat → Int64
  | 0 => 0
  | n + 1 => sm64 f n + f n
noncomputable def tyF (M : cm_M) (s me k t : Nat) : Int64 := Int64.ofNat (wtN s t me) * (trY M me k t).toInt64
noncomputable def tsI (M : cm_M) (s me k t : Nat) (M1 : cm_M) : Prop := (∀ d j, d ≠ 132 → M1.1 d j = M.1 d j) ∧ M1.2.2 = M.2.2 ∧ M1.2.1 124 31 = Int64.ofNat (smN (fun t => wtN s t me) t) ∧ M1.2.1 124 32 = Int64.ofNat (smN (trF M s me k) t) ∧ M1.2.1 124 33 = sm64 (tyF M s me k) t
theorem tsI_r {M M1 M2 : cm_M} {s me k t : Nat} {r : Nat → Int32} (h : tsI M s me k t M1) (hr : rset 132 M1 M2 r) : tsI M s me k t M2 := ⟨fun d j q => (hr.2.1 d j q).trans (h.1 d j q), by rw [hr.1]; exact h.2.1, by rw [hr.1]; exact h.2.2.1, by rw [hr.1]; exact h.2.2.2.1, by rw [hr.1]; exact h.2.2.2.2⟩
theorem tsI_w {M M1 : cm_M} {s me k t m : Nat} {x : Int32} (h : tsI M s me k t M1) : tsI M s me k t (cm_wi M1 132 m x) := ⟨fun d j q => by
  show (if d = 132 ∧ j = m then x else M1.1 d j) = M.1 d j
  rw [if_neg (fun z => q z.1)]
  exact h.1 d j q, h.2.1, h.2.2.1, h.2.2.2.1, h.2.2.2.2⟩
theorem tsI_s {M M1 : cm_M} {s me k t : Nat} {a b c : Int64} (h : tsI M s me k t M1) (ha : a = Int64.ofNat (smN (fun t => wtN s t me) (t + 1))) (hb : b = Int64.ofNat (smN (trF M s me k) (t + 1))) (hc : c = sm64 (tyF M s me k) (t + 1)) : tsI M s me k (t + 1) (cm_wl (cm_wl (cm_wl M1 124 31 a) 124 32 b) 124 33 c) := by
  refine ⟨h.1, h.2.1, ?_, ?_, ?_⟩
  · rw [wl_n (by decide), wl_n (by decide), wl_at, ha]
  · rw [wl_n (by decide), wl_at, hb]
  · rw [wl_at, hc]
theorem ze_0 (t : Nat) (r : Nat → Int32) (j : Nat) : zeR t 0 r j = r j := if_neg (fun z => absurd z.1 (Nat.not_lt_zero j))
theorem ze_n {t m : Nat} (h : btN t m = 0) (r : Nat → Int32) (j : Nat) : zeR t (m + 1) r j = zeR t m r j := by
  unfold zeR
  by_cases q : j < m ∧ btN t j = 1
  · rw [if_pos q, if_pos ⟨by omega, q.2⟩]
  · rw [if_neg q, if_neg (fun z => ?_)]
    by_cases e : j = m
    · rw [e, h] at z
      exact absurd z.2 (by decide)
    · exact q ⟨by omega, z.2⟩
theorem ze_y {t m : Nat} (h : btN t m = 1) (r : Nat → Int32) (j : Nat) : zeR t (m + 1) r j = if j = m then 0 else zeR t m r j := by
  unfold zeR
  by_cases e : j = m
  · rw [if_pos e, e, if_pos ⟨by omega, h⟩]
  · rw [if_neg e]
    by_cases q : j < m ∧ btN t j = 1
    · rw [if_pos q, if_pos ⟨by omega, q.2⟩]
    · rw [if_neg q, if_neg (fun z => q ⟨by omega, z.2⟩)]
theorem tr_c {M M1 : cm_M} {s me k t : Nat} (hk : k < 5) (hme : me ≤ 6) (h : tsI M s me k t M1) (hr : ∀ j, j < 11 → M1.1 132 j = zeR t me (lkR (M.1 127 0) me (M.1 129) 1) j) : voF (fun m => M1.1 127 (13 + 3 * m)) (orF (fun m => syB (M1.1 127 1) (M1.1 127 (29 + 3 * k)) (M1.1 127 (44 + m)) (M1.1 132 m) k) me) me = trY M me k t ∧ M1.1 127 (30 + 3 * k) = M.1 127 (30 + 3 * k) := by
  have e : ∀ j, M1.1 127 j = M.1 127 j := fun j => h.1 127 j (by decide)
  refine ⟨?_, e _⟩
  unfold trY
  rw [voF_cg (vo := fun m => M.1 127 (13 + 3 * m)) (vo' := fun m => M1.1 127 (13 + 3 * m)) me (fun m _ => e _), orF_cg (p := fun m => syB (M.1 127 1) (M.1 127 (29 + 3 * k)) (M.1 127 (44 + m)) (zeR t me (lkR (M.1 127 0) me (M.1 129) 1) m) k) (q := fun m => syB (M1.1 127 1) (M1.1 127 (29 + 3 * k)) (M1.1 127 (44 + m)) (M1.1 132 m) k) me (fun m hm => by
    show syB (M1.1 127 1) (M1.1 127 (29 + 3 * k)) (M1.1 127 (44 + m)) (M1.1 132 m) k = syB (M.1 127 1) (M.1 127 (29 + 3 * k)) (M.1 127 (44 + m)) (zeR t me (lkR (M.1 127 0) me (M.1 129) 1) m) k
    rw [e, e, e, hr m (by omega)])]
theorem sub_ofn {s : Nat} (h : s ≤ 100) : (100 : Int32) - Int32.ofNat s = Int32.ofNat (100 - s) := (Int32.ofNat_sub 100 s h).symm
set_option maxRecDepth 100000 in
theorem m_tryShaves {M : cm_M} {me k s : Nat} (g15 : M.2.2 124 15 = some 127) (g17 : M.2.2 124 17 = some 129) (g22 : M.2.2 124 22 = some 132) (g3 : M.1 127 3 = Int32.ofNat me) (hme : me ≤ 6) (hk : k < 5) (g2 : M.1 127 2 = Int32.ofNat s) (hs1 : s ≤ 100) : cm_Lc cm_ms 281 [.ref 124, .int (Int32.ofNat k)] M (fun v M' => v = none ∧ tsI M s me k (2 ^ me) M') := by
  have p64 : 2 ^ me ≤ 64 ∧ 0 < 2 ^ me := by
    have q : ∀ m, m < 7 → 2 ^ m ≤ 64 ∧ 0 < 2 ^ m := by decide
    exact q me (by omega)
  refine lb_of (mi := mr_281) rfl [(17, [0, 1, 2]), (35, [0, 1, 2, 3, 5])] (fun S => (∃ t M1, t ≤ 2 ^ me ∧ tsI M s me k t M1 ∧ S = (17, [(0, .ref 124), (1, .int (Int32.ofNat k)), (2, .int (Int32.ofNat t))], [], M1)) ∨ (∃ t m M1, t < 2 ^ me ∧ m ≤ me ∧ tsI M s me k t M1 ∧ (∀ j, j < 11 → M1.1 132 j = zeR t m (lkR (M.1 127 0) me (M.1 129) 1) j) ∧ S = (35, [(0, .ref 124), (1, .int (Int32.ofNat k)), (2, .int (Int32.ofNat t)), (3, .long (Int64.ofNat (wtN s t m))), (5, .int (Int32.ofNat m))], [], M1))) 400 (fun S hS => ?_) 400 ?_
  · rcases hS with ⟨t, M1, ht, hI, rfl⟩ | ⟨t, m, M1, ht, hm, hI, hr, rfl⟩
    · have e127 : ∀ j, M1.1 127 j = M.1 127 j := fun j => hI.1 127 j (by decide)
      have h15 : M1.2.2 124 15 = some 127 := by rw [hI.2.1]; exact g15
      have h17 : M1.2.2 124 17 = some 129 := by rw [hI.2.1]; exact g17
      have h22 : M1.2.2 124 22 = some 132 := by rw [hI.2.1]; exact g22
      have h3 : M1.1 127 3 = Int32.ofNat me := (e127 3).trans g3
      show ∃ R, cm_Lc cm_ms 208 [.ref 124] M1 R ∧ ∀ v M', R v M' → _
      refine ⟨_, m_allMen (M := M1) h15 h3 hme, ?_⟩
      rintro v M' ⟨hM, rfl⟩
      subst M'
      show (ev_cmp 4 (Int32.ofNat t) (Int32.ofNat (2 ^ me - 1)) = true → _) ∧ (ev_cmp 4 (Int32.ofNat t) (Int32.ofNat (2 ^ me - 1)) = false → _)
      refine ⟨fun hL0c => ?_, fun hL0c => ?_⟩
      · have g := fn_gt hL0c
        rw [fn_toInt (by omega), fn_toInt (by omega)] at g
        have et : t = 2 ^ me := by omega
        refine ⟨rfl, ?_⟩
        rw [← et]
        exact hI
      · have g := fn_ngt hL0c
        rw [fn_toInt (by omega), fn_toInt (by omega)] at g
        show ∃ R, cm_Lc cm_ms 220 [.ref 124, .int 1] M1 R ∧ ∀ v M', R v M' → _
        refine ⟨_, m_goOver (M := M1) (me := me) (n := 1) h15 h17 h22 h3 hme (by omega), ?_⟩
        rintro v M2 ⟨rfl, hr⟩
        show (fun (S : cm_S) => (∃ t M1, t ≤ 2 ^ me ∧ tsI M s me k t M1 ∧ S = (17, [(0, .ref 124), (1, .int (Int32.ofNat k)), (2, .int (Int32.ofNat t))], [], M1)) ∨ (∃ t m M1, t < 2 ^ me ∧ m ≤ me ∧ tsI M s me k t M1 ∧ (∀ j, j < 11 → M1.1 132 j = zeR t m (lkR (M.1 127 0) me (M.1 129) 1) j) ∧ S = (35, [(0, .ref 124), (1, .int (Int32.ofNat k)), (2, .int (Int32.ofNat t)), (3, .long (Int64.ofNat (wtN s t m))), (5, .int (Int32.ofNat m))], [], M1))) (35, [(0, .ref 124), (1, .int (Int32.ofNat k)), (2, .int (Int32.ofNat t)), (3, .long 1), (5, .int 0)], [], M2)
        refine Or.inr ⟨t, 0, M2, by omega, Nat.zero_le _, tsI_r hI hr, fun j hj => ?_, rfl⟩
        rw [hr.2.2 j hj, ze_0, e127 0]
        exact congrArg (fun f => lkR (M.1 127 0) me f 1 j) (funext fun i => hI.1 129 i (by decide))
    · have e127 : ∀ j, M1.1 127 j = M.1 127 j := fun j => hI.1 127 j (by decide)
      have h15 : M1.2.2 124 15 = some 127 := by rw [hI.2.1]; exact g15
      have h17 : M1.2.2 124 17 = some 129 := by rw [hI.2.1]; exact g17
      have h22 : M1.2.2 124 22 = some 132 := by rw [hI.2.1]; exact g22
      have h3 : M1.1 127 3 = Int32.ofNat me := (e127 3).trans g3
      have h2 : M1.1 127 2 = Int32.ofNat s := (e127 2).trans g2
      have em0 := fn_nat (show m < 2147483648 by omega)
      first | refine lb_to (T := (38, [(0, .ref 124), (1, .int (Int32.ofNat k)), (2, .int (Int32.ofNat t)), (3, .long (Int64.ofNat (wtN s t m))), (5, .int (Int32.ofNat m))], [.ref 124, .int (Int32.ofNat m)], M1)) 38 [0, 1, 2, 3, 5] rfl rfl rfl (fun J' h => h) (lb_g0 rfl rfl h15 ?_) | refine lb_to0 (T := (38, [(0, .ref 124), (1, .int (Int32.ofNat k)), (2, .int (Int32.ofNat t)), (3, .long (Int64.ofNat (wtN s t m))), (5, .int (Int32.ofNat m))], [.ref 124, .int (Int32.ofNat m)], M1)) 38 [0, 1, 2, 3, 5] rfl rfl rfl (fun J' h => h) (lb_g0 rfl rfl h15 ?_)
      show (ev_cmp 3 (Int32.ofNat m) (M1.1 127 3) = true → _) ∧ (ev_cmp 3 (Int32.ofNat m) (M1.1 127 3) = false → _)
      refine ⟨fun hL1 => ?_, fun hL1 => ?_⟩
      · have g := fn_ge hL1
        rw [h3, fn_toInt (by omega), fn_toInt (by omega)] at g
        have em : m = me := by omega
        first | refine lb_to (T := (118, [(0, .ref 124), (1, .int (Int32.ofNat k)), (2, .int (Int32.ofNat t)), (3, .long (Int64.ofNat (wtN s t m))), (5, .int (Int32.ofNat m))], [.ref 124, .ref 124, .long (M1.2.1 124 32), .ref 124], cm_wl M1 124 31 ((M1.2.1 124 31) + (Int64.ofNat (wtN s t m))))) 118 [0, 1, 2, 3, 5] rfl rfl rfl (fun J' h => h) (lb_g0 rfl rfl h22 ?_) | refine lb_to0 (T := (118, [(0, .ref 124), (1, .int (Int32.ofNat k)), (2, .int (Int32.ofNat t)), (3, .long (Int64.ofNat (wtN s t m))), (5, .int (Int32.ofNat m))], [.ref 124, .ref 124, .long (M1.2.1 124 32), .ref 124], cm_wl M1 124 31 ((M1.2.1 124 31) + (Int64.ofNat (wtN s t m))))) 118 [0, 1, 2, 3, 5] rfl rfl rfl (fun J' h => h) (lb_g0 rfl rfl h22 ?_)
        show ∃ R, cm_Lc cm_ms 215 [.ref 124, .ref 132, .int (Int32.ofNat k)] (cm_wl M1 124 31 ((M1.2.1 124 31) + (Int64.ofNat (wtN s t m)))) R ∧ ∀ v M', R v M' → _
        have htr := tr_c hk hme hI (fun j hj => by
          have q := hr j hj
          rw [em] at q
          exact q)
        have hen : cm_Lc cm_ms 215 [.ref 124, .ref 132, .int (Int32.ofNat k)] (cm_wl M1 124 31 ((M1.2.1 124 31) + (Int64.ofNat (wtN s t m)))) (fun v M' => M' = cm_wl M1 124 31 ((M1.2.1 124 31) + (Int64.ofNat (wtN s t m))) ∧ v = some (.int (bi (geB (trY M me k t) (M.1 127 (30 + 3 * k)))))) := by
          have q := m_enough (M := cm_wl M1 124 31 ((M1.2.1 124 31) + (Int64.ofNat (wtN s t m)))) (d := 132) (me := me) (k := k) h15 h3 hme (by omega)
          rw [← htr.1, ← htr.2]
          exact q
        refine ⟨_, hen, ?_⟩
        rintro v M' ⟨hM, rfl⟩
        subst M'
        show (ev_cmp 0 (bi (geB (trY M me k t) (M.1 127 (30 + 3 * k)))) 0 = true → _) ∧ (ev_cmp 0 (bi (geB (trY M me k t) (M.1 127 (30 + 3 * k)))) 0 = false → _)
        refine ⟨fun hL1tc => ?_, fun hL1tc => ?_⟩
        · have en : geB (trY M me k t) (M.1 127 (30 + 3 * k)) = false := bi_0 hL1tc
          first | refine lb_to (T := (145, [(0, .ref 124), (1, .int (Int32.ofNat k)), (2, .int (Int32.ofNat t)), (3, .long (Int64.ofNat (wtN s t m))), (5, .int (Int32.ofNat m))], [.ref 124, .ref 124, .long (Int64.ofNat (wtN s t m)), .long (M1.2.1 124 33), .ref 124], cm_wl (cm_wl M1 124 31 ((M1.2.1 124 31) + (Int64.ofNat (wtN s t m)))) 124 32 ((M1.2.1 124 32) + 0))) 145 [0, 1, 2, 3, 5] rfl rfl rfl (fun J' h => h) (lb_g0 rfl rfl h22 ?_) | refine lb_to0 (T := (145, [(0, .ref 124), (1, .int (Int32.ofNat k)), (2, .int (Int32.ofNat t)), (3, .long (Int64.ofNat (wtN s t m))), (5, .int (Int32.ofNat m))], [.ref 124, .ref 124, .long (Int64.ofNat (wtN s t m)), .long (M1.2.1 124 33), .ref 124], cm_wl (cm_wl M1 124 31 ((M1.2.1 124 31) + (Int64.ofNat (wtN s t m)))) 124 32 ((M1.2.1 124 32) + 0))) 145 [0, 1, 2, 3, 5] rfl rfl rfl (fun J' h => h) (lb_g0 rfl rfl h22 ?_)
          show ∃ R, cm_Lc cm_ms 214 [.ref 124, .ref 132, .int (Int32.ofNat k)] (cm_wl (cm_wl M1 124 31 ((M1.2.1 124 31) + (Int64.ofNat (wtN s t m)))) 124 32 ((M1.2.1 124 32) + 0)) R ∧ ∀ v M', R v M' → _
          have hye : cm_Lc cm_ms 214 [.ref 124, .ref 132, .int (Int32.ofNat k)] (cm_wl (cm_wl M1 124 31 ((M1.2.1 124 31) + (Int64.ofNat (wtN s t m)))) 124 32 ((M1.2.1 124 32) + 0)) (fun v M' => M' = cm_wl (cm_wl M1 124 31 ((M1.2.1 124 31) + (Int64.ofNat (wtN s t m)))) 124 32 ((M1.2.1 124 32) + 0) ∧ v = some (.int (trY M me k t))) := by
            have q := m_yes (M := cm_wl (cm_wl M1 124 31 ((M1.2.1 124 31) + (Int64.ofNat (wtN s t m)))) 124 32 ((M1.2.1 124 32) + 0)) (d := 132) (me := me) (k := k) h15 h3 hme (by omega)
            rw [← htr.1]
            exact q
          refine ⟨_, hye, ?_⟩
          rintro v M' ⟨hM, rfl⟩
          subst M'
          show (fun (S : cm_S) => (∃ t M1, t ≤ 2 ^ me ∧ tsI M s me k t M1 ∧ S = (17, [(0, .ref 124), (1, .int (Int32.ofNat k)), (2, .int (Int32.ofNat t))], [], M1)) ∨ (∃ t m M1, t < 2 ^ me ∧ m ≤ me ∧ tsI M s me k t M1 ∧ (∀ j, j < 11 → M1.1 132 j = zeR t m (lkR (M.1 127 0) me (M.1 129) 1) j) ∧ S = (35, [(0, .ref 124), (1, .int (Int32.ofNat k)), (2, .int (Int32.ofNat t)), (3, .long (Int64.ofNat (wtN s t m))), (5, .int (Int32.ofNat m))], [], M1))) (17, [(0, .ref 124), (1, .int (Int32.ofNat k)), (2, .int ((Int32.ofNat t) + 1))], [], cm_wl (cm_wl (cm_wl M1 124 31 ((M1.2.1 124 31) + (Int64.ofNat (wtN s t m)))) 124 32 ((M1.2.1 124 32) + 0)) 124 33 ((M1.2.1 124 33) + ((Int64.ofNat (wtN s t m)) * ((trY M me k t).toInt64))))
          exact Or.inl ⟨t + 1, (cm_wl (cm_wl (cm_wl M1 124 31 ((M1.2.1 124 31) + (Int64.ofNat (wtN s t m)))) 124 32 ((M1.2.1 124 32) + 0)) 124 33 ((M1.2.1 124 33) + ((Int64.ofNat (wtN s t m)) * ((trY M me k t).toInt64)))), by omega, tsI_s hI (by rw [hI.2.2.1, em]; exact (Int64.ofNat_add _ _).symm) (by rw [hI.2.2.2.1, show smN (trF M s me k) (t + 1) = smN (trF M s me k) t from by
              show smN (trF M s me k) t + (if _ then _ else _) = _
              rw [en, if_neg (by decide), Nat.add_zero], Int64.add_zero]) (by rw [hI.2.2.2.2, em]; try rfl), by rw [ofn_s1]; try rfl⟩
        · have en : geB (trY M me k t) (M.1 127 (30 + 3 * k)) = true := bi_1 hL1tc
          first | refine lb_to (T := (145, [(0, .ref 124), (1, .int (Int32.ofNat k)), (2, .int (Int32.ofNat t)), (3, .long (Int64.ofNat (wtN s t m))), (5, .int (Int32.ofNat m))], [.ref 124, .ref 124, .long (Int64.ofNat (wtN s t m)), .long (M1.2.1 124 33), .ref 124], cm_wl (cm_wl M1 124 31 ((M1.2.1 124 31) + (Int64.ofNat (wtN s t m)))) 124 32 ((M1.2.1 124 32) + (Int64.ofNat (wtN s t m))))) 145 [0, 1, 2, 3, 5] rfl rfl rfl (fun J' h => h) (lb_g0 rfl rfl h22 ?_) | refine lb_to0 (T := (145, [(0, .ref 124), (1, .int (Int32.ofNat k)), (2, .int (Int32.ofNat t)), (3, .long (Int64.ofNat (wtN s t m))), (5, .int (Int32.ofNat m))], [.ref 124, .ref 124, .long (Int64.ofNat (wtN s t m)), .long (M1.2.1 124 33), .ref 124], cm_wl (cm_wl M1 124 31 ((M1.2.1 124 31) + (Int64.ofNat (wtN s t m)))) 124 32 ((M1.2.1 124 32) + (Int64.ofNat (wtN s t m))))) 145 [0, 1, 2, 3, 5] rfl rfl rfl (fun J' h => h) (lb_g0 rfl rfl h22 ?_)
          show ∃ R, cm_Lc cm_ms 214 [.ref 124, .ref 132, .int (Int32.ofNat k)] (cm_wl (cm_wl M1 124 31 ((M1.2.1 124 31) + (Int64.ofNat (wtN s t m)))) 124 32 ((M1.2.1 124 32) + (Int64.ofNat (wtN s t m)))) R ∧ ∀ v M', R v M' → _
          have hye : cm_Lc cm_ms 214 [.ref 124, .ref 132, .int (Int32.ofNat k)] (cm_wl (cm_wl M1 124 31 ((M1.2.1 124 31) + (Int64.ofNat (wtN s t m)))) 124 32 ((M1.2.1 124 32) + (Int64.ofNat (wtN s t m)))) (fun v M' => M' = cm_wl (cm_wl M1 124 31 ((M1.2.1 124 31) + (Int64.ofNat (wtN s t m)))) 124 32 ((M1.2.1 124 32) + (Int64.ofNat (wtN s t m))) ∧ v = some (.int (trY M me k t))) := by
            have q := m_yes (M := cm_wl (cm_wl M1 124 31 ((M1.2.1 124 31) + (Int64.ofNat (wtN s t m)))) 124 32 ((M1.2.1 124 32) + (Int64.ofNat (wtN s t m)))) (d := 132) (me := me) (k := k) h15 h3 hme (by omega)
            rw [← htr.1]
            exact q
          refine ⟨_, hye, ?_⟩
          rintro v M' ⟨hM, rfl⟩
          subst M'
          show (fun (S : cm_S) => (∃ t M1, t ≤ 2 ^ me ∧ tsI M s me k t M1 ∧ S = (17, [(0, .ref 124), (1, .int (Int32.ofNat k)), (2, .int (Int32.ofNat t))], [], M1)) ∨ (∃ t m M1, t < 2 ^ me ∧ m ≤ me ∧ tsI M s me k t M1 ∧ (∀ j, j < 11 → M1.1 132 j = zeR t m (lkR (M.1 127 0) me (M.1 129) 1) j) ∧ S = (35, [(0, .ref 124), (1, .int (Int32.ofNat k)), (2, .int (Int32.ofNat t)), (3, .long (Int64.ofNat (wtN s t m))), (5, .int (Int32.ofNat m))], [], M1))) (17, [(0, .ref 124), (1, .int (Int32.ofNat k)), (2, .int ((Int32.ofNat t) + 1))], [], cm_wl (cm_wl (cm_wl M1 124 31 ((M1.2.1 124 31) + (Int64.ofNat (wtN s t m)))) 124 32 ((M1.2.1 124 32) + (Int64.ofNat (wtN s t m)))) 124 33 ((M1.2.1 124 33) + ((Int64.ofNat (wtN s t m)) * ((trY M me k t).toInt64))))
          exact Or.inl ⟨t + 1, (cm_wl (cm_wl (cm_wl M1 124 31 ((M1.2.1 124 31) + (Int64.ofNat (wtN s t m)))) 124 32 ((M1.2.1 124 32) + (Int64.ofNat (wtN s t m)))) 124 33 ((M1.2.1 124 33) + ((Int64.ofNat (wtN s t m)) * ((trY M me k t).toInt64)))), by omega, tsI_s hI (by rw [hI.2.2.1, em]; exact (Int64.ofNat_add _ _).symm) (by rw [hI.2.2.2.1, em, show smN (trF M s me k) (t + 1) = smN (trF M s me k) t + wtN s t me from by
              show smN (trF M s me k) t + (if _ then _ else _) = _
              rw [if_pos en], Int64.ofNat_add]) (by rw [hI.2.2.2.2, em]; try rfl), by rw [ofn_s1]; try rfl⟩
      · have g := fn_nge hL1
        rw [h3, fn_toInt (by omega), fn_toInt (by omega)] at g
        show ∃ R, cm_Lc cm_ms 168 [.int (Int32.ofNat t), .int (Int32.ofNat m)] M1 R ∧ ∀ v M', R v M' → _
        refine ⟨_, m_hasBit (Int32.ofNat t) (Int32.ofNat m) M1, ?_⟩
        rintro v M' ⟨rfl, hM⟩
        subst M'
        show (ev_cmp 0 (bi (hb (Int32.ofNat t) m)) 0 = true → _) ∧ (ev_cmp 0 (bi (hb (Int32.ofNat t) m)) 0 = false → _)
        refine ⟨fun hL1fc => ?_, fun hL1fc => ?_⟩
        · have b0 : btN t m = 0 := by
            have q := bi_0 hL1fc
            rw [hb_bt t (by omega) m (by omega)] at q
            have := bt_01 t m
            have := of_decide_eq_false q
            omega
          first | refine lb_to (T := (69, [(0, .ref 124), (1, .int (Int32.ofNat k)), (2, .int (Int32.ofNat t)), (3, .long (Int64.ofNat (wtN s t m))), (5, .int (Int32.ofNat m))], [.ref 124, .int 100, .long (Int64.ofNat (wtN s t m))], M1)) 69 [0, 1, 2, 3, 5] rfl rfl rfl (fun J' h => h) (lb_g0 rfl rfl h15 ?_) | refine lb_to0 (T := (69, [(0, .ref 124), (1, .int (Int32.ofNat k)), (2, .int (Int32.ofNat t)), (3, .long (Int64.ofNat (wtN s t m))), (5, .int (Int32.ofNat m))], [.ref 124, .int 100, .long (Int64.ofNat (wtN s t m))], M1)) 69 [0, 1, 2, 3, 5] rfl rfl rfl (fun J' h => h) (lb_g0 rfl rfl h15 ?_)
          show ∃ R, cm_Lc cm_ms 168 [.int (Int32.ofNat t), .int (Int32.ofNat m)] M1 R ∧ ∀ v M', R v M' → _
          refine ⟨_, m_hasBit (Int32.ofNat t) (Int32.ofNat m) M1, ?_⟩
          rintro v M' ⟨rfl, hM⟩
          subst M'
          show (ev_cmp 0 (bi (hb (Int32.ofNat t) m)) 0 = true → _) ∧ (ev_cmp 0 (bi (hb (Int32.ofNat t) m)) 0 = false → _)
          refine ⟨fun hL1fctc => ?_, fun hL1fctc => ?_⟩
          · show (fun (S : cm_S) => (∃ t M1, t ≤ 2 ^ me ∧ tsI M s me k t M1 ∧ S = (17, [(0, .ref 124), (1, .int (Int32.ofNat k)), (2, .int (Int32.ofNat t))], [], M1)) ∨ (∃ t m M1, t < 2 ^ me ∧ m ≤ me ∧ tsI M s me k t M1 ∧ (∀ j, j < 11 → M1.1 132 j = zeR t m (lkR (M.1 127 0) me (M.1 129) 1) j) ∧ S = (35, [(0, .ref 124), (1, .int (Int32.ofNat k)), (2, .int (Int32.ofNat t)), (3, .long (Int64.ofNat (wtN s t m))), (5, .int (Int32.ofNat m))], [], M1))) (35, [(0, .ref 124), (1, .int (Int32.ofNat k)), (2, .int (Int32.ofNat t)), (3, .long ((Int64.ofNat (wtN s t m)) * ((100 - (M1.1 127 2)).toInt64))), (5, .int ((Int32.ofNat m) + 1))], [], M1)
            refine Or.inr ⟨t, m + 1, M1, ht, by omega, hI, fun j hj => (hr j hj).trans (ze_n b0 _ _).symm, ?_⟩
            rw [ofn_s1, h2, sub_ofn hs1, tl_of (by omega), show wtN s t (m + 1) = wtN s t m * (100 - s) from by
              show wtN s t m * (if btN t m = 1 then s else 100 - s) = _
              rw [b0, if_neg (by decide)], Int64.ofNat_mul]
          · exact absurd ((bi_0 hL1fc).symm.trans (bi_1 hL1fctc)) (by decide)
        · have b1 : btN t m = 1 := by
            have q := bi_1 hL1fc
            rw [hb_bt t (by omega) m (by omega)] at q
            exact of_decide_eq_true q
          first | refine lb_to (T := (57, [(0, .ref 124), (1, .int (Int32.ofNat k)), (2, .int (Int32.ofNat t)), (3, .long (Int64.ofNat (wtN s t m))), (5, .int (Int32.ofNat m))], [.ref 124, .long (Int64.ofNat (wtN s t m))], M1)) 57 [0, 1, 2, 3, 5] rfl rfl rfl (fun J' h => h) (lb_g0 rfl rfl h15 ?_) | refine lb_to0 (T := (57, [(0, .ref 124), (1, .int (Int32.ofNat k)), (2, .int (Int32.ofNat t)), (3, .long (Int64.ofNat (wtN s t m))), (5, .int (Int32.ofNat m))], [.ref 124, .long (Int64.ofNat (wtN s t m))], M1)) 57 [0, 1, 2, 3, 5] rfl rfl rfl (fun J' h => h) (lb_g0 rfl rfl h15 ?_)
          show ∃ R, cm_Lc cm_ms 168 [.int (Int32.ofNat t), .int (Int32.ofNat m)] M1 R ∧ ∀ v M', R v M' → _
          refine ⟨_, m_hasBit (Int32.ofNat t) (Int32.ofNat m) M1, ?_⟩
          rintro v M' ⟨rfl, hM⟩
          subst M'
          show (ev_cmp 0 (bi (hb (Int32.ofNat t) m)) 0 = true → _) ∧ (ev_cmp 0 (bi (hb (Int32.ofNat t) m)) 0 = false → _)
          refine ⟨fun hL1fcfc => ?_, fun hL1fcfc => ?_⟩
          · exact absurd ((bi_1 hL1fc).symm.trans (bi_0 hL1fcfc)) (by decide)
          · first | refine lb_to (T := (88, [(0, .ref 124), (1, .int (Int32.ofNat k)), (2, .int (Int32.ofNat t)), (3, .long ((Int64.ofNat (wtN s t m)) * ((M1.1 127 2).toInt64))), (5, .int (Int32.ofNat m))], [.ref 124], M1)) 88 [0, 1, 2, 3, 5] rfl rfl rfl (fun J' h => h) (lb_g0 rfl rfl h22 ?_) | refine lb_to0 (T := (88, [(0, .ref 124), (1, .int (Int32.ofNat k)), (2, .int (Int32.ofNat t)), (3, .long ((Int64.ofNat (wtN s t m)) * ((M1.1 127 2).toInt64))), (5, .int (Int32.ofNat m))], [.ref 124], M1)) 88 [0, 1, 2, 3, 5] rfl rfl rfl (fun J' h => h) (lb_g0 rfl rfl h22 ?_)
            show (fun (S : cm_S) => (∃ t M1, t ≤ 2 ^ me ∧ tsI M s me k t M1 ∧ S = (17, [(0, .ref 124), (1, .int (Int32.ofNat k)), (2, .int (Int32.ofNat t))], [], M1)) ∨ (∃ t m M1, t < 2 ^ me ∧ m ≤ me ∧ tsI M s me k t M1 ∧ (∀ j, j < 11 → M1.1 132 j = zeR t m (lkR (M.1 127 0) me (M.1 129) 1) j) ∧ S = (35, [(0, .ref 124), (1, .int (Int32.ofNat k)), (2, .int (Int32.ofNat t)), (3, .long (Int64.ofNat (wtN s t m))), (5, .int (Int32.ofNat m))], [], M1))) (35, [(0, .ref 124), (1, .int (Int32.ofNat k)), (2, .int (Int32.ofNat t)), (3, .long ((Int64.ofNat (wtN s t m)) * ((M1.1 127 2).toInt64))), (5, .int ((Int32.ofNat m) + 1))], [], cm_wi M1 132 ((Int32.ofNat m).toNatClampNeg) 0)
            refine Or.inr ⟨t, m + 1, (cm_wi M1 132 ((Int32.ofNat m).toNatClampNeg) 0), ht, by omega, tsI_w hI, fun j hj => ?_, ?_⟩
            · show (if 132 = 132 ∧ j = (Int32.ofNat m).toNatClampNeg then 0 else M1.1 132 j) = _
              rw [em0, ze_y b1]
              by_cases e : j = m
              · rw [if_pos ⟨rfl, e⟩, if_pos e]
              · rw [if_neg (fun z => e z.2), if_neg e]
                exact hr j hj
            · rw [ofn_s1, h2, tl_of (by omega), show wtN s t (m + 1) = wtN s t m * s from by
                show wtN s t m * (if btN t m = 1 then s else 100 - s) = _
                rw [b1, if_pos rfl], Int64.ofNat_mul]
  · show (fun (S : cm_S) => (∃ t M1, t ≤ 2 ^ me ∧ tsI M s me k t M1 ∧ S = (17, [(0, .ref 124), (1, .int (Int32.ofNat k)), (2, .int (Int32.ofNat t))], [], M1)) ∨ (∃ t m M1, t < 2 ^ me ∧ m ≤ me ∧ tsI M s me k t M1 ∧ (∀ j, j < 11 → M1.1 132 j = zeR t m (lkR (M.1 127 0) me (M.1 129) 1) j) ∧ S = (35, [(0, .ref 124), (1, .int (Int32.ofNat k)), (2, .int (Int32.ofNat t)), (3, .long (Int64.ofNat (wtN s t m))), (5, .int (Int32.ofNat m))], [], M1))) (17, [(0, .ref 124), (1, .int (Int32.ofNat k)), (2, .int 0)], [], cm_wl (cm_wl (cm_wl M 124 31 0) 124 32 0) 124 33 0)
    refine Or.inl ⟨0, (cm_wl (cm_wl (cm_wl M 124 31 0) 124 32 0) 124 33 0), Nat.zero_le _, ⟨fun _ _ _ => rfl, rfl, ?_, ?_, ?_⟩, rfl⟩
    · rw [wl_n (by decide), wl_n (by decide), wl_at]
      try rfl
    · rw [wl_n (by decide), wl_at]
      try rfl
    · rw [wl_at]
      try rfl
theorem m_odds_out {a : Bool} {me mo : Nat} {M : cm_M} (hx : MTX a me mo M) (x lo : Int32) (ho : outB x (Int32.ofNat mo) = true) : cm_Lc cm_ms 282 [.ref 124, .int x, .int lo] M (fun v _ => v = some (.long (-1))) := by
  refine lb_st0 (mi := mr_282) rfl 400 ?_
  show ∃ R, cm_Lc cm_ms 164 [.ref 124] M R ∧ ∀ v M', R v M' → _
  refine ⟨_, m_goodG M, ?_⟩
  rintro v M' ⟨rfl, rfl⟩
  have hg := MTX_gd hx
  have hme6 := hx.2.2.2.2.2.1
  have hmo5 := hx.2.2.2.2.2.2
  have e127 : (gdM M).1 127 = M.1 127 := funext fun j => gd_n (by omega)
  have e129 : (gdM M).1 129 = M.1 129 := funext fun j => gd_n (by omega)
  show ∃ R, cm_Lc cm_ms 206 [.ref 124, .int x] (gdM M) R ∧ ∀ v M', R v M' → _
  have hl := m_isMot hg x
  rw [ho, Bool.not_true] at hl
  refine ⟨_, hl, ?_⟩
  rintro v M' ⟨hM, rfl⟩
  subst M'
  show (ev_cmp 1 (bi false) 0 = true → _) ∧ (ev_cmp 1 (bi false) 0 = false → _)
  refine ⟨fun hcc => ?_, fun hcc => ?_⟩
  · exact absurd hcc (by decide)
  · show ∃ R, cm_Lc cm_ms 165 [.ref 124, .int 1] (gdM M) R ∧ ∀ v M', R v M' → _
    refine ⟨_, m_noG 1 (gdM M), ?_⟩
    rintro v Mz ⟨hG, rfl⟩
    exact congrArg (fun z => some (Value.long z)) (show (-1 : Int32).toInt64 = -1 from by decide)
theorem tr_gd {M : cm_M} {s me k : Nat} (e127 : (gdM M).1 127 = M.1 127) (e129 : (gdM M).1 129 = M.1 129) : trF (gdM M) s me k = trF M s me k := by
  funext t
  unfold trF trY
  rw [e127, e129]
theorem tr_le {M : cm_M} {s me k : Nat} (hs : s ≤ 100) (hme : me ≤ 6) : smN (trF M s me k) (2 ^ me) < 2 ^ 47 := by
  have h := sm_le (f := fun t => wtN s t me) (h := trF M s me k) (2 ^ me) (fun i _ => by
    show (if geB (trY M me k i) (M.1 127 (30 + 3 * k)) = true then wtN s i me else 0) ≤ wtN s i me
    split
    · exact Nat.le_refl _
    · exact Nat.zero_le _)
  rw [wt_all hs me hme] at h
  exact Nat.lt_of_le_of_lt h (p100 me hme).2
set_option maxRecDepth 100000 in
theorem m_odds_k {a : Bool} {me mo : Nat} {M : cm_M} (hx : MTX a me mo M) {k s : Nat} (ha : a = true) (hk : k < mo) (h2s : M.1 127 2 = Int32.ofNat s) (hs1 : s ≤ 100) (lo : Int32) : cm_Lc cm_ms 282 [.ref 124, .int (Int32.ofNat k), .int lo] M (fun v _ => v = some (.long (if lo = 0 then Int64.ofNat (smN (trF M s me k) (2 ^ me) / Nat.gcd (smN (trF M s me k) (2 ^ me)) (100 ^ me)) else Int64.ofNat (100 ^ me / Nat.gcd (smN (trF M s me k) (2 ^ me)) (100 ^ me))))) := by
  have h15 := hx.2.1.1
  have h17 := hx.2.1.2.1
  have h22 := hx.2.1.2.2.2.2
  have hme := hx.2.2.2.2.2.1
  have hmo5 := hx.2.2.2.2.2.2
  refine lb_st0 (mi := mr_282) rfl 400 ?_
  show ∃ R, cm_Lc cm_ms 164 [.ref 124] M R ∧ ∀ v M', R v M' → _
  refine ⟨_, m_goodG M, ?_⟩
  rintro v M' ⟨rfl, rfl⟩
  have hg := MTX_gd hx
  have hme6 := hx.2.2.2.2.2.1
  have hmo5 := hx.2.2.2.2.2.2
  have e127 : (gdM M).1 127 = M.1 127 := funext fun j => gd_n (by omega)
  have e129 : (gdM M).1 129 = M.1 129 := funext fun j => gd_n (by omega)
  show ∃ R, cm_Lc cm_ms 206 [.ref 124, .int (Int32.ofNat k)] (gdM M) R ∧ ∀ v M', R v M' → _
  have hl := m_isMot hg (Int32.ofNat k)
  rw [outB_lt hk (by omega), Bool.not_false] at hl
  refine ⟨_, hl, ?_⟩
  rintro v M' ⟨hM, rfl⟩
  subst M'
  show (ev_cmp 1 (bi true) 0 = true → _) ∧ (ev_cmp 1 (bi true) 0 = false → _)
  refine ⟨fun hcc => ?_, fun hcc => ?_⟩
  · show ∃ R, cm_Lc cm_ms 281 [.ref 124, .int (Int32.ofNat k)] (gdM M) R ∧ ∀ v M', R v M' → _
    refine ⟨_, m_tryShaves (M := gdM M) (me := me) (k := k) (s := s) h15 h17 h22 (by rw [e127]; exact (hx.2.2.1 ha).1) hme (by omega) (by rw [e127]; exact h2s) hs1, ?_⟩
    rintro v Mb ⟨rfl, hI⟩
    show ∃ R, cm_Lc cm_ms 171 [.long (Mb.2.1 124 32), .long (Mb.2.1 124 31), .int lo] Mb R ∧ ∀ v M', R v M' → _
    have hlw : cm_Lc cm_ms 171 [.long (Mb.2.1 124 32), .long (Mb.2.1 124 31), .int lo] Mb (fun v M' => v = some (.long (if lo = 0 then Int64.ofNat (smN (trF M s me k) (2 ^ me) / Nat.gcd (smN (trF M s me k) (2 ^ me)) (100 ^ me)) else Int64.ofNat (100 ^ me / Nat.gcd (smN (trF M s me k) (2 ^ me)) (100 ^ me)))) ∧ M' = Mb) := by
      rw [hI.2.2.2.1, hI.2.2.1, wt_all hs1 me hme, tr_gd e127 e129]
      exact m_lowest (tr_le hs1 hme) (p100 me hme).2 (p100 me hme).1 lo
    refine ⟨_, hlw, ?_⟩
    rintro v M' ⟨rfl, hM⟩
    subst M'
    exact rfl
  · exact absurd hcc (by decide)
