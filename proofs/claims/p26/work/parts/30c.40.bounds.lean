noncomputable def ev_f (op : Nat) (x y : Int32) : Int32 := match op with
  | 1 => x + y
  | 2 => x - y
  | 3 => x * y
  | 4 => x &&& y
  | 5 => x ||| y
  | 6 => x ^^^ y
  | 7 => x <<< (y &&& 31)
  | 8 => x >>> (y &&& 31)
  | 9 => (x.toUInt32 >>> (y.toUInt32 &&& Int32.toUInt32 31)).toInt32
  | 10 => x / y
  | 11 => x - x / y * y
  | 12 => -x
  | 13 => x.toInt8.toInt32
  | 14 => (x.toUInt32 % 65536).toInt32
  | 15 => if y < x then y else x
  | 16 => if x < y then y else x
  | 17 => if 0 ≤ x then x else 0 - x
  | 22 => x - y
  | _ => 0
noncomputable def ev_ful : Int × Int := (-2147483648, 2147483647)
noncomputable def ev_rng (b : Int × Int) : Int × Int := if -2147483648 ≤ b.1 ∧ b.2 ≤ 2147483647 then b else ev_ful
/-- bounds of what an operation gives, out of the bounds of its numbers -/
noncomputable def ev_bd (op : Nat) (a b : Int × Int) : Int × Int := match op with
  | 1 => ev_rng (a.1 + b.1, a.2 + b.2)
  | 2 => ev_rng (a.1 - b.2, a.2 - b.1)
  | 3 => if 0 ≤ a.1 ∧ 0 ≤ b.1 then ev_rng (0, a.2 * b.2) else ev_ful
  | 4 => if 0 ≤ b.1 then (0, b.2) else if 0 ≤ a.1 then (0, a.2) else ev_ful
  | 7 => if a.1 = 1 ∧ a.2 = 1 ∧ 0 ≤ b.1 ∧ b.2 ≤ 30 then (2 ^ b.1.toNat, 2 ^ b.2.toNat) else ev_ful
  | 10 => if 0 ≤ a.1 ∧ 1 ≤ b.1 then (0, a.2) else ev_ful
  | 11 => if 0 ≤ a.1 ∧ 1 ≤ b.1 then (0, min a.2 (b.2 - 1)) else ev_ful
  | 13 => (-128, 127)
  | 14 => (0, 65535)
  | 15 => (min a.1 b.1, min a.2 b.2)
  | 16 => (max a.1 b.1, max a.2 b.2)
  | 22 => ev_rng (a.1 - b.2, a.2 - b.1)
  | _ => ev_ful
noncomputable def ev_inb (b : Int × Int) (x : Int32) : Prop := b.1 ≤ x.toInt ∧ x.toInt ≤ b.2
theorem ev_lo0 (x : Int32) : (-2147483648 : Int) ≤ x.toInt := by have := Int32.le_toInt x; omega
theorem ev_hi0 (x : Int32) : x.toInt ≤ (2147483647 : Int) := by have := Int32.toInt_lt x; omega
theorem ev_ful_in (x : Int32) : ev_inb ev_ful x := ⟨ev_lo0 x, ev_hi0 x⟩
theorem ev_rng_in {b : Int × Int} {x : Int32} {n : Int} (hx : -2147483648 ≤ n → n ≤ 2147483647 → x.toInt = n) (h1 : b.1 ≤ n) (h2 : n ≤ b.2) : ev_inb (ev_rng b) x := by
  unfold ev_rng
  split
  · rename_i h
    have := hx (by omega) (by omega)
    exact ⟨by omega, by omega⟩
  · exact ev_ful_in x
theorem ev_bm {n : Int} (h1 : -2147483648 ≤ n) (h2 : n ≤ 2147483647) : n.bmod (2 ^ 32) = n := Int.bmod_eq_of_le (by omega) (by omega)
theorem ev_and_in {x y : Int32} (hy : 0 ≤ y.toInt) : 0 ≤ (x &&& y).toInt ∧ (x &&& y).toInt ≤ y.toInt := by
  have e1 : (x &&& y).toInt = (x.toBitVec &&& y.toBitVec).toInt := rfl
  have e2 : y.toInt = y.toBitVec.toInt := rfl
  rw [e2] at hy
  rw [e1, e2]
  rw [BitVec.toInt_eq_toNat_cond] at hy ⊢
  rw [BitVec.toInt_eq_toNat_cond]
  have hle : (x.toBitVec &&& y.toBitVec).toNat ≤ y.toBitVec.toNat := by
    rw [BitVec.toNat_and]
    exact Nat.and_le_right
  have hlt := y.toBitVec.isLt
  split at hy
  · rename_i hc
    rw [if_pos (by omega), if_pos hc]
    omega
  · omega
theorem ev_and_comm (x y : Int32) : x &&& y = y &&& x := by
  apply Int32.toBitVec_inj.mp
  rw [Int32.toBitVec_and, Int32.toBitVec_and, BitVec.and_comm]
theorem ev_div_in {x y : Int32} (hx : 0 ≤ x.toInt) (hy : 1 ≤ y.toInt) : (x / y).toInt = x.toInt / y.toInt ∧ 0 ≤ x.toInt / y.toInt ∧ x.toInt / y.toInt ≤ x.toInt := by
  have h1 : 0 ≤ x.toInt / y.toInt := Int.ediv_nonneg hx (by omega)
  have h2 : x.toInt / y.toInt ≤ x.toInt := Int.ediv_le_self _ hx
  refine ⟨?_, h1, h2⟩
  rw [Int32.toInt_div, Int.tdiv_eq_ediv_of_nonneg hx]
  have := ev_hi0 x
  exact ev_bm (by omega) (by omega)
theorem ev_rem_in {x y : Int32} (hx : 0 ≤ x.toInt) (hy : 1 ≤ y.toInt) : 0 ≤ (x - x / y * y).toInt ∧ (x - x / y * y).toInt ≤ x.toInt ∧ (x - x / y * y).toInt ≤ y.toInt - 1 := by
  obtain ⟨h1, h2, h3⟩ := ev_div_in hx hy
  have hxx := ev_hi0 x
  have hm : 0 ≤ x.toInt / y.toInt * y.toInt := Int.mul_nonneg h2 (by omega)
  have hd := Int.emod_add_mul_ediv x.toInt y.toInt
  have hr1 := Int.emod_nonneg x.toInt (show y.toInt ≠ 0 by omega)
  have hr2 := Int.emod_lt_of_pos x.toInt (show 0 < y.toInt by omega)
  have hc : x.toInt / y.toInt * y.toInt = y.toInt * (x.toInt / y.toInt) := Int.mul_comm _ _
  have e1 : (x / y * y).toInt = x.toInt / y.toInt * y.toInt := by
    rw [Int32.toInt_mul, h1]
    exact ev_bm (by omega) (by omega)
  have e2 : (x - x / y * y).toInt = x.toInt - x.toInt / y.toInt * y.toInt := by
    rw [Int32.toInt_sub, e1]
    exact ev_bm (by omega) (by omega)
  rw [e2]
  omega
theorem ev_shl1 : ∀ n : Fin 31, ((1 : Int32) <<< (Int32.ofNat n.val &&& 31)).toInt = ((2 ^ n.val : Nat) : Int) := by decide
theorem ev_shl_in {x y : Int32} {a b : Int} (hx : x.toInt = 1) (h0 : 0 ≤ a) (hb : b ≤ 30) (y1 : a ≤ y.toInt) (y2 : y.toInt ≤ b) : (2 : Int) ^ a.toNat ≤ (x <<< (y &&& 31)).toInt ∧ (x <<< (y &&& 31)).toInt ≤ (2 : Int) ^ b.toNat := by
  have ex : x = 1 := Int32.toInt_inj.mp (by rw [hx]; rfl)
  have ey : y = Int32.ofNat y.toInt.toNat := by
    apply Int32.toInt_inj.mp
    rw [Int32.toInt_ofNat_of_lt (by omega)]
    omega
  have hs := ev_shl1 ⟨y.toInt.toNat, by omega⟩
  dsimp only at hs
  rw [← ey] at hs
  rw [ex, hs]
  have p1 : 2 ^ a.toNat ≤ 2 ^ y.toInt.toNat := Nat.pow_le_pow_right (by decide) (by omega)
  have p2 : 2 ^ y.toInt.toNat ≤ 2 ^ b.toNat := Nat.pow_le_pow_right (by decide) (by omega)
  constructor
  · have : ((2 ^ a.toNat : Nat) : Int) ≤ ((2 ^ y.toInt.toNat : Nat) : Int) := by exact_mod_cast p1
    rw [Int.natCast_pow] at this
    exact this
  · have : ((2 ^ y.toInt.toNat : Nat) : Int) ≤ ((2 ^ b.toNat : Nat) : Int) := by exact_mod_cast p2
    rw [Int.natCast_pow (m := 2) (n := b.toNat)] at this
    exact this
theorem ev_i2c_in (x : Int32) : 0 ≤ ((x.toUInt32 % 65536).toInt32).toInt ∧ ((x.toUInt32 % 65536).toInt32).toInt ≤ 65535 := by
  have h1 : (x.toUInt32 % 65536).toNat < 65536 := by
    rw [UInt32.toNat_mod]
    exact Nat.mod_lt _ (by decide)
  have h2 : ((x.toUInt32 % 65536).toInt32).toInt = ((x.toUInt32 % 65536).toNat : Int) := by
    show ((x.toUInt32 % 65536).toBitVec).toInt = _
    rw [BitVec.toInt_eq_toNat_cond]
    have h3 : (x.toUInt32 % 65536).toBitVec.toNat = (x.toUInt32 % 65536).toNat := rfl
    rw [h3, if_pos (by omega)]
  rw [h2]
  omega
theorem ev_bd_in {op : Nat} {a b : Int × Int} {x y : Int32} (hx : ev_inb a x) (hy : ev_inb b y) : ev_inb (ev_bd op a b) (ev_f op x y) := by
  obtain ⟨x1, x2⟩ := hx
  obtain ⟨y1, y2⟩ := hy
  unfold ev_bd
  split
  · refine ev_rng_in (n := x.toInt + y.toInt) (fun h1 h2 => ?_) (by dsimp only; omega) (by dsimp only; omega)
    show (x + y).toInt = _
    rw [Int32.toInt_add]
    exact ev_bm h1 h2
  · refine ev_rng_in (n := x.toInt - y.toInt) (fun h1 h2 => ?_) (by dsimp only; omega) (by dsimp only; omega)
    show (x - y).toInt = _
    rw [Int32.toInt_sub]
    exact ev_bm h1 h2
  · split
    · rename_i h
      have h0 : 0 ≤ x.toInt * y.toInt := Int.mul_nonneg (by omega) (by omega)
      have h3 : x.toInt * y.toInt ≤ a.2 * b.2 := Int.mul_le_mul x2 y2 (by omega) (by omega)
      refine ev_rng_in (n := x.toInt * y.toInt) (fun h1 h2 => ?_) h0 h3
      show (x * y).toInt = _
      rw [Int32.toInt_mul]
      exact ev_bm h1 h2
    · exact ev_ful_in _
  · split
    · rename_i h
      have := ev_and_in (x := x) (y := y) (by omega)
      exact ⟨this.1, Int.le_trans this.2 y2⟩
    · split
      · rename_i h
        have := ev_and_in (x := y) (y := x) (by omega)
        show ev_inb _ (x &&& y)
        rw [ev_and_comm]
        exact ⟨this.1, Int.le_trans this.2 x2⟩
      · exact ev_ful_in _
  · split
    · rename_i h
      exact ev_shl_in (by omega) h.2.2.1 h.2.2.2 y1 y2
    · exact ev_ful_in _
  · split
    · rename_i h
      obtain ⟨h1, h2, h3⟩ := ev_div_in (x := x) (y := y) (by omega) (by omega)
      show ev_inb _ (x / y)
      exact ⟨by rw [h1]; exact h2, by rw [h1]; exact Int.le_trans h3 x2⟩
    · exact ev_ful_in _
  · split
    · rename_i h
      obtain ⟨h1, h2, h3⟩ := ev_rem_in (x := x) (y := y) (by omega) (by omega)
      exact ⟨h1, by show (x - x / y * y).toInt ≤ min a.2 (b.2 - 1); omega⟩
    · exact ev_ful_in _
  · show ev_inb _ (x.toInt8.toInt32)
    have h1 := Int8.le_toInt x.toInt8
    have h2 := Int8.toInt_lt x.toInt8
    refine ⟨?_, ?_⟩
    · rw [Int8.toInt_toInt32]; dsimp only; omega
    · rw [Int8.toInt_toInt32]; dsimp only; omega
  · exact ev_i2c_in x
  · show ev_inb _ (if y < x then y else x)
    split
    · rename_i h
      rw [Int32.lt_iff_toInt_lt] at h
      exact ⟨by dsimp only; omega, by dsimp only; omega⟩
    · rename_i h
      rw [Int32.lt_iff_toInt_lt] at h
      exact ⟨by dsimp only; omega, by dsimp only; omega⟩
  · show ev_inb _ (if x < y then y else x)
    split
    · rename_i h
      rw [Int32.lt_iff_toInt_lt] at h
      exact ⟨by dsimp only; omega, by dsimp only; omega⟩
    · rename_i h
      rw [Int32.lt_iff_toInt_lt] at h
      exact ⟨by dsimp only; omega, by dsimp only; omega⟩
  · refine ev_rng_in (n := x.toInt - y.toInt) (fun h1 h2 => ?_) (by dsimp only; omega) (by dsimp only; omega)
    show (x - y).toInt = _
    rw [Int32.toInt_sub]
    exact ev_bm h1 h2
  · exact ev_ful_in _
/-- places, as numbers -/
noncomputable def adL (a n : Nat) : Nat := match a with
  | 0 => 0 + n
  | m + 1 => (m + 1) + n
noncomputable def jmL (a : Nat) (o : Int) : Nat := match a with
  | 0 => (((0 : Nat) : Int) + o).toNat
  | m + 1 => (((m + 1 : Nat) : Int) + o).toNat
theorem adL_eq (a n : Nat) : adL a n = a + n := by cases a <;> rfl
theorem jmL_eq (a : Nat) (o : Int) : jmL a o = ((a : Int) + o).toNat := by cases a <;> rfl
noncomputable def cq_adv (S : cm_S) (n : Nat) (st : List Value) : cm_S := match S with
  | (pc, L, _, M) => (adL pc n, L, st, M)
theorem cq_adv_eq (S : cm_S) (n : Nat) (st : List Value) : cq_adv S n st = cm_adv S n st := by
  obtain ⟨pc, L, s, M⟩ := S
  show (adL pc n, L, st, M) = cm_adv (pc, L, s, M) n st
  rw [adL_eq]
  try rfl
noncomputable abbrev cm_T1 : Type := cm_E → ev_P → ev_T → cm_S → (cm_S → Prop) → Prop
noncomputable def cq_no : cm_T1 := fun _ _ _ _ _ => False
noncomputable def cq_ld (ty : Nat) (n i : Nat) (S : cm_S) (k : cm_S → Prop) : Prop := match ty, cm_look S.2.1 i with
  | 0, some (.int x) => k (cq_adv S n (.int x :: S.2.2.1))
  | 1, some (.long x) => k (cq_adv S n (.long x :: S.2.2.1))
  | 2, some (.ref x) => k (cq_adv S n (.ref x :: S.2.2.1))
  | _, _ => False
noncomputable def cq_sto (ty : Nat) (n i : Nat) (S : cm_S) (k : cm_S → Prop) : Prop := match ty, S.2.2.1 with
  | 0, .int x :: st => k (adL S.1 n, cm_st1 S.2.1 i (.int x), st, S.2.2.2)
  | 1, .long x :: st => k (adL S.1 n, cm_st2 S.2.1 i (.long x), st, S.2.2.2)
  | 2, .ref x :: st => k (adL S.1 n, cm_st1 S.2.1 i (.ref x), st, S.2.2.2)
  | _, _ => False
/-- both together -/
noncomputable def cm_Cj (o : cm_O) (x : cm_T1) : Prop := ∀ (E : cm_E) (P : ev_P) (t : ev_T) (S : cm_S) (k1 k2 : cm_S → Prop), o.2 E P t S k1 → x E P t S k2 → o.2 E P t S (fun S => k1 S ∧ k2 S)
noncomputable def cq_Lo (o : cm_T1) : Prop := ∀ (E : cm_E) (P : ev_P) (t : ev_T) (pc : Nat) (L' L : List (Nat × Value)) (st : List Value) (M : cm_M) (k' k : cm_S → Prop), cm_le L' L → (∀ (pc2 : Nat) (A B : List (Nat × Value)) (st2 : List Value) (M2 : cm_M), cm_le A B → k' (pc2, A, st2, M2) → k (pc2, B, st2, M2)) → o E P t (pc, L', st, M) k' → o E P t (pc, L, st, M) k
theorem cj_no : cm_Cj cm_no cq_no := fun E P t S k1 k2 h _ => h.elim
theorem cp_no : cq_Lo cq_no := fun E P t pc L' L st M k' k hL hk h => h.elim
theorem cj_ld {ty n i : Nat} {S : cm_S} {k1 k2 : cm_S → Prop} (h : cm_ld ty n i S k1) (g : cq_ld ty n i S k2) : cm_ld ty n i S (fun S => k1 S ∧ k2 S) := by
  unfold cm_ld at h ⊢
  unfold cq_ld at g
  try simp only [cq_adv_eq, adL_eq, jmL_eq] at g
  split at h
  · rename_i x hx
    first | exact ⟨h, g⟩ | (rw [hx] at g; exact ⟨h, g⟩)
  · rename_i x hx
    first | exact ⟨h, g⟩ | (rw [hx] at g; exact ⟨h, g⟩)
  · rename_i x hx
    first | exact ⟨h, g⟩ | (rw [hx] at g; exact ⟨h, g⟩)
  · exact h.elim
theorem cj_sto {ty n i nL : Nat} {S : cm_S} {k1 k2 : cm_S → Prop} (h : cm_sto ty n i nL S k1) (g : cq_sto ty n i S k2) : cm_sto ty n i nL S (fun S => k1 S ∧ k2 S) := by
  obtain ⟨pc, L, st, M⟩ := S
  unfold cm_sto at h ⊢
  unfold cq_sto at g
  try simp only [cq_adv_eq, adL_eq, jmL_eq] at g
  dsimp only at h g ⊢
  split at h
  · exact ⟨h.1, h.2, g⟩
  · exact ⟨h.1, h.2, g⟩
  · exact ⟨h.1, h.2, g⟩
  · exact h.elim
theorem cp_ld {ty n i pc : Nat} {L' L : List (Nat × Value)} {st : List Value} {M : cm_M} {k' k : cm_S → Prop} (hL : cm_le L' L) (hk : ∀ (pc2 : Nat) (A B : List (Nat × Value)) (st2 : List Value) (M2 : cm_M), cm_le A B → k' (pc2, A, st2, M2) → k (pc2, B, st2, M2)) (h : cq_ld ty n i (pc, L', st, M) k') : cq_ld ty n i (pc, L, st, M) k := by
  unfold cq_ld at h
  split at h
  · rename_i x hx
    unfold cq_ld
    dsimp only at hx ⊢
    rw [hL.2 _ _ hx]
    exact hk _ _ _ _ _ hL h
  · rename_i x hx
    unfold cq_ld
    dsimp only at hx ⊢
    rw [hL.2 _ _ hx]
    exact hk _ _ _ _ _ hL h
  · rename_i x hx
    unfold cq_ld
    dsimp only at hx ⊢
    rw [hL.2 _ _ hx]
    exact hk _ _ _ _ _ hL h
  · exact h.elim
theorem cp_sto {ty n i pc : Nat} {L' L : List (Nat × Value)} {st : List Value} {M : cm_M} {k' k : cm_S → Prop} (hL : cm_le L' L) (hk : ∀ (pc2 : Nat) (A B : List (Nat × Value)) (st2 : List Value) (M2 : cm_M), cm_le A B → k' (pc2, A, st2, M2) → k (pc2, B, st2, M2)) (h : cq_sto ty n i (pc, L', st, M) k') : cq_sto ty n i (pc, L, st, M) k := by
  unfold cq_sto at h
  dsimp only at h
  split at h
  · exact hk _ _ _ _ _ (cm_le_1 _ _ hL) h
  · exact hk _ _ _ _ _ (cm_le_2 _ _ hL) h
  · exact hk _ _ _ _ _ (cm_le_1 _ _ hL) h
  · exact h.elim
noncomputable def cq_iconst : cm_T1 := fun E P t S k => k (cq_adv S 1 (.int (Int32.ofInt t.1) :: S.2.2.1))
theorem cj_iconst : cm_Cj cm_iconst cq_iconst := by
  intro E P t S k1 k2 h g
  obtain ⟨pc, L, st, M⟩ := S
  unfold cm_iconst at h ⊢
  unfold cq_iconst at g
  try simp only [cq_adv_eq, adL_eq, jmL_eq] at g
  dsimp only at h g ⊢
  first | exact h.elim | exact ⟨h, g⟩ | exact ⟨h.1, h.2, g⟩ | exact ⟨h.1, h.2.1, h.2.2, g⟩ | exact ⟨h.1, h.2.1, h.2.2.1, h.2.2.2, g⟩ | exact ⟨h.1, h.2.1, h.2.2.1, h.2.2.2.1, h.2.2.2.2, g⟩ | exact ⟨h.1, h.2.1, h.2.2.1, h.2.2.2.1, h.2.2.2.2.1, h.2.2.2.2.2, g⟩ | exact ⟨h.1, h.2.1, h.2.2.1, h.2.2.2.1, h.2.2.2.2.1, h.2.2.2.2.2.1, h.2.2.2.2.2.2, g⟩ | exact ⟨h.1, h.2.1, h.2.2.1, h.2.2.2.1, h.2.2.2.2.1, h.2.2.2.2.2.1, h.2.2.2.2.2.2.1, h.2.2.2.2.2.2.2, g⟩ | exact ⟨h.1, h.2.1, h.2.2.1, h.2.2.2.1, h.2.2.2.2.1, h.2.2.2.2.2.1, h.2.2.2.2.2.2.1, h.2.2.2.2.2.2.2.1, h.2.2.2.2.2.2.2.2, g⟩ | exact ⟨h.1, h.2.1, h.2.2.1, h.2.2.2.1, h.2.2.2.2.1, h.2.2.2.2.2.1, h.2.2.2.2.2.2.1, h.2.2.2.2.2.2.2.1, h.2.2.2.2.2.2.2.2.1, h.2.2.2.2.2.2.2.2.2, g⟩
theorem cp_iconst : cq_Lo cq_iconst := by
  intro E P t pc L' L st M k' k hL hk h
  unfold cq_iconst at h ⊢
  dsimp only at h ⊢
  exact hk _ _ _ _ _ hL h
noncomputable def cq_bipush : cm_T1 := fun E P t S k => k (cq_adv S 2 (.int ((Int8.ofInt t.1).toInt32) :: S.2.2.1))
theorem cj_bipush : cm_Cj cm_bipush cq_bipush := by
  intro E P t S k1 k2 h g
  obtain ⟨pc, L, st, M⟩ := S
  unfold cm_bipush at h ⊢
  unfold cq_bipush at g
  try simp only [cq_adv_eq, adL_eq, jmL_eq] at g
  dsimp only at h g ⊢
  first | exact h.elim | exact ⟨h, g⟩ | exact ⟨h.1, h.2, g⟩ | exact ⟨h.1, h.2.1, h.2.2, g⟩ | exact ⟨h.1, h.2.1, h.2.2.1, h.2.2.2, g⟩ | exact ⟨h.1, h.2.1, h.2.2.1, h.2.2.2.1, h.2.2.2.2, g⟩ | exact ⟨h.1, h.2.1, h.2.2.1, h.2.2.2.1, h.2.2.2.2.1, h.2.2.2.2.2, g⟩ | exact ⟨h.1, h.2.1, h.2.2.1, h.2.2.2.1, h.2.2.2.2.1, h.2.2.2.2.2.1, h.2.2.2.2.2.2, g⟩ | exact ⟨h.1, h.2.1, h.2.2.1, h.2.2.2.1, h.2.2.2.2.1, h.2.2.2.2.2.1, h.2.2.2.2.2.2.1, h.2.2.2.2.2.2.2, g⟩ | exact ⟨h.1, h.2.1, h.2.2.1, h.2.2.2.1, h.2.2.2.2.1, h.2.2.2.2.2.1, h.2.2.2.2.2.2.1, h.2.2.2.2.2.2.2.1, h.2.2.2.2.2.2.2.2, g⟩ | exact ⟨h.1, h.2.1, h.2.2.1, h.2.2.2.1, h.2.2.2.2.1, h.2.2.2.2.2.1, h.2.2.2.2.2.2.1, h.2.2.2.2.2.2.2.1, h.2.2.2.2.2.2.2.2.1, h.2.2.2.2.2.2.2.2.2, g⟩
theorem cp_bipush : cq_Lo cq_bipush := by
  intro E P t pc L' L st M k' k hL hk h
  unfold cq_bipush at h ⊢
  dsimp only at h ⊢
  exact hk _ _ _ _ _ hL h
noncomputable def cq_sipush : cm_T1 := fun E P t S k => k (cq_adv S 3 (.int ((Int16.ofInt t.1).toInt32) :: S.2.2.1))
theorem cj_sipush : cm_Cj cm_sipush cq_sipush := by
  intro E P t S k1 k2 h g
  obtain ⟨pc, L, st, M⟩ := S
  unfold cm_sipush at h ⊢
  unfold cq_sipush at g
  try simp only [cq_adv_eq, adL_eq, jmL_eq] at g
  dsimp only at h g ⊢
  first | exact h.elim | exact ⟨h, g⟩ | exact ⟨h.1, h.2, g⟩ | exact ⟨h.1, h.2.1, h.2.2, g⟩ | exact ⟨h.1, h.2.1, h.2.2.1, h.2.2.2, g⟩ | exact ⟨h.1, h.2.1, h.2.2.1, h.2.2.2.1, h.2.2.2.2, g⟩ | exact ⟨h.1, h.2.1, h.2.2.1, h.2.2.2.1, h.2.2.2.2.1, h.2.2.2.2.2, g⟩ | exact ⟨h.1, h.2.1, h.2.2.1, h.2.2.2.1, h.2.2.2.2.1, h.2.2.2.2.2.1, h.2.2.2.2.2.2, g⟩ | exact ⟨h.1, h.2.1, h.2.2.1, h.2.2.2.1, h.2.2.2.2.1, h.2.2.2.2.2.1, h.2.2.2.2.2.2.1, h.2.2.2.2.2.2.2, g⟩ | exact ⟨h.1, h.2.1, h.2.2.1, h.2.2.2.1, h.2.2.2.2.1, h.2.2.2.2.2.1, h.2.2.2.2.2.2.1, h.2.2.2.2.2.2.2.1, h.2.2.2.2.2.2.2.2, g⟩ | exact ⟨h.1, h.2.1, h.2.2.1, h.2.2.2.1, h.2.2.2.2.1, h.2.2.2.2.2.1, h.2.2.2.2.2.2.1, h.2.2.2.2.2.2.2.1, h.2.2.2.2.2.2.2.2.1, h.2.2.2.2.2.2.2.2.2, g⟩
theorem cp_sipush : cq_Lo cq_sipush := by
  intro E P t pc L' L st M k' k hL hk h
  unfold cq_sipush at h ⊢
  dsimp only at h ⊢
  exact hk _ _ _ _ _ hL h
noncomputable def cq_lconst : cm_T1 := fun E P t S k => k (cq_adv S 1 (.long (Int64.ofNat t.1.toNat) :: S.2.2.1))
theorem cj_lconst : cm_Cj cm_lconst cq_lconst := by
  intro E P t S k1 k2 h g
  obtain ⟨pc, L, st, M⟩ := S
  unfold cm_lconst at h ⊢
  unfold cq_lconst at g
  try simp only [cq_adv_eq, adL_eq, jmL_eq] at g
  dsimp only at h g ⊢
  first | exact h.elim | exact ⟨h, g⟩ | exact ⟨h.1, h.2, g⟩ | exact ⟨h.1, h.2.1, h.2.2, g⟩ | exact ⟨h.1, h.2.1, h.2.2.1, h.2.2.2, g⟩ | exact ⟨h.1, h.2.1, h.2.2.1, h.2.2.2.1, h.2.2.2.2, g⟩ | exact ⟨h.1, h.2.1, h.2.2.1, h.2.2.2.1, h.2.2.2.2.1, h.2.2.2.2.2, g⟩ | exact ⟨h.1, h.2.1, h.2.2.1, h.2.2.2.1, h.2.2.2.2.1, h.2.2.2.2.2.1, h.2.2.2.2.2.2, g⟩ | exact ⟨h.1, h.2.1, h.2.2.1, h.2.2.2.1, h.2.2.2.2.1, h.2.2.2.2.2.1, h.2.2.2.2.2.2.1, h.2.2.2.2.2.2.2, g⟩ | exact ⟨h.1, h.2.1, h.2.2.1, h.2.2.2.1, h.2.2.2.2.1, h.2.2.2.2.2.1, h.2.2.2.2.2.2.1, h.2.2.2.2.2.2.2.1, h.2.2.2.2.2.2.2.2, g⟩ | exact ⟨h.1, h.2.1, h.2.2.1, h.2.2.2.1, h.2.2.2.2.1, h.2.2.2.2.2.1, h.2.2.2.2.2.2.1, h.2.2.2.2.2.2.2.1, h.2.2.2.2.2.2.2.2.1, h.2.2.2.2.2.2.2.2.2, g⟩
theorem cp_lconst : cq_Lo cq_lconst := by
  intro E P t pc L' L st M k' k hL hk h
  unfold cq_lconst at h ⊢
  dsimp only at h ⊢
  exact hk _ _ _ _ _ hL h
noncomputable def cq_iload : cm_T1 := fun E P t S k => cq_ld 0 2 t.1.toNat S k
theorem cj_iload : cm_Cj cm_iload cq_iload := fun E P t S k1 k2 h g => cj_ld h g
theorem cp_iload : cq_Lo cq_iload := fun E P t pc L' L st M k' k hL hk h => cp_ld hL hk h
noncomputable def cq_iloadn : cm_T1 := fun E P t S k => cq_ld 0 1 t.1.toNat S k
theorem cj_iloadn : cm_Cj cm_iloadn cq_iloadn := fun E P t S k1 k2 h g => cj_ld h g
theorem cp_iloadn : cq_Lo cq_iloadn := fun E P t pc L' L st M k' k hL hk h => cp_ld hL hk h
noncomputable def cq_lload : cm_T1 := fun E P t S k => cq_ld 1 2 t.1.toNat S k
theorem cj_lload : cm_Cj cm_lload cq_lload := fun E P t S k1 k2 h g => cj_ld h g
theorem cp_lload : cq_Lo cq_lload := fun E P t pc L' L st M k' k hL hk h => cp_ld hL hk h
noncomputable def cq_lloadn : cm_T1 := fun E P t S k => cq_ld 1 1 t.1.toNat S k
theorem cj_lloadn : cm_Cj cm_lloadn cq_lloadn := fun E P t S k1 k2 h g => cj_ld h g
theorem cp_lloadn : cq_Lo cq_lloadn := fun E P t pc L' L st M k' k hL hk h => cp_ld hL hk h
noncomputable def cq_aload : cm_T1 := fun E P t S k => cq_ld 2 2 t.1.toNat S k
theorem cj_aload : cm_Cj cm_aload cq_aload := fun E P t S k1 k2 h g => cj_ld h g
theorem cp_aload : cq_Lo cq_aload := fun E P t pc L' L st M k' k hL hk h => cp_ld hL hk h
noncomputable def cq_aloadn : cm_T1 := fun E P t S k => cq_ld 2 1 t.1.toNat S k
theorem cj_aloadn : cm_Cj cm_aloadn cq_aloadn := fun E P t S k1 k2 h g => cj_ld h g
theorem cp_aloadn : cq_Lo cq_aloadn := fun E P t pc L' L st M k' k hL hk h => cp_ld hL hk h
noncomputable def cq_istore : cm_T1 := fun E P t S k => cq_sto 0 2 t.1.toNat S k
theorem cj_istore : cm_Cj cm_istore cq_istore := fun E P t S k1 k2 h g => cj_sto h g
theorem cp_istore : cq_Lo cq_istore := fun E P t pc L' L st M k' k hL hk h => cp_sto hL hk h
noncomputable def cq_istoren : cm_T1 := fun E P t S k => cq_sto 0 1 t.1.toNat S k
theorem cj_istoren : cm_Cj cm_istoren cq_istoren := fun E P t S k1 k2 h g => cj_sto h g
theorem cp_istoren : cq_Lo cq_istoren := fun E P t pc L' L st M k' k hL hk h => cp_sto hL hk h
noncomputable def cq_lstore : cm_T1 := fun E P t S k => cq_sto 1 2 t.1.toNat S k
theorem cj_lstore : cm_Cj cm_lstore cq_lstore := fun E P t S k1 k2 h g => cj_sto h g
theorem cp_lstore : cq_Lo cq_lstore := fun E P t pc L' L st M k' k hL hk h => cp_sto hL hk h
noncomputable def cq_lstoren : cm_T1 := fun E P t S k => cq_sto 1 1 t.1.toNat S k
theorem cj_lstoren : cm_Cj cm_lstoren cq_lstoren := fun E P t S k1 k2 h g => cj_sto h g
theorem cp_lstoren : cq_Lo cq_lstoren := fun E P t pc L' L st M k' k hL hk h => cp_sto hL hk h
noncomputable def cq_astore : cm_T1 := fun E P t S k => cq_sto 2 2 t.1.toNat S k
theorem cj_astore : cm_Cj cm_astore cq_astore := fun E P t S k1 k2 h g => cj_sto h g
theorem cp_astore : cq_Lo cq_astore := fun E P t pc L' L st M k' k hL hk h => cp_sto hL hk h
noncomputable def cq_astoren : cm_T1 := fun E P t S k => cq_sto 2 1 t.1.toNat S k
theorem cj_astoren : cm_Cj cm_astoren cq_astoren := fun E P t S k1 k2 h g => cj_sto h g
theorem cp_astoren : cq_Lo cq_astoren := fun E P t pc L' L st M k' k hL hk h => cp_sto hL hk h
noncomputable def cq_iadd : cm_T1 := fun E P t S k => match S.2.2.1 with
  | .int y :: .int x :: st => k (cq_adv S 1 (.int (x + y) :: st))
  | _ => False
theorem cj_iadd : cm_Cj cm_iadd cq_iadd := by
  intro E P t S k1 k2 h g
  obtain ⟨pc, L, st, M⟩ := S
  unfold cm_iadd at h ⊢
  unfold cq_iadd at g
  try simp only [cq_adv_eq, adL_eq, jmL_eq] at g
  dsimp only at h g ⊢
  split at h <;> (first | exact h.elim | exact ⟨h, g⟩ | exact ⟨h.1, h.2, g⟩ | exact ⟨h.1, h.2.1, h.2.2, g⟩ | exact ⟨h.1, h.2.1, h.2.2.1, h.2.2.2, g⟩ | exact ⟨h.1, h.2.1, h.2.2.1, h.2.2.2.1, h.2.2.2.2, g⟩ | exact ⟨h.1, h.2.1, h.2.2.1, h.2.2.2.1, h.2.2.2.2.1, h.2.2.2.2.2, g⟩ | exact ⟨h.1, h.2.1, h.2.2.1, h.2.2.2.1, h.2.2.2.2.1, h.2.2.2.2.2.1, h.2.2.2.2.2.2, g⟩ | exact ⟨h.1, h.2.1, h.2.2.1, h.2.2.2.1, h.2.2.2.2.1, h.2.2.2.2.2.1, h.2.2.2.2.2.2.1, h.2.2.2.2.2.2.2, g⟩ | exact ⟨h.1, h.2.1, h.2.2.1, h.2.2.2.1, h.2.2.2.2.1, h.2.2.2.2.2.1, h.2.2.2.2.2.2.1, h.2.2.2.2.2.2.2.1, h.2.2.2.2.2.2.2.2, g⟩ | exact ⟨h.1, h.2.1, h.2.2.1, h.2.2.2.1, h.2.2.2.2.1, h.2.2.2.2.2.1, h.2.2.2.2.2.2.1, h.2.2.2.2.2.2.2.1, h.2.2.2.2.2.2.2.2.1, h.2.2.2.2.2.2.2.2.2, g⟩)
theorem cp_iadd : cq_Lo cq_iadd := by
  intro E P t pc L' L st M k' k hL hk h
  unfold cq_iadd at h ⊢
  dsimp only at h ⊢
  split at h <;> (first | exact h.elim | exact hk _ _ _ _ _ hL h)
noncomputable def cq_isub : cm_T1 := fun E P t S k => match S.2.2.1 with
  | .int y :: .int x :: st => k (cq_adv S 1 (.int (x - y) :: st))
  | _ => False
theorem cj_isub : cm_Cj cm_isub cq_isub := by
  intro E P t S k1 k2 h g
  obtain ⟨pc, L, st, M⟩ := S
  unfold cm_isub at h ⊢
  unfold cq_isub at g
  try simp only [cq_adv_eq, adL_eq, jmL_eq] at g
  dsimp only at h g ⊢
  split at h <;> (first | exact h.elim | exact ⟨h, g⟩ | exact ⟨h.1, h.2, g⟩ | exact ⟨h.1, h.2.1, h.2.2, g⟩ | exact ⟨h.1, h.2.1, h.2.2.1, h.2.2.2, g⟩ | exact ⟨h.1, h.2.1, h.2.2.1, h.2.2.2.1, h.2.2.2.2, g⟩ | exact ⟨h.1, h.2.1, h.2.2.1, h.2.2.2.1, h.2.2.2.2.1, h.2.2.2.2.2, g⟩ | exact ⟨h.1, h.2.1, h.2.2.1, h.2.2.2.1, h.2.2.2.2.1, h.2.2.2.2.2.1, h.2.2.2.2.2.2, g⟩ | exact ⟨h.1, h.2.1, h.2.2.1, h.2.2.2.1, h.2.2.2.2.1, h.2.2.2.2.2.1, h.2.2.2.2.2.2.1, h.2.2.2.2.2.2.2, g⟩ | exact ⟨h.1, h.2.1, h.2.2.1, h.2.2.2.1, h.2.2.2.2.1, h.2.2.2.2.2.1, h.2.2.2.2.2.2.1, h.2.2.2.2.2.2.2.1, h.2.2.2.2.2.2.2.2, g⟩ | exact ⟨h.1, h.2.1, h.2.2.1, h.2.2.2.1, h.2.2.2.2.1, h.2.2.2.2.2.1, h.2.2.2.2.2.2.1, h.2.2.2.2.2.2.2.1, h.2.2.2.2.2.2.2.2.1, h.2.2.2.2.2.2.2.2.2, g⟩)
theorem cp_isub : cq_Lo cq_isub := by
  intro E P t pc L' L st M k' k hL hk h
  unfold cq_isub at h ⊢
  dsimp only at h ⊢
  split at h <;> (first | exact h.elim | exact hk _ _ _ _ _ hL h)
noncomputable def cq_imul : cm_T1 := fun E P t S k => match S.2.2.1 with
  | .int y :: .int x :: st => k (cq_adv S 1 (.int (x * y) :: st))
  | _ => False
theorem cj_imul : cm_Cj cm_imul cq_imul := by
  intro E P t S k1 k2 h g
  obtain ⟨pc, L, st, M⟩ := S
  unfold cm_imul at h ⊢
  unfold cq_imul at g
  try simp only [cq_adv_eq, adL_eq, jmL_eq] at g
  dsimp only at h g ⊢
  split at h <;> (first | exact h.elim | exact ⟨h, g⟩ | exact ⟨h.1, h.2, g⟩ | exact ⟨h.1, h.2.1, h.2.2, g⟩ | exact ⟨h.1, h.2.1, h.2.2.1, h.2.2.2, g⟩ | exact ⟨h.1, h.2.1, h.2.2.1, h.2.2.2.1, h.2.2.2.2, g⟩ | exact ⟨h.1, h.2.1, h.2.2.1, h.2.2.2.1, h.2.2.2.2.1, h.2.2.2.2.2, g⟩ | exact ⟨h.1, h.2.1, h.2.2.1, h.2.2.2.1, h.2.2.2.2.1, h.2.2.2.2.2.1, h.2.2.2.2.2.2, g⟩ | exact ⟨h.1, h.2.1, h.2.2.1, h.2.2.2.1, h.2.2.2.2.1, h.2.2.2.2.2.1, h.2.2.2.2.2.2.1, h.2.2.2.2.2.2.2, g⟩ | exact ⟨h.1, h.2.1, h.2.2.1, h.2.2.2.1, h.2.2.2.2.1, h.2.2.2.2.2.1, h.2.2.2.2.2.2.1, h.2.2.2.2.2.2.2.1, h.2.2.2.2.2.2.2.2, g⟩ | exact ⟨h.1, h.2.1, h.2.2.1, h.2.2.2.1, h.2.2.2.2.1, h.2.2.2.2.2.1, h.2.2.2.2.2.2.1, h.2.2.2.2.2.2.2.1, h.2.2.2.2.2.2.2.2.1, h.2.2.2.2.2.2.2.2.2, g⟩)
theorem cp_imul : cq_Lo cq_imul := by
  intro E P t pc L' L st M k' k hL hk h
  unfold cq_imul at h ⊢
  dsimp only at h ⊢
  split at h <;> (first | exact h.elim | exact hk _ _ _ _ _ hL h)
noncomputable def cq_iand : cm_T1 := fun E P t S k => match S.2.2.1 with
  | .int y :: .int x :: st => k (cq_adv S 1 (.int (x &&& y) :: st))
  | _ => False
theorem cj_iand : cm_Cj cm_iand cq_iand := by
  intro E P t S k1 k2 h g
  obtain ⟨pc, L, st, M⟩ := S
  unfold cm_iand at h ⊢
  unfold cq_iand at g
  try simp only [cq_adv_eq, adL_eq, jmL_eq] at g
  dsimp only at h g ⊢
  split at h <;> (first | exact h.elim | exact ⟨h, g⟩ | exact ⟨h.1, h.2, g⟩ | exact ⟨h.1, h.2.1, h.2.2, g⟩ | exact ⟨h.1, h.2.1, h.2.2.1, h.2.2.2, g⟩ | exact ⟨h.1, h.2.1, h.2.2.1, h.2.2.2.1, h.2.2.2.2, g⟩ | exact ⟨h.1, h.2.1, h.2.2.1, h.2.2.2.1, h.2.2.2.2.1, h.2.2.2.2.2, g⟩ | exact ⟨h.1, h.2.1, h.2.2.1, h.2.2.2.1, h.2.2.2.2.1, h.2.2.2.2.2.1, h.2.2.2.2.2.2, g⟩ | exact ⟨h.1, h.2.1, h.2.2.1, h.2.2.2.1, h.2.2.2.2.1, h.2.2.2.2.2.1, h.2.2.2.2.2.2.1, h.2.2.2.2.2.2.2, g⟩ | exact ⟨h.1, h.2.1, h.2.2.1, h.2.2.2.1, h.2.2.2.2.1, h.2.2.2.2.2.1, h.2.2.2.2.2.2.1, h.2.2.2.2.2.2.2.1, h.2.2.2.2.2.2.2.2, g⟩ | exact ⟨h.1, h.2.1, h.2.2.1, h.2.2.2.1, h.2.2.2.2.1, h.2.2.2.2.2.1, h.2.2.2.2.2.2.1, h.2.2.2.2.2.2.2.1, h.2.2.2.2.2.2.2.2.1, h.2.2.2.2.2.2.2.2.2, g⟩)
theorem cp_iand : cq_Lo cq_iand := by
  intro E P t pc L' L st M k' k hL hk h
  unfold cq_iand at h ⊢
  dsimp only at h ⊢
  split at h <;> (first | exact h.elim | exact hk _ _ _ _ _ hL h)
noncomputable def cq_ior : cm_T1 := fun E P t S k => match S.2.2.1 with
  | .int y :: .int x :: st => k (cq_adv S 1 (.int (x ||| y) :: st))
  | _ => False
theorem cj_ior : cm_Cj cm_ior cq_ior := by
  intro E P t S k1 k2 h g
  obtain ⟨pc, L, st, M⟩ := S
  unfold cm_ior at h ⊢
  unfold cq_ior at g
  try simp only [cq_adv_eq, adL_eq, jmL_eq] at g
  dsimp only at h g ⊢
  split at h <;> (first | exact h.elim | exact ⟨h, g⟩ | exact ⟨h.1, h.2, g⟩ | exact ⟨h.1, h.2.1, h.2.2, g⟩ | exact ⟨h.1, h.2.1, h.2.2.1, h.2.2.2, g⟩ | exact ⟨h.1, h.2.1, h.2.2.1, h.2.2.2.1, h.2.2.2.2, g⟩ | exact ⟨h.1, h.2.1, h.2.2.1, h.2.2.2.1, h.2.2.2.2.1, h.2.2.2.2.2, g⟩ | exact ⟨h.1, h.2.1, h.2.2.1, h.2.2.2.1, h.2.2.2.2.1, h.2.2.2.2.2.1, h.2.2.2.2.2.2, g⟩ | exact ⟨h.1, h.2.1, h.2.2.1, h.2.2.2.1, h.2.2.2.2.1, h.2.2.2.2.2.1, h.2.2.2.2.2.2.1, h.2.2.2.2.2.2.2, g⟩ | exact ⟨h.1, h.2.1, h.2.2.1, h.2.2.2.1, h.2.2.2.2.1, h.2.2.2.2.2.1, h.2.2.2.2.2.2.1, h.2.2.2.2.2.2.2.1, h.2.2.2.2.2.2.2.2, g⟩ | exact ⟨h.1, h.2.1, h.2.2.1, h.2.2.2.1, h.2.2.2.2.1, h.2.2.2.2.2.1, h.2.2.2.2.2.2.1, h.2.2.2.2.2.2.2.1, h.2.2.2.2.2.2.2.2.1, h.2.2.2.2.2.2.2.2.2, g⟩)
theorem cp_ior : cq_Lo cq_ior := by
  intro E P t pc L' L st M k' k hL hk h
  unfold cq_ior at h ⊢
  dsimp only at h ⊢
  split at h <;> (first | exact h.elim | exact hk _ _ _ _ _ hL h)
noncomputable def cq_ixor : cm_T1 := fun E P t S k => match S.2.2.1 with
  | .int y :: .int x :: st => k (cq_adv S 1 (.int (x ^^^ y) :: st))
  | _ => False
theorem cj_ixor : cm_Cj cm_ixor cq_ixor := by
  intro E P t S k1 k2 h g
  obtain ⟨pc, L, st, M⟩ := S
  unfold cm_ixor at h ⊢
  unfold cq_ixor at g
  try simp only [cq_adv_eq, adL_eq, jmL_eq] at g
  dsimp only at h g ⊢
  split at h <;> (first | exact h.elim | exact ⟨h, g⟩ | exact ⟨h.1, h.2, g⟩ | exact ⟨h.1, h.2.1, h.2.2, g⟩ | exact ⟨h.1, h.2.1, h.2.2.1, h.2.2.2, g⟩ | exact ⟨h.1, h.2.1, h.2.2.1, h.2.2.2.1, h.2.2.2.2, g⟩ | exact ⟨h.1, h.2.1, h.2.2.1, h.2.2.2.1, h.2.2.2.2.1, h.2.2.2.2.2, g⟩ | exact ⟨h.1, h.2.1, h.2.2.1, h.2.2.2.1, h.2.2.2.2.1, h.2.2.2.2.2.1, h.2.2.2.2.2.2, g⟩ | exact ⟨h.1, h.2.1, h.2.2.1, h.2.2.2.1, h.2.2.2.2.1, h.2.2.2.2.2.1, h.2.2.2.2.2.2.1, h.2.2.2.2.2.2.2, g⟩ | exact ⟨h.1, h.2.1, h.2.2.1, h.2.2.2.1, h.2.2.2.2.1, h.2.2.2.2.2.1, h.2.2.2.2.2.2.1, h.2.2.2.2.2.2.2.1, h.2.2.2.2.2.2.2.2, g⟩ | exact ⟨h.1, h.2.1, h.2.2.1, h.2.2.2.1, h.2.2.2.2.1, h.2.2.2.2.2.1, h.2.2.2.2.2.2.1, h.2.2.2.2.2.2.2.1, h.2.2.2.2.2.2.2.2.1, h.2.2.2.2.2.2.2.2.2, g⟩)
theorem cp_ixor : cq_Lo cq_ixor := by
  intro E P t pc L' L st M k' k hL hk h
  unfold cq_ixor at h ⊢
  dsimp only at h ⊢
  split at h <;> (first | exact h.elim | exact hk _ _ _ _ _ hL h)
noncomputable def cq_ishl : cm_T1 := fun E P t S k => match S.2.2.1 with
  | .int y :: .int x :: st => k (cq_adv S 1 (.int (x <<< (y &&& 31)) :: st))
  | _ => False
theorem cj_ishl : cm_Cj cm_ishl cq_ishl := by
  intro E P t S k1 k2 h g
  obtain ⟨pc, L, st, M⟩ := S
  unfold cm_ishl at h ⊢
  unfold cq_ishl at g
  try simp only [cq_adv_eq, adL_eq, jmL_eq] at g
  dsimp only at h g ⊢
  split at h <;> (first | exact h.elim | exact ⟨h, g⟩ | exact ⟨h.1, h.2, g⟩ | exact ⟨h.1, h.2.1, h.2.2, g⟩ | exact ⟨h.1, h.2.1, h.2.2.1, h.2.2.2, g⟩ | exact ⟨h.1, h.2.1, h.2.2.1, h.2.2.2.1, h.2.2.2.2, g⟩ | exact ⟨h.1, h.2.1, h.2.2.1, h.2.2.2.1, h.2.2.2.2.1, h.2.2.2.2.2, g⟩ | exact ⟨h.1, h.2.1, h.2.2.1, h.2.2.2.1, h.2.2.2.2.1, h.2.2.2.2.2.1, h.2.2.2.2.2.2, g⟩ | exact ⟨h.1, h.2.1, h.2.2.1, h.2.2.2.1, h.2.2.2.2.1, h.2.2.2.2.2.1, h.2.2.2.2.2.2.1, h.2.2.2.2.2.2.2, g⟩ | exact ⟨h.1, h.2.1, h.2.2.1, h.2.2.2.1, h.2.2.2.2.1, h.2.2.2.2.2.1, h.2.2.2.2.2.2.1, h.2.2.2.2.2.2.2.1, h.2.2.2.2.2.2.2.2, g⟩ | exact ⟨h.1, h.2.1, h.2.2.1, h.2.2.2.1, h.2.2.2.2.1, h.2.2.2.2.2.1, h.2.2.2.2.2.2.1, h.2.2.2.2.2.2.2.1, h.2.2.2.2.2.2.2.2.1, h.2.2.2.2.2.2.2.2.2, g⟩)
theorem cp_ishl : cq_Lo cq_ishl := by
  intro E P t pc L' L st M k' k hL hk h
  unfold cq_ishl at h ⊢
  dsimp only at h ⊢
  split at h <;> (first | exact h.elim | exact hk _ _ _ _ _ hL h)
noncomputable def cq_ishr : cm_T1 := fun E P t S k => match S.2.2.1 with
  | .int y :: .int x :: st => k (cq_adv S 1 (.int (x >>> (y &&& 31)) :: st))
  | _ => False
theorem cj_ishr : cm_Cj cm_ishr cq_ishr := by
  intro E P t S k1 k2 h g
  obtain ⟨pc, L, st, M⟩ := S
  unfold cm_ishr at h ⊢
  unfold cq_ishr at g
  try simp only [cq_adv_eq, adL_eq, jmL_eq] at g
  dsimp only at h g ⊢
  split at h <;> (first | exact h.elim | exact ⟨h, g⟩ | exact ⟨h.1, h.2, g⟩ | exact ⟨h.1, h.2.1, h.2.2, g⟩ | exact ⟨h.1, h.2.1, h.2.2.1, h.2.2.2, g⟩ | exact ⟨h.1, h.2.1, h.2.2.1, h.2.2.2.1, h.2.2.2.2, g⟩ | exact ⟨h.1, h.2.1, h.2.2.1, h.2.2.2.1, h.2.2.2.2.1, h.2.2.2.2.2, g⟩ | exact ⟨h.1, h.2.1, h.2.2.1, h.2.2.2.1, h.2.2.2.2.1, h.2.2.2.2.2.1, h.2.2.2.2.2.2, g⟩ | exact ⟨h.1, h.2.1, h.2.2.1, h.2.2.2.1, h.2.2.2.2.1, h.2.2.2.2.2.1, h.2.2.2.2.2.2.1, h.2.2.2.2.2.2.2, g⟩ | exact ⟨h.1, h.2.1, h.2.2.1, h.2.2.2.1, h.2.2.2.2.1, h.2.2.2.2.2.1, h.2.2.2.2.2.2.1, h.2.2.2.2.2.2.2.1, h.2.2.2.2.2.2.2.2, g⟩ | exact ⟨h.1, h.2.1, h.2.2.1, h.2.2.2.1, h.2.2.2.2.1, h.2.2.2.2.2.1, h.2.2.2.2.2.2.1, h.2.2.2.2.2.2.2.1, h.2.2.2.2.2.2.2.2.1, h.2.2.2.2.2.2.2.2.2, g⟩)
theorem cp_ishr : cq_Lo cq_ishr := by
  intro E P t pc L' L st M k' k hL hk h
  unfold cq_ishr at h ⊢
  dsimp only at h ⊢
  split at h <;> (first | exact h.elim | exact hk _ _ _ _ _ hL h)
noncomputable def cq_iushr : cm_T1 := fun E P t S k => match S.2.2.1 with
  | .int y :: .int x :: st => k (cq_adv S 1 (.int ((x.toUInt32 >>> (y.toUInt32 &&& Int32.toUInt32 31)).toInt32) :: st))
  | _ => False
theorem cj_iushr : cm_Cj cm_iushr cq_iushr := by
  intro E P t S k1 k2 h g
  obtain ⟨pc, L, st, M⟩ := S
  unfold cm_iushr at h ⊢
  unfold cq_iushr at g
  try simp only [cq_adv_eq, adL_eq, jmL_eq] at g
  dsimp only at h g ⊢
  split at h <;> (first | exact h.elim | exact ⟨h, g⟩ | exact ⟨h.1, h.2, g⟩ | exact ⟨h.1, h.2.1, h.2.2, g⟩ | exact ⟨h.1, h.2.1, h.2.2.1, h.2.2.2, g⟩ | exact ⟨h.1, h.2.1, h.2.2.1, h.2.2.2.1, h.2.2.2.2, g⟩ | exact ⟨h.1, h.2.1, h.2.2.1, h.2.2.2.1, h.2.2.2.2.1, h.2.2.2.2.2, g⟩ | exact ⟨h.1, h.2.1, h.2.2.1, h.2.2.2.1, h.2.2.2.2.1, h.2.2.2.2.2.1, h.2.2.2.2.2.2, g⟩ | exact ⟨h.1, h.2.1, h.2.2.1, h.2.2.2.1, h.2.2.2.2.1, h.2.2.2.2.2.1, h.2.2.2.2.2.2.1, h.2.2.2.2.2.2.2, g⟩ | exact ⟨h.1, h.2.1, h.2.2.1, h.2.2.2.1, h.2.2.2.2.1, h.2.2.2.2.2.1, h.2.2.2.2.2.2.1, h.2.2.2.2.2.2.2.1, h.2.2.2.2.2.2.2.2, g⟩ | exact ⟨h.1, h.2.1, h.2.2.1, h.2.2.2.1, h.2.2.2.2.1, h.2.2.2.2.2.1, h.2.2.2.2.2.2.1, h.2.2.2.2.2.2.2.1, h.2.2.2.2.2.2.2.2.1, h.2.2.2.2.2.2.2.2.2, g⟩)
theorem cp_iushr : cq_Lo cq_iushr := by
  intro E P t pc L' L st M k' k hL hk h
  unfold cq_iushr at h ⊢
  dsimp only at h ⊢
  split at h <;> (first | exact h.elim | exact hk _ _ _ _ _ hL h)
noncomputable def cq_idiv : cm_T1 := fun E P t S k => match S.2.2.1 with
  | .int y :: .int x :: st => k (cq_adv S 1 (.int (x / y) :: st))
  | _ => False
theorem cj_idiv : cm_Cj cm_idiv cq_idiv := by
  intro E P t S k1 k2 h g
  obtain ⟨pc, L, st, M⟩ := S
  unfold cm_idiv at h ⊢
  unfold cq_idiv at g
  try simp only [cq_adv_eq, adL_eq, jmL_eq] at g
  dsimp only at h g ⊢
  split at h <;> (first | exact h.elim | exact ⟨h, g⟩ | exact ⟨h.1, h.2, g⟩ | exact ⟨h.1, h.2.1, h.2.2, g⟩ | exact ⟨h.1, h.2.1, h.2.2.1, h.2.2.2, g⟩ | exact ⟨h.1, h.2.1, h.2.2.1, h.2.2.2.1, h.2.2.2.2, g⟩ | exact ⟨h.1, h.2.1, h.2.2.1, h.2.2.2.1, h.2.2.2.2.1, h.2.2.2.2.2, g⟩ | exact ⟨h.1, h.2.1, h.2.2.1, h.2.2.2.1, h.2.2.2.2.1, h.2.2.2.2.2.1, h.2.2.2.2.2.2, g⟩ | exact ⟨h.1, h.2.1, h.2.2.1, h.2.2.2.1, h.2.2.2.2.1, h.2.2.2.2.2.1, h.2.2.2.2.2.2.1, h.2.2.2.2.2.2.2, g⟩ | exact ⟨h.1, h.2.1, h.2.2.1, h.2.2.2.1, h.2.2.2.2.1, h.2.2.2.2.2.1, h.2.2.2.2.2.2.1, h.2.2.2.2.2.2.2.1, h.2.2.2.2.2.2.2.2, g⟩ | exact ⟨h.1, h.2.1, h.2.2.1, h.2.2.2.1, h.2.2.2.2.1, h.2.2.2.2.2.1, h.2.2.2.2.2.2.1, h.2.2.2.2.2.2.2.1, h.2.2.2.2.2.2.2.2.1, h.2.2.2.2.2.2.2.2.2, g⟩)
theorem cp_idiv : cq_Lo cq_idiv := by
  intro E P t pc L' L st M k' k hL hk h
  unfold cq_idiv at h ⊢
  dsimp only at h ⊢
  split at h <;> (first | exact h.elim | exact hk _ _ _ _ _ hL h)
noncomputable def cq_irem : cm_T1 := fun E P t S k => match S.2.2.1 with
  | .int y :: .int x :: st => k (cq_adv S 1 (.int (x - x / y * y) :: st))
  | _ => False
theorem cj_irem : cm_Cj cm_irem cq_irem := by
  intro E P t S k1 k2 h g
  obtain ⟨pc, L, st, M⟩ := S
  unfold cm_irem at h ⊢
  unfold cq_irem at g
  try simp only [cq_adv_eq, adL_eq, jmL_eq] at g
  dsimp only at h g ⊢
  split at h <;> (first | exact h.elim | exact ⟨h, g⟩ | exact ⟨h.1, h.2, g⟩ | exact ⟨h.1, h.2.1, h.2.2, g⟩ | exact ⟨h.1, h.2.1, h.2.2.1, h.2.2.2, g⟩ | exact ⟨h.1, h.2.1, h.2.2.1, h.2.2.2.1, h.2.2.2.2, g⟩ | exact ⟨h.1, h.2.1, h.2.2.1, h.2.2.2.1, h.2.2.2.2.1, h.2.2.2.2.2, g⟩ | exact ⟨h.1, h.2.1, h.2.2.1, h.2.2.2.1, h.2.2.2.2.1, h.2.2.2.2.2.1, h.2.2.2.2.2.2, g⟩ | exact ⟨h.1, h.2.1, h.2.2.1, h.2.2.2.1, h.2.2.2.2.1, h.2.2.2.2.2.1, h.2.2.2.2.2.2.1, h.2.2.2.2.2.2.2, g⟩ | exact ⟨h.1, h.2.1, h.2.2.1, h.2.2.2.1, h.2.2.2.2.1, h.2.2.2.2.2.1, h.2.2.2.2.2.2.1, h.2.2.2.2.2.2.2.1, h.2.2.2.2.2.2.2.2, g⟩ | exact ⟨h.1, h.2.1, h.2.2.1, h.2.2.2.1, h.2.2.2.2.1, h.2.2.2.2.2.1, h.2.2.2.2.2.2.1, h.2.2.2.2.2.2.2.1, h.2.2.2.2.2.2.2.2.1, h.2.2.2.2.2.2.2.2.2, g⟩)
theorem cp_irem : cq_Lo cq_irem := by
  intro E P t pc L' L st M k' k hL hk h
  unfold cq_irem at h ⊢
  dsimp only at h ⊢
  split at h <;> (first | exact h.elim | exact hk _ _ _ _ _ hL h)
noncomputable def cq_ineg : cm_T1 := fun E P t S k => match S.2.2.1 with
  | .int x :: st => k (cq_adv S 1 (.int (-x) :: st))
  | _ => False
theorem cj_ineg : cm_Cj cm_ineg cq_ineg := by
  intro E P t S k1 k2 h g
  obtain ⟨pc, L, st, M⟩ := S
  unfold cm_ineg at h ⊢
  unfold cq_ineg at g
  try simp only [cq_adv_eq, adL_eq, jmL_eq] at g
  dsimp only at h g ⊢
  split at h <;> (first | exact h.elim | exact ⟨h, g⟩ | exact ⟨h.1, h.2, g⟩ | exact ⟨h.1, h.2.1, h.2.2, g⟩ | exact ⟨h.1, h.2.1, h.2.2.1, h.2.2.2, g⟩ | exact ⟨h.1, h.2.1, h.2.2.1, h.2.2.2.1, h.2.2.2.2, g⟩ | exact ⟨h.1, h.2.1, h.2.2.1, h.2.2.2.1, h.2.2.2.2.1, h.2.2.2.2.2, g⟩ | exact ⟨h.1, h.2.1, h.2.2.1, h.2.2.2.1, h.2.2.2.2.1, h.2.2.2.2.2.1, h.2.2.2.2.2.2, g⟩ | exact ⟨h.1, h.2.1, h.2.2.1, h.2.2.2.1, h.2.2.2.2.1, h.2.2.2.2.2.1, h.2.2.2.2.2.2.1, h.2.2.2.2.2.2.2, g⟩ | exact ⟨h.1, h.2.1, h.2.2.1, h.2.2.2.1, h.2.2.2.2.1, h.2.2.2.2.2.1, h.2.2.2.2.2.2.1, h.2.2.2.2.2.2.2.1, h.2.2.2.2.2.2.2.2, g⟩ | exact ⟨h.1, h.2.1, h.2.2.1, h.2.2.2.1, h.2.2.2.2.1, h.2.2.2.2.2.1, h.2.2.2.2.2.2.1, h.2.2.2.2.2.2.2.1, h.2.2.2.2.2.2.2.2.1, h.2.2.2.2.2.2.2.2.2, g⟩)
theorem cp_ineg : cq_Lo cq_ineg := by
  intro E P t pc L' L st M k' k hL hk h
  unfold cq_ineg at h ⊢
  dsimp only at h ⊢
  split at h <;> (first | exact h.elim | exact hk _ _ _ _ _ hL h)
noncomputable def cq_i2b : cm_T1 := fun E P t S k => match S.2.2.1 with
  | .int x :: st => k (cq_adv S 1 (.int (x.toInt8.toInt32) :: st))
  | _ => False
theorem cj_i2b : cm_Cj cm_i2b cq_i2b := by
  intro E P t S k1 k2 h g
  obtain ⟨pc, L, st, M⟩ := S
  unfold cm_i2b at h ⊢
  unfold cq_i2b at g
  try simp only [cq_adv_eq, adL_eq, jmL_eq] at g
  dsimp only at h g ⊢
  split at h <;> (first | exact h.elim | exact ⟨h, g⟩ | exact ⟨h.1, h.2, g⟩ | exact ⟨h.1, h.2.1, h.2.2, g⟩ | exact ⟨h.1, h.2.1, h.2.2.1, h.2.2.2, g⟩ | exact ⟨h.1, h.2.1, h.2.2.1, h.2.2.2.1, h.2.2.2.2, g⟩ | exact ⟨h.1, h.2.1, h.2.2.1, h.2.2.2.1, h.2.2.2.2.1, h.2.2.2.2.2, g⟩ | exact ⟨h.1, h.2.1, h.2.2.1, h.2.2.2.1, h.2.2.2.2.1, h.2.2.2.2.2.1, h.2.2.2.2.2.2, g⟩ | exact ⟨h.1, h.2.1, h.2.2.1, h.2.2.2.1, h.2.2.2.2.1, h.2.2.2.2.2.1, h.2.2.2.2.2.2.1, h.2.2.2.2.2.2.2, g⟩ | exact ⟨h.1, h.2.1, h.2.2.1, h.2.2.2.1, h.2.2.2.2.1, h.2.2.2.2.2.1, h.2.2.2.2.2.2.1, h.2.2.2.2.2.2.2.1, h.2.2.2.2.2.2.2.2, g⟩ | exact ⟨h.1, h.2.1, h.2.2.1, h.2.2.2.1, h.2.2.2.2.1, h.2.2.2.2.2.1, h.2.2.2.2.2.2.1, h.2.2.2.2.2.2.2.1, h.2.2.2.2.2.2.2.2.1, h.2.2.2.2.2.2.2.2.2, g⟩)
theorem cp_i2b : cq_Lo cq_i2b := by
  intro E P t pc L' L st M k' k hL hk h
  unfold cq_i2b at h ⊢
  dsimp only at h ⊢
  split at h <;> (first | exact h.elim | exact hk _ _ _ _ _ hL h)
noncomputable def cq_i2l : cm_T1 := fun E P t S k => match S.2.2.1 with
  | .int x :: st => k (cq_adv S 1 (.long x.toInt64 :: st))
  | _ => False
theorem cj_i2l : cm_Cj cm_i2l cq_i2l := by
  intro E P t S k1 k2 h g
  obtain ⟨pc, L, st, M⟩ := S
  unfold cm_i2l at h ⊢
  unfold cq_i2l at g
  try simp only [cq_adv_eq, adL_eq, jmL_eq] at g
  dsimp only at h g ⊢
  split at h <;> (first | exact h.elim | exact ⟨h, g⟩ | exact ⟨h.1, h.2, g⟩ | exact ⟨h.1, h.2.1, h.2.2, g⟩ | exact ⟨h.1, h.2.1, h.2.2.1, h.2.2.2, g⟩ | exact ⟨h.1, h.2.1, h.2.2.1, h.2.2.2.1, h.2.2.2.2, g⟩ | exact ⟨h.1, h.2.1, h.2.2.1, h.2.2.2.1, h.2.2.2.2.1, h.2.2.2.2.2, g⟩ | exact ⟨h.1, h.2.1, h.2.2.1, h.2.2.2.1, h.2.2.2.2.1, h.2.2.2.2.2.1, h.2.2.2.2.2.2, g⟩ | exact ⟨h.1, h.2.1, h.2.2.1, h.2.2.2.1, h.2.2.2.2.1, h.2.2.2.2.2.1, h.2.2.2.2.2.2.1, h.2.2.2.2.2.2.2, g⟩ | exact ⟨h.1, h.2.1, h.2.2.1, h.2.2.2.1, h.2.2.2.2.1, h.2.2.2.2.2.1, h.2.2.2.2.2.2.1, h.2.2.2.2.2.2.2.1, h.2.2.2.2.2.2.2.2, g⟩ | exact ⟨h.1, h.2.1, h.2.2.1, h.2.2.2.1, h.2.2.2.2.1, h.2.2.2.2.2.1, h.2.2.2.2.2.2.1, h.2.2.2.2.2.2.2.1, h.2.2.2.2.2.2.2.2.1, h.2.2.2.2.2.2.2.2.2, g⟩)
theorem cp_i2l : cq_Lo cq_i2l := by
  intro E P t pc L' L st M k' k hL hk h
  unfold cq_i2l at h ⊢
  dsimp only at h ⊢
  split at h <;> (first | exact h.elim | exact hk _ _ _ _ _ hL h)
noncomputable def cq_lcmp : cm_T1 := fun E P t S k => match S.2.2.1 with
  | .long y :: .long x :: st => k (cq_adv S 1 (.int (lg_cmp x y) :: st))
  | _ => False
theorem cj_lcmp : cm_Cj cm_lcmp cq_lcmp := by
  intro E P t S k1 k2 h g
  obtain ⟨pc, L, st, M⟩ := S
  unfold cm_lcmp at h ⊢
  unfold cq_lcmp at g
  try simp only [cq_adv_eq, adL_eq, jmL_eq] at g
  dsimp only at h g ⊢
  split at h <;> (first | exact h.elim | exact ⟨h, g⟩ | exact ⟨h.1, h.2, g⟩ | exact ⟨h.1, h.2.1, h.2.2, g⟩ | exact ⟨h.1, h.2.1, h.2.2.1, h.2.2.2, g⟩ | exact ⟨h.1, h.2.1, h.2.2.1, h.2.2.2.1, h.2.2.2.2, g⟩ | exact ⟨h.1, h.2.1, h.2.2.1, h.2.2.2.1, h.2.2.2.2.1, h.2.2.2.2.2, g⟩ | exact ⟨h.1, h.2.1, h.2.2.1, h.2.2.2.1, h.2.2.2.2.1, h.2.2.2.2.2.1, h.2.2.2.2.2.2, g⟩ | exact ⟨h.1, h.2.1, h.2.2.1, h.2.2.2.1, h.2.2.2.2.1, h.2.2.2.2.2.1, h.2.2.2.2.2.2.1, h.2.2.2.2.2.2.2, g⟩ | exact ⟨h.1, h.2.1, h.2.2.1, h.2.2.2.1, h.2.2.2.2.1, h.2.2.2.2.2.1, h.2.2.2.2.2.2.1, h.2.2.2.2.2.2.2.1, h.2.2.2.2.2.2.2.2, g⟩ | exact ⟨h.1, h.2.1, h.2.2.1, h.2.2.2.1, h.2.2.2.2.1, h.2.2.2.2.2.1, h.2.2.2.2.2.2.1, h.2.2.2.2.2.2.2.1, h.2.2.2.2.2.2.2.2.1, h.2.2.2.2.2.2.2.2.2, g⟩)
theorem cp_lcmp : cq_Lo cq_lcmp := by
  intro E P t pc L' L st M k' k hL hk h
  unfold cq_lcmp at h ⊢
  dsimp only at h ⊢
  split at h <;> (first | exact h.elim | exact hk _ _ _ _ _ hL h)
noncomputable def cq_dup : cm_T1 := fun E P t S k => match S.2.2.1 with
  | x :: st => k (cq_adv S 1 (x :: x :: st))
  | _ => False
theorem cj_dup : cm_Cj cm_dup cq_dup := by
  intro E P t S k1 k2 h g
  obtain ⟨pc, L, st, M⟩ := S
  unfold cm_dup at h ⊢
  unfold cq_dup at g
  try simp only [cq_adv_eq, adL_eq, jmL_eq] at g
  dsimp only at h g ⊢
  split at h <;> (first | exact h.elim | exact ⟨h, g⟩ | exact ⟨h.1, h.2, g⟩ | exact ⟨h.1, h.2.1, h.2.2, g⟩ | exact ⟨h.1, h.2.1, h.2.2.1, h.2.2.2, g⟩ | exact ⟨h.1, h.2.1, h.2.2.1, h.2.2.2.1, h.2.2.2.2, g⟩ | exact ⟨h.1, h.2.1, h.2.2.1, h.2.2.2.1, h.2.2.2.2.1, h.2.2.2.2.2, g⟩ | exact ⟨h.1, h.2.1, h.2.2.1, h.2.2.2.1, h.2.2.2.2.1, h.2.2.2.2.2.1, h.2.2.2.2.2.2, g⟩ | exact ⟨h.1, h.2.1, h.2.2.1, h.2.2.2.1, h.2.2.2.2.1, h.2.2.2.2.2.1, h.2.2.2.2.2.2.1, h.2.2.2.2.2.2.2, g⟩ | exact ⟨h.1, h.2.1, h.2.2.1, h.2.2.2.1, h.2.2.2.2.1, h.2.2.2.2.2.1, h.2.2.2.2.2.2.1, h.2.2.2.2.2.2.2.1, h.2.2.2.2.2.2.2.2, g⟩ | exact ⟨h.1, h.2.1, h.2.2.1, h.2.2.2.1, h.2.2.2.2.1, h.2.2.2.2.2.1, h.2.2.2.2.2.2.1, h.2.2.2.2.2.2.2.1, h.2.2.2.2.2.2.2.2.1, h.2.2.2.2.2.2.2.2.2, g⟩)
theorem cp_dup : cq_Lo cq_dup := by
  intro E P t pc L' L st M k' k hL hk h
  unfold cq_dup at h ⊢
  dsimp only at h ⊢
  split at h <;> (first | exact h.elim | exact hk _ _ _ _ _ hL h)
noncomputable def cq_pop : cm_T1 := fun E P t S k => match S.2.2.1 with
  | x :: st => k (cq_adv S 1 st)
  | _ => False
theorem cj_pop : cm_Cj cm_pop cq_pop := by
  intro E P t S k1 k2 h g
  obtain ⟨pc, L, st, M⟩ := S
  unfold cm_pop at h ⊢
  unfold cq_pop at g
  try simp only [cq_adv_eq, adL_eq, jmL_eq] at g
  dsimp only at h g ⊢
  split at h <;> (first | exact h.elim | exact ⟨h, g⟩ | exact ⟨h.1, h.2, g⟩ | exact ⟨h.1, h.2.1, h.2.2, g⟩ | exact ⟨h.1, h.2.1, h.2.2.1, h.2.2.2, g⟩ | exact ⟨h.1, h.2.1, h.2.2.1, h.2.2.2.1, h.2.2.2.2, g⟩ | exact ⟨h.1, h.2.1, h.2.2.1, h.2.2.2.1, h.2.2.2.2.1, h.2.2.2.2.2, g⟩ | exact ⟨h.1, h.2.1, h.2.2.1, h.2.2.2.1, h.2.2.2.2.1, h.2.2.2.2.2.1, h.2.2.2.2.2.2, g⟩ | exact ⟨h.1, h.2.1, h.2.2.1, h.2.2.2.1, h.2.2.2.2.1, h.2.2.2.2.2.1, h.2.2.2.2.2.2.1, h.2.2.2.2.2.2.2, g⟩ | exact ⟨h.1, h.2.1, h.2.2.1, h.2.2.2.1, h.2.2.2.2.1, h.2.2.2.2.2.1, h.2.2.2.2.2.2.1, h.2.2.2.2.2.2.2.1, h.2.2.2.2.2.2.2.2, g⟩ | exact ⟨h.1, h.2.1, h.2.2.1, h.2.2.2.1, h.2.2.2.2.1, h.2.2.2.2.2.1, h.2.2.2.2.2.2.1, h.2.2.2.2.2.2.2.1, h.2.2.2.2.2.2.2.2.1, h.2.2.2.2.2.2.2.2.2, g⟩)
theorem cp_pop : cq_Lo cq_pop := by
  intro E P t pc L' L st M k' k hL hk h
  unfold cq_pop at h ⊢
  dsimp only at h ⊢
  split at h <;> (first | exact h.elim | exact hk _ _ _ _ _ hL h)
noncomputable def cq_dup2 : cm_T1 := fun E P t S k => match S.2.2.1 with
  | x :: y :: st => k (cq_adv S 1 (x :: y :: x :: y :: st))
  | _ => False
theorem cj_dup2 : cm_Cj cm_dup2 cq_dup2 := by
  intro E P t S k1 k2 h g
  obtain ⟨pc, L, st, M⟩ := S
  unfold cm_dup2 at h ⊢
  unfold cq_dup2 at g
  try simp only [cq_adv_eq, adL_eq, jmL_eq] at g
  dsimp only at h g ⊢
  split at h <;> (first | exact h.elim | exact ⟨h, g⟩ | exact ⟨h.1, h.2, g⟩ | exact ⟨h.1, h.2.1, h.2.2, g⟩ | exact ⟨h.1, h.2.1, h.2.2.1, h.2.2.2, g⟩ | exact ⟨h.1, h.2.1, h.2.2.1, h.2.2.2.1, h.2.2.2.2, g⟩ | exact ⟨h.1, h.2.1, h.2.2.1, h.2.2.2.1, h.2.2.2.2.1, h.2.2.2.2.2, g⟩ | exact ⟨h.1, h.2.1, h.2.2.1, h.2.2.2.1, h.2.2.2.2.1, h.2.2.2.2.2.1, h.2.2.2.2.2.2, g⟩ | exact ⟨h.1, h.2.1, h.2.2.1, h.2.2.2.1, h.2.2.2.2.1, h.2.2.2.2.2.1, h.2.2.2.2.2.2.1, h.2.2.2.2.2.2.2, g⟩ | exact ⟨h.1, h.2.1, h.2.2.1, h.2.2.2.1, h.2.2.2.2.1, h.2.2.2.2.2.1, h.2.2.2.2.2.2.1, h.2.2.2.2.2.2.2.1, h.2.2.2.2.2.2.2.2, g⟩ | exact ⟨h.1, h.2.1, h.2.2.1, h.2.2.2.1, h.2.2.2.2.1, h.2.2.2.2.2.1, h.2.2.2.2.2.2.1, h.2.2.2.2.2.2.2.1, h.2.2.2.2.2.2.2.2.1, h.2.2.2.2.2.2.2.2.2, g⟩)
theorem cp_dup2 : cq_Lo cq_dup2 := by
  intro E P t pc L' L st M k' k hL hk h
  unfold cq_dup2 at h ⊢
  dsimp only at h ⊢
  split at h <;> (first | exact h.elim | exact hk _ _ _ _ _ hL h)
noncomputable def cq_iinc : cm_T1 := fun E P t S k => match cm_look S.2.1 t.1.toNat with
  | some (.int x) => k (adL S.1 3, cm_st1 S.2.1 t.1.toNat (.int (x + Int32.ofInt t.2.1)), S.2.2)
  | _ => False
theorem cj_iinc : cm_Cj cm_iinc cq_iinc := by
  intro E P t S k1 k2 h g
  obtain ⟨pc, L, st, M⟩ := S
  unfold cm_iinc at h ⊢
  unfold cq_iinc at g
  try simp only [cq_adv_eq, adL_eq, jmL_eq] at g
  dsimp only at h g ⊢
  split at h
  · rename_i x hx
    first | exact ⟨h.1, h.2, g⟩ | (rw [hx] at g; exact ⟨h.1, h.2, g⟩)
  · exact h.elim
theorem cp_iinc : cq_Lo cq_iinc := by
  intro E P t pc L' L st M k' k hL hk h
  unfold cq_iinc at h ⊢
  dsimp only at h ⊢
  split at h
  · rename_i x hx
    rw [hL.2 _ _ hx]
    exact hk _ _ _ _ _ (cm_le_1 _ _ hL) h
  · exact h.elim
noncomputable def cq_icmp_eq : cm_T1 := fun E P t S k => match S.2.2.1 with
  | .int y :: .int x :: st => (ev_cmp 0 x y = true → k (jmL S.1 t.1, S.2.1, st, S.2.2.2)) ∧ (ev_cmp 0 x y = false → k (adL S.1 3, S.2.1, st, S.2.2.2))
  | _ => False
theorem cj_icmp_eq : cm_Cj cm_icmp_eq cq_icmp_eq := by
  intro E P t S k1 k2 h g
  obtain ⟨pc, L, st, M⟩ := S
  unfold cm_icmp_eq at h ⊢
  unfold cq_icmp_eq at g
  try simp only [cq_adv_eq, adL_eq, jmL_eq] at g
  dsimp only at h g ⊢
  split at h
  · exact ⟨h.1, fun z => ⟨h.2.1 z, g.1 z⟩, fun z => ⟨h.2.2 z, g.2 z⟩⟩
  · exact h.elim
theorem cp_icmp_eq : cq_Lo cq_icmp_eq := by
  intro E P t pc L' L st M k' k hL hk h
  unfold cq_icmp_eq at h ⊢
  dsimp only at h ⊢
  split at h
  · exact ⟨fun z => hk _ _ _ _ _ hL (h.1 z), fun z => hk _ _ _ _ _ hL (h.2 z)⟩
  · exact h.elim
noncomputable def cq_icmp_ne : cm_T1 := fun E P t S k => match S.2.2.1 with
  | .int y :: .int x :: st => (ev_cmp 1 x y = true → k (jmL S.1 t.1, S.2.1, st, S.2.2.2)) ∧ (ev_cmp 1 x y = false → k (adL S.1 3, S.2.1, st, S.2.2.2))
  | _ => False
theorem cj_icmp_ne : cm_Cj cm_icmp_ne cq_icmp_ne := by
  intro E P t S k1 k2 h g
  obtain ⟨pc, L, st, M⟩ := S
  unfold cm_icmp_ne at h ⊢
  unfold cq_icmp_ne at g
  try simp only [cq_adv_eq, adL_eq, jmL_eq] at g
  dsimp only at h g ⊢
  split at h
  · exact ⟨h.1, fun z => ⟨h.2.1 z, g.1 z⟩, fun z => ⟨h.2.2 z, g.2 z⟩⟩
  · exact h.elim
theorem cp_icmp_ne : cq_Lo cq_icmp_ne := by
  intro E P t pc L' L st M k' k hL hk h
  unfold cq_icmp_ne at h ⊢
  dsimp only at h ⊢
  split at h
  · exact ⟨fun z => hk _ _ _ _ _ hL (h.1 z), fun z => hk _ _ _ _ _ hL (h.2 z)⟩
  · exact h.elim
noncomputable def cq_icmp_lt : cm_T1 := fun E P t S k => match S.2.2.1 with
  | .int y :: .int x :: st => (ev_cmp 2 x y = true → k (jmL S.1 t.1, S.2.1, st, S.2.2.2)) ∧ (ev_cmp 2 x y = false → k (adL S.1 3, S.2.1, st, S.2.2.2))
  | _ => False
theorem cj_icmp_lt : cm_Cj cm_icmp_lt cq_icmp_lt := by
  intro E P t S k1 k2 h g
  obtain ⟨pc, L, st, M⟩ := S
  unfold cm_icmp_lt at h ⊢
  unfold cq_icmp_lt at g
  try simp only [cq_adv_eq, adL_eq, jmL_eq] at g
  dsimp only at h g ⊢
  split at h
  · exact ⟨h.1, fun z => ⟨h.2.1 z, g.1 z⟩, fun z => ⟨h.2.2 z, g.2 z⟩⟩
  · exact h.elim
theorem cp_icmp_lt : cq_Lo cq_icmp_lt := by
  intro E P t pc L' L st M k' k hL hk h
  unfold cq_icmp_lt at h ⊢
  dsimp only at h ⊢
  split at h
  · exact ⟨fun z => hk _ _ _ _ _ hL (h.1 z), fun z => hk _ _ _ _ _ hL (h.2 z)⟩
  · exact h.elim
noncomputable def cq_icmp_ge : cm_T1 := fun E P t S k => match S.2.2.1 with
  | .int y :: .int x :: st => (ev_cmp 3 x y = true → k (jmL S.1 t.1, S.2.1, st, S.2.2.2)) ∧ (ev_cmp 3 x y = false → k (adL S.1 3, S.2.1, st, S.2.2.2))
  | _ => False
theorem cj_icmp_ge : cm_Cj cm_icmp_ge cq_icmp_ge := by
  intro E P t S k1 k2 h g
  obtain ⟨pc, L, st, M⟩ := S
  unfold cm_icmp_ge at h ⊢
  unfold cq_icmp_ge at g
  try simp only [cq_adv_eq, adL_eq, jmL_eq] at g
  dsimp only at h g ⊢
  split at h
  · exact ⟨h.1, fun z => ⟨h.2.1 z, g.1 z⟩, fun z => ⟨h.2.2 z, g.2 z⟩⟩
  · exact h.elim
theorem cp_icmp_ge : cq_Lo cq_icmp_ge := by
  intro E P t pc L' L st M k' k hL hk h
  unfold cq_icmp_ge at h ⊢
  dsimp only at h ⊢
  split at h
  · exact ⟨fun z => hk _ _ _ _ _ hL (h.1 z), fun z => hk _ _ _ _ _ hL (h.2 z)⟩
  · exact h.elim
noncomputable def cq_icmp_gt : cm_T1 := fun E P t S k => match S.2.2.1 with
  | .int y :: .int x :: st => (ev_cmp 4 x y = true → k (jmL S.1 t.1, S.2.1, st, S.2.2.2)) ∧ (ev_cmp 4 x y = false → k (adL S.1 3, S.2.1, st, S.2.2.2))
  | _ => False
theorem cj_icmp_gt : cm_Cj cm_icmp_gt cq_icmp_gt := by
  intro E P t S k1 k2 h g
  obtain ⟨pc, L, st, M⟩ := S
  unfold cm_icmp_gt at h ⊢
  unfold cq_icmp_gt at g
  try simp only [cq_adv_eq, adL_eq, jmL_eq] at g
  dsimp only at h g ⊢
  split at h
  · exact ⟨h.1, fun z => ⟨h.2.1 z, g.1 z⟩, fun z => ⟨h.2.2 z, g.2 z⟩⟩
  · exact h.elim
theorem cp_icmp_gt : cq_Lo cq_icmp_gt := by
  intro E P t pc L' L st M k' k hL hk h
  unfold cq_icmp_gt at h ⊢
  dsimp only at h ⊢
  split at h
  · exact ⟨fun z => hk _ _ _ _ _ hL (h.1 z), fun z => hk _ _ _ _ _ hL (h.2 z)⟩
  · exact h.elim
noncomputable def cq_icmp_le : cm_T1 := fun E P t S k => match S.2.2.1 with
  | .int y :: .int x :: st => (ev_cmp 5 x y = true → k (jmL S.1 t.1, S.2.1, st, S.2.2.2)) ∧ (ev_cmp 5 x y = false → k (adL S.1 3, S.2.1, st, S.2.2.2))
  | _ => False
theorem cj_icmp_le : cm_Cj cm_icmp_le cq_icmp_le := by
  intro E P t S k1 k2 h g
  obtain ⟨pc, L, st, M⟩ := S
  unfold cm_icmp_le at h ⊢
  unfold cq_icmp_le at g
  try simp only [cq_adv_eq, adL_eq, jmL_eq] at g
  dsimp only at h g ⊢
  split at h
  · exact ⟨h.1, fun z => ⟨h.2.1 z, g.1 z⟩, fun z => ⟨h.2.2 z, g.2 z⟩⟩
  · exact h.elim
theorem cp_icmp_le : cq_Lo cq_icmp_le := by
  intro E P t pc L' L st M k' k hL hk h
  unfold cq_icmp_le at h ⊢
  dsimp only at h ⊢
  split at h
  · exact ⟨fun z => hk _ _ _ _ _ hL (h.1 z), fun z => hk _ _ _ _ _ hL (h.2 z)⟩
  · exact h.elim
noncomputable def cq_if_eq : cm_T1 := fun E P t S k => match S.2.2.1 with
  | .int x :: st => (ev_cmp 0 x 0 = true → k (jmL S.1 t.1, S.2.1, st, S.2.2.2)) ∧ (ev_cmp 0 x 0 = false → k (adL S.1 3, S.2.1, st, S.2.2.2))
  | _ => False
theorem cj_if_eq : cm_Cj cm_if_eq cq_if_eq := by
  intro E P t S k1 k2 h g
  obtain ⟨pc, L, st, M⟩ := S
  unfold cm_if_eq at h ⊢
  unfold cq_if_eq at g
  try simp only [cq_adv_eq, adL_eq, jmL_eq] at g
  dsimp only at h g ⊢
  split at h
  · exact ⟨h.1, fun z => ⟨h.2.1 z, g.1 z⟩, fun z => ⟨h.2.2 z, g.2 z⟩⟩
  · exact h.elim
theorem cp_if_eq : cq_Lo cq_if_eq := by
  intro E P t pc L' L st M k' k hL hk h
  unfold cq_if_eq at h ⊢
  dsimp only at h ⊢
  split at h
  · exact ⟨fun z => hk _ _ _ _ _ hL (h.1 z), fun z => hk _ _ _ _ _ hL (h.2 z)⟩
  · exact h.elim
noncomputable def cq_if_ne : cm_T1 := fun E P t S k => match S.2.2.1 with
  | .int x :: st => (ev_cmp 1 x 0 = true → k (jmL S.1 t.1, S.2.1, st, S.2.2.2)) ∧ (ev_cmp 1 x 0 = false → k (adL S.1 3, S.2.1, st, S.2.2.2))
  | _ => False
theorem cj_if_ne : cm_Cj cm_if_ne cq_if_ne := by
  intro E P t S k1 k2 h g
  obtain ⟨pc, L, st, M⟩ := S
  unfold cm_if_ne at h ⊢
  unfold cq_if_ne at g
  try simp only [cq_adv_eq, adL_eq, jmL_eq] at g
  dsimp only at h g ⊢
  split at h
  · exact ⟨h.1, fun z => ⟨h.2.1 z, g.1 z⟩, fun z => ⟨h.2.2 z, g.2 z⟩⟩
  · exact h.elim
theorem cp_if_ne : cq_Lo cq_if_ne := by
  intro E P t pc L' L st M k' k hL hk h
  unfold cq_if_ne at h ⊢
  dsimp only at h ⊢
  split at h
  · exact ⟨fun z => hk _ _ _ _ _ hL (h.1 z), fun z => hk _ _ _ _ _ hL (h.2 z)⟩
  · exact h.elim
noncomputable def cq_if_lt : cm_T1 := fun E P t S k => match S.2.2.1 with
  | .int x :: st => (ev_cmp 2 x 0 = true → k (jmL S.1 t.1, S.2.1, st, S.2.2.2)) ∧ (ev_cmp 2 x 0 = false → k (adL S.1 3, S.2.1, st, S.2.2.2))
  | _ => False
theorem cj_if_lt : cm_Cj cm_if_lt cq_if_lt := by
  intro E P t S k1 k2 h g
  obtain ⟨pc, L, st, M⟩ := S
  unfold cm_if_lt at h ⊢
  unfold cq_if_lt at g
  try simp only [cq_adv_eq, adL_eq, jmL_eq] at g
  dsimp only at h g ⊢
  split at h
  · exact ⟨h.1, fun z => ⟨h.2.1 z, g.1 z⟩, fun z => ⟨h.2.2 z, g.2 z⟩⟩
  · exact h.elim
theorem cp_if_lt : cq_Lo cq_if_lt := by
  intro E P t pc L' L st M k' k hL hk h
  unfold cq_if_lt at h ⊢
  dsimp only at h ⊢
  split at h
  · exact ⟨fun z => hk _ _ _ _ _ hL (h.1 z), fun z => hk _ _ _ _ _ hL (h.2 z)⟩
  · exact h.elim
noncomputable def cq_if_ge : cm_T1 := fun E P t S k => match S.2.2.1 with
  | .int x :: st => (ev_cmp 3 x 0 = true → k (jmL S.1 t.1, S.2.1, st, S.2.2.2)) ∧ (ev_cmp 3 x 0 = false → k (adL S.1 3, S.2.1, st, S.2.2.2))
  | _ => False
theorem cj_if_ge : cm_Cj cm_if_ge cq_if_ge := by
  intro E P t S k1 k2 h g
  obtain ⟨pc, L, st, M⟩ := S
  unfold cm_if_ge at h ⊢
  unfold cq_if_ge at g
  try simp only [cq_adv_eq, adL_eq, jmL_eq] at g
  dsimp only at h g ⊢
  split at h
  · exact ⟨h.1, fun z => ⟨h.2.1 z, g.1 z⟩, fun z => ⟨h.2.2 z, g.2 z⟩⟩
  · exact h.elim
theorem cp_if_ge : cq_Lo cq_if_ge := by
  intro E P t pc L' L st M k' k hL hk h
  unfold cq_if_ge at h ⊢
  dsimp only at h ⊢
  split at h
  · exact ⟨fun z => hk _ _ _ _ _ hL (h.1 z), fun z => hk _ _ _ _ _ hL (h.2 z)⟩
  · exact h.elim
noncomputable def cq_if_gt : cm_T1 := fun E P t S k => match S.2.2.1 with
  | .int x :: st => (ev_cmp 4 x 0 = true → k (jmL S.1 t.1, S.2.1, st, S.2.2.2)) ∧ (ev_cmp 4 x 0 = false → k (adL S.1 3, S.2.1, st, S.2.2.2))
  | _ => False
theorem cj_if_gt : cm_Cj cm_if_gt cq_if_gt := by
  intro E P t S k1 k2 h g
  obtain ⟨pc, L, st, M⟩ := S
  unfold cm_if_gt at h ⊢
  unfold cq_if_gt at g
  try simp only [cq_adv_eq, adL_eq, jmL_eq] at g
  dsimp only at h g ⊢
  split at h
  · exact ⟨h.1, fun z => ⟨h.2.1 z, g.1 z⟩, fun z => ⟨h.2.2 z, g.2 z⟩⟩
  · exact h.elim
theorem cp_if_gt : cq_Lo cq_if_gt := by
  intro E P t pc L' L st M k' k hL hk h
  unfold cq_if_gt at h ⊢
  dsimp only at h ⊢
  split at h
  · exact ⟨fun z => hk _ _ _ _ _ hL (h.1 z), fun z => hk _ _ _ _ _ hL (h.2 z)⟩
  · exact h.elim
noncomputable def cq_if_le : cm_T1 := fun E P t S k => match S.2.2.1 with
  | .int x :: st => (ev_cmp 5 x 0 = true → k (jmL S.1 t.1, S.2.1, st, S.2.2.2)) ∧ (ev_cmp 5 x 0 = false → k (adL S.1 3, S.2.1, st, S.2.2.2))
  | _ => False
theorem cj_if_le : cm_Cj cm_if_le cq_if_le := by
  intro E P t S k1 k2 h g
  obtain ⟨pc, L, st, M⟩ := S
  unfold cm_if_le at h ⊢
  unfold cq_if_le at g
  try simp only [cq_adv_eq, adL_eq, jmL_eq] at g
  dsimp only at h g ⊢
  split at h
  · exact ⟨h.1, fun z => ⟨h.2.1 z, g.1 z⟩, fun z => ⟨h.2.2 z, g.2 z⟩⟩
  · exact h.elim
theorem cp_if_le : cq_Lo cq_if_le := by
  intro E P t pc L' L st M k' k hL hk h
  unfold cq_if_le at h ⊢
  dsimp only at h ⊢
  split at h
  · exact ⟨fun z => hk _ _ _ _ _ hL (h.1 z), fun z => hk _ _ _ _ _ hL (h.2 z)⟩
  · exact h.elim
noncomputable def cq_goto : cm_T1 := fun E P t S k => k (jmL S.1 t.1, S.2)
theorem cj_goto : cm_Cj cm_goto cq_goto := by
  intro E P t S k1 k2 h g
  obtain ⟨pc, L, st, M⟩ := S
  unfold cm_goto at h ⊢
  unfold cq_goto at g
  try simp only [cq_adv_eq, adL_eq, jmL_eq] at g
  dsimp only at h g ⊢
  first | exact h.elim | exact ⟨h, g⟩ | exact ⟨h.1, h.2, g⟩ | exact ⟨h.1, h.2.1, h.2.2, g⟩ | exact ⟨h.1, h.2.1, h.2.2.1, h.2.2.2, g⟩ | exact ⟨h.1, h.2.1, h.2.2.1, h.2.2.2.1, h.2.2.2.2, g⟩ | exact ⟨h.1, h.2.1, h.2.2.1, h.2.2.2.1, h.2.2.2.2.1, h.2.2.2.2.2, g⟩ | exact ⟨h.1, h.2.1, h.2.2.1, h.2.2.2.1, h.2.2.2.2.1, h.2.2.2.2.2.1, h.2.2.2.2.2.2, g⟩ | exact ⟨h.1, h.2.1, h.2.2.1, h.2.2.2.1, h.2.2.2.2.1, h.2.2.2.2.2.1, h.2.2.2.2.2.2.1, h.2.2.2.2.2.2.2, g⟩ | exact ⟨h.1, h.2.1, h.2.2.1, h.2.2.2.1, h.2.2.2.2.1, h.2.2.2.2.2.1, h.2.2.2.2.2.2.1, h.2.2.2.2.2.2.2.1, h.2.2.2.2.2.2.2.2, g⟩ | exact ⟨h.1, h.2.1, h.2.2.1, h.2.2.2.1, h.2.2.2.2.1, h.2.2.2.2.2.1, h.2.2.2.2.2.2.1, h.2.2.2.2.2.2.2.1, h.2.2.2.2.2.2.2.2.1, h.2.2.2.2.2.2.2.2.2, g⟩
theorem cp_goto : cq_Lo cq_goto := by
  intro E P t pc L' L st M k' k hL hk h
  unfold cq_goto at h ⊢
  dsimp only at h ⊢
  exact hk _ _ _ _ _ hL h
noncomputable def cq_sw : cm_T1 := fun E P t S k => match t.2.2.2, S.2.2.1 with
  | _ :: offs, .int x :: st => (x.toInt < t.2.1 ∨ t.2.2.1 < x.toInt → k (jmL S.1 t.1, S.2.1, st, S.2.2.2)) ∧ (∀ (j : Nat) (o : Int), offs[j]? = some o → x.toInt = t.2.1 + (j : Int) → k (jmL S.1 o, S.2.1, st, S.2.2.2))
  | _, _ => False
theorem cj_sw : cm_Cj cm_sw cq_sw := by
  intro E P t S k1 k2 h g
  obtain ⟨pc, L, st, M⟩ := S
  unfold cm_sw at h ⊢
  unfold cq_sw at g
  try simp only [cq_adv_eq, adL_eq, jmL_eq] at g
  dsimp only at h g ⊢
  split at h
  · rename_i y offs x st' ht
    first | exact ⟨h.1, h.2.1, h.2.2.1, fun q => ⟨h.2.2.2.1 q, g.1 q⟩, fun j o q1 q2 => ⟨h.2.2.2.2 j o q1 q2, g.2 j o q1 q2⟩⟩ | (rw [ht] at g; exact ⟨h.1, h.2.1, h.2.2.1, fun q => ⟨h.2.2.2.1 q, g.1 q⟩, fun j o q1 q2 => ⟨h.2.2.2.2 j o q1 q2, g.2 j o q1 q2⟩⟩)
  · exact h.elim
theorem cp_sw : cq_Lo cq_sw := by
  intro E P t pc L' L st M k' k hL hk h
  unfold cq_sw at h ⊢
  dsimp only at h ⊢
  split at h
  · exact ⟨fun q => hk _ _ _ _ _ hL (h.1 q), fun j o q1 q2 => hk _ _ _ _ _ hL (h.2 j o q1 q2)⟩
  · exact h.elim
noncomputable def cq_get : cm_T1 := fun E P t S k => match S.2.2.1 with
  | .ref c :: st => k (cq_adv S 3 (cm_rd S.2.2.2 (cm_ft t.1.toNat t.2.1.toNat) c t.2.1.toNat :: st))
  | _ => False
theorem cj_get : cm_Cj cm_get cq_get := by
  intro E P t S k1 k2 h g
  obtain ⟨pc, L, st, M⟩ := S
  unfold cm_get at h ⊢
  unfold cq_get at g
  try simp only [cq_adv_eq, adL_eq, jmL_eq] at g
  dsimp only at h g ⊢
  split at h <;> (first | exact h.elim | exact ⟨h, g⟩ | exact ⟨h.1, h.2, g⟩ | exact ⟨h.1, h.2.1, h.2.2, g⟩ | exact ⟨h.1, h.2.1, h.2.2.1, h.2.2.2, g⟩ | exact ⟨h.1, h.2.1, h.2.2.1, h.2.2.2.1, h.2.2.2.2, g⟩ | exact ⟨h.1, h.2.1, h.2.2.1, h.2.2.2.1, h.2.2.2.2.1, h.2.2.2.2.2, g⟩ | exact ⟨h.1, h.2.1, h.2.2.1, h.2.2.2.1, h.2.2.2.2.1, h.2.2.2.2.2.1, h.2.2.2.2.2.2, g⟩ | exact ⟨h.1, h.2.1, h.2.2.1, h.2.2.2.1, h.2.2.2.2.1, h.2.2.2.2.2.1, h.2.2.2.2.2.2.1, h.2.2.2.2.2.2.2, g⟩ | exact ⟨h.1, h.2.1, h.2.2.1, h.2.2.2.1, h.2.2.2.2.1, h.2.2.2.2.2.1, h.2.2.2.2.2.2.1, h.2.2.2.2.2.2.2.1, h.2.2.2.2.2.2.2.2, g⟩ | exact ⟨h.1, h.2.1, h.2.2.1, h.2.2.2.1, h.2.2.2.2.1, h.2.2.2.2.2.1, h.2.2.2.2.2.2.1, h.2.2.2.2.2.2.2.1, h.2.2.2.2.2.2.2.2.1, h.2.2.2.2.2.2.2.2.2, g⟩)
theorem cp_get : cq_Lo cq_get := by
  intro E P t pc L' L st M k' k hL hk h
  unfold cq_get at h ⊢
  dsimp only at h ⊢
  split at h <;> (first | exact h.elim | exact hk _ _ _ _ _ hL h)
noncomputable def cq_put : cm_T1 := fun E P t S k => match S.2.2.1 with
  | v :: .ref c :: st => k (adL S.1 3, S.2.1, st, cm_wf S.2.2.2 c t.2.1.toNat v)
  | _ => False
theorem cj_put : cm_Cj cm_put cq_put := by
  intro E P t S k1 k2 h g
  obtain ⟨pc, L, st, M⟩ := S
  unfold cm_put at h ⊢
  unfold cq_put at g
  try simp only [cq_adv_eq, adL_eq, jmL_eq] at g
  dsimp only at h g ⊢
  split at h <;> (first | exact h.elim | exact ⟨h, g⟩ | exact ⟨h.1, h.2, g⟩ | exact ⟨h.1, h.2.1, h.2.2, g⟩ | exact ⟨h.1, h.2.1, h.2.2.1, h.2.2.2, g⟩ | exact ⟨h.1, h.2.1, h.2.2.1, h.2.2.2.1, h.2.2.2.2, g⟩ | exact ⟨h.1, h.2.1, h.2.2.1, h.2.2.2.1, h.2.2.2.2.1, h.2.2.2.2.2, g⟩ | exact ⟨h.1, h.2.1, h.2.2.1, h.2.2.2.1, h.2.2.2.2.1, h.2.2.2.2.2.1, h.2.2.2.2.2.2, g⟩ | exact ⟨h.1, h.2.1, h.2.2.1, h.2.2.2.1, h.2.2.2.2.1, h.2.2.2.2.2.1, h.2.2.2.2.2.2.1, h.2.2.2.2.2.2.2, g⟩ | exact ⟨h.1, h.2.1, h.2.2.1, h.2.2.2.1, h.2.2.2.2.1, h.2.2.2.2.2.1, h.2.2.2.2.2.2.1, h.2.2.2.2.2.2.2.1, h.2.2.2.2.2.2.2.2, g⟩ | exact ⟨h.1, h.2.1, h.2.2.1, h.2.2.2.1, h.2.2.2.2.1, h.2.2.2.2.2.1, h.2.2.2.2.2.2.1, h.2.2.2.2.2.2.2.1, h.2.2.2.2.2.2.2.2.1, h.2.2.2.2.2.2.2.2.2, g⟩)
theorem cp_put : cq_Lo cq_put := by
  intro E P t pc L' L st M k' k hL hk h
  unfold cq_put at h ⊢
  dsimp only at h ⊢
  split at h <;> (first | exact h.elim | exact hk _ _ _ _ _ hL h)
noncomputable def cq_iaload : cm_T1 := fun E P t S k => match S.2.2.1 with
  | .int i :: .ref c :: st => k (cq_adv S 1 (.int (S.2.2.2.1 c i.toNatClampNeg) :: st))
  | _ => False
theorem cj_iaload : cm_Cj cm_iaload cq_iaload := by
  intro E P t S k1 k2 h g
  obtain ⟨pc, L, st, M⟩ := S
  unfold cm_iaload at h ⊢
  unfold cq_iaload at g
  try simp only [cq_adv_eq, adL_eq, jmL_eq] at g
  dsimp only at h g ⊢
  split at h <;> (first | exact h.elim | exact ⟨h, g⟩ | exact ⟨h.1, h.2, g⟩ | exact ⟨h.1, h.2.1, h.2.2, g⟩ | exact ⟨h.1, h.2.1, h.2.2.1, h.2.2.2, g⟩ | exact ⟨h.1, h.2.1, h.2.2.1, h.2.2.2.1, h.2.2.2.2, g⟩ | exact ⟨h.1, h.2.1, h.2.2.1, h.2.2.2.1, h.2.2.2.2.1, h.2.2.2.2.2, g⟩ | exact ⟨h.1, h.2.1, h.2.2.1, h.2.2.2.1, h.2.2.2.2.1, h.2.2.2.2.2.1, h.2.2.2.2.2.2, g⟩ | exact ⟨h.1, h.2.1, h.2.2.1, h.2.2.2.1, h.2.2.2.2.1, h.2.2.2.2.2.1, h.2.2.2.2.2.2.1, h.2.2.2.2.2.2.2, g⟩ | exact ⟨h.1, h.2.1, h.2.2.1, h.2.2.2.1, h.2.2.2.2.1, h.2.2.2.2.2.1, h.2.2.2.2.2.2.1, h.2.2.2.2.2.2.2.1, h.2.2.2.2.2.2.2.2, g⟩ | exact ⟨h.1, h.2.1, h.2.2.1, h.2.2.2.1, h.2.2.2.2.1, h.2.2.2.2.2.1, h.2.2.2.2.2.2.1, h.2.2.2.2.2.2.2.1, h.2.2.2.2.2.2.2.2.1, h.2.2.2.2.2.2.2.2.2, g⟩)
theorem cp_iaload : cq_Lo cq_iaload := by
  intro E P t pc L' L st M k' k hL hk h
  unfold cq_iaload at h ⊢
  dsimp only at h ⊢
  split at h <;> (first | exact h.elim | exact hk _ _ _ _ _ hL h)
noncomputable def cq_baload : cm_T1 := fun E P t S k => match S.2.2.1 with
  | .int i :: .ref c :: st => k (cq_adv S 1 (.int (S.2.2.2.1 c i.toNatClampNeg) :: st))
  | _ => False
theorem cj_baload : cm_Cj cm_baload cq_baload := by
  intro E P t S k1 k2 h g
  obtain ⟨pc, L, st, M⟩ := S
  unfold cm_baload at h ⊢
  unfold cq_baload at g
  try simp only [cq_adv_eq, adL_eq, jmL_eq] at g
  dsimp only at h g ⊢
  split at h <;> (first | exact h.elim | exact ⟨h, g⟩ | exact ⟨h.1, h.2, g⟩ | exact ⟨h.1, h.2.1, h.2.2, g⟩ | exact ⟨h.1, h.2.1, h.2.2.1, h.2.2.2, g⟩ | exact ⟨h.1, h.2.1, h.2.2.1, h.2.2.2.1, h.2.2.2.2, g⟩ | exact ⟨h.1, h.2.1, h.2.2.1, h.2.2.2.1, h.2.2.2.2.1, h.2.2.2.2.2, g⟩ | exact ⟨h.1, h.2.1, h.2.2.1, h.2.2.2.1, h.2.2.2.2.1, h.2.2.2.2.2.1, h.2.2.2.2.2.2, g⟩ | exact ⟨h.1, h.2.1, h.2.2.1, h.2.2.2.1, h.2.2.2.2.1, h.2.2.2.2.2.1, h.2.2.2.2.2.2.1, h.2.2.2.2.2.2.2, g⟩ | exact ⟨h.1, h.2.1, h.2.2.1, h.2.2.2.1, h.2.2.2.2.1, h.2.2.2.2.2.1, h.2.2.2.2.2.2.1, h.2.2.2.2.2.2.2.1, h.2.2.2.2.2.2.2.2, g⟩ | exact ⟨h.1, h.2.1, h.2.2.1, h.2.2.2.1, h.2.2.2.2.1, h.2.2.2.2.2.1, h.2.2.2.2.2.2.1, h.2.2.2.2.2.2.2.1, h.2.2.2.2.2.2.2.2.1, h.2.2.2.2.2.2.2.2.2, g⟩)
theorem cp_baload : cq_Lo cq_baload := by
  intro E P t pc L' L st M k' k hL hk h
  unfold cq_baload at h ⊢
  dsimp only at h ⊢
  split at h <;> (first | exact h.elim | exact hk _ _ _ _ _ hL h)
noncomputable def cq_laload : cm_T1 := fun E P t S k => match S.2.2.1 with
  | .int i :: .ref c :: st => k (cq_adv S 1 (.long (S.2.2.2.2.1 c i.toNatClampNeg) :: st))
  | _ => False
theorem cj_laload : cm_Cj cm_laload cq_laload := by
  intro E P t S k1 k2 h g
  obtain ⟨pc, L, st, M⟩ := S
  unfold cm_laload at h ⊢
  unfold cq_laload at g
  try simp only [cq_adv_eq, adL_eq, jmL_eq] at g
  dsimp only at h g ⊢
  split at h <;> (first | exact h.elim | exact ⟨h, g⟩ | exact ⟨h.1, h.2, g⟩ | exact ⟨h.1, h.2.1, h.2.2, g⟩ | exact ⟨h.1, h.2.1, h.2.2.1, h.2.2.2, g⟩ | exact ⟨h.1, h.2.1, h.2.2.1, h.2.2.2.1, h.2.2.2.2, g⟩ | exact ⟨h.1, h.2.1, h.2.2.1, h.2.2.2.1, h.2.2.2.2.1, h.2.2.2.2.2, g⟩ | exact ⟨h.1, h.2.1, h.2.2.1, h.2.2.2.1, h.2.2.2.2.1, h.2.2.2.2.2.1, h.2.2.2.2.2.2, g⟩ | exact ⟨h.1, h.2.1, h.2.2.1, h.2.2.2.1, h.2.2.2.2.1, h.2.2.2.2.2.1, h.2.2.2.2.2.2.1, h.2.2.2.2.2.2.2, g⟩ | exact ⟨h.1, h.2.1, h.2.2.1, h.2.2.2.1, h.2.2.2.2.1, h.2.2.2.2.2.1, h.2.2.2.2.2.2.1, h.2.2.2.2.2.2.2.1, h.2.2.2.2.2.2.2.2, g⟩ | exact ⟨h.1, h.2.1, h.2.2.1, h.2.2.2.1, h.2.2.2.2.1, h.2.2.2.2.2.1, h.2.2.2.2.2.2.1, h.2.2.2.2.2.2.2.1, h.2.2.2.2.2.2.2.2.1, h.2.2.2.2.2.2.2.2.2, g⟩)
theorem cp_laload : cq_Lo cq_laload := by
  intro E P t pc L' L st M k' k hL hk h
  unfold cq_laload at h ⊢
  dsimp only at h ⊢
  split at h <;> (first | exact h.elim | exact hk _ _ _ _ _ hL h)
noncomputable def cq_aaload : cm_T1 := fun E P t S k => match S.2.2.1 with
  | .int i :: .ref c :: st => k (cq_adv S 1 (cm_rq (S.2.2.2.2.2 c i.toNatClampNeg) :: st))
  | _ => False
theorem cj_aaload : cm_Cj cm_aaload cq_aaload := by
  intro E P t S k1 k2 h g
  obtain ⟨pc, L, st, M⟩ := S
  unfold cm_aaload at h ⊢
  unfold cq_aaload at g
  try simp only [cq_adv_eq, adL_eq, jmL_eq] at g
  dsimp only at h g ⊢
  split at h <;> (first | exact h.elim | exact ⟨h, g⟩ | exact ⟨h.1, h.2, g⟩ | exact ⟨h.1, h.2.1, h.2.2, g⟩ | exact ⟨h.1, h.2.1, h.2.2.1, h.2.2.2, g⟩ | exact ⟨h.1, h.2.1, h.2.2.1, h.2.2.2.1, h.2.2.2.2, g⟩ | exact ⟨h.1, h.2.1, h.2.2.1, h.2.2.2.1, h.2.2.2.2.1, h.2.2.2.2.2, g⟩ | exact ⟨h.1, h.2.1, h.2.2.1, h.2.2.2.1, h.2.2.2.2.1, h.2.2.2.2.2.1, h.2.2.2.2.2.2, g⟩ | exact ⟨h.1, h.2.1, h.2.2.1, h.2.2.2.1, h.2.2.2.2.1, h.2.2.2.2.2.1, h.2.2.2.2.2.2.1, h.2.2.2.2.2.2.2, g⟩ | exact ⟨h.1, h.2.1, h.2.2.1, h.2.2.2.1, h.2.2.2.2.1, h.2.2.2.2.2.1, h.2.2.2.2.2.2.1, h.2.2.2.2.2.2.2.1, h.2.2.2.2.2.2.2.2, g⟩ | exact ⟨h.1, h.2.1, h.2.2.1, h.2.2.2.1, h.2.2.2.2.1, h.2.2.2.2.2.1, h.2.2.2.2.2.2.1, h.2.2.2.2.2.2.2.1, h.2.2.2.2.2.2.2.2.1, h.2.2.2.2.2.2.2.2.2, g⟩)
theorem cp_aaload : cq_Lo cq_aaload := by
  intro E P t pc L' L st M k' k hL hk h
  unfold cq_aaload at h ⊢
  dsimp only at h ⊢
  split at h <;> (first | exact h.elim | exact hk _ _ _ _ _ hL h)
noncomputable def cq_iastore : cm_T1 := fun E P t S k => match S.2.2.1 with
  | .int x :: .int i :: .ref c :: st => k (adL S.1 1, S.2.1, st, cm_wi S.2.2.2 c i.toNatClampNeg x)
  | _ => False
theorem cj_iastore : cm_Cj cm_iastore cq_iastore := by
  intro E P t S k1 k2 h g
  obtain ⟨pc, L, st, M⟩ := S
  unfold cm_iastore at h ⊢
  unfold cq_iastore at g
  try simp only [cq_adv_eq, adL_eq, jmL_eq] at g
  dsimp only at h g ⊢
  split at h <;> (first | exact h.elim | exact ⟨h, g⟩ | exact ⟨h.1, h.2, g⟩ | exact ⟨h.1, h.2.1, h.2.2, g⟩ | exact ⟨h.1, h.2.1, h.2.2.1, h.2.2.2, g⟩ | exact ⟨h.1, h.2.1, h.2.2.1, h.2.2.2.1, h.2.2.2.2, g⟩ | exact ⟨h.1, h.2.1, h.2.2.1, h.2.2.2.1, h.2.2.2.2.1, h.2.2.2.2.2, g⟩ | exact ⟨h.1, h.2.1, h.2.2.1, h.2.2.2.1, h.2.2.2.2.1, h.2.2.2.2.2.1, h.2.2.2.2.2.2, g⟩ | exact ⟨h.1, h.2.1, h.2.2.1, h.2.2.2.1, h.2.2.2.2.1, h.2.2.2.2.2.1, h.2.2.2.2.2.2.1, h.2.2.2.2.2.2.2, g⟩ | exact ⟨h.1, h.2.1, h.2.2.1, h.2.2.2.1, h.2.2.2.2.1, h.2.2.2.2.2.1, h.2.2.2.2.2.2.1, h.2.2.2.2.2.2.2.1, h.2.2.2.2.2.2.2.2, g⟩ | exact ⟨h.1, h.2.1, h.2.2.1, h.2.2.2.1, h.2.2.2.2.1, h.2.2.2.2.2.1, h.2.2.2.2.2.2.1, h.2.2.2.2.2.2.2.1, h.2.2.2.2.2.2.2.2.1, h.2.2.2.2.2.2.2.2.2, g⟩)
theorem cp_iastore : cq_Lo cq_iastore := by
  intro E P t pc L' L st M k' k hL hk h
  unfold cq_iastore at h ⊢
  dsimp only at h ⊢
  split at h <;> (first | exact h.elim | exact hk _ _ _ _ _ hL h)
noncomputable def cq_bastore : cm_T1 := fun E P t S k => match S.2.2.1 with
  | .int x :: .int i :: .ref c :: st => k (adL S.1 1, S.2.1, st, cm_wi S.2.2.2 c i.toNatClampNeg (vp_nar .byte x))
  | _ => False
theorem cj_bastore : cm_Cj cm_bastore cq_bastore := by
  intro E P t S k1 k2 h g
  obtain ⟨pc, L, st, M⟩ := S
  unfold cm_bastore at h ⊢
  unfold cq_bastore at g
  try simp only [cq_adv_eq, adL_eq, jmL_eq] at g
  dsimp only at h g ⊢
  split at h <;> (first | exact h.elim | exact ⟨h, g⟩ | exact ⟨h.1, h.2, g⟩ | exact ⟨h.1, h.2.1, h.2.2, g⟩ | exact ⟨h.1, h.2.1, h.2.2.1, h.2.2.2, g⟩ | exact ⟨h.1, h.2.1, h.2.2.1, h.2.2.2.1, h.2.2.2.2, g⟩ | exact ⟨h.1, h.2.1, h.2.2.1, h.2.2.2.1, h.2.2.2.2.1, h.2.2.2.2.2, g⟩ | exact ⟨h.1, h.2.1, h.2.2.1, h.2.2.2.1, h.2.2.2.2.1, h.2.2.2.2.2.1, h.2.2.2.2.2.2, g⟩ | exact ⟨h.1, h.2.1, h.2.2.1, h.2.2.2.1, h.2.2.2.2.1, h.2.2.2.2.2.1, h.2.2.2.2.2.2.1, h.2.2.2.2.2.2.2, g⟩ | exact ⟨h.1, h.2.1, h.2.2.1, h.2.2.2.1, h.2.2.2.2.1, h.2.2.2.2.2.1, h.2.2.2.2.2.2.1, h.2.2.2.2.2.2.2.1, h.2.2.2.2.2.2.2.2, g⟩ | exact ⟨h.1, h.2.1, h.2.2.1, h.2.2.2.1, h.2.2.2.2.1, h.2.2.2.2.2.1, h.2.2.2.2.2.2.1, h.2.2.2.2.2.2.2.1, h.2.2.2.2.2.2.2.2.1, h.2.2.2.2.2.2.2.2.2, g⟩)
theorem cp_bastore : cq_Lo cq_bastore := by
  intro E P t pc L' L st M k' k hL hk h
  unfold cq_bastore at h ⊢
  dsimp only at h ⊢
  split at h <;> (first | exact h.elim | exact hk _ _ _ _ _ hL h)
noncomputable def cq_alen : cm_T1 := fun E P t S k => match S.2.2.1 with
  | .ref c :: st => if c = 1000 then (match E with
    | some q => k (cq_adv S 1 (.int (Int32.ofNat q.1) :: st))
    | none => False) else k (cq_adv S 1 (.int (Int32.ofNat (cm_kind c).2) :: st))
  | _ => False
theorem cj_alen : cm_Cj cm_alen cq_alen := by
  intro E P t S k1 k2 h g
  obtain ⟨pc, L, st, M⟩ := S
  unfold cm_alen at h ⊢
  unfold cq_alen at g
  try simp only [cq_adv_eq, adL_eq, jmL_eq] at g
  dsimp only at h g ⊢
  split at h
  · rename_i c st'
    dsimp only at g
    by_cases hc : c = 1000
    · rw [if_pos hc] at h g ⊢
      cases E with
      | none => exact h.elim
      | some q => exact ⟨h, g⟩
    · rw [if_neg hc] at h g ⊢
      exact ⟨h.1, h.2.1, h.2.2, g⟩
  · exact h.elim
theorem cp_alen : cq_Lo cq_alen := by
  intro E P t pc L' L st M k' k hL hk h
  unfold cq_alen at h ⊢
  dsimp only at h ⊢
  split at h
  · rename_i c st'
    by_cases hc : c = 1000
    · rw [if_pos hc] at h ⊢
      cases E with
      | none => exact h.elim
      | some q => exact hk _ _ _ _ _ hL h
    · rw [if_neg hc] at h ⊢
      exact hk _ _ _ _ _ hL h
  · exact h.elim
noncomputable def cq_sald : cm_T1 := fun E P t S k => match E, S.2.2.1 with
  | some q, .int i :: .ref c :: st => k (cq_adv S 1 (.int (q.2 i.toNatClampNeg) :: st))
  | _, _ => False
theorem cj_sald : cm_Cj cm_sald cq_sald := by
  intro E P t S k1 k2 h g
  obtain ⟨pc, L, st, M⟩ := S
  unfold cm_sald at h ⊢
  unfold cq_sald at g
  try simp only [cq_adv_eq, adL_eq, jmL_eq] at g
  dsimp only at h g ⊢
  split at h
  · exact ⟨h.1, h.2.1, h.2.2.1, h.2.2.2, g⟩
  · exact h.elim
theorem cp_sald : cq_Lo cq_sald := by
  intro E P t pc L' L st M k' k hL hk h
  unfold cq_sald at h ⊢
  dsimp only at h ⊢
  split at h
  · exact hk _ _ _ _ _ hL h
  · exact h.elim
noncomputable def cq_mmin : cm_T1 := fun E P t S k => match S.2.2.1 with
  | .int y :: .int x :: st => k (cq_adv S 3 (.int (if y < x then y else x) :: st))
  | _ => False
theorem cj_mmin : cm_Cj cm_mmin cq_mmin := by
  intro E P t S k1 k2 h g
  obtain ⟨pc, L, st, M⟩ := S
  unfold cm_mmin at h ⊢
  unfold cq_mmin at g
  try simp only [cq_adv_eq, adL_eq, jmL_eq] at g
  dsimp only at h g ⊢
  split at h <;> (first | exact h.elim | exact ⟨h, g⟩ | exact ⟨h.1, h.2, g⟩ | exact ⟨h.1, h.2.1, h.2.2, g⟩ | exact ⟨h.1, h.2.1, h.2.2.1, h.2.2.2, g⟩ | exact ⟨h.1, h.2.1, h.2.2.1, h.2.2.2.1, h.2.2.2.2, g⟩ | exact ⟨h.1, h.2.1, h.2.2.1, h.2.2.2.1, h.2.2.2.2.1, h.2.2.2.2.2, g⟩ | exact ⟨h.1, h.2.1, h.2.2.1, h.2.2.2.1, h.2.2.2.2.1, h.2.2.2.2.2.1, h.2.2.2.2.2.2, g⟩ | exact ⟨h.1, h.2.1, h.2.2.1, h.2.2.2.1, h.2.2.2.2.1, h.2.2.2.2.2.1, h.2.2.2.2.2.2.1, h.2.2.2.2.2.2.2, g⟩ | exact ⟨h.1, h.2.1, h.2.2.1, h.2.2.2.1, h.2.2.2.2.1, h.2.2.2.2.2.1, h.2.2.2.2.2.2.1, h.2.2.2.2.2.2.2.1, h.2.2.2.2.2.2.2.2, g⟩ | exact ⟨h.1, h.2.1, h.2.2.1, h.2.2.2.1, h.2.2.2.2.1, h.2.2.2.2.2.1, h.2.2.2.2.2.2.1, h.2.2.2.2.2.2.2.1, h.2.2.2.2.2.2.2.2.1, h.2.2.2.2.2.2.2.2.2, g⟩)
theorem cp_mmin : cq_Lo cq_mmin := by
  intro E P t pc L' L st M k' k hL hk h
  unfold cq_mmin at h ⊢
  dsimp only at h ⊢
  split at h <;> (first | exact h.elim | exact hk _ _ _ _ _ hL h)
noncomputable def cq_ldc : cm_T1 := fun E P t S k => k (cq_adv S 2 (.int (Int32.ofInt t.1) :: S.2.2.1))
theorem cj_ldc : cm_Cj cm_ldc cq_ldc := by
  intro E P t S k1 k2 h g
  obtain ⟨pc, L, st, M⟩ := S
  unfold cm_ldc at h ⊢
  unfold cq_ldc at g
  try simp only [cq_adv_eq, adL_eq, jmL_eq] at g
  dsimp only at h g ⊢
  first | exact h.elim | exact ⟨h, g⟩ | exact ⟨h.1, h.2, g⟩ | exact ⟨h.1, h.2.1, h.2.2, g⟩ | exact ⟨h.1, h.2.1, h.2.2.1, h.2.2.2, g⟩ | exact ⟨h.1, h.2.1, h.2.2.1, h.2.2.2.1, h.2.2.2.2, g⟩ | exact ⟨h.1, h.2.1, h.2.2.1, h.2.2.2.1, h.2.2.2.2.1, h.2.2.2.2.2, g⟩ | exact ⟨h.1, h.2.1, h.2.2.1, h.2.2.2.1, h.2.2.2.2.1, h.2.2.2.2.2.1, h.2.2.2.2.2.2, g⟩ | exact ⟨h.1, h.2.1, h.2.2.1, h.2.2.2.1, h.2.2.2.2.1, h.2.2.2.2.2.1, h.2.2.2.2.2.2.1, h.2.2.2.2.2.2.2, g⟩ | exact ⟨h.1, h.2.1, h.2.2.1, h.2.2.2.1, h.2.2.2.2.1, h.2.2.2.2.2.1, h.2.2.2.2.2.2.1, h.2.2.2.2.2.2.2.1, h.2.2.2.2.2.2.2.2, g⟩ | exact ⟨h.1, h.2.1, h.2.2.1, h.2.2.2.1, h.2.2.2.2.1, h.2.2.2.2.2.1, h.2.2.2.2.2.2.1, h.2.2.2.2.2.2.2.1, h.2.2.2.2.2.2.2.2.1, h.2.2.2.2.2.2.2.2.2, g⟩
theorem cp_ldc : cq_Lo cq_ldc := by
  intro E P t pc L' L st M k' k hL hk h
  unfold cq_ldc at h ⊢
  dsimp only at h ⊢
  exact hk _ _ _ _ _ hL h
noncomputable def cq_ldcS : cm_T1 := fun E P t S k => k (cq_adv S 2 (.ref (1001 + 2 * t.1.toNat) :: S.2.2.1))
theorem cj_ldcS : cm_Cj cm_ldcS cq_ldcS := by
  intro E P t S k1 k2 h g
  obtain ⟨pc, L, st, M⟩ := S
  unfold cm_ldcS at h ⊢
  unfold cq_ldcS at g
  try simp only [cq_adv_eq, adL_eq, jmL_eq] at g
  dsimp only at h g ⊢
  first | exact h.elim | exact ⟨h, g⟩ | exact ⟨h.1, h.2, g⟩ | exact ⟨h.1, h.2.1, h.2.2, g⟩ | exact ⟨h.1, h.2.1, h.2.2.1, h.2.2.2, g⟩ | exact ⟨h.1, h.2.1, h.2.2.1, h.2.2.2.1, h.2.2.2.2, g⟩ | exact ⟨h.1, h.2.1, h.2.2.1, h.2.2.2.1, h.2.2.2.2.1, h.2.2.2.2.2, g⟩ | exact ⟨h.1, h.2.1, h.2.2.1, h.2.2.2.1, h.2.2.2.2.1, h.2.2.2.2.2.1, h.2.2.2.2.2.2, g⟩ | exact ⟨h.1, h.2.1, h.2.2.1, h.2.2.2.1, h.2.2.2.2.1, h.2.2.2.2.2.1, h.2.2.2.2.2.2.1, h.2.2.2.2.2.2.2, g⟩ | exact ⟨h.1, h.2.1, h.2.2.1, h.2.2.2.1, h.2.2.2.2.1, h.2.2.2.2.2.1, h.2.2.2.2.2.2.1, h.2.2.2.2.2.2.2.1, h.2.2.2.2.2.2.2.2, g⟩ | exact ⟨h.1, h.2.1, h.2.2.1, h.2.2.2.1, h.2.2.2.2.1, h.2.2.2.2.2.1, h.2.2.2.2.2.2.1, h.2.2.2.2.2.2.2.1, h.2.2.2.2.2.2.2.2.1, h.2.2.2.2.2.2.2.2.2, g⟩
theorem cp_ldcS : cq_Lo cq_ldcS := by
  intro E P t pc L' L st M k' k hL hk h
  unfold cq_ldcS at h ⊢
  dsimp only at h ⊢
  exact hk _ _ _ _ _ hL h
noncomputable def cq_getV : cm_T1 := fun E P t S k => match S.2.2.1 with
  | .ref c :: st => k (cq_adv S 3 (.ref (c + 1) :: st))
  | _ => False
theorem cj_getV : cm_Cj cm_getV cq_getV := by
  intro E P t S k1 k2 h g
  obtain ⟨pc, L, st, M⟩ := S
  unfold cm_getV at h ⊢
  unfold cq_getV at g
  try simp only [cq_adv_eq, adL_eq, jmL_eq] at g
  dsimp only at h g ⊢
  split at h <;> (first | exact h.elim | exact ⟨h, g⟩ | exact ⟨h.1, h.2, g⟩ | exact ⟨h.1, h.2.1, h.2.2, g⟩ | exact ⟨h.1, h.2.1, h.2.2.1, h.2.2.2, g⟩ | exact ⟨h.1, h.2.1, h.2.2.1, h.2.2.2.1, h.2.2.2.2, g⟩ | exact ⟨h.1, h.2.1, h.2.2.1, h.2.2.2.1, h.2.2.2.2.1, h.2.2.2.2.2, g⟩ | exact ⟨h.1, h.2.1, h.2.2.1, h.2.2.2.1, h.2.2.2.2.1, h.2.2.2.2.2.1, h.2.2.2.2.2.2, g⟩ | exact ⟨h.1, h.2.1, h.2.2.1, h.2.2.2.1, h.2.2.2.2.1, h.2.2.2.2.2.1, h.2.2.2.2.2.2.1, h.2.2.2.2.2.2.2, g⟩ | exact ⟨h.1, h.2.1, h.2.2.1, h.2.2.2.1, h.2.2.2.2.1, h.2.2.2.2.2.1, h.2.2.2.2.2.2.1, h.2.2.2.2.2.2.2.1, h.2.2.2.2.2.2.2.2, g⟩ | exact ⟨h.1, h.2.1, h.2.2.1, h.2.2.2.1, h.2.2.2.2.1, h.2.2.2.2.2.1, h.2.2.2.2.2.2.1, h.2.2.2.2.2.2.2.1, h.2.2.2.2.2.2.2.2.1, h.2.2.2.2.2.2.2.2.2, g⟩)
theorem cp_getV : cq_Lo cq_getV := by
  intro E P t pc L' L st M k' k hL hk h
  unfold cq_getV at h ⊢
  dsimp only at h ⊢
  split at h <;> (first | exact h.elim | exact hk _ _ _ _ _ hL h)
noncomputable def cq_getC : cm_T1 := fun E P t S k => match S.2.2.1 with
  | .ref c :: st => k (cq_adv S 3 (.int 0 :: st))
  | _ => False
theorem cj_getC : cm_Cj cm_getC cq_getC := by
  intro E P t S k1 k2 h g
  obtain ⟨pc, L, st, M⟩ := S
  unfold cm_getC at h ⊢
  unfold cq_getC at g
  try simp only [cq_adv_eq, adL_eq, jmL_eq] at g
  dsimp only at h g ⊢
  split at h <;> (first | exact h.elim | exact ⟨h, g⟩ | exact ⟨h.1, h.2, g⟩ | exact ⟨h.1, h.2.1, h.2.2, g⟩ | exact ⟨h.1, h.2.1, h.2.2.1, h.2.2.2, g⟩ | exact ⟨h.1, h.2.1, h.2.2.1, h.2.2.2.1, h.2.2.2.2, g⟩ | exact ⟨h.1, h.2.1, h.2.2.1, h.2.2.2.1, h.2.2.2.2.1, h.2.2.2.2.2, g⟩ | exact ⟨h.1, h.2.1, h.2.2.1, h.2.2.2.1, h.2.2.2.2.1, h.2.2.2.2.2.1, h.2.2.2.2.2.2, g⟩ | exact ⟨h.1, h.2.1, h.2.2.1, h.2.2.2.1, h.2.2.2.2.1, h.2.2.2.2.2.1, h.2.2.2.2.2.2.1, h.2.2.2.2.2.2.2, g⟩ | exact ⟨h.1, h.2.1, h.2.2.1, h.2.2.2.1, h.2.2.2.2.1, h.2.2.2.2.2.1, h.2.2.2.2.2.2.1, h.2.2.2.2.2.2.2.1, h.2.2.2.2.2.2.2.2, g⟩ | exact ⟨h.1, h.2.1, h.2.2.1, h.2.2.2.1, h.2.2.2.2.1, h.2.2.2.2.2.1, h.2.2.2.2.2.2.1, h.2.2.2.2.2.2.2.1, h.2.2.2.2.2.2.2.2.1, h.2.2.2.2.2.2.2.2.2, g⟩)
theorem cp_getC : cq_Lo cq_getC := by
  intro E P t pc L' L st M k' k hL hk h
  unfold cq_getC at h ⊢
  dsimp only at h ⊢
  split at h <;> (first | exact h.elim | exact hk _ _ _ _ _ hL h)
noncomputable def cq_gets : cm_T1 := fun E P t S k => k (cq_adv S 3 (.int 1 :: S.2.2.1))
theorem cj_gets : cm_Cj cm_gets cq_gets := by
  intro E P t S k1 k2 h g
  obtain ⟨pc, L, st, M⟩ := S
  unfold cm_gets at h ⊢
  unfold cq_gets at g
  try simp only [cq_adv_eq, adL_eq, jmL_eq] at g
  dsimp only at h g ⊢
  first | exact h.elim | exact ⟨h, g⟩ | exact ⟨h.1, h.2, g⟩ | exact ⟨h.1, h.2.1, h.2.2, g⟩ | exact ⟨h.1, h.2.1, h.2.2.1, h.2.2.2, g⟩ | exact ⟨h.1, h.2.1, h.2.2.1, h.2.2.2.1, h.2.2.2.2, g⟩ | exact ⟨h.1, h.2.1, h.2.2.1, h.2.2.2.1, h.2.2.2.2.1, h.2.2.2.2.2, g⟩ | exact ⟨h.1, h.2.1, h.2.2.1, h.2.2.2.1, h.2.2.2.2.1, h.2.2.2.2.2.1, h.2.2.2.2.2.2, g⟩ | exact ⟨h.1, h.2.1, h.2.2.1, h.2.2.2.1, h.2.2.2.2.1, h.2.2.2.2.2.1, h.2.2.2.2.2.2.1, h.2.2.2.2.2.2.2, g⟩ | exact ⟨h.1, h.2.1, h.2.2.1, h.2.2.2.1, h.2.2.2.2.1, h.2.2.2.2.2.1, h.2.2.2.2.2.2.1, h.2.2.2.2.2.2.2.1, h.2.2.2.2.2.2.2.2, g⟩ | exact ⟨h.1, h.2.1, h.2.2.1, h.2.2.2.1, h.2.2.2.2.1, h.2.2.2.2.2.1, h.2.2.2.2.2.2.1, h.2.2.2.2.2.2.2.1, h.2.2.2.2.2.2.2.2.1, h.2.2.2.2.2.2.2.2.2, g⟩
theorem cp_gets : cq_Lo cq_gets := by
  intro E P t pc L' L st M k' k hL hk h
  unfold cq_gets at h ⊢
  dsimp only at h ⊢
  exact hk _ _ _ _ _ hL h
noncomputable def cq_alenS : cm_T1 := fun E P t S k => match S.2.2.1 with
  | .ref c :: st => (match ev_strs[(c - 1001) / 2]? with
    | some r => k (cq_adv S 1 (.int (Int32.ofNat r.2.2.2.length) :: st))
    | none => False)
  | _ => False
theorem cj_alenS : cm_Cj cm_alenS cq_alenS := by
  intro E P t S k1 k2 h g
  obtain ⟨pc, L, st, M⟩ := S
  unfold cm_alenS at h ⊢
  unfold cq_alenS at g
  try simp only [cq_adv_eq, adL_eq, jmL_eq] at g
  dsimp only at h g ⊢
  split at h
  · split at h
    · rename_i hz
      first | (exact ⟨h.1, h.2.1, h.2.2.1, h.2.2.2, g⟩) | (rw [hz] at g; exact ⟨h.1, h.2.1, h.2.2.1, h.2.2.2, g⟩) | (dsimp only at g; rw [hz] at g; exact ⟨h.1, h.2.1, h.2.2.1, h.2.2.2, g⟩)
    · exact h.elim
  · exact h.elim
theorem cp_alenS : cq_Lo cq_alenS := by
  intro E P t pc L' L st M k' k hL hk h
  unfold cq_alenS at h ⊢
  dsimp only at h ⊢
  split at h
  · split at h
    · rename_i hz
      first | (first | exact h.elim | exact hk _ _ _ _ _ hL h) | (rw [hz]; first | exact h.elim | exact hk _ _ _ _ _ hL h) | (dsimp only; rw [hz]; first | exact h.elim | exact hk _ _ _ _ _ hL h)
    · exact h.elim
  · exact h.elim
noncomputable def cq_baloadS : cm_T1 := fun E P t S k => match S.2.2.1 with
  | .int i :: .ref c :: st => (match ev_strs[(c - 1001) / 2]? with
    | some r => k (cq_adv S 1 (.int (r.2.2.2.getD i.toNatClampNeg 0) :: st))
    | none => False)
  | _ => False
theorem cj_baloadS : cm_Cj cm_baloadS cq_baloadS := by
  intro E P t S k1 k2 h g
  obtain ⟨pc, L, st, M⟩ := S
  unfold cm_baloadS at h ⊢
  unfold cq_baloadS at g
  try simp only [cq_adv_eq, adL_eq, jmL_eq] at g
  dsimp only at h g ⊢
  split at h
  · split at h
    · rename_i hz
      first | (exact ⟨h.1, h.2.1, h.2.2.1, h.2.2.2.1, h.2.2.2.2.1, h.2.2.2.2.2, g⟩) | (rw [hz] at g; exact ⟨h.1, h.2.1, h.2.2.1, h.2.2.2.1, h.2.2.2.2.1, h.2.2.2.2.2, g⟩) | (dsimp only at g; rw [hz] at g; exact ⟨h.1, h.2.1, h.2.2.1, h.2.2.2.1, h.2.2.2.2.1, h.2.2.2.2.2, g⟩)
    · exact h.elim
  · exact h.elim
theorem cp_baloadS : cq_Lo cq_baloadS := by
  intro E P t pc L' L st M k' k hL hk h
  unfold cq_baloadS at h ⊢
  dsimp only at h ⊢
  split at h
  · split at h
    · rename_i hz
      first | (first | exact h.elim | exact hk _ _ _ _ _ hL h) | (rw [hz]; first | exact h.elim | exact hk _ _ _ _ _ hL h) | (dsimp only; rw [hz]; first | exact h.elim | exact hk _ _ _ _ _ hL h)
    · exact h.elim
  · exact h.elim
noncomputable def cq_i2c : cm_T1 := fun E P t S k => match S.2.2.1 with
  | .int x :: st => k (cq_adv S 1 (.int ((x.toUInt32 % 65536).toInt32) :: st))
  | _ => False
theorem cj_i2c : cm_Cj cm_i2c cq_i2c := by
  intro E P t S k1 k2 h g
  obtain ⟨pc, L, st, M⟩ := S
  unfold cm_i2c at h ⊢
  unfold cq_i2c at g
  try simp only [cq_adv_eq, adL_eq, jmL_eq] at g
  dsimp only at h g ⊢
  split at h <;> (first | exact h.elim | exact ⟨h, g⟩ | exact ⟨h.1, h.2, g⟩ | exact ⟨h.1, h.2.1, h.2.2, g⟩ | exact ⟨h.1, h.2.1, h.2.2.1, h.2.2.2, g⟩ | exact ⟨h.1, h.2.1, h.2.2.1, h.2.2.2.1, h.2.2.2.2, g⟩ | exact ⟨h.1, h.2.1, h.2.2.1, h.2.2.2.1, h.2.2.2.2.1, h.2.2.2.2.2, g⟩ | exact ⟨h.1, h.2.1, h.2.2.1, h.2.2.2.1, h.2.2.2.2.1, h.2.2.2.2.2.1, h.2.2.2.2.2.2, g⟩ | exact ⟨h.1, h.2.1, h.2.2.1, h.2.2.2.1, h.2.2.2.2.1, h.2.2.2.2.2.1, h.2.2.2.2.2.2.1, h.2.2.2.2.2.2.2, g⟩ | exact ⟨h.1, h.2.1, h.2.2.1, h.2.2.2.1, h.2.2.2.2.1, h.2.2.2.2.2.1, h.2.2.2.2.2.2.1, h.2.2.2.2.2.2.2.1, h.2.2.2.2.2.2.2.2, g⟩ | exact ⟨h.1, h.2.1, h.2.2.1, h.2.2.2.1, h.2.2.2.2.1, h.2.2.2.2.2.1, h.2.2.2.2.2.2.1, h.2.2.2.2.2.2.2.1, h.2.2.2.2.2.2.2.2.1, h.2.2.2.2.2.2.2.2.2, g⟩)
theorem cp_i2c : cq_Lo cq_i2c := by
  intro E P t pc L' L st M k' k hL hk h
  unfold cq_i2c at h ⊢
  dsimp only at h ⊢
  split at h <;> (first | exact h.elim | exact hk _ _ _ _ _ hL h)
noncomputable def cq_ladd : cm_T1 := fun E P t S k => match S.2.2.1 with
  | .long y :: .long x :: st => k (cq_adv S 1 (.long (x + y) :: st))
  | _ => False
theorem cj_ladd : cm_Cj cm_ladd cq_ladd := by
  intro E P t S k1 k2 h g
  obtain ⟨pc, L, st, M⟩ := S
  unfold cm_ladd at h ⊢
  unfold cq_ladd at g
  try simp only [cq_adv_eq, adL_eq, jmL_eq] at g
  dsimp only at h g ⊢
  split at h <;> (first | exact h.elim | exact ⟨h, g⟩ | exact ⟨h.1, h.2, g⟩ | exact ⟨h.1, h.2.1, h.2.2, g⟩ | exact ⟨h.1, h.2.1, h.2.2.1, h.2.2.2, g⟩ | exact ⟨h.1, h.2.1, h.2.2.1, h.2.2.2.1, h.2.2.2.2, g⟩ | exact ⟨h.1, h.2.1, h.2.2.1, h.2.2.2.1, h.2.2.2.2.1, h.2.2.2.2.2, g⟩ | exact ⟨h.1, h.2.1, h.2.2.1, h.2.2.2.1, h.2.2.2.2.1, h.2.2.2.2.2.1, h.2.2.2.2.2.2, g⟩ | exact ⟨h.1, h.2.1, h.2.2.1, h.2.2.2.1, h.2.2.2.2.1, h.2.2.2.2.2.1, h.2.2.2.2.2.2.1, h.2.2.2.2.2.2.2, g⟩ | exact ⟨h.1, h.2.1, h.2.2.1, h.2.2.2.1, h.2.2.2.2.1, h.2.2.2.2.2.1, h.2.2.2.2.2.2.1, h.2.2.2.2.2.2.2.1, h.2.2.2.2.2.2.2.2, g⟩ | exact ⟨h.1, h.2.1, h.2.2.1, h.2.2.2.1, h.2.2.2.2.1, h.2.2.2.2.2.1, h.2.2.2.2.2.2.1, h.2.2.2.2.2.2.2.1, h.2.2.2.2.2.2.2.2.1, h.2.2.2.2.2.2.2.2.2, g⟩)
theorem cp_ladd : cq_Lo cq_ladd := by
  intro E P t pc L' L st M k' k hL hk h
  unfold cq_ladd at h ⊢
  dsimp only at h ⊢
  split at h <;> (first | exact h.elim | exact hk _ _ _ _ _ hL h)
noncomputable def cq_lsub : cm_T1 := fun E P t S k => match S.2.2.1 with
  | .long y :: .long x :: st => k (cq_adv S 1 (.long (x - y) :: st))
  | _ => False
theorem cj_lsub : cm_Cj cm_lsub cq_lsub := by
  intro E P t S k1 k2 h g
  obtain ⟨pc, L, st, M⟩ := S
  unfold cm_lsub at h ⊢
  unfold cq_lsub at g
  try simp only [cq_adv_eq, adL_eq, jmL_eq] at g
  dsimp only at h g ⊢
  split at h <;> (first | exact h.elim | exact ⟨h, g⟩ | exact ⟨h.1, h.2, g⟩ | exact ⟨h.1, h.2.1, h.2.2, g⟩ | exact ⟨h.1, h.2.1, h.2.2.1, h.2.2.2, g⟩ | exact ⟨h.1, h.2.1, h.2.2.1, h.2.2.2.1, h.2.2.2.2, g⟩ | exact ⟨h.1, h.2.1, h.2.2.1, h.2.2.2.1, h.2.2.2.2.1, h.2.2.2.2.2, g⟩ | exact ⟨h.1, h.2.1, h.2.2.1, h.2.2.2.1, h.2.2.2.2.1, h.2.2.2.2.2.1, h.2.2.2.2.2.2, g⟩ | exact ⟨h.1, h.2.1, h.2.2.1, h.2.2.2.1, h.2.2.2.2.1, h.2.2.2.2.2.1, h.2.2.2.2.2.2.1, h.2.2.2.2.2.2.2, g⟩ | exact ⟨h.1, h.2.1, h.2.2.1, h.2.2.2.1, h.2.2.2.2.1, h.2.2.2.2.2.1, h.2.2.2.2.2.2.1, h.2.2.2.2.2.2.2.1, h.2.2.2.2.2.2.2.2, g⟩ | exact ⟨h.1, h.2.1, h.2.2.1, h.2.2.2.1, h.2.2.2.2.1, h.2.2.2.2.2.1, h.2.2.2.2.2.2.1, h.2.2.2.2.2.2.2.1, h.2.2.2.2.2.2.2.2.1, h.2.2.2.2.2.2.2.2.2, g⟩)
theorem cp_lsub : cq_Lo cq_lsub := by
  intro E P t pc L' L st M k' k hL hk h
  unfold cq_lsub at h ⊢
  dsimp only at h ⊢
  split at h <;> (first | exact h.elim | exact hk _ _ _ _ _ hL h)
noncomputable def cq_lmul : cm_T1 := fun E P t S k => match S.2.2.1 with
  | .long y :: .long x :: st => k (cq_adv S 1 (.long (x * y) :: st))
  | _ => False
theorem cj_lmul : cm_Cj cm_lmul cq_lmul := by
  intro E P t S k1 k2 h g
  obtain ⟨pc, L, st, M⟩ := S
  unfold cm_lmul at h ⊢
  unfold cq_lmul at g
  try simp only [cq_adv_eq, adL_eq, jmL_eq] at g
  dsimp only at h g ⊢
  split at h <;> (first | exact h.elim | exact ⟨h, g⟩ | exact ⟨h.1, h.2, g⟩ | exact ⟨h.1, h.2.1, h.2.2, g⟩ | exact ⟨h.1, h.2.1, h.2.2.1, h.2.2.2, g⟩ | exact ⟨h.1, h.2.1, h.2.2.1, h.2.2.2.1, h.2.2.2.2, g⟩ | exact ⟨h.1, h.2.1, h.2.2.1, h.2.2.2.1, h.2.2.2.2.1, h.2.2.2.2.2, g⟩ | exact ⟨h.1, h.2.1, h.2.2.1, h.2.2.2.1, h.2.2.2.2.1, h.2.2.2.2.2.1, h.2.2.2.2.2.2, g⟩ | exact ⟨h.1, h.2.1, h.2.2.1, h.2.2.2.1, h.2.2.2.2.1, h.2.2.2.2.2.1, h.2.2.2.2.2.2.1, h.2.2.2.2.2.2.2, g⟩ | exact ⟨h.1, h.2.1, h.2.2.1, h.2.2.2.1, h.2.2.2.2.1, h.2.2.2.2.2.1, h.2.2.2.2.2.2.1, h.2.2.2.2.2.2.2.1, h.2.2.2.2.2.2.2.2, g⟩ | exact ⟨h.1, h.2.1, h.2.2.1, h.2.2.2.1, h.2.2.2.2.1, h.2.2.2.2.2.1, h.2.2.2.2.2.2.1, h.2.2.2.2.2.2.2.1, h.2.2.2.2.2.2.2.2.1, h.2.2.2.2.2.2.2.2.2, g⟩)
theorem cp_lmul : cq_Lo cq_lmul := by
  intro E P t pc L' L st M k' k hL hk h
  unfold cq_lmul at h ⊢
  dsimp only at h ⊢
  split at h <;> (first | exact h.elim | exact hk _ _ _ _ _ hL h)
noncomputable def cq_ldiv : cm_T1 := fun E P t S k => match S.2.2.1 with
  | .long y :: .long x :: st => k (cq_adv S 1 (.long (x / y) :: st))
  | _ => False
theorem cj_ldiv : cm_Cj cm_ldiv cq_ldiv := by
  intro E P t S k1 k2 h g
  obtain ⟨pc, L, st, M⟩ := S
  unfold cm_ldiv at h ⊢
  unfold cq_ldiv at g
  try simp only [cq_adv_eq, adL_eq, jmL_eq] at g
  dsimp only at h g ⊢
  split at h <;> (first | exact h.elim | exact ⟨h, g⟩ | exact ⟨h.1, h.2, g⟩ | exact ⟨h.1, h.2.1, h.2.2, g⟩ | exact ⟨h.1, h.2.1, h.2.2.1, h.2.2.2, g⟩ | exact ⟨h.1, h.2.1, h.2.2.1, h.2.2.2.1, h.2.2.2.2, g⟩ | exact ⟨h.1, h.2.1, h.2.2.1, h.2.2.2.1, h.2.2.2.2.1, h.2.2.2.2.2, g⟩ | exact ⟨h.1, h.2.1, h.2.2.1, h.2.2.2.1, h.2.2.2.2.1, h.2.2.2.2.2.1, h.2.2.2.2.2.2, g⟩ | exact ⟨h.1, h.2.1, h.2.2.1, h.2.2.2.1, h.2.2.2.2.1, h.2.2.2.2.2.1, h.2.2.2.2.2.2.1, h.2.2.2.2.2.2.2, g⟩ | exact ⟨h.1, h.2.1, h.2.2.1, h.2.2.2.1, h.2.2.2.2.1, h.2.2.2.2.2.1, h.2.2.2.2.2.2.1, h.2.2.2.2.2.2.2.1, h.2.2.2.2.2.2.2.2, g⟩ | exact ⟨h.1, h.2.1, h.2.2.1, h.2.2.2.1, h.2.2.2.2.1, h.2.2.2.2.2.1, h.2.2.2.2.2.2.1, h.2.2.2.2.2.2.2.1, h.2.2.2.2.2.2.2.2.1, h.2.2.2.2.2.2.2.2.2, g⟩)
theorem cp_ldiv : cq_Lo cq_ldiv := by
  intro E P t pc L' L st M k' k hL hk h
  unfold cq_ldiv at h ⊢
  dsimp only at h ⊢
  split at h <;> (first | exact h.elim | exact hk _ _ _ _ _ hL h)
noncomputable def cq_lrem : cm_T1 := fun E P t S k => match S.2.2.1 with
  | .long y :: .long x :: st => k (cq_adv S 1 (.long (x - x / y * y) :: st))
  | _ => False
theorem cj_lrem : cm_Cj cm_lrem cq_lrem := by
  intro E P t S k1 k2 h g
  obtain ⟨pc, L, st, M⟩ := S
  unfold cm_lrem at h ⊢
  unfold cq_lrem at g
  try simp only [cq_adv_eq, adL_eq, jmL_eq] at g
  dsimp only at h g ⊢
  split at h <;> (first | exact h.elim | exact ⟨h, g⟩ | exact ⟨h.1, h.2, g⟩ | exact ⟨h.1, h.2.1, h.2.2, g⟩ | exact ⟨h.1, h.2.1, h.2.2.1, h.2.2.2, g⟩ | exact ⟨h.1, h.2.1, h.2.2.1, h.2.2.2.1, h.2.2.2.2, g⟩ | exact ⟨h.1, h.2.1, h.2.2.1, h.2.2.2.1, h.2.2.2.2.1, h.2.2.2.2.2, g⟩ | exact ⟨h.1, h.2.1, h.2.2.1, h.2.2.2.1, h.2.2.2.2.1, h.2.2.2.2.2.1, h.2.2.2.2.2.2, g⟩ | exact ⟨h.1, h.2.1, h.2.2.1, h.2.2.2.1, h.2.2.2.2.1, h.2.2.2.2.2.1, h.2.2.2.2.2.2.1, h.2.2.2.2.2.2.2, g⟩ | exact ⟨h.1, h.2.1, h.2.2.1, h.2.2.2.1, h.2.2.2.2.1, h.2.2.2.2.2.1, h.2.2.2.2.2.2.1, h.2.2.2.2.2.2.2.1, h.2.2.2.2.2.2.2.2, g⟩ | exact ⟨h.1, h.2.1, h.2.2.1, h.2.2.2.1, h.2.2.2.2.1, h.2.2.2.2.2.1, h.2.2.2.2.2.2.1, h.2.2.2.2.2.2.2.1, h.2.2.2.2.2.2.2.2.1, h.2.2.2.2.2.2.2.2.2, g⟩)
theorem cp_lrem : cq_Lo cq_lrem := by
  intro E P t pc L' L st M k' k hL hk h
  unfold cq_lrem at h ⊢
  dsimp only at h ⊢
  split at h <;> (first | exact h.elim | exact hk _ _ _ _ _ hL h)
noncomputable def cq_ldc2 : cm_T1 := fun E P t S k => k (cq_adv S 3 (.long (Int64.ofInt t.1) :: S.2.2.1))
theorem cj_ldc2 : cm_Cj cm_ldc2 cq_ldc2 := by
  intro E P t S k1 k2 h g
  obtain ⟨pc, L, st, M⟩ := S
  unfold cm_ldc2 at h ⊢
  unfold cq_ldc2 at g
  try simp only [cq_adv_eq, adL_eq, jmL_eq] at g
  dsimp only at h g ⊢
  first | exact h.elim | exact ⟨h, g⟩ | exact ⟨h.1, h.2, g⟩ | exact ⟨h.1, h.2.1, h.2.2, g⟩ | exact ⟨h.1, h.2.1, h.2.2.1, h.2.2.2, g⟩ | exact ⟨h.1, h.2.1, h.2.2.1, h.2.2.2.1, h.2.2.2.2, g⟩ | exact ⟨h.1, h.2.1, h.2.2.1, h.2.2.2.1, h.2.2.2.2.1, h.2.2.2.2.2, g⟩ | exact ⟨h.1, h.2.1, h.2.2.1, h.2.2.2.1, h.2.2.2.2.1, h.2.2.2.2.2.1, h.2.2.2.2.2.2, g⟩ | exact ⟨h.1, h.2.1, h.2.2.1, h.2.2.2.1, h.2.2.2.2.1, h.2.2.2.2.2.1, h.2.2.2.2.2.2.1, h.2.2.2.2.2.2.2, g⟩ | exact ⟨h.1, h.2.1, h.2.2.1, h.2.2.2.1, h.2.2.2.2.1, h.2.2.2.2.2.1, h.2.2.2.2.2.2.1, h.2.2.2.2.2.2.2.1, h.2.2.2.2.2.2.2.2, g⟩ | exact ⟨h.1, h.2.1, h.2.2.1, h.2.2.2.1, h.2.2.2.2.1, h.2.2.2.2.2.1, h.2.2.2.2.2.2.1, h.2.2.2.2.2.2.2.1, h.2.2.2.2.2.2.2.2.1, h.2.2.2.2.2.2.2.2.2, g⟩
theorem cp_ldc2 : cq_Lo cq_ldc2 := by
  intro E P t pc L' L st M k' k hL hk h
  unfold cq_ldc2 at h ⊢
  dsimp only at h ⊢
  exact hk _ _ _ _ _ hL h
noncomputable def cq_getsF : cm_T1 := fun E P t S k => k (cq_adv S 3 (.null :: S.2.2.1)) ∧ k (cq_adv S 3 (.ref 1101 :: S.2.2.1))
theorem cj_getsF : cm_Cj cm_getsF cq_getsF := by
  intro E P t S k1 k2 h g
  obtain ⟨pc, L, st, M⟩ := S
  unfold cm_getsF at h ⊢
  unfold cq_getsF at g
  try simp only [cq_adv_eq, adL_eq, jmL_eq] at g
  dsimp only at h g ⊢
  exact ⟨⟨h.1, g.1⟩, h.2, g.2⟩
theorem cp_getsF : cq_Lo cq_getsF := by
  intro E P t pc L' L st M k' k hL hk h
  unfold cq_getsF at h ⊢
  dsimp only at h ⊢
  exact ⟨hk _ _ _ _ _ hL h.1, hk _ _ _ _ _ hL h.2⟩
noncomputable def cq_ldcw : cm_T1 := fun E P t S k => k (cq_adv S 3 (.int (Int32.ofInt t.1) :: S.2.2.1))
theorem cj_ldcw : cm_Cj cm_ldcw cq_ldcw := by
  intro E P t S k1 k2 h g
  obtain ⟨pc, L, st, M⟩ := S
  unfold cm_ldcw at h ⊢
  unfold cq_ldcw at g
  try simp only [cq_adv_eq, adL_eq, jmL_eq] at g
  dsimp only at h g ⊢
  first | exact h.elim | exact ⟨h, g⟩ | exact ⟨h.1, h.2, g⟩ | exact ⟨h.1, h.2.1, h.2.2, g⟩ | exact ⟨h.1, h.2.1, h.2.2.1, h.2.2.2, g⟩ | exact ⟨h.1, h.2.1, h.2.2.1, h.2.2.2.1, h.2.2.2.2, g⟩ | exact ⟨h.1, h.2.1, h.2.2.1, h.2.2.2.1, h.2.2.2.2.1, h.2.2.2.2.2, g⟩ | exact ⟨h.1, h.2.1, h.2.2.1, h.2.2.2.1, h.2.2.2.2.1, h.2.2.2.2.2.1, h.2.2.2.2.2.2, g⟩ | exact ⟨h.1, h.2.1, h.2.2.1, h.2.2.2.1, h.2.2.2.2.1, h.2.2.2.2.2.1, h.2.2.2.2.2.2.1, h.2.2.2.2.2.2.2, g⟩ | exact ⟨h.1, h.2.1, h.2.2.1, h.2.2.2.1, h.2.2.2.2.1, h.2.2.2.2.2.1, h.2.2.2.2.2.2.1, h.2.2.2.2.2.2.2.1, h.2.2.2.2.2.2.2.2, g⟩ | exact ⟨h.1, h.2.1, h.2.2.1, h.2.2.2.1, h.2.2.2.2.1, h.2.2.2.2.2.1, h.2.2.2.2.2.2.1, h.2.2.2.2.2.2.2.1, h.2.2.2.2.2.2.2.2.1, h.2.2.2.2.2.2.2.2.2, g⟩
theorem cp_ldcw : cq_Lo cq_ldcw := by
  intro E P t pc L' L st M k' k hL hk h
  unfold cq_ldcw at h ⊢
  dsimp only at h ⊢
  exact hk _ _ _ _ _ hL h
noncomputable def cq_mmax : cm_T1 := fun E P t S k => match S.2.2.1 with
  | .int y :: .int x :: st => k (cq_adv S 3 (.int (if x < y then y else x) :: st))
  | _ => False
theorem cj_mmax : cm_Cj cm_mmax cq_mmax := by
  intro E P t S k1 k2 h g
  obtain ⟨pc, L, st, M⟩ := S
  unfold cm_mmax at h ⊢
  unfold cq_mmax at g
  try simp only [cq_adv_eq, adL_eq, jmL_eq] at g
  dsimp only at h g ⊢
  split at h <;> (first | exact h.elim | exact ⟨h, g⟩ | exact ⟨h.1, h.2, g⟩ | exact ⟨h.1, h.2.1, h.2.2, g⟩ | exact ⟨h.1, h.2.1, h.2.2.1, h.2.2.2, g⟩ | exact ⟨h.1, h.2.1, h.2.2.1, h.2.2.2.1, h.2.2.2.2, g⟩ | exact ⟨h.1, h.2.1, h.2.2.1, h.2.2.2.1, h.2.2.2.2.1, h.2.2.2.2.2, g⟩ | exact ⟨h.1, h.2.1, h.2.2.1, h.2.2.2.1, h.2.2.2.2.1, h.2.2.2.2.2.1, h.2.2.2.2.2.2, g⟩ | exact ⟨h.1, h.2.1, h.2.2.1, h.2.2.2.1, h.2.2.2.2.1, h.2.2.2.2.2.1, h.2.2.2.2.2.2.1, h.2.2.2.2.2.2.2, g⟩ | exact ⟨h.1, h.2.1, h.2.2.1, h.2.2.2.1, h.2.2.2.2.1, h.2.2.2.2.2.1, h.2.2.2.2.2.2.1, h.2.2.2.2.2.2.2.1, h.2.2.2.2.2.2.2.2, g⟩ | exact ⟨h.1, h.2.1, h.2.2.1, h.2.2.2.1, h.2.2.2.2.1, h.2.2.2.2.2.1, h.2.2.2.2.2.2.1, h.2.2.2.2.2.2.2.1, h.2.2.2.2.2.2.2.2.1, h.2.2.2.2.2.2.2.2.2, g⟩)
theorem cp_mmax : cq_Lo cq_mmax := by
  intro E P t pc L' L st M k' k hL hk h
  unfold cq_mmax at h ⊢
  dsimp only at h ⊢
  split at h <;> (first | exact h.elim | exact hk _ _ _ _ _ hL h)
noncomputable def cq_mabs : cm_T1 := fun E P t S k => match S.2.2.1 with
  | .int x :: st => k (cq_adv S 3 (.int (if 0 ≤ x then x else 0 - x) :: st))
  | _ => False
theorem cj_mabs : cm_Cj cm_mabs cq_mabs := by
  intro E P t S k1 k2 h g
  obtain ⟨pc, L, st, M⟩ := S
  unfold cm_mabs at h ⊢
  unfold cq_mabs at g
  try simp only [cq_adv_eq, adL_eq, jmL_eq] at g
  dsimp only at h g ⊢
  split at h <;> (first | exact h.elim | exact ⟨h, g⟩ | exact ⟨h.1, h.2, g⟩ | exact ⟨h.1, h.2.1, h.2.2, g⟩ | exact ⟨h.1, h.2.1, h.2.2.1, h.2.2.2, g⟩ | exact ⟨h.1, h.2.1, h.2.2.1, h.2.2.2.1, h.2.2.2.2, g⟩ | exact ⟨h.1, h.2.1, h.2.2.1, h.2.2.2.1, h.2.2.2.2.1, h.2.2.2.2.2, g⟩ | exact ⟨h.1, h.2.1, h.2.2.1, h.2.2.2.1, h.2.2.2.2.1, h.2.2.2.2.2.1, h.2.2.2.2.2.2, g⟩ | exact ⟨h.1, h.2.1, h.2.2.1, h.2.2.2.1, h.2.2.2.2.1, h.2.2.2.2.2.1, h.2.2.2.2.2.2.1, h.2.2.2.2.2.2.2, g⟩ | exact ⟨h.1, h.2.1, h.2.2.1, h.2.2.2.1, h.2.2.2.2.1, h.2.2.2.2.2.1, h.2.2.2.2.2.2.1, h.2.2.2.2.2.2.2.1, h.2.2.2.2.2.2.2.2, g⟩ | exact ⟨h.1, h.2.1, h.2.2.1, h.2.2.2.1, h.2.2.2.2.1, h.2.2.2.2.2.1, h.2.2.2.2.2.2.1, h.2.2.2.2.2.2.2.1, h.2.2.2.2.2.2.2.2.1, h.2.2.2.2.2.2.2.2.2, g⟩)
theorem cp_mabs : cq_Lo cq_mabs := by
  intro E P t pc L' L st M k' k hL hk h
  unfold cq_mabs at h ⊢
  dsimp only at h ⊢
  split at h <;> (first | exact h.elim | exact hk _ _ _ _ _ hL h)
noncomputable def cq_copyi : cm_T1 := fun E P t S k => match S.2.2.1 with
  | .int n :: .int dp :: .ref d :: .int sp :: .ref c :: st => k (adL S.1 3, S.2.1, st, cm_cp S.2.2.2 c sp.toNatClampNeg d dp.toNatClampNeg n.toNatClampNeg)
  | _ => False
theorem cj_copyi : cm_Cj cm_copyi cq_copyi := by
  intro E P t S k1 k2 h g
  obtain ⟨pc, L, st, M⟩ := S
  unfold cm_copyi at h ⊢
  unfold cq_copyi at g
  try simp only [cq_adv_eq, adL_eq, jmL_eq] at g
  dsimp only at h g ⊢
  split at h <;> (first | exact h.elim | exact ⟨h, g⟩ | exact ⟨h.1, h.2, g⟩ | exact ⟨h.1, h.2.1, h.2.2, g⟩ | exact ⟨h.1, h.2.1, h.2.2.1, h.2.2.2, g⟩ | exact ⟨h.1, h.2.1, h.2.2.1, h.2.2.2.1, h.2.2.2.2, g⟩ | exact ⟨h.1, h.2.1, h.2.2.1, h.2.2.2.1, h.2.2.2.2.1, h.2.2.2.2.2, g⟩ | exact ⟨h.1, h.2.1, h.2.2.1, h.2.2.2.1, h.2.2.2.2.1, h.2.2.2.2.2.1, h.2.2.2.2.2.2, g⟩ | exact ⟨h.1, h.2.1, h.2.2.1, h.2.2.2.1, h.2.2.2.2.1, h.2.2.2.2.2.1, h.2.2.2.2.2.2.1, h.2.2.2.2.2.2.2, g⟩ | exact ⟨h.1, h.2.1, h.2.2.1, h.2.2.2.1, h.2.2.2.2.1, h.2.2.2.2.2.1, h.2.2.2.2.2.2.1, h.2.2.2.2.2.2.2.1, h.2.2.2.2.2.2.2.2, g⟩ | exact ⟨h.1, h.2.1, h.2.2.1, h.2.2.2.1, h.2.2.2.2.1, h.2.2.2.2.2.1, h.2.2.2.2.2.2.1, h.2.2.2.2.2.2.2.1, h.2.2.2.2.2.2.2.2.1, h.2.2.2.2.2.2.2.2.2, g⟩)
theorem cp_copyi : cq_Lo cq_copyi := by
  intro E P t pc L' L st M k' k hL hk h
  unfold cq_copyi at h ⊢
  dsimp only at h ⊢
  split at h <;> (first | exact h.elim | exact hk _ _ _ _ _ hL h)
noncomputable def cq_getT : cm_T1 := fun E P t S k => k (cq_adv S 3 (.ref 1100 :: S.2.2.1))
theorem cj_getT : cm_Cj cm_getT cq_getT := by
  intro E P t S k1 k2 h g
  obtain ⟨pc, L, st, M⟩ := S
  unfold cm_getT at h ⊢
  unfold cq_getT at g
  try simp only [cq_adv_eq, adL_eq, jmL_eq] at g
  dsimp only at h g ⊢
  first | exact h.elim | exact ⟨h, g⟩ | exact ⟨h.1, h.2, g⟩ | exact ⟨h.1, h.2.1, h.2.2, g⟩ | exact ⟨h.1, h.2.1, h.2.2.1, h.2.2.2, g⟩ | exact ⟨h.1, h.2.1, h.2.2.1, h.2.2.2.1, h.2.2.2.2, g⟩ | exact ⟨h.1, h.2.1, h.2.2.1, h.2.2.2.1, h.2.2.2.2.1, h.2.2.2.2.2, g⟩ | exact ⟨h.1, h.2.1, h.2.2.1, h.2.2.2.1, h.2.2.2.2.1, h.2.2.2.2.2.1, h.2.2.2.2.2.2, g⟩ | exact ⟨h.1, h.2.1, h.2.2.1, h.2.2.2.1, h.2.2.2.2.1, h.2.2.2.2.2.1, h.2.2.2.2.2.2.1, h.2.2.2.2.2.2.2, g⟩ | exact ⟨h.1, h.2.1, h.2.2.1, h.2.2.2.1, h.2.2.2.2.1, h.2.2.2.2.2.1, h.2.2.2.2.2.2.1, h.2.2.2.2.2.2.2.1, h.2.2.2.2.2.2.2.2, g⟩ | exact ⟨h.1, h.2.1, h.2.2.1, h.2.2.2.1, h.2.2.2.2.1, h.2.2.2.2.2.1, h.2.2.2.2.2.2.1, h.2.2.2.2.2.2.2.1, h.2.2.2.2.2.2.2.2.1, h.2.2.2.2.2.2.2.2.2, g⟩
theorem cp_getT : cq_Lo cq_getT := by
  intro E P t pc L' L st M k' k hL hk h
  unfold cq_getT at h ⊢
  dsimp only at h ⊢
  exact hk _ _ _ _ _ hL h
noncomputable def cq_tald : cm_T1 := fun E P t S k => match S.2.2.1 with
  | .int i :: .ref c :: st => k (cq_adv S 1 (.int (cm_tens i.toNatClampNeg) :: st))
  | _ => False
theorem cj_tald : cm_Cj cm_tald cq_tald := by
  intro E P t S k1 k2 h g
  obtain ⟨pc, L, st, M⟩ := S
  unfold cm_tald at h ⊢
  unfold cq_tald at g
  try simp only [cq_adv_eq, adL_eq, jmL_eq] at g
  dsimp only at h g ⊢
  split at h <;> (first | exact h.elim | exact ⟨h, g⟩ | exact ⟨h.1, h.2, g⟩ | exact ⟨h.1, h.2.1, h.2.2, g⟩ | exact ⟨h.1, h.2.1, h.2.2.1, h.2.2.2, g⟩ | exact ⟨h.1, h.2.1, h.2.2.1, h.2.2.2.1, h.2.2.2.2, g⟩ | exact ⟨h.1, h.2.1, h.2.2.1, h.2.2.2.1, h.2.2.2.2.1, h.2.2.2.2.2, g⟩ | exact ⟨h.1, h.2.1, h.2.2.1, h.2.2.2.1, h.2.2.2.2.1, h.2.2.2.2.2.1, h.2.2.2.2.2.2, g⟩ | exact ⟨h.1, h.2.1, h.2.2.1, h.2.2.2.1, h.2.2.2.2.1, h.2.2.2.2.2.1, h.2.2.2.2.2.2.1, h.2.2.2.2.2.2.2, g⟩ | exact ⟨h.1, h.2.1, h.2.2.1, h.2.2.2.1, h.2.2.2.2.1, h.2.2.2.2.2.1, h.2.2.2.2.2.2.1, h.2.2.2.2.2.2.2.1, h.2.2.2.2.2.2.2.2, g⟩ | exact ⟨h.1, h.2.1, h.2.2.1, h.2.2.2.1, h.2.2.2.2.1, h.2.2.2.2.2.1, h.2.2.2.2.2.2.1, h.2.2.2.2.2.2.2.1, h.2.2.2.2.2.2.2.2.1, h.2.2.2.2.2.2.2.2.2, g⟩)
theorem cp_tald : cq_Lo cq_tald := by
  intro E P t pc L' L st M k' k hL hk h
  unfold cq_tald at h ⊢
  dsimp only at h ⊢
  split at h <;> (first | exact h.elim | exact hk _ _ _ _ _ hL h)
noncomputable def cq_alenT : cm_T1 := fun E P t S k => match S.2.2.1 with
  | .ref c :: st => k (cq_adv S 1 (.int 5 :: st))
  | _ => False
theorem cj_alenT : cm_Cj cm_alenT cq_alenT := by
  intro E P t S k1 k2 h g
  obtain ⟨pc, L, st, M⟩ := S
  unfold cm_alenT at h ⊢
  unfold cq_alenT at g
  try simp only [cq_adv_eq, adL_eq, jmL_eq] at g
  dsimp only at h g ⊢
  split at h <;> (first | exact h.elim | exact ⟨h, g⟩ | exact ⟨h.1, h.2, g⟩ | exact ⟨h.1, h.2.1, h.2.2, g⟩ | exact ⟨h.1, h.2.1, h.2.2.1, h.2.2.2, g⟩ | exact ⟨h.1, h.2.1, h.2.2.1, h.2.2.2.1, h.2.2.2.2, g⟩ | exact ⟨h.1, h.2.1, h.2.2.1, h.2.2.2.1, h.2.2.2.2.1, h.2.2.2.2.2, g⟩ | exact ⟨h.1, h.2.1, h.2.2.1, h.2.2.2.1, h.2.2.2.2.1, h.2.2.2.2.2.1, h.2.2.2.2.2.2, g⟩ | exact ⟨h.1, h.2.1, h.2.2.1, h.2.2.2.1, h.2.2.2.2.1, h.2.2.2.2.2.1, h.2.2.2.2.2.2.1, h.2.2.2.2.2.2.2, g⟩ | exact ⟨h.1, h.2.1, h.2.2.1, h.2.2.2.1, h.2.2.2.2.1, h.2.2.2.2.2.1, h.2.2.2.2.2.2.1, h.2.2.2.2.2.2.2.1, h.2.2.2.2.2.2.2.2, g⟩ | exact ⟨h.1, h.2.1, h.2.2.1, h.2.2.2.1, h.2.2.2.2.1, h.2.2.2.2.2.1, h.2.2.2.2.2.2.1, h.2.2.2.2.2.2.2.1, h.2.2.2.2.2.2.2.2.1, h.2.2.2.2.2.2.2.2.2, g⟩)
theorem cp_alenT : cq_Lo cq_alenT := by
  intro E P t pc L' L st M k' k hL hk h
  unfold cq_alenT at h ⊢
  dsimp only at h ⊢
  split at h <;> (first | exact h.elim | exact hk _ _ _ _ _ hL h)
noncomputable def cq_lastore : cm_T1 := fun E P t S k => match S.2.2.1 with
  | .long x :: .int i :: .ref c :: st => k (adL S.1 1, S.2.1, st, cm_wl S.2.2.2 c i.toNatClampNeg x)
  | _ => False
theorem cj_lastore : cm_Cj cm_lastore cq_lastore := by
  intro E P t S k1 k2 h g
  obtain ⟨pc, L, st, M⟩ := S
  unfold cm_lastore at h ⊢
  unfold cq_lastore at g
  try simp only [cq_adv_eq, adL_eq, jmL_eq] at g
  dsimp only at h g ⊢
  split at h <;> (first | exact h.elim | exact ⟨h, g⟩ | exact ⟨h.1, h.2, g⟩ | exact ⟨h.1, h.2.1, h.2.2, g⟩ | exact ⟨h.1, h.2.1, h.2.2.1, h.2.2.2, g⟩ | exact ⟨h.1, h.2.1, h.2.2.1, h.2.2.2.1, h.2.2.2.2, g⟩ | exact ⟨h.1, h.2.1, h.2.2.1, h.2.2.2.1, h.2.2.2.2.1, h.2.2.2.2.2, g⟩ | exact ⟨h.1, h.2.1, h.2.2.1, h.2.2.2.1, h.2.2.2.2.1, h.2.2.2.2.2.1, h.2.2.2.2.2.2, g⟩ | exact ⟨h.1, h.2.1, h.2.2.1, h.2.2.2.1, h.2.2.2.2.1, h.2.2.2.2.2.1, h.2.2.2.2.2.2.1, h.2.2.2.2.2.2.2, g⟩ | exact ⟨h.1, h.2.1, h.2.2.1, h.2.2.2.1, h.2.2.2.2.1, h.2.2.2.2.2.1, h.2.2.2.2.2.2.1, h.2.2.2.2.2.2.2.1, h.2.2.2.2.2.2.2.2, g⟩ | exact ⟨h.1, h.2.1, h.2.2.1, h.2.2.2.1, h.2.2.2.2.1, h.2.2.2.2.2.1, h.2.2.2.2.2.2.1, h.2.2.2.2.2.2.2.1, h.2.2.2.2.2.2.2.2.1, h.2.2.2.2.2.2.2.2.2, g⟩)
theorem cp_lastore : cq_Lo cq_lastore := by
  intro E P t pc L' L st M k' k hL hk h
  unfold cq_lastore at h ⊢
  dsimp only at h ⊢
  split at h <;> (first | exact h.elim | exact hk _ _ _ _ _ hL h)
noncomputable def cq_pop2 : cm_T1 := fun E P t S k => match S.2.2.1 with
  | .long x :: st => k (cq_adv S 1 st)
  | _ => False
theorem cj_pop2 : cm_Cj cm_pop2 cq_pop2 := by
  intro E P t S k1 k2 h g
  obtain ⟨pc, L, st, M⟩ := S
  unfold cm_pop2 at h ⊢
  unfold cq_pop2 at g
  try simp only [cq_adv_eq, adL_eq, jmL_eq] at g
  dsimp only at h g ⊢
  split at h <;> (first | exact h.elim | exact ⟨h, g⟩ | exact ⟨h.1, h.2, g⟩ | exact ⟨h.1, h.2.1, h.2.2, g⟩ | exact ⟨h.1, h.2.1, h.2.2.1, h.2.2.2, g⟩ | exact ⟨h.1, h.2.1, h.2.2.1, h.2.2.2.1, h.2.2.2.2, g⟩ | exact ⟨h.1, h.2.1, h.2.2.1, h.2.2.2.1, h.2.2.2.2.1, h.2.2.2.2.2, g⟩ | exact ⟨h.1, h.2.1, h.2.2.1, h.2.2.2.1, h.2.2.2.2.1, h.2.2.2.2.2.1, h.2.2.2.2.2.2, g⟩ | exact ⟨h.1, h.2.1, h.2.2.1, h.2.2.2.1, h.2.2.2.2.1, h.2.2.2.2.2.1, h.2.2.2.2.2.2.1, h.2.2.2.2.2.2.2, g⟩ | exact ⟨h.1, h.2.1, h.2.2.1, h.2.2.2.1, h.2.2.2.2.1, h.2.2.2.2.2.1, h.2.2.2.2.2.2.1, h.2.2.2.2.2.2.2.1, h.2.2.2.2.2.2.2.2, g⟩ | exact ⟨h.1, h.2.1, h.2.2.1, h.2.2.2.1, h.2.2.2.2.1, h.2.2.2.2.2.1, h.2.2.2.2.2.2.1, h.2.2.2.2.2.2.2.1, h.2.2.2.2.2.2.2.2.1, h.2.2.2.2.2.2.2.2.2, g⟩)
theorem cp_pop2 : cq_Lo cq_pop2 := by
  intro E P t pc L' L st M k' k hL hk h
  unfold cq_pop2 at h ⊢
  dsimp only at h ⊢
  split at h <;> (first | exact h.elim | exact hk _ _ _ _ _ hL h)
noncomputable def cq_ops : List cm_T1 := [cq_iconst, cq_bipush, cq_sipush, cq_lconst, cq_iload, cq_iloadn, cq_lload, cq_lloadn, cq_aload, cq_aloadn, cq_istore, cq_istoren, cq_lstore, cq_lstoren, cq_astore, cq_astoren, cq_iadd, cq_isub, cq_imul, cq_iand, cq_ior, cq_ixor, cq_ishl, cq_ishr, cq_iushr, cq_idiv, cq_irem, cq_ineg, cq_i2b, cq_i2l, cq_lcmp, cq_dup, cq_pop, cq_dup2, cq_iinc, cq_icmp_eq, cq_icmp_ne, cq_icmp_lt, cq_icmp_ge, cq_icmp_gt, cq_icmp_le, cq_if_eq, cq_if_ne, cq_if_lt, cq_if_ge, cq_if_gt, cq_if_le, cq_goto, cq_sw, cq_get, cq_put, cq_no, cq_iaload, cq_baload, cq_laload, cq_aaload, cq_iastore, cq_bastore, cq_no, cq_no, cq_no, cq_no, cq_no, cq_no, cq_alen, cq_sald, cq_no, cq_mmin, cq_ldc, cq_ldcS, cq_getV, cq_getC, cq_gets, cq_alenS, cq_baloadS, cq_i2c, cq_ladd, cq_lsub, cq_lmul, cq_ldiv, cq_lrem, cq_ldc2, cq_getsF, cq_ldcw, cq_mmax, cq_mabs, cq_copyi, cq_getT, cq_tald, cq_alenT, cq_lastore, cq_pop2]
theorem cj_1 {l1 : List cm_O} {l2 : List cm_T1} {o : cm_O} {x : cm_T1} (h : cm_Cj o x) (h2 : ∀ (i : Nat) (o : cm_O), l1[i]? = some o → ∃ x, l2[i]? = some x ∧ cm_Cj o x) : ∀ (i : Nat) (o' : cm_O), (o :: l1)[i]? = some o' → ∃ x', (x :: l2)[i]? = some x' ∧ cm_Cj o' x'
  | 0, o', e => by cases e; exact ⟨x, rfl, h⟩
  | i + 1, o', e => by
    obtain ⟨x', e1, e2⟩ := h2 i o' (by simpa using e)
    exact ⟨x', by simpa using e1, e2⟩
theorem cj_ops : ∀ (i : Nat) (o : cm_O), cm_ops[i]? = some o → ∃ x, cq_ops[i]? = some x ∧ cm_Cj o x := cj_1 cj_iconst (cj_1 cj_bipush (cj_1 cj_sipush (cj_1 cj_lconst (cj_1 cj_iload (cj_1 cj_iloadn (cj_1 cj_lload (cj_1 cj_lloadn (cj_1 cj_aload (cj_1 cj_aloadn (cj_1 cj_istore (cj_1 cj_istoren (cj_1 cj_lstore (cj_1 cj_lstoren (cj_1 cj_astore (cj_1 cj_astoren (cj_1 cj_iadd (cj_1 cj_isub (cj_1 cj_imul (cj_1 cj_iand (cj_1 cj_ior (cj_1 cj_ixor (cj_1 cj_ishl (cj_1 cj_ishr (cj_1 cj_iushr (cj_1 cj_idiv (cj_1 cj_irem (cj_1 cj_ineg (cj_1 cj_i2b (cj_1 cj_i2l (cj_1 cj_lcmp (cj_1 cj_dup (cj_1 cj_pop (cj_1 cj_dup2 (cj_1 cj_iinc (cj_1 cj_icmp_eq (cj_1 cj_icmp_ne (cj_1 cj_icmp_lt (cj_1 cj_icmp_ge (cj_1 cj_icmp_gt (cj_1 cj_icmp_le (cj_1 cj_if_eq (cj_1 cj_if_ne (cj_1 cj_if_lt (cj_1 cj_if_ge (cj_1 cj_if_gt (cj_1 cj_if_le (cj_1 cj_goto (cj_1 cj_sw (cj_1 cj_get (cj_1 cj_put (cj_1 cj_no (cj_1 cj_iaload (cj_1 cj_baload (cj_1 cj_laload (cj_1 cj_aaload (cj_1 cj_iastore (cj_1 cj_bastore (cj_1 cj_no (cj_1 cj_no (cj_1 cj_no (cj_1 cj_no (cj_1 cj_no (cj_1 cj_no (cj_1 cj_alen (cj_1 cj_sald (cj_1 cj_no (cj_1 cj_mmin (cj_1 cj_ldc (cj_1 cj_ldcS (cj_1 cj_getV (cj_1 cj_getC (cj_1 cj_gets (cj_1 cj_alenS (cj_1 cj_baloadS (cj_1 cj_i2c (cj_1 cj_ladd (cj_1 cj_lsub (cj_1 cj_lmul (cj_1 cj_ldiv (cj_1 cj_lrem (cj_1 cj_ldc2 (cj_1 cj_getsF (cj_1 cj_ldcw (cj_1 cj_mmax (cj_1 cj_mabs (cj_1 cj_copyi (cj_1 cj_getT (cj_1 cj_tald (cj_1 cj_alenT (cj_1 cj_lastore (cj_1 cj_pop2 (fun i o e => by cases e))))))))))))))))))))))))))))))))))))))))))))))))))))))))))))))))))))))))))))))))))))))))))))
theorem cp_1 {o : cm_T1} {l : List cm_T1} (h : cq_Lo o) (h2 : ∀ o ∈ l, cq_Lo o) : ∀ o' ∈ o :: l, cq_Lo o' := List.forall_mem_cons.mpr ⟨h, h2⟩
theorem cp_ops : ∀ o ∈ cq_ops, cq_Lo o := cp_1 cp_iconst (cp_1 cp_bipush (cp_1 cp_sipush (cp_1 cp_lconst (cp_1 cp_iload (cp_1 cp_iloadn (cp_1 cp_lload (cp_1 cp_lloadn (cp_1 cp_aload (cp_1 cp_aloadn (cp_1 cp_istore (cp_1 cp_istoren (cp_1 cp_lstore (cp_1 cp_lstoren (cp_1 cp_astore (cp_1 cp_astoren (cp_1 cp_iadd (cp_1 cp_isub (cp_1 cp_imul (cp_1 cp_iand (cp_1 cp_ior (cp_1 cp_ixor (cp_1 cp_ishl (cp_1 cp_ishr (cp_1 cp_iushr (cp_1 cp_idiv (cp_1 cp_irem (cp_1 cp_ineg (cp_1 cp_i2b (cp_1 cp_i2l (cp_1 cp_lcmp (cp_1 cp_dup (cp_1 cp_pop (cp_1 cp_dup2 (cp_1 cp_iinc (cp_1 cp_icmp_eq (cp_1 cp_icmp_ne (cp_1 cp_icmp_lt (cp_1 cp_icmp_ge (cp_1 cp_icmp_gt (cp_1 cp_icmp_le (cp_1 cp_if_eq (cp_1 cp_if_ne (cp_1 cp_if_lt (cp_1 cp_if_ge (cp_1 cp_if_gt (cp_1 cp_if_le (cp_1 cp_goto (cp_1 cp_sw (cp_1 cp_get (cp_1 cp_put (cp_1 cp_no (cp_1 cp_iaload (cp_1 cp_baload (cp_1 cp_laload (cp_1 cp_aaload (cp_1 cp_iastore (cp_1 cp_bastore (cp_1 cp_no (cp_1 cp_no (cp_1 cp_no (cp_1 cp_no (cp_1 cp_no (cp_1 cp_no (cp_1 cp_alen (cp_1 cp_sald (cp_1 cp_no (cp_1 cp_mmin (cp_1 cp_ldc (cp_1 cp_ldcS (cp_1 cp_getV (cp_1 cp_getC (cp_1 cp_gets (cp_1 cp_alenS (cp_1 cp_baloadS (cp_1 cp_i2c (cp_1 cp_ladd (cp_1 cp_lsub (cp_1 cp_lmul (cp_1 cp_ldiv (cp_1 cp_lrem (cp_1 cp_ldc2 (cp_1 cp_getsF (cp_1 cp_ldcw (cp_1 cp_mmax (cp_1 cp_mabs (cp_1 cp_copyi (cp_1 cp_getT (cp_1 cp_tald (cp_1 cp_alenT (cp_1 cp_lastore (cp_1 cp_pop2 (fun _ h => absurd h List.not_mem_nil))))))))))))))))))))))))))))))))))))))))))))))))))))))))))))))))))))))))))))))))))))))))))))
noncomputable def cq_il (ms : List ev_MI) (r : ev_Row) (S : cm_S) (k : cm_S → Prop) : Prop :=
  match cm_take (!(r.1 == 201)) r.2.2.2.1.toNat S.2.2.1 with
  | some (as, rest) => ∃ R : cm_K, cm_Lc ms r.2.1.toNat as S.2.2.2 R ∧ ∀ v M', R v M' → k (adL S.1 3, S.2.1, v.toList ++ rest, M')
  | none => True
noncomputable def oq_0 : List cm_T1 := [cq_iconst, cq_bipush, cq_sipush, cq_lconst, cq_iload, cq_iloadn]
noncomputable def oq_1 : List cm_T1 := [cq_lload, cq_lloadn, cq_aload, cq_aloadn, cq_istore, cq_istoren]
noncomputable def oq_2 : List cm_T1 := [cq_lstore, cq_lstoren, cq_astore, cq_astoren, cq_iadd, cq_isub]
noncomputable def oq_3 : List cm_T1 := [cq_imul, cq_iand, cq_ior, cq_ixor, cq_ishl, cq_ishr]
noncomputable def oq_4 : List cm_T1 := [cq_iushr, cq_idiv, cq_irem, cq_ineg, cq_i2b, cq_i2l]
noncomputable def oq_5 : List cm_T1 := [cq_lcmp, cq_dup, cq_pop, cq_dup2, cq_iinc, cq_icmp_eq]
noncomputable def oq_6 : List cm_T1 := [cq_icmp_ne, cq_icmp_lt, cq_icmp_ge, cq_icmp_gt, cq_icmp_le, cq_if_eq]
noncomputable def oq_7 : List cm_T1 := [cq_if_ne, cq_if_lt, cq_if_ge, cq_if_gt, cq_if_le, cq_goto]
noncomputable def oq_8 : List cm_T1 := [cq_sw, cq_get, cq_put, cq_no, cq_iaload, cq_baload]
noncomputable def oq_9 : List cm_T1 := [cq_laload, cq_aaload, cq_iastore, cq_bastore, cq_no, cq_no]
noncomputable def oq_10 : List cm_T1 := [cq_no, cq_no, cq_no, cq_no, cq_alen, cq_sald]
noncomputable def oq_11 : List cm_T1 := [cq_no, cq_mmin, cq_ldc, cq_ldcS, cq_getV, cq_getC]
noncomputable def oq_12 : List cm_T1 := [cq_gets, cq_alenS, cq_baloadS, cq_i2c, cq_ladd, cq_lsub]
noncomputable def oq_13 : List cm_T1 := [cq_lmul, cq_ldiv, cq_lrem, cq_ldc2, cq_getsF, cq_ldcw]
noncomputable def oq_14 : List cm_T1 := [cq_mmax, cq_mabs, cq_copyi, cq_getT, cq_tald, cq_alenT]
noncomputable def oq_15 : List cm_T1 := [cq_lastore, cq_pop2]
theorem aq_at {α : Type} {A B : List α} {N k : Nat} {x y : Option α} (h : A.length = N) (hb : y = B[k - N]?) (ha : x = A[k]?) : cond (Nat.ble N k) y x = (A ++ B)[k]? := by
  subst h
  cases hk : Nat.ble A.length k with
  | true => exact hb.trans (List.getElem?_append_right (Nat.le_of_ble_eq_true hk)).symm
  | false =>
    have hlt : k < A.length := Nat.lt_of_not_le (fun z => by
      have := Nat.ble_eq_true_of_le z
      rw [hk] at this
      cases this)
    exact ha.trans (List.getElem?_append_left hlt).symm
noncomputable def cq_opF (k : Nat) : Option cm_T1 := cond (Nat.ble 48 k) (cond (Nat.ble 24 (k - 48)) (cond (Nat.ble 12 ((k - 48) - 24)) (cond (Nat.ble 6 (((k - 48) - 24) - 12)) (oq_15[(((k - 48) - 24) - 12) - 6]?) (oq_14[((k - 48) - 24) - 12]?)) (cond (Nat.ble 6 ((k - 48) - 24)) (oq_13[((k - 48) - 24) - 6]?) (oq_12[(k - 48) - 24]?))) (cond (Nat.ble 12 (k - 48)) (cond (Nat.ble 6 ((k - 48) - 12)) (oq_11[((k - 48) - 12) - 6]?) (oq_10[(k - 48) - 12]?)) (cond (Nat.ble 6 (k - 48)) (oq_9[(k - 48) - 6]?) (oq_8[k - 48]?)))) (cond (Nat.ble 24 k) (cond (Nat.ble 12 (k - 24)) (cond (Nat.ble 6 ((k - 24) - 12)) (oq_7[((k - 24) - 12) - 6]?) (oq_6[(k - 24) - 12]?)) (cond (Nat.ble 6 (k - 24)) (oq_5[(k - 24) - 6]?) (oq_4[k - 24]?))) (cond (Nat.ble 12 k) (cond (Nat.ble 6 (k - 12)) (oq_3[(k - 12) - 6]?) (oq_2[k - 12]?)) (cond (Nat.ble 6 k) (oq_1[k - 6]?) (oq_0[k]?))))
theorem cq_opF_eq (k : Nat) : cq_opF k = cq_ops[k]? := by
  have e : cq_ops = (((oq_0 ++ oq_1) ++ (oq_2 ++ oq_3)) ++ ((oq_4 ++ oq_5) ++ (oq_6 ++ oq_7))) ++ (((oq_8 ++ oq_9) ++ (oq_10 ++ oq_11)) ++ ((oq_12 ++ oq_13) ++ (oq_14 ++ oq_15))) := rfl
  rw [e]
  unfold cq_opF
  exact aq_at rfl (aq_at rfl (aq_at rfl (aq_at rfl rfl rfl) (aq_at rfl rfl rfl)) (aq_at rfl (aq_at rfl rfl rfl) (aq_at rfl rfl rfl))) (aq_at rfl (aq_at rfl (aq_at rfl rfl rfl) (aq_at rfl rfl rfl)) (aq_at rfl (aq_at rfl rfl rfl) (aq_at rfl rfl rfl)))
theorem cq_opF_no {k : Nat} (h : 200 ≤ k) : cq_opF k = none := by
  rw [cq_opF_eq]
  exact List.getElem?_eq_none (Nat.le_trans (show cq_ops.length ≤ 200 by decide) h)
/-- a place, made a number first -/
noncomputable def fz (a : Nat) (f : Nat → Prop) : Prop := match a with
  | 0 => f 0
  | m + 1 => f (m + 1)
theorem fz_eq (a : Nat) (f : Nat → Prop) : fz a f = f a := by cases a <;> rfl
noncomputable def lb_ (ms : List ev_MI) (E : cm_E) (P : ev_P) (rows : List (Nat × ev_Row)) (stops : List (Nat × List Nat)) (J : cm_S → Prop) (Z : Nat → cm_S → Prop) : Nat → cm_S → Prop
  | 0, _ => False
  | n + 1, (pc, L, st, M) => fz pc (fun pc => match ev_at rows pc with
    | none => True
    | some r => (match cq_opF r.1 with
      | some x => x E P r.2 (pc, L, st, M) (cm_stop stops J (lb_ ms E P rows stops J Z n))
      | none => if 210 ≤ r.1 then Z r.1 (pc, L, st, M)
        else if 200 ≤ r.1 then cq_il ms r (pc, L, st, M) (cm_stop stops J (lb_ ms E P rows stops J Z n))
        else True))
section LIB
variable {ms : List ev_MI} {E : cm_E} {P : ev_P} {rows : List (Nat × ev_Row)} {stops : List (Nat × List Nat)} {J : cm_S → Prop} {Z Z1 Z2 : Nat → cm_S → Prop}
theorem lb_le (hZ : cm_ZL Z) : ∀ (n : Nat) (pc : Nat) (A B : List (Nat × Value)) (st : List Value) (M : cm_M), cm_le A B → lb_ ms E P rows stops J Z n (pc, A, st, M) → lb_ ms E P rows stops J Z n (pc, B, st, M)
  | 0, pc, A, B, st, M, hL, h => h
  | n + 1, pc, A, B, st, M, hL, h => by
    have hst : ∀ (pc : Nat) (A B : List (Nat × Value)) (st : List Value) (M : cm_M), cm_le A B → cm_stop stops J (lb_ ms E P rows stops J Z n) (pc, A, st, M) → cm_stop stops J (lb_ ms E P rows stops J Z n) (pc, B, st, M) := by
      intro pc A B st M hL h
      unfold cm_stop at h ⊢
      dsimp only at h ⊢
      split at h
      · exact lb_le hZ n pc A B st M hL h
      · split at h
        · rename_i L1 hp
          rw [cm_pick_le hL hp]
          exact h
        · exact h.elim
    unfold lb_ at h ⊢
    rw [fz_eq] at h ⊢
    split at h
    · trivial
    · split at h
      · rename_i x hx
        exact cp_ops x (List.mem_of_getElem? ((cq_opF_eq _).symm.trans hx)) _ _ _ _ _ _ _ _ _ _ hL hst h
      · split at h
        · rename_i h1
          rw [if_pos h1]
          exact hZ _ _ _ _ _ _ h
        · rename_i h1
          rw [if_neg h1]
          split at h
          · rename_i h2
            rw [if_pos h2]
            unfold cq_il at h ⊢
            dsimp only at h ⊢
            split at h
            · obtain ⟨R, hR, hk⟩ := h
              exact ⟨R, hR, fun v M' q => hst _ _ _ _ _ hL (hk v M' q)⟩
            · trivial
          · rename_i h2
            rw [if_neg h2]
            trivial
theorem lb_lib {d N : Nat} (hZ : cm_ZL Z2) (hinv : ∀ S, J S → lb_ ms E P rows stops J Z2 N S) {S : cm_S} (h : cm_lf ms (cm_Call ms d) E P rows Z1 S) : ∀ m, lb_ ms E P rows stops J Z2 m S → cm_lf ms (cm_Call ms d) E P rows (fun op S => Z1 op S ∧ Z2 op S) S := by
  refine h (fun S => ∀ m, lb_ ms E P rows stops J Z2 m S → cm_lf ms (cm_Call ms d) E P rows (fun op S => Z1 op S ∧ Z2 op S) S) ?_
  intro S hS m hw
  obtain ⟨pc0, L0, st0, M0⟩ := S
  cases m with
  | zero => exact hw.elim
  | succ m =>
    have hst : ∀ S, cm_stop stops J (lb_ ms E P rows stops J Z2 m) S → (∀ m, lb_ ms E P rows stops J Z2 m S → cm_lf ms (cm_Call ms d) E P rows (fun op S => Z1 op S ∧ Z2 op S) S) → cm_lf ms (cm_Call ms d) E P rows (fun op S => Z1 op S ∧ Z2 op S) S := by
      intro S hs hX
      unfold cm_stop at hs
      split at hs
      · exact hX m hs
      · split at hs
        · rename_i L1 hp
          obtain ⟨pc, L, st, M⟩ := S
          exact hX N (lb_le hZ N _ _ _ _ _ (cm_le_of (cm_pick_look hp)) (hinv _ hs))
        · exact hs.elim
    refine cm_lf_F (cm_Call_M ms d d (Nat.le_refl _)) ?_
    unfold cm_F at hS ⊢
    unfold lb_ at hw
    rw [fz_eq] at hw
    dsimp only at hS ⊢
    split at hS
    · exact hS
    · rename_i r hr
      rw [hr] at hw
      dsimp only at hw
      split at hS
      · rename_i h1
        rw [cq_opF_no (show 200 ≤ r.1 by omega)] at hw
        dsimp only at hw
        rw [if_pos h1] at hw ⊢
        exact ⟨hS, hw⟩
      · rename_i h1
        rw [if_neg h1]
        split at hS
        · rename_i h2
          rw [cq_opF_no h2] at hw
          dsimp only at hw
          rw [if_neg h1, if_pos h2] at hw
          rw [if_pos h2]
          unfold cm_inv at hS ⊢
          unfold cq_il at hw
          split at hS
          · split at hS
            · rename_i as rest hta
              rw [hta] at hw
              obtain ⟨R, hR, hk⟩ := hw
              exact ⟨hS.1, hS.2.1, hS.2.2.1, cm_Call_up (hR d _ hS.2.2.2) (Nat.le_refl _) (fun v M' q => hst _ (by
                have z := hk v M' q.2
                rw [adL_eq] at z
                exact z) q.1)⟩
            · exact hS
          · exact hS
        · rename_i h2
          rw [if_neg h2]
          split at hS
          · rename_i o ho
            obtain ⟨x, hx, hcj⟩ := cj_ops _ o ho
            rw [cq_opF_eq, hx] at hw
            dsimp only at hw
            exact cm_ops_im o (List.mem_of_getElem? ho) _ _ _ _ _ _ (hcj _ _ _ _ _ _ hS hw) (fun S q => hst S q.2 q.1)
          · exact hS
end LIB
/-- of every answer of a method, by invariants at stops -/
theorem lb_of {ms : List ev_MI} {k : Nat} {mi : ev_MI} (hk : ms[k]? = some mi) {as : List Value} {M : cm_M} {R : cm_K} (stops : List (Nat × List Nat)) (J : cm_S → Prop) (N : Nat) (hinv : ∀ S, J S → lb_ ms none (cm_P mi) mi.2.2.2.2.2.2 stops J (cm_rl R) N S) (N0 : Nat) (h0 : lb_ ms none (cm_P mi) mi.2.2.2.2.2.2 stops J (cm_rl R) N0 (0, cm_args 0 as, [], M)) : cm_Lc ms k as M R := by
  intro d Post hc
  cases d with
  | zero => exact hc.elim
  | succ d =>
    obtain ⟨mi', h1, h2, h3⟩ := hc
    rw [hk] at h1
    cases h1
    exact ⟨mi, hk, h2, cm_lf_im (cm_Call_M ms d d (Nat.le_refl _)) (cm_Call_M ms d d (Nat.le_refl _)) (fun _ _ q => cm_rl_ret q.1 q.2) (lb_lib cm_rl_L hinv h3 N0 h0)⟩
/-- .. of a method without loops -/
theorem lb_st0 {ms : List ev_MI} {k : Nat} {mi : ev_MI} (hk : ms[k]? = some mi) {as : List Value} {M : cm_M} {R : cm_K} (N0 : Nat) (h0 : lb_ ms none (cm_P mi) mi.2.2.2.2.2.2 [] (fun _ => False) (cm_rl R) N0 (0, cm_args 0 as, [], M)) : cm_Lc ms k as M R := lb_of hk [] (fun _ => False) 0 (fun S h => h.elim) N0 h0
/-- numbers -/
theorem fn_toInt {a : Nat} (h : a < 2147483648) : (Int32.ofNat a).toInt = (a : Int) := by rw [Int32.toInt_ofNat_of_lt (by omega)]
theorem fn_nat {a : Nat} (h : a < 2147483648) : (Int32.ofNat a).toNatClampNeg = a := by
  show (Int32.ofNat a).toInt.toNat = a
  rw [fn_toInt h]
  try rfl
theorem fn_succ (a : Nat) : Int32.ofNat a + 1 = Int32.ofNat (a + 1) := by rw [Int32.ofNat_add]; try rfl
noncomputable def ch_l (x : Int32) : Bool := decide (97 ≤ x.toInt) && decide (x.toInt ≤ 122)
noncomputable def ch_d (x : Int32) : Bool := decide (48 ≤ x.toInt) && decide (x.toInt ≤ 57)
noncomputable def bi (b : Bool) : Int32 := if b = true then 1 else 0
/-- the reader's text is the tape -/
noncomputable def rd_f (M : cm_M) : cm_M := cm_wr M 2 0 (some 1)
theorem fn_lt {x y : Int32} (h : ev_cmp 2 x y = true) : x.toInt < y.toInt := Int32.lt_iff_toInt_lt.mp (of_decide_eq_true h)
theorem fn_nlt {x y : Int32} (h : ev_cmp 2 x y = false) : y.toInt ≤ x.toInt := by
  have h1 : ¬ x < y := of_decide_eq_false h
  rw [Int32.lt_iff_toInt_lt] at h1
  omega
theorem fn_gt {x y : Int32} (h : ev_cmp 4 x y = true) : y.toInt < x.toInt := Int32.lt_iff_toInt_lt.mp (of_decide_eq_true h : x > y)
theorem fn_ngt {x y : Int32} (h : ev_cmp 4 x y = false) : x.toInt ≤ y.toInt := by
  have h1 : ¬ x > y := of_decide_eq_false h
  have h2 : ¬ y.toInt < x.toInt := fun hc => h1 (Int32.lt_iff_toInt_lt.mpr hc)
  omega
theorem fn_isLetter (x : Int32) (M : cm_M) : cm_Lc cm_ms 91 [.int x] M (fun v M' => M' = M ∧ v = some (.int (bi (ch_l x)))) := by
  refine lb_st0 (mi := mr_91) rfl 20 ?_
  show (ev_cmp 2 x 97 = true → _) ∧ (ev_cmp 2 x 97 = false → (ev_cmp 4 x 122 = true → _) ∧ (ev_cmp 4 x 122 = false → _))
  have e97 : (97 : Int32).toInt = 97 := by decide
  have e122 : (122 : Int32).toInt = 122 := by decide
  refine ⟨fun h => ?_, fun h => ⟨fun h2 => ?_, fun h2 => ?_⟩⟩
  · have h1 := fn_lt h
    refine ⟨rfl, ?_⟩
    have : ch_l x = false := by unfold ch_l; rw [Bool.and_eq_false_iff]; left; exact decide_eq_false (by omega)
    rw [this]
    try rfl
  · have h1 := fn_gt h2
    refine ⟨rfl, ?_⟩
    have : ch_l x = false := by unfold ch_l; rw [Bool.and_eq_false_iff]; right; exact decide_eq_false (by omega)
    rw [this]
    try rfl
  · have h1 := fn_nlt h
    have h3 := fn_ngt h2
    refine ⟨rfl, ?_⟩
    have : ch_l x = true := by unfold ch_l; rw [Bool.and_eq_true]; exact ⟨decide_eq_true (by omega), decide_eq_true (by omega)⟩
    rw [this]
    try rfl
theorem fn_pack (w : Int64) (x : Int32) (M : cm_M) : cm_Lc cm_ms 87 [.long w, .int x] M (fun v M' => M' = M ∧ v = some (.long (w * 32 + x.toInt64 - 97 + 1))) := by
  refine lb_st0 (mi := mr_87) rfl 20 ?_
  exact ⟨rfl, rfl⟩
theorem fn_isDigit (x : Int32) (M : cm_M) : cm_Lc cm_ms 92 [.int x] M (fun v M' => M' = M ∧ v = some (.int (bi (ch_d x)))) := by
  refine lb_st0 (mi := mr_92) rfl 20 ?_
  show (ev_cmp 2 x 48 = true → _) ∧ (ev_cmp 2 x 48 = false → (ev_cmp 4 x 57 = true → _) ∧ (ev_cmp 4 x 57 = false → _))
  have e97 : (48 : Int32).toInt = 48 := by decide
  have e122 : (57 : Int32).toInt = 57 := by decide
  refine ⟨fun h => ?_, fun h => ⟨fun h2 => ?_, fun h2 => ?_⟩⟩
  · have h1 := fn_lt h
    refine ⟨rfl, ?_⟩
    have : ch_d x = false := by unfold ch_d; rw [Bool.and_eq_false_iff]; left; exact decide_eq_false (by omega)
    rw [this]
    try rfl
  · have h1 := fn_gt h2
    refine ⟨rfl, ?_⟩
    have : ch_d x = false := by unfold ch_d; rw [Bool.and_eq_false_iff]; right; exact decide_eq_false (by omega)
    rw [this]
    try rfl
  · have h1 := fn_nlt h
    have h3 := fn_ngt h2
    refine ⟨rfl, ?_⟩
    have : ch_d x = true := by unfold ch_d; rw [Bool.and_eq_true]; exact ⟨decide_eq_true (by omega), decide_eq_true (by omega)⟩
    rw [this]
    try rfl
theorem wi_wi (M : cm_M) (c i : Nat) (x y : Int32) : cm_wi (cm_wi M c i x) c i y = cm_wi M c i y := by
  unfold cm_wi
  refine Prod.ext (funext fun a => funext fun b => ?_) rfl
  dsimp only
  by_cases h : a = c ∧ b = i
  · rw [if_pos h, if_pos h]
  · rw [if_neg h, if_neg h, if_neg h]
theorem wl_wl (M : cm_M) (c i : Nat) (x y : Int64) : cm_wl (cm_wl M c i x) c i y = cm_wl M c i y := by
  unfold cm_wl
  refine Prod.ext rfl (Prod.ext (funext fun a => funext fun b => ?_) rfl)
  dsimp only
  by_cases h : a = c ∧ b = i
  · rw [if_pos h, if_pos h]
  · rw [if_neg h, if_neg h, if_neg h]
theorem wi_id {M : cm_M} {c i : Nat} {x : Int32} (h : M.1 c i = x) : cm_wi M c i x = M := by
  unfold cm_wi
  refine Prod.ext (funext fun a => funext fun b => ?_) rfl
  dsimp only
  by_cases hc : a = c ∧ b = i
  · rw [if_pos hc, hc.1, hc.2, h]
  · rw [if_neg hc]
theorem wl_id {M : cm_M} {c i : Nat} {x : Int64} (h : M.2.1 c i = x) : cm_wl M c i x = M := by
  unfold cm_wl
  refine Prod.ext rfl (Prod.ext (funext fun a => funext fun b => ?_) rfl)
  dsimp only
  by_cases hc : a = c ∧ b = i
  · rw [if_pos hc, hc.1, hc.2, h]
  · rw [if_neg hc]
theorem wr_id {M : cm_M} {c i : Nat} {x : Option Nat} (h : M.2.2 c i = x) : cm_wr M c i x = M := by
  unfold cm_wr
  refine Prod.ext rfl (Prod.ext rfl (funext fun a => funext fun b => ?_))
  dsimp only
  by_cases hc : a = c ∧ b = i
  · rw [if_pos hc, hc.1, hc.2, h]
  · rw [if_neg hc]
theorem rd_f_eq {M : cm_M} (h : M.2.2 2 0 = some 1) : rd_f M = M := wr_id h
/-- where a run of such signs ends -/
noncomputable def tk_e (p : Int32 → Bool) (T : Nat → Int32) (N k e : Nat) : Prop := k ≤ e ∧ e ≤ N ∧ (∀ j, k ≤ j → j < e → p (T j) = true) ∧ (e < N → p (T e) = false)
theorem tk_e_uni {p : Int32 → Bool} {T : Nat → Int32} {N k e e' : Nat} (h : tk_e p T N k e) (h' : tk_e p T N k e') : e = e' := by
  obtain ⟨a1, a2, a3, a4⟩ := h
  obtain ⟨b1, b2, b3, b4⟩ := h'
  rcases Nat.lt_trichotomy e e' with hl | hl | hl
  · have h1 := b3 e a1 hl
    rw [a4 (by omega)] at h1
    cases h1
  · exact hl
  · have h1 := a3 e' b1 hl
    rw [b4 (by omega)] at h1
    cases h1
/-- a word's number, a whole number -/
noncomputable def tk_w (T : Nat → Int32) (s : Nat) : Nat → Int64
  | 0 => 0
  | c + 1 => tk_w T s c * 32 + (T (s + c)).toInt64 - 97 + 1
noncomputable def tk_v (T : Nat → Int32) (s : Nat) : Nat → Int32
  | 0 => 0
  | c + 1 => tk_v T s c * 10 + T (s + c) - 48
theorem tk_w_succ (T : Nat → Int32) (s c : Nat) : tk_w T s (c + 1) = tk_w T s c * 32 + (T (s + c)).toInt64 - 97 + 1 := rfl
theorem tk_v_succ (T : Nat → Int32) (s c : Nat) : tk_v T s (c + 1) = tk_v T s c * 10 + T (s + c) - 48 := rfl
theorem bi_0 {b : Bool} (h : ev_cmp 0 (bi b) 0 = true) : b = false := by
  cases b with
  | false => rfl
  | true => exact absurd h (by decide)
theorem bi_1 {b : Bool} (h : ev_cmp 0 (bi b) 0 = false) : b = true := by
  cases b with
  | true => rfl
  | false => exact absurd h (by decide)
theorem fn_ge {x y : Int32} (h : ev_cmp 3 x y = true) : y.toInt ≤ x.toInt := Int32.le_iff_toInt_le.mp (of_decide_eq_true h : x ≥ y)
theorem fn_nge {x y : Int32} (h : ev_cmp 3 x y = false) : x.toInt < y.toInt := by
  have h1 : ¬ x ≥ y := of_decide_eq_false h
  have h2 : ¬ y.toInt ≤ x.toInt := fun hc => h1 (Int32.le_iff_toInt_le.mpr hc)
  omega
/-- the memory of the letters' loop -/
noncomputable def rl_m (M : cm_M) (s nx : Nat) : cm_M := rd_f (cm_wi (cm_wl M 2 6 (tk_w (M.1 1) s (nx - s))) 2 2 (Int32.ofNat nx))
noncomputable def rl_J (M : cm_M) (N s : Nat) (S : cm_S) : Prop := ∃ nx, s ≤ nx ∧ nx ≤ N ∧ (∀ j, s ≤ j → j < nx → ch_l (M.1 1 j) = true) ∧ S = (0, [(0, .ref 2)], [], rl_m M s nx)
noncomputable abbrev rl_R (M : cm_M) (N s : Nat) : cm_K := fun v M' => v = none ∧ ∃ e, tk_e ch_l (M.1 1) N s e ∧ M' = cm_wi (cm_wi (cm_wl M 2 6 (tk_w (M.1 1) s (e - s))) 2 2 (Int32.ofNat e)) 2 3 (if e - s ≤ 8 then 1 else 4)
theorem fn_readLetters {M : cm_M} {N s : Nat} (hT : M.2.2 2 0 = some 1) (hN : M.1 2 1 = Int32.ofNat N) (hN9 : N ≤ 900) (hs : M.1 2 4 = Int32.ofNat s) (hs2 : M.1 2 2 = Int32.ofNat s) (hsN : s ≤ N) (hw : M.2.1 2 6 = 0) : cm_Lc cm_ms 89 [.ref 2] M (rl_R M N s) := by
  have hinv : ∀ S, rl_J M N s S → lb_ cm_ms none (cm_P mr_89) mr_89.2.2.2.2.2.2 [(0, [0])] (rl_J M N s) (cm_rl (rl_R M N s)) 40 S := by
    intro S hS
    obtain ⟨nx, n1, n2, n3, rfl⟩ := hS
    have hend : tk_e ch_l (M.1 1) N s nx → (ev_cmp 4 (Int32.ofNat nx - M.1 2 4) 8 = true → rl_R M N s none (cm_wi (rl_m M s nx) 2 3 4)) ∧ (ev_cmp 4 (Int32.ofNat nx - M.1 2 4) 8 = false → rl_R M N s none (cm_wi (rl_m M s nx) 2 3 1)) := by
      intro he
      have hd : (Int32.ofNat nx - M.1 2 4).toInt = (nx : Int) - (s : Int) := by
        rw [hs, Int32.toInt_sub, fn_toInt (by omega), fn_toInt (by omega), ev_bm (by omega) (by omega)]
      have h8 : (8 : Int32).toInt = 8 := by decide
      have hf : rl_m M s nx = cm_wi (cm_wl M 2 6 (tk_w (M.1 1) s (nx - s))) 2 2 (Int32.ofNat nx) := rd_f_eq hT
      refine ⟨fun h => ⟨rfl, nx, he, ?_⟩, fun h => ⟨rfl, nx, he, ?_⟩⟩
      · have h1 := fn_gt h
        rw [if_neg (by omega), hf]
      · have h1 := fn_ngt h
        rw [if_pos (by omega), hf]
    show (ev_cmp 3 (Int32.ofNat nx) (M.1 2 1) = true → (ev_cmp 4 (Int32.ofNat nx - M.1 2 4) 8 = true → _) ∧ (ev_cmp 4 (Int32.ofNat nx - M.1 2 4) 8 = false → _)) ∧ (ev_cmp 3 (Int32.ofNat nx) (M.1 2 1) = false → ∃ R, cm_Lc cm_ms 91 [.int (M.1 1 (Int32.ofNat nx).toNatClampNeg)] (rl_m M s nx) R ∧ ∀ v M', R v M' → _)
    have hc : M.1 1 (Int32.ofNat nx).toNatClampNeg = M.1 1 nx := by rw [fn_nat (show nx < 2147483648 by omega)]
    refine ⟨fun h => ?_, fun h => ⟨_, fn_isLetter _ _, ?_⟩⟩
    · have h1 := fn_ge h
      rw [hN, fn_toInt (by omega), fn_toInt (by omega)] at h1
      exact hend ⟨n1, n2, n3, fun h9 => by omega⟩
    · have h1 := fn_nge h
      rw [hN, fn_toInt (by omega), fn_toInt (by omega)] at h1
      rintro v M' ⟨rfl, rfl⟩
      show (ev_cmp 0 (bi (ch_l (M.1 1 (Int32.ofNat nx).toNatClampNeg))) 0 = true → (ev_cmp 4 (Int32.ofNat nx - M.1 2 4) 8 = true → _) ∧ (ev_cmp 4 (Int32.ofNat nx - M.1 2 4) 8 = false → _)) ∧ (ev_cmp 0 (bi (ch_l (M.1 1 (Int32.ofNat nx).toNatClampNeg))) 0 = false → ∃ R, cm_Lc cm_ms 87 [.long (tk_w (M.1 1) s (nx - s)), .int (M.1 1 (Int32.ofNat nx).toNatClampNeg)] (rl_m M s nx) R ∧ ∀ v M', R v M' → _)
      refine ⟨fun h2 => hend ⟨n1, n2, n3, fun _ => by rw [hc] at h2; exact bi_0 h2⟩, fun h2 => ⟨_, fn_pack _ _ _, ?_⟩⟩
      rintro v M' ⟨rfl, rfl⟩
      show rl_J M N s (0, [(0, .ref 2)], [], cm_wi (cm_wl (rl_m M s nx) 2 6 (tk_w (M.1 1) s (nx - s) * 32 + (M.1 1 (Int32.ofNat nx).toNatClampNeg).toInt64 - 97 + 1)) 2 2 (Int32.ofNat nx + 1))
      rw [hc] at h2 ⊢
      refine ⟨nx + 1, by omega, by omega, fun j j1 j2 => ?_, ?_⟩
      · rcases Nat.lt_or_ge j nx with hj | hj
        · exact n3 j j1 hj
        · have : j = nx := by omega
          rw [this]
          exact bi_1 h2
      · congr 3
        have e1 : nx + 1 - s = (nx - s) + 1 := by omega
        have e2 : s + (nx - s) = nx := by omega
        unfold rl_m
        rw [e1, tk_w_succ, e2, fn_succ]
        show rd_f (cm_wi (cm_wl (cm_wi (cm_wl M 2 6 _) 2 2 _) 2 6 _) 2 2 _) = _
        show rd_f (cm_wi (cm_wi (cm_wl (cm_wl M 2 6 _) 2 6 _) 2 2 _) 2 2 _) = _
        rw [wi_wi, wl_wl]
  refine lb_of (mi := mr_89) rfl [(0, [0])] (rl_J M N s) 40 hinv 40 (hinv _ ⟨s, Nat.le_refl _, hsN, fun j h1 h2 => by omega, ?_⟩)
  show ((0, [(0, .ref 2)], [], M) : cm_S) = _
  congr 3
  unfold rl_m
  rw [Nat.sub_self]
  show M = rd_f (cm_wi (cm_wl M 2 6 0) 2 2 (Int32.ofNat s))
  rw [wl_id hw, wi_id hs2, rd_f_eq hT]
theorem wi_comm (M : cm_M) {c i c' i' : Nat} (x y : Int32) (h : ¬ (c = c' ∧ i = i')) : cm_wi (cm_wi M c i x) c' i' y = cm_wi (cm_wi M c' i' y) c i x := by
  unfold cm_wi
  refine Prod.ext (funext fun a => funext fun b => ?_) rfl
  dsimp only
  by_cases h1 : a = c ∧ b = i
  · by_cases h2 : a = c' ∧ b = i'
    · exact absurd ⟨h1.1.symm.trans h2.1, h1.2.symm.trans h2.2⟩ h
    · rw [if_neg h2, if_pos h1, if_pos h1]
  · by_cases h2 : a = c' ∧ b = i'
    · rw [if_pos h2, if_neg h1, if_pos h2]
    · rw [if_neg h2, if_neg h1, if_neg h1, if_neg h2]
noncomputable def rg_m (M : cm_M) (s nx : Nat) : cm_M := rd_f (cm_wi (cm_wi M 2 5 (tk_v (M.1 1) s (nx - s))) 2 2 (Int32.ofNat nx))
noncomputable def rg_J (M : cm_M) (N s : Nat) (S : cm_S) : Prop := ∃ nx, s ≤ nx ∧ nx ≤ N ∧ (∀ j, s ≤ j → j < nx → ch_d (M.1 1 j) = true) ∧ S = (0, [(0, .ref 2)], [], rg_m M s nx)
noncomputable abbrev rg_R (M : cm_M) (N s : Nat) : cm_K := fun v M' => v = none ∧ ∃ e, tk_e ch_d (M.1 1) N s e ∧ M' = cm_wi (cm_wi (cm_wi M 2 5 (tk_v (M.1 1) s (e - s))) 2 2 (Int32.ofNat e)) 2 3 (if e - s ≤ 3 then 2 else 4)
set_option maxRecDepth 100000 in
theorem fn_readDigits {M : cm_M} {N s : Nat} (hT : M.2.2 2 0 = some 1) (hN : M.1 2 1 = Int32.ofNat N) (hN9 : N ≤ 900) (hs : M.1 2 4 = Int32.ofNat s) (hs2 : M.1 2 2 = Int32.ofNat s) (hsN : s ≤ N) (hw : M.1 2 5 = 0) : cm_Lc cm_ms 90 [.ref 2] M (rg_R M N s) := by
  have hinv : ∀ S, rg_J M N s S → lb_ cm_ms none (cm_P mr_90) mr_90.2.2.2.2.2.2 [(0, [0])] (rg_J M N s) (cm_rl (rg_R M N s)) 40 S := by
    intro S hS
    obtain ⟨nx, n1, n2, n3, rfl⟩ := hS
    have hend : tk_e ch_d (M.1 1) N s nx → (ev_cmp 4 (Int32.ofNat nx - M.1 2 4) 3 = true → rg_R M N s none (cm_wi (rg_m M s nx) 2 3 4)) ∧ (ev_cmp 4 (Int32.ofNat nx - M.1 2 4) 3 = false → rg_R M N s none (cm_wi (rg_m M s nx) 2 3 2)) := by
      intro he
      have hd : (Int32.ofNat nx - M.1 2 4).toInt = (nx : Int) - (s : Int) := by
        rw [hs, Int32.toInt_sub, fn_toInt (by omega), fn_toInt (by omega), ev_bm (by omega) (by omega)]
      have h8 : (3 : Int32).toInt = 3 := by decide
      have hf : rg_m M s nx = cm_wi (cm_wi M 2 5 (tk_v (M.1 1) s (nx - s))) 2 2 (Int32.ofNat nx) := rd_f_eq hT
      refine ⟨fun h => ⟨rfl, nx, he, ?_⟩, fun h => ⟨rfl, nx, he, ?_⟩⟩
      · have h1 := fn_gt h
        rw [if_neg (by omega), hf]
      · have h1 := fn_ngt h
        rw [if_pos (by omega), hf]
    show (ev_cmp 3 (Int32.ofNat nx) (M.1 2 1) = true → (ev_cmp 4 (Int32.ofNat nx - M.1 2 4) 3 = true → _) ∧ (ev_cmp 4 (Int32.ofNat nx - M.1 2 4) 3 = false → _)) ∧ (ev_cmp 3 (Int32.ofNat nx) (M.1 2 1) = false → ∃ R, cm_Lc cm_ms 92 [.int (M.1 1 (Int32.ofNat nx).toNatClampNeg)] (rg_m M s nx) R ∧ ∀ v M', R v M' → _)
    have hc : M.1 1 (Int32.ofNat nx).toNatClampNeg = M.1 1 nx := by rw [fn_nat (show nx < 2147483648 by omega)]
    refine ⟨fun h => ?_, fun h => ⟨_, fn_isDigit _ _, ?_⟩⟩
    · have h1 := fn_ge h
      rw [hN, fn_toInt (by omega), fn_toInt (by omega)] at h1
      exact hend ⟨n1, n2, n3, fun h9 => by omega⟩
    · have h1 := fn_nge h
      rw [hN, fn_toInt (by omega), fn_toInt (by omega)] at h1
      rintro v M' ⟨rfl, rfl⟩
      show (ev_cmp 0 (bi (ch_d (M.1 1 (Int32.ofNat nx).toNatClampNeg))) 0 = true → (ev_cmp 4 (Int32.ofNat nx - M.1 2 4) 3 = true → _) ∧ (ev_cmp 4 (Int32.ofNat nx - M.1 2 4) 3 = false → _)) ∧ (ev_cmp 0 (bi (ch_d (M.1 1 (Int32.ofNat nx).toNatClampNeg))) 0 = false → rg_J M N s (0, [(0, .ref 2)], [], cm_wi (cm_wi (rg_m M s nx) 2 5 (tk_v (M.1 1) s (nx - s) * 10 + M.1 1 (Int32.ofNat nx).toNatClampNeg - 48)) 2 2 (Int32.ofNat nx + 1)))
      refine ⟨fun h2 => hend ⟨n1, n2, n3, fun _ => by rw [hc] at h2; exact bi_0 h2⟩, fun h2 => ?_⟩
      rw [hc] at h2 ⊢
      refine ⟨nx + 1, by omega, by omega, fun j j1 j2 => ?_, ?_⟩
      · rcases Nat.lt_or_ge j nx with hj | hj
        · exact n3 j j1 hj
        · have : j = nx := by omega
          rw [this]
          exact bi_1 h2
      · congr 3
        have e1 : nx + 1 - s = (nx - s) + 1 := by omega
        have e2 : s + (nx - s) = nx := by omega
        unfold rg_m
        rw [e1, tk_v_succ, e2, fn_succ]
        show rd_f (cm_wi (cm_wi (cm_wi (cm_wi M 2 5 _) 2 2 _) 2 5 _) 2 2 _) = _
        rw [wi_comm (cm_wi M 2 5 _) (c := 2) (i := 2) (c' := 2) (i' := 5) _ _ (by decide), wi_wi, wi_wi]
  refine lb_of (mi := mr_90) rfl [(0, [0])] (rg_J M N s) 40 hinv 40 (hinv _ ⟨s, Nat.le_refl _, hsN, fun j h1 h2 => by omega, ?_⟩)
  show ((0, [(0, .ref 2)], [], M) : cm_S) = _
  congr 3
  unfold rg_m
  rw [Nat.sub_self]
  show M = rd_f (cm_wi (cm_wi M 2 5 0) 2 2 (Int32.ofNat s))
  rw [wi_id hw, wi_id hs2, rd_f_eq hT]
noncomputable def ch_s (x : Int32) : Bool := decide (x = 32)
/-- a token: where it begins and ends, its kind, its number, its word -/
noncomputable def tk_k (T : Nat → Int32) (N s e : Nat) (kd va : Int32) (wd : Int64) : Prop :=
  (s = N ∧ e = s ∧ kd = 0 ∧ va = 0 ∧ wd = 0) ∨
  (s < N ∧ ch_l (T s) = true ∧ tk_e ch_l T N s e ∧ kd = (if e - s ≤ 8 then 1 else 4) ∧ va = 0 ∧ wd = tk_w T s (e - s)) ∨
  (s < N ∧ ch_l (T s) = false ∧ ch_d (T s) = true ∧ tk_e ch_d T N s e ∧ kd = (if e - s ≤ 3 then 2 else 4) ∧ va = tk_v T s (e - s) ∧ wd = 0) ∨
  (s < N ∧ ch_l (T s) = false ∧ ch_d (T s) = false ∧ e = s + 1 ∧ kd = (if T s = 59 then 3 else 4) ∧ va = 0 ∧ wd = 0)
/-- the reader's memory at a token -/
noncomputable def tk_m (M : cm_M) (s e : Nat) (kd va : Int32) (wd : Int64) : cm_M := cm_wl (cm_wi (cm_wi (cm_wi (cm_wi M 2 4 (Int32.ofNat s)) 2 5 va) 2 2 (Int32.ofNat e)) 2 3 kd) 2 6 wd
noncomputable abbrev so_R (M : cm_M) (N k : Nat) : cm_K := fun v M' => v = none ∧ (M.1 2 9 ≠ 0 → M' = M) ∧ (M.1 2 9 = 0 → ∃ s e kd va wd, tk_e ch_s (M.1 1) N k s ∧ tk_k (M.1 1) N s e kd va wd ∧ M' = tk_m M s e kd va wd)
noncomputable def so_m (M : cm_M) (nx : Nat) : cm_M := rd_f (cm_wi M 2 2 (Int32.ofNat nx))
noncomputable def so_J (M : cm_M) (N k : Nat) (S : cm_S) : Prop := M.1 2 9 = 0 ∧ ∃ nx, (k ≤ nx ∧ nx ≤ N ∧ (∀ j, k ≤ j → j < nx → ch_s (M.1 1 j) = true) ∧ S = (8, [(0, .ref 2)], [], so_m M nx)) ∨ (tk_e ch_s (M.1 1) N k nx ∧ S = (46, [(0, .ref 2)], [], so_m M nx))
theorem so_mv (M : cm_M) (a x y b : Int32) : cm_wi (cm_wi (cm_wi (cm_wi M 2 2 a) 2 4 x) 2 5 y) 2 2 b = cm_wi (cm_wi (cm_wi M 2 4 x) 2 5 y) 2 2 b := by
  rw [wi_comm M (c := 2) (i := 2) (c' := 2) (i' := 4) _ _ (by decide), wi_comm (cm_wi M 2 4 x) (c := 2) (i := 2) (c' := 2) (i' := 5) _ _ (by decide), wi_wi]
theorem so_mv2 (M : cm_M) (a x y : Int32) : cm_wi (cm_wi (cm_wi M 2 2 a) 2 4 x) 2 5 y = cm_wi (cm_wi (cm_wi M 2 4 x) 2 5 y) 2 2 a := by
  rw [wi_comm M (c := 2) (i := 2) (c' := 2) (i' := 4) _ _ (by decide), wi_comm (cm_wi M 2 4 x) (c := 2) (i := 2) (c' := 2) (i' := 5) _ _ (by decide)]
/-- the memory behind a token's first steps -/
noncomputable def so_b (M : cm_M) (s : Nat) : cm_M := cm_wl (cm_wi (cm_wi (so_m M s) 2 4 (Int32.ofNat s)) 2 5 0) 2 6 0
theorem so_b_eq {M : cm_M} {s : Nat} (hT : M.2.2 2 0 = some 1) : so_b M s = cm_wl (cm_wi (cm_wi (cm_wi M 2 2 (Int32.ofNat s)) 2 4 (Int32.ofNat s)) 2 5 0) 2 6 0 := by
  unfold so_b so_m
  rw [rd_f_eq (show (cm_wi M 2 2 (Int32.ofNat s)).2.2 2 0 = some 1 from hT)]
theorem so_nE {M : cm_M} {s : Nat} (hT : M.2.2 2 0 = some 1) : cm_wi (so_b M s) 2 3 0 = tk_m M s s 0 0 0 := by
  rw [so_b_eq hT]
  unfold tk_m
  show cm_wl (cm_wi (cm_wi (cm_wi (cm_wi M 2 2 (Int32.ofNat s)) 2 4 (Int32.ofNat s)) 2 5 0) 2 3 0) 2 6 0 = _
  rw [so_mv2]
theorem so_nL {M : cm_M} {s e : Nat} {kd : Int32} {w : Int64} (hT : M.2.2 2 0 = some 1) : cm_wi (cm_wi (cm_wl (so_b M s) 2 6 w) 2 2 (Int32.ofNat e)) 2 3 kd = tk_m M s e kd 0 w := by
  rw [so_b_eq hT]
  unfold tk_m
  show cm_wl (cm_wl (cm_wi (cm_wi (cm_wi (cm_wi (cm_wi M 2 2 (Int32.ofNat s)) 2 4 (Int32.ofNat s)) 2 5 0) 2 2 (Int32.ofNat e)) 2 3 kd) 2 6 0) 2 6 w = _
  rw [wl_wl, so_mv]
theorem so_nD {M : cm_M} {s e : Nat} {kd v : Int32} (hT : M.2.2 2 0 = some 1) : cm_wi (cm_wi (cm_wi (so_b M s) 2 5 v) 2 2 (Int32.ofNat e)) 2 3 kd = tk_m M s e kd v 0 := by
  rw [so_b_eq hT]
  unfold tk_m
  show cm_wl (cm_wi (cm_wi (cm_wi (cm_wi (cm_wi (cm_wi M 2 2 (Int32.ofNat s)) 2 4 (Int32.ofNat s)) 2 5 0) 2 5 v) 2 2 (Int32.ofNat e)) 2 3 kd) 2 6 0 = _
  rw [wi_wi, so_mv]
theorem so_nO {M : cm_M} {s : Nat} {kd : Int32} (hT : M.2.2 2 0 = some 1) : cm_wi (cm_wi (so_b M s) 2 3 kd) 2 2 (Int32.ofNat s + 1) = tk_m M s (s + 1) kd 0 0 := by
  rw [so_b_eq hT, fn_succ]
  unfold tk_m
  show cm_wl (cm_wi (cm_wi (cm_wi (cm_wi (cm_wi M 2 2 (Int32.ofNat s)) 2 4 (Int32.ofNat s)) 2 5 0) 2 3 kd) 2 2 (Int32.ofNat (s + 1))) 2 6 0 = _
  rw [wi_comm (cm_wi (cm_wi (cm_wi M 2 2 (Int32.ofNat s)) 2 4 (Int32.ofNat s)) 2 5 0) (c := 2) (i := 3) (c' := 2) (i' := 2) _ _ (by decide), so_mv]
theorem fn_ne {x y : Int32} (h : ev_cmp 1 x y = true) : x ≠ y := fun e => by
  have h : (!decide (x = y)) = true := h
  rw [decide_eq_true e] at h
  cases h
theorem fn_eq {x y : Int32} (h : ev_cmp 1 x y = false) : x = y := by
  have h : (!decide (x = y)) = false := h
  by_cases e : x = y
  · exact e
  · rw [decide_eq_false e] at h
    cases h
noncomputable abbrev so_st : List (Nat × List Nat) := [(8, [0]), (46, [0])]
set_option maxRecDepth 100000 in
set_option maxHeartbeats 4000000 in
theorem so_46 {M : cm_M} {N k s : Nat} (hT : M.2.2 2 0 = some 1) (hN : M.1 2 1 = Int32.ofNat N) (hN9 : N ≤ 900) (hf : M.1 2 9 = 0) (hs : tk_e ch_s (M.1 1) N k s) : lb_ cm_ms none (cm_P mr_88) mr_88.2.2.2.2.2.2 so_st (so_J M N k) (cm_rl (so_R M N k)) 60 (46, [(0, .ref 2)], [], so_m M s) := by
  have fin : ∀ (e : Nat) (kd va : Int32) (wd : Int64) (M' : cm_M), tk_k (M.1 1) N s e kd va wd → M' = tk_m M s e kd va wd → so_R M N k none M' := fun e kd va wd M' h1 h2 => ⟨rfl, fun h => absurd hf h, fun _ => ⟨s, e, kd, va, wd, hs, h1, h2⟩⟩
  have hsN := hs.2.1
  have hc : M.1 1 (Int32.ofNat s).toNatClampNeg = M.1 1 s := by rw [fn_nat (show s < 2147483648 by omega)]
  show (ev_cmp 2 (Int32.ofNat s) (M.1 2 1) = true → ∃ R, cm_Lc cm_ms 91 [.int (M.1 1 (Int32.ofNat s).toNatClampNeg)] (so_b M s) R ∧ ∀ v M', R v M' → _) ∧ (ev_cmp 2 (Int32.ofNat s) (M.1 2 1) = false → _)
  refine ⟨fun h => ⟨_, fn_isLetter _ _, ?_⟩, fun h => ?_⟩
  · have h1 := fn_lt h
    rw [hN, fn_toInt (by omega), fn_toInt (by omega)] at h1
    rintro v M' ⟨rfl, rfl⟩
    show (ev_cmp 0 (bi (ch_l (M.1 1 (Int32.ofNat s).toNatClampNeg))) 0 = true → ∃ R, cm_Lc cm_ms 92 [.int (M.1 1 (Int32.ofNat s).toNatClampNeg)] (so_b M s) R ∧ ∀ v M', R v M' → _) ∧ (ev_cmp 0 (bi (ch_l (M.1 1 (Int32.ofNat s).toNatClampNeg))) 0 = false → ∃ R, cm_Lc cm_ms 89 [.ref 2] (so_b M s) R ∧ ∀ v M', R v M' → _)
    refine ⟨fun h2 => ⟨_, fn_isDigit _ _, ?_⟩, fun h2 => ⟨_, fn_readLetters (M := so_b M s) (N := N) (s := s) rfl hN hN9 rfl rfl hsN rfl, ?_⟩⟩
    · rw [hc] at h2
      have l0 := bi_0 h2
      rintro v M' ⟨rfl, rfl⟩
      show (ev_cmp 0 (bi (ch_d (M.1 1 (Int32.ofNat s).toNatClampNeg))) 0 = true → (ev_cmp 1 (M.1 1 (Int32.ofNat s).toNatClampNeg) 59 = true → _) ∧ (ev_cmp 1 (M.1 1 (Int32.ofNat s).toNatClampNeg) 59 = false → _)) ∧ (ev_cmp 0 (bi (ch_d (M.1 1 (Int32.ofNat s).toNatClampNeg))) 0 = false → ∃ R, cm_Lc cm_ms 90 [.ref 2] (so_b M s) R ∧ ∀ v M', R v M' → _)
      refine ⟨fun h3 => ⟨fun h4 => ?_, fun h4 => ?_⟩, fun h3 => ⟨_, fn_readDigits (M := so_b M s) (N := N) (s := s) rfl hN hN9 rfl rfl hsN rfl, ?_⟩⟩
      · rw [hc] at h3 h4
        show so_R M N k none (cm_wi (cm_wi (so_b M s) 2 3 4) 2 2 (Int32.ofNat s + 1))
        exact fin _ _ _ _ _ (Or.inr (Or.inr (Or.inr ⟨by omega, l0, bi_0 h3, rfl, (if_neg (fn_ne h4)).symm, rfl, rfl⟩))) (so_nO hT)
      · rw [hc] at h3 h4
        show so_R M N k none (cm_wi (cm_wi (so_b M s) 2 3 3) 2 2 (Int32.ofNat s + 1))
        exact fin _ _ _ _ _ (Or.inr (Or.inr (Or.inr ⟨by omega, l0, bi_0 h3, rfl, (if_pos (fn_eq h4)).symm, rfl, rfl⟩))) (so_nO hT)
      · rw [hc] at h3
        rintro v M' ⟨rfl, e, he, rfl⟩
        show so_R M N k none _
        exact fin _ _ _ _ _ (Or.inr (Or.inr (Or.inl ⟨by omega, l0, bi_1 h3, he, rfl, rfl, rfl⟩))) (so_nD hT)
    · rw [hc] at h2
      rintro v M' ⟨rfl, e, he, rfl⟩
      show so_R M N k none _
      exact fin _ _ _ _ _ (Or.inr (Or.inl ⟨by omega, bi_1 h2, he, rfl, rfl, rfl⟩)) (so_nL hT)
  · have h1 := fn_nlt h
    rw [hN, fn_toInt (by omega), fn_toInt (by omega)] at h1
    show so_R M N k none (cm_wi (so_b M s) 2 3 0)
    exact fin s _ _ _ _ (Or.inl ⟨by omega, rfl, rfl, rfl, rfl⟩) (so_nE hT)
set_option maxRecDepth 100000 in
set_option maxHeartbeats 4000000 in
theorem so_8 {M : cm_M} {N k nx : Nat} (hT : M.2.2 2 0 = some 1) (hN : M.1 2 1 = Int32.ofNat N) (hN9 : N ≤ 900) (hf : M.1 2 9 = 0) (n1 : k ≤ nx) (n2 : nx ≤ N) (n3 : ∀ j, k ≤ j → j < nx → ch_s (M.1 1 j) = true) : lb_ cm_ms none (cm_P mr_88) mr_88.2.2.2.2.2.2 so_st (so_J M N k) (cm_rl (so_R M N k)) 60 (8, [(0, .ref 2)], [], so_m M nx) := by
  have hc : M.1 1 (Int32.ofNat nx).toNatClampNeg = M.1 1 nx := by rw [fn_nat (show nx < 2147483648 by omega)]
  show (ev_cmp 3 (Int32.ofNat nx) (M.1 2 1) = true → so_J M N k (46, [(0, .ref 2)], [], so_m M nx)) ∧ (ev_cmp 3 (Int32.ofNat nx) (M.1 2 1) = false → (ev_cmp 1 (M.1 1 (Int32.ofNat nx).toNatClampNeg) 32 = true → so_J M N k (46, [(0, .ref 2)], [], so_m M nx)) ∧ (ev_cmp 1 (M.1 1 (Int32.ofNat nx).toNatClampNeg) 32 = false → so_J M N k (8, [(0, .ref 2)], [], cm_wi (so_m M nx) 2 2 (Int32.ofNat nx + 1))))
  refine ⟨fun h => ?_, fun h => ⟨fun h2 => ?_, fun h2 => ?_⟩⟩
  · have h1 := fn_ge h
    rw [hN, fn_toInt (by omega), fn_toInt (by omega)] at h1
    exact ⟨hf, nx, Or.inr ⟨⟨n1, n2, n3, fun h9 => by omega⟩, rfl⟩⟩
  · rw [hc] at h2
    exact ⟨hf, nx, Or.inr ⟨⟨n1, n2, n3, fun h9 => decide_eq_false (fn_ne h2)⟩, rfl⟩⟩
  · have h1 := fn_nge h
    rw [hN, fn_toInt (by omega), fn_toInt (by omega)] at h1
    rw [hc] at h2
    refine ⟨hf, nx + 1, Or.inl ⟨by omega, by omega, fun j j1 j2 => ?_, ?_⟩⟩
    · rcases Nat.lt_or_ge j nx with hj | hj
      · exact n3 j j1 hj
      · have : j = nx := by omega
        rw [this]
        exact decide_eq_true (fn_eq h2)
    · congr 3
      unfold so_m
      rw [fn_succ]
      show rd_f (cm_wi (cm_wi M 2 2 _) 2 2 _) = _
      rw [wi_wi]
set_option maxRecDepth 100000 in
theorem fn_stepOn {M : cm_M} {N k : Nat} (hT : M.2.2 2 0 = some 1) (hN : M.1 2 1 = Int32.ofNat N) (hN9 : N ≤ 900) (hk : M.1 2 2 = Int32.ofNat k) (hkN : k ≤ N) : cm_Lc cm_ms 88 [.ref 2] M (so_R M N k) := by
  refine lb_of (mi := mr_88) rfl so_st (so_J M N k) 60 (fun S hS => ?_) 60 ?_
  · obtain ⟨hf, nx, ⟨n1, n2, n3, rfl⟩ | ⟨he, rfl⟩⟩ := hS
    · exact so_8 hT hN hN9 hf n1 n2 n3
    · exact so_46 hT hN hN9 hf he
  · show (ev_cmp 0 (M.1 2 9) 0 = true → so_J M N k (8, [(0, .ref 2)], [], M)) ∧ (ev_cmp 0 (M.1 2 9) 0 = false → _)
    refine ⟨fun h => ?_, fun h => ?_⟩
    · refine ⟨of_decide_eq_true h, k, Or.inl ⟨Nat.le_refl _, hkN, fun j h1 h2 => by omega, ?_⟩⟩
      congr 3
      unfold so_m
      rw [wi_id hk, rd_f_eq hT]
    · show so_R M N k none M
      exact ⟨rfl, fun _ => rfl, fun h0 => absurd h0 (of_decide_eq_false h)⟩
noncomputable def mn_f (M : cm_M) : cm_M := cm_wr (cm_wr M 124 1 (some 125)) 124 12 (some 126)
theorem mn_f_eq {M : cm_M} (h1 : M.2.2 124 1 = some 125) (h2 : M.2.2 124 12 = some 126) : mn_f M = M := by
  unfold mn_f
  rw [wr_id h1, wr_id h2]
noncomputable def se (T : Nat → Int32) (N j : Nat) : Int32 := if j < N then T j else -1
theorem fn_see {M : cm_M} {N j : Nat} (hN : M.1 124 3 = Int32.ofNat N) (hN9 : N ≤ 900) (hj : j ≤ 900) : cm_Lc cm_ms 173 [.ref 124, .int (Int32.ofNat j)] (mn_f M) (fun v M' => M' = mn_f M ∧ v = some (.int (se (M.1 125) N j))) := by
  refine lb_st0 (mi := mr_173) rfl 20 ?_
  show (ev_cmp 3 (Int32.ofNat j) (M.1 124 3) = true → _) ∧ (ev_cmp 3 (Int32.ofNat j) (M.1 124 3) = false → _)
  refine ⟨fun h => ?_, fun h => ?_⟩
  · have h1 := fn_ge h
    rw [hN, fn_toInt (by omega), fn_toInt (by omega)] at h1
    refine ⟨rfl, ?_⟩
    unfold se
    rw [if_neg (by omega)]
    try rfl
  · have h1 := fn_nge h
    rw [hN, fn_toInt (by omega), fn_toInt (by omega)] at h1
    refine ⟨rfl, ?_⟩
    unfold se
    rw [if_pos (by omega)]
    show some (Value.int (M.1 125 (Int32.ofNat j).toNatClampNeg)) = _
    rw [fn_nat (by omega)]
theorem fn_isSmall (x : Int32) (M : cm_M) : cm_Lc cm_ms 174 [.int x] M (fun v M' => M' = M ∧ v = some (.int (bi (ch_l x)))) := by
  refine lb_st0 (mi := mr_174) rfl 20 ?_
  show (ev_cmp 2 x 97 = true → _) ∧ (ev_cmp 2 x 97 = false → (ev_cmp 4 x 122 = true → _) ∧ (ev_cmp 4 x 122 = false → _))
  have e97 : (97 : Int32).toInt = 97 := by decide
  have e122 : (122 : Int32).toInt = 122 := by decide
  refine ⟨fun h => ?_, fun h => ⟨fun h2 => ?_, fun h2 => ?_⟩⟩
  · have h1 := fn_lt h
    refine ⟨rfl, ?_⟩
    have : ch_l x = false := by unfold ch_l; rw [Bool.and_eq_false_iff]; left; exact decide_eq_false (by omega)
    rw [this]
    try rfl
  · have h1 := fn_gt h2
    refine ⟨rfl, ?_⟩
    have : ch_l x = false := by unfold ch_l; rw [Bool.and_eq_false_iff]; right; exact decide_eq_false (by omega)
    rw [this]
    try rfl
  · have h1 := fn_nlt h
    have h3 := fn_ngt h2
    refine ⟨rfl, ?_⟩
    have : ch_l x = true := by unfold ch_l; rw [Bool.and_eq_true]; exact ⟨decide_eq_true (by omega), decide_eq_true (by omega)⟩
    rw [this]
    try rfl
theorem fn_isDig (x : Int32) (M : cm_M) : cm_Lc cm_ms 175 [.int x] M (fun v M' => M' = M ∧ v = some (.int (bi (ch_d x)))) := by
  refine lb_st0 (mi := mr_175) rfl 20 ?_
  show (ev_cmp 2 x 48 = true → _) ∧ (ev_cmp 2 x 48 = false → (ev_cmp 4 x 57 = true → _) ∧ (ev_cmp 4 x 57 = false → _))
  have e97 : (48 : Int32).toInt = 48 := by decide
  have e122 : (57 : Int32).toInt = 57 := by decide
  refine ⟨fun h => ?_, fun h => ⟨fun h2 => ?_, fun h2 => ?_⟩⟩
  · have h1 := fn_lt h
    refine ⟨rfl, ?_⟩
    have : ch_d x = false := by unfold ch_d; rw [Bool.and_eq_false_iff]; left; exact decide_eq_false (by omega)
    rw [this]
    try rfl
  · have h1 := fn_gt h2
    refine ⟨rfl, ?_⟩
    have : ch_d x = false := by unfold ch_d; rw [Bool.and_eq_false_iff]; right; exact decide_eq_false (by omega)
    rw [this]
    try rfl
  · have h1 := fn_nlt h
    have h3 := fn_ngt h2
    refine ⟨rfl, ?_⟩
    have : ch_d x = true := by unfold ch_d; rw [Bool.and_eq_true]; exact ⟨decide_eq_true (by omega), decide_eq_true (by omega)⟩
    rw [this]
    try rfl
/-- the letters read -/
noncomputable def lt_m (M : cm_M) (s c : Nat) : cm_M := (fun a b => if a = 126 ∧ b < c then M.1 125 (s + b) else M.1 a b, M.2)
theorem lt_m_0 (M : cm_M) (s : Nat) : lt_m M s 0 = M := by
  unfold lt_m
  refine Prod.ext (funext fun a => funext fun b => ?_) rfl
  dsimp only
  rw [if_neg (by omega)]
theorem lt_m_s (M : cm_M) (s c : Nat) : cm_wi (lt_m M s c) 126 c (M.1 125 (s + c)) = lt_m M s (c + 1) := by
  unfold lt_m cm_wi
  refine Prod.ext (funext fun a => funext fun b => ?_) rfl
  dsimp only
  by_cases h : a = 126 ∧ b = c
  · rw [if_pos h, if_pos (by omega), h.2]
  · rw [if_neg h]
    by_cases h2 : a = 126 ∧ b < c
    · rw [if_pos h2, if_pos (by omega)]
    · rw [if_neg h2, if_neg (by omega)]
/-- a token -/
noncomputable def mk_k (T : Nat → Int32) (N s e : Nat) (tok wh : Int32) (ns : Nat) : Prop :=
  (s = N ∧ e = s ∧ tok = 0 ∧ wh = 0 ∧ ns = 0) ∨
  (s < N ∧ ch_l (T s) = true ∧ tk_e ch_l T N s e ∧ tok = (if e - s ≤ 8 then 2 else 1) ∧ wh = 0 ∧ ns = e - s) ∨
  (s < N ∧ ch_l (T s) = false ∧ ch_d (T s) = true ∧ tk_e ch_d T N s e ∧ tok = (if e - s ≤ 3 then 3 else 1) ∧ wh = tk_v T s (min (e - s) 3) ∧ ns = 0) ∨
  (s < N ∧ ch_l (T s) = false ∧ ch_d (T s) = false ∧ e = s + 1 ∧ tok = (if T s = 59 then 59 else 1) ∧ wh = 0 ∧ ns = 0)
noncomputable def nx_m (M : cm_M) (s e : Nat) (tok wh : Int32) (ns : Nat) : cm_M := cm_wi (cm_wi (cm_wi (cm_wi (cm_wi (lt_m M s (min ns 8)) 124 4 (Int32.ofNat s)) 124 7 wh) 124 8 (Int32.ofNat ns)) 124 5 (Int32.ofNat e)) 124 6 tok
noncomputable abbrev nx_R (M : cm_M) (N k : Nat) : cm_K := fun v M' => v = none ∧ ∃ s e tok wh ns, tk_e ch_s (M.1 125) N k s ∧ mk_k (M.1 125) N s e tok wh ns ∧ M' = nx_m M s e tok wh ns
/-- behind the first steps -/
noncomputable def nx_b (M : cm_M) (s : Nat) (wh : Int32) (ns : Nat) : cm_M := cm_wi (cm_wi (cm_wi (lt_m M s (min ns 8)) 124 4 (Int32.ofNat s)) 124 7 wh) 124 8 (Int32.ofNat ns)
noncomputable def nx_J (M : cm_M) (N k : Nat) (S : cm_S) : Prop :=
  (∃ j, k ≤ j ∧ j ≤ N ∧ (∀ i, k ≤ i → i < j → ch_s (M.1 125 i) = true) ∧ S = (5, [(0, .ref 124), (1, .int (Int32.ofNat j))], [], mn_f M)) ∨
  (∃ s, tk_e ch_s (M.1 125) N k s ∧ S = (21, [(0, .ref 124), (1, .int (Int32.ofNat s))], [], mn_f M)) ∨
  (∃ s j, tk_e ch_s (M.1 125) N k s ∧ s < N ∧ ch_l (M.1 125 s) = true ∧ s ≤ j ∧ j ≤ N ∧ (∀ i, s ≤ i → i < j → ch_l (M.1 125 i) = true) ∧ S = (67, [(0, .ref 124), (1, .int (Int32.ofNat j))], [], mn_f (nx_b M s 0 (j - s)))) ∨
  (∃ s j, tk_e ch_s (M.1 125) N k s ∧ s < N ∧ ch_l (M.1 125 s) = false ∧ ch_d (M.1 125 s) = true ∧ s ≤ j ∧ j ≤ N ∧ (∀ i, s ≤ i → i < j → ch_d (M.1 125 i) = true) ∧ S = (152, [(0, .ref 124), (1, .int (Int32.ofNat j)), (3, .int (Int32.ofNat (j - s)))], [], mn_f (nx_b M s (tk_v (M.1 125) s (min (j - s) 3)) 0)))
noncomputable abbrev nx_st : List (Nat × List Nat) := [(5, [0, 1]), (21, [0, 1]), (67, [0, 1]), (152, [0, 1, 3])]
theorem se_in {T : Nat → Int32} {N j : Nat} (h : j < N) : se T N j = T j := if_pos h
theorem se_out {T : Nat → Int32} {N j : Nat} (h : ¬ j < N) : se T N j = -1 := if_neg h
section NX
variable {M : cm_M} {N k : Nat}
set_option maxRecDepth 100000 in
set_option maxHeartbeats 4000000 in
theorem nx_5 (hN : M.1 124 3 = Int32.ofNat N) (hN9 : N ≤ 900) {j : Nat} (n1 : k ≤ j) (n2 : j ≤ N) (n3 : ∀ i, k ≤ i → i < j → ch_s (M.1 125 i) = true) : lb_ cm_ms none (cm_P mr_176) mr_176.2.2.2.2.2.2 nx_st (nx_J M N k) (cm_rl (nx_R M N k)) 80 (5, [(0, .ref 124), (1, .int (Int32.ofNat j))], [], mn_f M) := by
  show ∃ R, cm_Lc cm_ms 173 [.ref 124, .int (Int32.ofNat j)] (mn_f M) R ∧ ∀ v M', R v M' → _
  refine ⟨_, fn_see hN hN9 (by omega), ?_⟩
  rintro v M' ⟨rfl, rfl⟩
  show (ev_cmp 1 (se (M.1 125) N j) 32 = true → nx_J M N k (21, [(0, .ref 124), (1, .int (Int32.ofNat j))], [], mn_f M)) ∧ (ev_cmp 1 (se (M.1 125) N j) 32 = false → nx_J M N k (5, [(0, .ref 124), (1, .int (Int32.ofNat j + 1))], [], mn_f M))
  refine ⟨fun h => Or.inr (Or.inl ⟨j, ⟨n1, n2, n3, fun h9 => ?_⟩, rfl⟩), fun h => ?_⟩
  · rw [se_in h9] at h
    exact decide_eq_false (fn_ne h)
  · have h1 := fn_eq h
    have hlt : j < N := by
      rcases Nat.lt_or_ge j N with hj | hj
      · exact hj
      · rw [se_out (by omega)] at h1
        exact absurd h1 (by decide)
    rw [se_in hlt] at h1
    rw [fn_succ]
    refine Or.inl ⟨j + 1, by omega, by omega, fun i i1 i2 => ?_, rfl⟩
    rcases Nat.lt_or_ge i j with hj | hj
    · exact n3 i i1 hj
    · have : i = j := by omega
      rw [this]
      exact decide_eq_true h1
end NX
theorem nx_b0 (M : cm_M) (s : Nat) : cm_wi (cm_wi (cm_wi M 124 4 (Int32.ofNat s)) 124 8 0) 124 7 0 = nx_b M s 0 0 := by
  unfold nx_b
  show _ = cm_wi (cm_wi (cm_wi (lt_m M s 0) 124 4 (Int32.ofNat s)) 124 7 0) 124 8 0
  rw [lt_m_0, wi_comm (cm_wi M 124 4 (Int32.ofNat s)) (c := 124) (i := 8) (c' := 124) (i' := 7) _ _ (by decide)]
theorem nx_b8 (M : cm_M) (s ns : Nat) (wh : Int32) (h : 8 ≤ ns) : cm_wi (nx_b M s wh ns) 124 8 (Int32.ofNat ns + 1) = nx_b M s wh (ns + 1) := by
  unfold nx_b
  rw [wi_wi, fn_succ, Nat.min_eq_right h, Nat.min_eq_right (by omega)]
theorem nx_b7 (M : cm_M) (s ns : Nat) (wh : Int32) (h : ns < 8) : cm_wi (cm_wi (nx_b M s wh ns) 126 ns (M.1 125 (s + ns))) 124 8 (Int32.ofNat ns + 1) = nx_b M s wh (ns + 1) := by
  unfold nx_b
  rw [Nat.min_eq_left (by omega), Nat.min_eq_left (by omega), wi_comm _ (c := 124) (i := 8) (c' := 126) (i' := ns) _ _ (fun h => absurd h.1 (by decide)), wi_wi, wi_comm _ (c := 124) (i := 7) (c' := 126) (i' := ns) _ _ (fun h => absurd h.1 (by decide)), wi_comm _ (c := 124) (i := 4) (c' := 126) (i' := ns) _ _ (fun h => absurd h.1 (by decide)), lt_m_s, fn_succ]
theorem nx_bw (M : cm_M) (s ns : Nat) (w w' : Int32) : cm_wi (nx_b M s w ns) 124 7 w' = nx_b M s w' ns := by
  unfold nx_b
  rw [wi_comm _ (c := 124) (i := 8) (c' := 124) (i' := 7) _ _ (by decide), wi_wi]
theorem ch_l_m : ch_l (-1) = false := by decide
theorem ch_d_m : ch_d (-1) = false := by decide
theorem fn_le {x y : Int32} (h : ev_cmp 5 x y = true) : x.toInt ≤ y.toInt := Int32.le_iff_toInt_le.mp (of_decide_eq_true h)
theorem fn_nle {x y : Int32} (h : ev_cmp 5 x y = false) : y.toInt < x.toInt := by
  have h1 : ¬ x ≤ y := of_decide_eq_false h
  rw [Int32.le_iff_toInt_le] at h1
  omega
section NX
variable {M : cm_M} {N k : Nat}
set_option maxRecDepth 100000 in
set_option maxHeartbeats 4000000 in
theorem nx_67 (h1 : M.2.2 124 1 = some 125) (h12 : M.2.2 124 12 = some 126) (hN : M.1 124 3 = Int32.ofNat N) (hN9 : N ≤ 900) {s j : Nat} (hs : tk_e ch_s (M.1 125) N k s) (hsN : s < N) (hl : ch_l (M.1 125 s) = true) (n1 : s ≤ j) (n2 : j ≤ N) (n3 : ∀ i, s ≤ i → i < j → ch_l (M.1 125 i) = true) : lb_ cm_ms none (cm_P mr_176) mr_176.2.2.2.2.2.2 nx_st (nx_J M N k) (cm_rl (nx_R M N k)) 80 (67, [(0, .ref 124), (1, .int (Int32.ofNat j))], [], mn_f (nx_b M s 0 (j - s))) := by
  have h8 : (8 : Int32).toInt = 8 := by decide
  show ∃ R, cm_Lc cm_ms 173 [.ref 124, .int (Int32.ofNat j)] (mn_f (nx_b M s 0 (j - s))) R ∧ ∀ v M', R v M' → _
  refine ⟨_, fn_see (M := nx_b M s 0 (j - s)) hN hN9 (by omega), ?_⟩
  rintro v M' ⟨rfl, rfl⟩
  show ∃ R, cm_Lc cm_ms 174 [.int (se (M.1 125) N j)] (mn_f (nx_b M s 0 (j - s))) R ∧ ∀ v M', R v M' → _
  refine ⟨_, fn_isSmall _ _, ?_⟩
  rintro v M' ⟨rfl, rfl⟩
  show (ev_cmp 0 (bi (ch_l (se (M.1 125) N j))) 0 = true → (ev_cmp 5 (Int32.ofNat (j - s)) 8 = true → _) ∧ (ev_cmp 5 (Int32.ofNat (j - s)) 8 = false → _)) ∧ (ev_cmp 0 (bi (ch_l (se (M.1 125) N j))) 0 = false → (ev_cmp 3 (Int32.ofNat (j - s)) 8 = true → nx_J M N k (67, [(0, .ref 124), (1, .int (Int32.ofNat j + 1))], [], cm_wi (mn_f (nx_b M s 0 (j - s))) 124 8 (Int32.ofNat (j - s) + 1))) ∧ (ev_cmp 3 (Int32.ofNat (j - s)) 8 = false → ∃ R, cm_Lc cm_ms 173 [.ref 124, .int (Int32.ofNat j)] (mn_f (nx_b M s 0 (j - s))) R ∧ ∀ v M', R v M' → _))
  have fin : ch_l (se (M.1 125) N j) = false → ∀ tok : Int32, tok = (if j - s ≤ 8 then 2 else 1) → nx_R M N k none (cm_wi (cm_wi (mn_f (nx_b M s 0 (j - s))) 124 5 (Int32.ofNat j)) 124 6 tok) := by
    intro he tok ht
    rw [mn_f_eq (show (nx_b M s 0 (j - s)).2.2 124 1 = some 125 from h1) (show (nx_b M s 0 (j - s)).2.2 124 12 = some 126 from h12)]
    exact ⟨rfl, s, j, tok, 0, j - s, hs, Or.inr (Or.inl ⟨hsN, hl, ⟨n1, n2, n3, fun h9 => by rw [se_in h9] at he; exact he⟩, ht, rfl, rfl⟩), rfl⟩
  have nxt : ch_l (se (M.1 125) N j) = true → ∀ X : cm_M, X = nx_b M s 0 (j - s + 1) → nx_J M N k (67, [(0, .ref 124), (1, .int (Int32.ofNat j + 1))], [], mn_f X) := by
    intro he X hX
    have hlt : j < N := by
      rcases Nat.lt_or_ge j N with hj | hj
      · exact hj
      · rw [se_out (by omega), ch_l_m] at he
        cases he
    rw [se_in hlt] at he
    rw [fn_succ, hX, show j - s + 1 = j + 1 - s by omega]
    refine Or.inr (Or.inr (Or.inl ⟨s, j + 1, hs, hsN, hl, by omega, by omega, fun i i1 i2 => ?_, rfl⟩))
    rcases Nat.lt_or_ge i j with hj | hj
    · exact n3 i i1 hj
    · have : i = j := by omega
      rw [this]
      exact he
  refine ⟨fun h => ⟨fun h2 => ?_, fun h2 => ?_⟩, fun h => ⟨fun h2 => ?_, fun h2 => ⟨_, fn_see (M := nx_b M s 0 (j - s)) hN hN9 (by omega), ?_⟩⟩⟩
  · have g := fn_le h2
    rw [fn_toInt (by omega)] at g
    show nx_R M N k none (cm_wi (cm_wi (mn_f (nx_b M s 0 (j - s))) 124 5 (Int32.ofNat j)) 124 6 2)
    exact fin (bi_0 h) 2 (by rw [if_pos (by omega)])
  · have g := fn_nle h2
    rw [fn_toInt (by omega)] at g
    show nx_R M N k none (cm_wi (cm_wi (mn_f (nx_b M s 0 (j - s))) 124 5 (Int32.ofNat j)) 124 6 1)
    exact fin (bi_0 h) 1 (by rw [if_neg (by omega)])
  · have g := fn_ge h2
    rw [fn_toInt (by omega)] at g
    exact nxt (bi_1 h) (cm_wi (nx_b M s 0 (j - s)) 124 8 (Int32.ofNat (j - s) + 1)) (nx_b8 M s (j - s) 0 (by omega))
  · have g := fn_nge h2
    rw [fn_toInt (by omega)] at g
    rintro v M' ⟨rfl, rfl⟩
    show nx_J M N k (67, [(0, .ref 124), (1, .int (Int32.ofNat j + 1))], [], cm_wi (cm_wi (mn_f (nx_b M s 0 (j - s))) 126 (Int32.ofNat (j - s)).toNatClampNeg (se (M.1 125) N j)) 124 8 (Int32.ofNat (j - s) + 1))
    have he := bi_1 h
    have hlt : j < N := by
      rcases Nat.lt_or_ge j N with hj | hj
      · exact hj
      · rw [se_out (by omega), ch_l_m] at he
        cases he
    refine nxt he (cm_wi (cm_wi (nx_b M s 0 (j - s)) 126 (Int32.ofNat (j - s)).toNatClampNeg (se (M.1 125) N j)) 124 8 (Int32.ofNat (j - s) + 1)) ?_
    rw [fn_nat (by omega), se_in hlt]
    have := nx_b7 M s (j - s) 0 (by omega)
    rw [show s + (j - s) = j by omega] at this
    exact this
end NX
section NX
variable {M : cm_M} {N k : Nat}
set_option maxRecDepth 100000 in
set_option maxHeartbeats 4000000 in
theorem nx_152 (h1 : M.2.2 124 1 = some 125) (h12 : M.2.2 124 12 = some 126) (hN : M.1 124 3 = Int32.ofNat N) (hN9 : N ≤ 900) {s j : Nat} (hs : tk_e ch_s (M.1 125) N k s) (hsN : s < N) (hl : ch_l (M.1 125 s) = false) (hd : ch_d (M.1 125 s) = true) (n1 : s ≤ j) (n2 : j ≤ N) (n3 : ∀ i, s ≤ i → i < j → ch_d (M.1 125 i) = true) : lb_ cm_ms none (cm_P mr_176) mr_176.2.2.2.2.2.2 nx_st (nx_J M N k) (cm_rl (nx_R M N k)) 80 (152, [(0, .ref 124), (1, .int (Int32.ofNat j)), (3, .int (Int32.ofNat (j - s)))], [], mn_f (nx_b M s (tk_v (M.1 125) s (min (j - s) 3)) 0)) := by
  have h3 : (3 : Int32).toInt = 3 := by decide
  show ∃ R, cm_Lc cm_ms 173 [.ref 124, .int (Int32.ofNat j)] (mn_f (nx_b M s (tk_v (M.1 125) s (min (j - s) 3)) 0)) R ∧ ∀ v M', R v M' → _
  refine ⟨_, fn_see (M := nx_b M s (tk_v (M.1 125) s (min (j - s) 3)) 0) hN hN9 (by omega), ?_⟩
  rintro v M' ⟨rfl, rfl⟩
  show ∃ R, cm_Lc cm_ms 175 [.int (se (M.1 125) N j)] (mn_f (nx_b M s (tk_v (M.1 125) s (min (j - s) 3)) 0)) R ∧ ∀ v M', R v M' → _
  refine ⟨_, fn_isDig _ _, ?_⟩
  rintro v M' ⟨rfl, rfl⟩
  show (ev_cmp 0 (bi (ch_d (se (M.1 125) N j))) 0 = true → (ev_cmp 5 (Int32.ofNat (j - s)) 3 = true → _) ∧ (ev_cmp 5 (Int32.ofNat (j - s)) 3 = false → _)) ∧ (ev_cmp 0 (bi (ch_d (se (M.1 125) N j))) 0 = false → (ev_cmp 3 (Int32.ofNat (j - s)) 3 = true → nx_J M N k (152, [(0, .ref 124), (1, .int (Int32.ofNat j + 1)), (3, .int (Int32.ofNat (j - s) + 1))], [], mn_f (nx_b M s (tk_v (M.1 125) s (min (j - s) 3)) 0))) ∧ (ev_cmp 3 (Int32.ofNat (j - s)) 3 = false → ∃ R, cm_Lc cm_ms 173 [.ref 124, .int (Int32.ofNat j)] (mn_f (nx_b M s (tk_v (M.1 125) s (min (j - s) 3)) 0)) R ∧ ∀ v M', R v M' → _))
  have fin : ch_d (se (M.1 125) N j) = false → ∀ tok : Int32, tok = (if j - s ≤ 3 then 3 else 1) → nx_R M N k none (cm_wi (cm_wi (mn_f (nx_b M s (tk_v (M.1 125) s (min (j - s) 3)) 0)) 124 5 (Int32.ofNat j)) 124 6 tok) := by
    intro he tok ht
    rw [mn_f_eq (show (nx_b M s (tk_v (M.1 125) s (min (j - s) 3)) 0).2.2 124 1 = some 125 from h1) (show (nx_b M s (tk_v (M.1 125) s (min (j - s) 3)) 0).2.2 124 12 = some 126 from h12)]
    exact ⟨rfl, s, j, tok, _, 0, hs, Or.inr (Or.inr (Or.inl ⟨hsN, hl, hd, ⟨n1, n2, n3, fun h9 => by rw [se_in h9] at he; exact he⟩, ht, rfl, rfl⟩)), rfl⟩
  have nxt : ch_d (se (M.1 125) N j) = true → ∀ X : cm_M, X = nx_b M s (tk_v (M.1 125) s (min (j - s + 1) 3)) 0 → nx_J M N k (152, [(0, .ref 124), (1, .int (Int32.ofNat j + 1)), (3, .int (Int32.ofNat (j - s) + 1))], [], mn_f X) := by
    intro he X hX
    have hlt : j < N := by
      rcases Nat.lt_or_ge j N with hj | hj
      · exact hj
      · rw [se_out (by omega), ch_d_m] at he
        cases he
    rw [se_in hlt] at he
    rw [fn_succ, fn_succ, hX, show j - s + 1 = j + 1 - s by omega]
    refine Or.inr (Or.inr (Or.inr ⟨s, j + 1, hs, hsN, hl, hd, by omega, by omega, fun i i1 i2 => ?_, rfl⟩))
    rcases Nat.lt_or_ge i j with hj | hj
    · exact n3 i i1 hj
    · have : i = j := by omega
      rw [this]
      exact he
  refine ⟨fun h => ⟨fun h2 => ?_, fun h2 => ?_⟩, fun h => ⟨fun h2 => ?_, fun h2 => ⟨_, fn_see (M := nx_b M s (tk_v (M.1 125) s (min (j - s) 3)) 0) hN hN9 (by omega), ?_⟩⟩⟩
  · have g := fn_le h2
    rw [fn_toInt (by omega)] at g
    show nx_R M N k none (cm_wi (cm_wi (mn_f (nx_b M s (tk_v (M.1 125) s (min (j - s) 3)) 0)) 124 5 (Int32.ofNat j)) 124 6 3)
    exact fin (bi_0 h) 3 (by rw [if_pos (by omega)])
  · have g := fn_nle h2
    rw [fn_toInt (by omega)] at g
    show nx_R M N k none (cm_wi (cm_wi (mn_f (nx_b M s (tk_v (M.1 125) s (min (j - s) 3)) 0)) 124 5 (Int32.ofNat j)) 124 6 1)
    exact fin (bi_0 h) 1 (by rw [if_neg (by omega)])
  · have g := fn_ge h2
    rw [fn_toInt (by omega)] at g
    exact nxt (bi_1 h) _ (by rw [Nat.min_eq_right (show 3 ≤ j - s by omega), Nat.min_eq_right (show 3 ≤ j - s + 1 by omega)])
  · have g := fn_nge h2
    rw [fn_toInt (by omega)] at g
    rintro v M' ⟨rfl, rfl⟩
    show nx_J M N k (152, [(0, .ref 124), (1, .int (Int32.ofNat j + 1)), (3, .int (Int32.ofNat (j - s) + 1))], [], cm_wi (mn_f (nx_b M s (tk_v (M.1 125) s (min (j - s) 3)) 0)) 124 7 (10 * tk_v (M.1 125) s (min (j - s) 3) + se (M.1 125) N j - 48))
    have he := bi_1 h
    have hlt : j < N := by
      rcases Nat.lt_or_ge j N with hj | hj
      · exact hj
      · rw [se_out (by omega), ch_d_m] at he
        cases he
    refine nxt he (cm_wi (nx_b M s (tk_v (M.1 125) s (min (j - s) 3)) 0) 124 7 (10 * tk_v (M.1 125) s (min (j - s) 3) + se (M.1 125) N j - 48)) ?_
    rw [nx_bw, se_in hlt, Nat.min_eq_left (show j - s ≤ 3 by omega), Nat.min_eq_left (show j - s + 1 ≤ 3 by omega), tk_v_succ, show s + (j - s) = j by omega, Int32.mul_comm 10]
end NX
