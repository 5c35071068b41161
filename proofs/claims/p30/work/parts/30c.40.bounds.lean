/-! operations on ints by their numbers, and bounds of what they give -/
def ev_f (op : Nat) (x y : Int32) : Int32 := match op with
  | 1 => x + y
  | 2 => x - y
  | 3 => x * y
  | 4 => x &&& y
  | 5 => x ||| y
  | 6 => x ^^^ y
  | 7 => x <<< (y &&& 31)
  | 8 => x >>> (y &&& 31)
  | 9 => (x.toUInt32 >>> (y.toUInt32 &&& Int32.toUInt32 31)).toInt32
  | 10 => x / y
  | 11 => x - x / y * y
  | 12 => -x
  | 13 => x.toInt8.toInt32
  | 14 => (x.toUInt32 % 65536).toInt32
  | 15 => if y < x then y else x
  | 16 => if x < y then y else x
  | 17 => if 0 ≤ x then x else 0 - x
  | 22 => x - y
  | _ => 0
def ev_ful : Int × Int := (-2147483648, 2147483647)
def ev_rng (b : Int × Int) : Int × Int := if -2147483648 ≤ b.1 ∧ b.2 ≤ 2147483647 then b else ev_ful
/-- bounds of what an operation gives, out of the bounds of its numbers -/
def ev_bd (op : Nat) (a b : Int × Int) : Int × Int := match op with
  | 1 => ev_rng (a.1 + b.1, a.2 + b.2)
  | 2 => ev_rng (a.1 - b.2, a.2 - b.1)
  | 3 => if 0 ≤ a.1 ∧ 0 ≤ b.1 then ev_rng (0, a.2 * b.2) else ev_ful
  | 4 => if 0 ≤ b.1 then (0, b.2) else if 0 ≤ a.1 then (0, a.2) else ev_ful
  | 7 => if a.1 = 1 ∧ a.2 = 1 ∧ 0 ≤ b.1 ∧ b.2 ≤ 30 then (2 ^ b.1.toNat, 2 ^ b.2.toNat) else ev_ful
  | 10 => if 0 ≤ a.1 ∧ 1 ≤ b.1 then (0, a.2) else ev_ful
  | 11 => if 0 ≤ a.1 ∧ 1 ≤ b.1 then (0, min a.2 (b.2 - 1)) else ev_ful
  | 13 => (-128, 127)
  | 14 => (0, 65535)
  | 15 => (min a.1 b.1, min a.2 b.2)
  | 16 => (max a.1 b.1, max a.2 b.2)
  | 22 => ev_rng (a.1 - b.2, a.2 - b.1)
  | _ => ev_ful
def ev_inb (b : Int × Int) (x : Int32) : Prop := b.1 ≤ x.toInt ∧ x.toInt ≤ b.2
theorem ev_lo0 (x : Int32) : (-2147483648 : Int) ≤ x.toInt := by have := Int32.le_toInt x; omega
theorem ev_hi0 (x : Int32) : x.toInt ≤ (2147483647 : Int) := by have := Int32.toInt_lt x; omega
theorem ev_ful_in (x : Int32) : ev_inb ev_ful x := ⟨ev_lo0 x, ev_hi0 x⟩
theorem ev_rng_in {b : Int × Int} {x : Int32} {n : Int} (hx : -2147483648 ≤ n → n ≤ 2147483647 → x.toInt = n) (h1 : b.1 ≤ n) (h2 : n ≤ b.2) : ev_inb (ev_rng b) x := by
  unfold ev_rng
  split
  · rename_i h
    have := hx (by omega) (by omega)
    exact ⟨by omega, by omega⟩
  · exact ev_ful_in x
theorem ev_bm {n : Int} (h1 : -2147483648 ≤ n) (h2 : n ≤ 2147483647) : n.bmod (2 ^ 32) = n := Int.bmod_eq_of_le (by omega) (by omega)
theorem ev_and_in {x y : Int32} (hy : 0 ≤ y.toInt) : 0 ≤ (x &&& y).toInt ∧ (x &&& y).toInt ≤ y.toInt := by
  have e1 : (x &&& y).toInt = (x.toBitVec &&& y.toBitVec).toInt := rfl
  have e2 : y.toInt = y.toBitVec.toInt := rfl
  rw [e2] at hy
  rw [e1, e2]
  rw [BitVec.toInt_eq_toNat_cond] at hy ⊢
  rw [BitVec.toInt_eq_toNat_cond]
  have hle : (x.toBitVec &&& y.toBitVec).toNat ≤ y.toBitVec.toNat := by
    rw [BitVec.toNat_and]
    exact Nat.and_le_right
  have hlt := y.toBitVec.isLt
  split at hy
  · rename_i hc
    rw [if_pos (by omega), if_pos hc]
    omega
  · omega
theorem ev_and_comm (x y : Int32) : x &&& y = y &&& x := by
  apply Int32.toBitVec_inj.mp
  rw [Int32.toBitVec_and, Int32.toBitVec_and, BitVec.and_comm]
theorem ev_div_in {x y : Int32} (hx : 0 ≤ x.toInt) (hy : 1 ≤ y.toInt) : (x / y).toInt = x.toInt / y.toInt ∧ 0 ≤ x.toInt / y.toInt ∧ x.toInt / y.toInt ≤ x.toInt := by
  have h1 : 0 ≤ x.toInt / y.toInt := Int.ediv_nonneg hx (by omega)
  have h2 : x.toInt / y.toInt ≤ x.toInt := Int.ediv_le_self _ hx
  refine ⟨?_, h1, h2⟩
  rw [Int32.toInt_div, Int.tdiv_eq_ediv_of_nonneg hx]
  have := ev_hi0 x
  exact ev_bm (by omega) (by omega)
theorem ev_rem_in {x y : Int32} (hx : 0 ≤ x.toInt) (hy : 1 ≤ y.toInt) : 0 ≤ (x - x / y * y).toInt ∧ (x - x / y * y).toInt ≤ x.toInt ∧ (x - x / y * y).toInt ≤ y.toInt - 1 := by
  obtain ⟨h1, h2, h3⟩ := ev_div_in hx hy
  have hxx := ev_hi0 x
  have hm : 0 ≤ x.toInt / y.toInt * y.toInt := Int.mul_nonneg h2 (by omega)
  have hd := Int.emod_add_mul_ediv x.toInt y.toInt
  have hr1 := Int.emod_nonneg x.toInt (show y.toInt ≠ 0 by omega)
  have hr2 := Int.emod_lt_of_pos x.toInt (show 0 < y.toInt by omega)
  have hc : x.toInt / y.toInt * y.toInt = y.toInt * (x.toInt / y.toInt) := Int.mul_comm _ _
  have e1 : (x / y * y).toInt = x.toInt / y.toInt * y.toInt := by
    rw [Int32.toInt_mul, h1]
    exact ev_bm (by omega) (by omega)
  have e2 : (x - x / y * y).toInt = x.toInt - x.toInt / y.toInt * y.toInt := by
    rw [Int32.toInt_sub, e1]
    exact ev_bm (by omega) (by omega)
  rw [e2]
  omega
theorem ev_shl1 : ∀ n : Fin 31, ((1 : Int32) <<< (Int32.ofNat n.val &&& 31)).toInt = ((2 ^ n.val : Nat) : Int) := by decide
theorem ev_shl_in {x y : Int32} {a b : Int} (hx : x.toInt = 1) (h0 : 0 ≤ a) (hb : b ≤ 30) (y1 : a ≤ y.toInt) (y2 : y.toInt ≤ b) : (2 : Int) ^ a.toNat ≤ (x <<< (y &&& 31)).toInt ∧ (x <<< (y &&& 31)).toInt ≤ (2 : Int) ^ b.toNat := by
  have ex : x = 1 := Int32.toInt_inj.mp (by rw [hx]; rfl)
  have ey : y = Int32.ofNat y.toInt.toNat := by
    apply Int32.toInt_inj.mp
    rw [Int32.toInt_ofNat_of_lt (by omega)]
    omega
  have hs := ev_shl1 ⟨y.toInt.toNat, by omega⟩
  dsimp only at hs
  rw [← ey] at hs
  rw [ex, hs]
  have p1 : 2 ^ a.toNat ≤ 2 ^ y.toInt.toNat := Nat.pow_le_pow_right (by decide) (by omega)
  have p2 : 2 ^ y.toInt.toNat ≤ 2 ^ b.toNat := Nat.pow_le_pow_right (by decide) (by omega)
  constructor
  · have : ((2 ^ a.toNat : Nat) : Int) ≤ ((2 ^ y.toInt.toNat : Nat) : Int) := by exact_mod_cast p1
    rw [Int.natCast_pow] at this
    exact this
  · have : ((2 ^ y.toInt.toNat : Nat) : Int) ≤ ((2 ^ b.toNat : Nat) : Int) := by exact_mod_cast p2
    rw [Int.natCast_pow (m := 2) (n := b.toNat)] at this
    exact this
theorem ev_i2c_in (x : Int32) : 0 ≤ ((x.toUInt32 % 65536).toInt32).toInt ∧ ((x.toUInt32 % 65536).toInt32).toInt ≤ 65535 := by
  have h1 : (x.toUInt32 % 65536).toNat < 65536 := by
    rw [UInt32.toNat_mod]
    exact Nat.mod_lt _ (by decide)
  have h2 : ((x.toUInt32 % 65536).toInt32).toInt = ((x.toUInt32 % 65536).toNat : Int) := by
    show ((x.toUInt32 % 65536).toBitVec).toInt = _
    rw [BitVec.toInt_eq_toNat_cond]
    have h3 : (x.toUInt32 % 65536).toBitVec.toNat = (x.toUInt32 % 65536).toNat := rfl
    rw [h3, if_pos (by omega)]
  rw [h2]
  omega
theorem ev_bd_in {op : Nat} {a b : Int × Int} {x y : Int32} (hx : ev_inb a x) (hy : ev_inb b y) : ev_inb (ev_bd op a b) (ev_f op x y) := by
  obtain ⟨x1, x2⟩ := hx
  obtain ⟨y1, y2⟩ := hy
  unfold ev_bd
  split
  · refine ev_rng_in (n := x.toInt + y.toInt) (fun h1 h2 => ?_) (by dsimp only; omega) (by dsimp only; omega)
    show (x + y).toInt = _
    rw [Int32.toInt_add]
    exact ev_bm h1 h2
  · refine ev_rng_in (n := x.toInt - y.toInt) (fun h1 h2 => ?_) (by dsimp only; omega) (by dsimp only; omega)
    show (x - y).toInt = _
    rw [Int32.toInt_sub]
    exact ev_bm h1 h2
  · split
    · rename_i h
      have h0 : 0 ≤ x.toInt * y.toInt := Int.mul_nonneg (by omega) (by omega)
      have h3 : x.toInt * y.toInt ≤ a.2 * b.2 := Int.mul_le_mul x2 y2 (by omega) (by omega)
      refine ev_rng_in (n := x.toInt * y.toInt) (fun h1 h2 => ?_) h0 h3
      show (x * y).toInt = _
      rw [Int32.toInt_mul]
      exact ev_bm h1 h2
    · exact ev_ful_in _
  · split
    · rename_i h
      have := ev_and_in (x := x) (y := y) (by omega)
      exact ⟨this.1, Int.le_trans this.2 y2⟩
    · split
      · rename_i h
        have := ev_and_in (x := y) (y := x) (by omega)
        show ev_inb _ (x &&& y)
        rw [ev_and_comm]
        exact ⟨this.1, Int.le_trans this.2 x2⟩
      · exact ev_ful_in _
  · split
    · rename_i h
      exact ev_shl_in (by omega) h.2.2.1 h.2.2.2 y1 y2
    · exact ev_ful_in _
  · split
    · rename_i h
      obtain ⟨h1, h2, h3⟩ := ev_div_in (x := x) (y := y) (by omega) (by omega)
      show ev_inb _ (x / y)
      exact ⟨by rw [h1]; exact h2, by rw [h1]; exact Int.le_trans h3 x2⟩
    · exact ev_ful_in _
  · split
    · rename_i h
      obtain ⟨h1, h2, h3⟩ := ev_rem_in (x := x) (y := y) (by omega) (by omega)
      exact ⟨h1, by show (x - x / y * y).toInt ≤ min a.2 (b.2 - 1); omega⟩
    · exact ev_ful_in _
  · show ev_inb _ (x.toInt8.toInt32)
    have h1 := Int8.le_toInt x.toInt8
    have h2 := Int8.toInt_lt x.toInt8
    refine ⟨?_, ?_⟩
    · rw [Int8.toInt_toInt32]; dsimp only; omega
    · rw [Int8.toInt_toInt32]; dsimp only; omega
  · exact ev_i2c_in x
  · show ev_inb _ (if y < x then y else x)
    split
    · rename_i h
      rw [Int32.lt_iff_toInt_lt] at h
      exact ⟨by dsimp only; omega, by dsimp only; omega⟩
    · rename_i h
      rw [Int32.lt_iff_toInt_lt] at h
      exact ⟨by dsimp only; omega, by dsimp only; omega⟩
  · show ev_inb _ (if x < y then y else x)
    split
    · rename_i h
      rw [Int32.lt_iff_toInt_lt] at h
      exact ⟨by dsimp only; omega, by dsimp only; omega⟩
    · rename_i h
      rw [Int32.lt_iff_toInt_lt] at h
      exact ⟨by dsimp only; omega, by dsimp only; omega⟩
  · refine ev_rng_in (n := x.toInt - y.toInt) (fun h1 h2 => ?_) (by dsimp only; omega) (by dsimp only; omega)
    show (x - y).toInt = _
    rw [Int32.toInt_sub]
    exact ev_bm h1 h2
  · exact ev_ful_in _
