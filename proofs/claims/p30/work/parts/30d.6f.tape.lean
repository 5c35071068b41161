/-! THE TWO TAPES -/
/-- a sign of the class's tape and of the reference's -/
def tb (b m : Int32) : Prop := 0 ≤ m.toInt ∧ m.toInt ≤ 255 ∧ (b.toInt = m.toInt ∨ (128 ≤ m.toInt ∧ b.toInt = m.toInt - 256))
theorem and255 (y : Int32) : (y &&& 255).toInt = y.toInt % 256 := by
  have h1 : (y &&& 255).toBitVec.toNat = y.toBitVec.toNat % 256 := by
    show (y.toBitVec &&& (255 : Int32).toBitVec).toNat = _
    rw [BitVec.toNat_and, show (255 : Int32).toBitVec.toNat = 2 ^ 8 - 1 from by decide, Nat.and_two_pow_sub_one_eq_mod]
  have h2 : (y &&& 255).toInt = (y &&& 255).toBitVec.toInt := rfl
  have h3 : y.toInt = y.toBitVec.toInt := rfl
  have h4 := BitVec.toInt_eq_toNat_cond (y &&& 255).toBitVec
  have h5 := BitVec.toInt_eq_toNat_cond y.toBitVec
  have h6 := y.toBitVec.isLt
  rw [h2, h3, h4, h5, h1]
  split <;> split <;> omega
theorem narb (z : Int32) : (vp_nar .byte z).toInt = z.toInt.bmod 256 := by
  show (z.toInt8.toInt32).toInt = _
  rw [Int8.toInt_toInt32, Int32.toInt_toInt8]
theorem tb_y (y : Int32) : tb (vp_nar .byte y.toInt8.toInt32) (y &&& 255) := by
  have h1 := and255 y
  have h2 : (vp_nar .byte y.toInt8.toInt32).toInt = (y.toInt.bmod 256).bmod 256 := by
    rw [narb, Int8.toInt_toInt32, Int32.toInt_toInt8]
  rw [Int.bmod_bmod] at h2
  unfold tb
  rw [h1, h2]
  have h3 : y.toInt.bmod 256 = if y.toInt % 256 < (256 + 1) / 2 then y.toInt % 256 else y.toInt % 256 - 256 := Int.bmod_def ..
  rw [h3]
  split <;> omega
theorem tb_l {b m : Int32} (h : tb b m) : ch_l m = ch_l b := by
  obtain ⟨h1, h2, h3⟩ := h
  unfold ch_l
  rw [← Bool.decide_and, ← Bool.decide_and]
  exact decide_eq_decide.mpr (by omega)
theorem tb_d {b m : Int32} (h : tb b m) : ch_d m = ch_d b := by
  obtain ⟨h1, h2, h3⟩ := h
  unfold ch_d
  rw [← Bool.decide_and, ← Bool.decide_and]
  exact decide_eq_decide.mpr (by omega)
theorem tb_c {b m c : Int32} (hc : 0 ≤ c.toInt) (hc2 : c.toInt < 128) (h : tb b m) : (m = c) ↔ (b = c) := by
  obtain ⟨h1, h2, h3⟩ := h
  rw [← Int32.toInt_inj, ← Int32.toInt_inj]
  omega
theorem tb_s {b m : Int32} (h : tb b m) : ch_s m = ch_s b := decide_eq_decide.mpr (tb_c (by decide) (by decide) h)
/-- where the sign is a letter or a digit it is the same on both -/
theorem tb_eq {b m : Int32} (h : tb b m) (hb : ch_l b = true ∨ ch_d b = true) : m = b := by
  obtain ⟨h1, h2, h3⟩ := h
  have : 0 ≤ b.toInt := by
    rcases hb with hb | hb
    · unfold ch_l at hb
      simp only [Bool.and_eq_true, decide_eq_true_eq] at hb
      omega
    · unfold ch_d at hb
      simp only [Bool.and_eq_true, decide_eq_true_eq] at hb
      omega
  exact Int32.toInt_inj.mp (by omega)
theorem tk_e_tb {p : Int32 → Bool} {T T' : Nat → Int32} {N k e : Nat} (h : ∀ j, j < N → p (T' j) = p (T j)) (he : tk_e p T' N k e) : tk_e p T N k e := ⟨he.1, he.2.1, fun j a b => by rw [← h j (by have := he.2.1; omega)]; exact he.2.2.1 j a b, fun a => by rw [← h e a]; exact he.2.2.2 a⟩
theorem tk_v_tb {T T' : Nat → Int32} {s : Nat} : ∀ c, (∀ j, j < c → T' (s + j) = T (s + j)) → tk_v T' s c = tk_v T s c
  | 0, _ => rfl
  | c + 1, h => by rw [tk_v_succ, tk_v_succ, tk_v_tb c (fun j hj => h j (by omega)), h c (by omega)]
/-- the two tokens -/
def tk_r (T : Nat → Int32) (s e : Nat) (kd va : Int32) (wd : Int64) (tok wh : Int32) (ns : Nat) : Prop :=
  (kd = 0 ∧ tok = 0) ∨ (kd = 1 ∧ tok = 2 ∧ ns = e - s ∧ ns ≤ 8 ∧ 0 < ns ∧ wd = tk_w T s ns ∧ ∀ j, s ≤ j → j < e → ch_l (T j) = true) ∨ (kd = 2 ∧ tok = 3 ∧ va = wh) ∨ (kd = 3 ∧ tok = 59) ∨ (kd = 4 ∧ tok = 1)
theorem tk_two {T T' : Nat → Int32} {N k s e s' e' : Nat} {kd va tok wh : Int32} {wd : Int64} {ns : Nat} (h : ∀ j, j < N → tb (T j) (T' j)) (a1 : tk_e ch_s T N k s) (a2 : tk_k T N s e kd va wd) (b1 : tk_e ch_s T' N k s') (b2 : mk_k T' N s' e' tok wh ns) : s' = s ∧ e' = e ∧ tk_r T s e kd va wd tok wh ns := by
  have hs : s' = s := tk_e_uni (tk_e_tb (fun j hj => tb_s (h j hj)) b1) a1
  subst hs
  refine ⟨rfl, ?_⟩
  rcases b2 with ⟨c1, rfl, rfl, rfl, rfl⟩ | ⟨c1, c2, c3, rfl, rfl, rfl⟩ | ⟨c1, c2, c3, c4, rfl, rfl, rfl⟩ | ⟨c1, c2, c3, rfl, rfl, rfl, rfl⟩
  · rcases a2 with ⟨d1, rfl, rfl, rfl, rfl⟩ | ⟨d1, -⟩ | ⟨d1, -⟩ | ⟨d1, -⟩
    · exact ⟨rfl, Or.inl ⟨rfl, rfl⟩⟩
    · omega
    · omega
    · omega
  · rw [tb_l (h s' c1)] at c2
    have c3' := tk_e_tb (fun j hj => tb_l (h j hj)) c3
    have hpos : s' < e' := by
      rcases Nat.lt_or_ge s' e' with hh | hh
      · exact hh
      · have : e' = s' := by have := c3'.1; omega
        have h4 := c3'.2.2.2 (by omega)
        rw [this, c2] at h4
        cases h4
    rcases a2 with ⟨d1, -⟩ | ⟨d1, d2, d3, rfl, rfl, rfl⟩ | ⟨d1, d2, -⟩ | ⟨d1, d2, -⟩
    · omega
    · have := tk_e_uni c3' d3
      subst this
      refine ⟨rfl, ?_⟩
      by_cases h8 : e' - s' ≤ 8
      · exact Or.inr (Or.inl ⟨if_pos h8, if_pos h8, rfl, h8, by omega, rfl, c3'.2.2.1⟩)
      · exact Or.inr (Or.inr (Or.inr (Or.inr ⟨if_neg h8, if_neg h8⟩)))
    · rw [c2] at d2; cases d2
    · rw [c2] at d2; cases d2
  · rw [tb_l (h s' c1)] at c2
    rw [tb_d (h s' c1)] at c3
    have c4' := tk_e_tb (fun j hj => tb_d (h j hj)) c4
    rcases a2 with ⟨d1, -⟩ | ⟨d1, d2, -⟩ | ⟨d1, d2, d3, d4, rfl, rfl, rfl⟩ | ⟨d1, d2, d3, -⟩
    · omega
    · rw [c2] at d2; cases d2
    · have := tk_e_uni c4' d4
      subst this
      refine ⟨rfl, ?_⟩
      by_cases h8 : e' - s' ≤ 3
      · refine Or.inr (Or.inr (Or.inl ⟨if_pos h8, if_pos h8, ?_⟩))
        rw [Nat.min_eq_left h8]
        refine (tk_v_tb _ (fun j hj => ?_)).symm
        have hj2 : s' + j < e' := by omega
        exact tb_eq (h _ (by have := c4'.2.1; omega)) (Or.inr (c4'.2.2.1 _ (by omega) hj2))
      · exact Or.inr (Or.inr (Or.inr (Or.inr ⟨if_neg h8, if_neg h8⟩)))
    · rw [c3] at d3; cases d3
  · rw [tb_l (h s' c1)] at c2
    rw [tb_d (h s' c1)] at c3
    rcases a2 with ⟨d1, -⟩ | ⟨d1, d2, -⟩ | ⟨d1, d2, d3, -⟩ | ⟨d1, d2, d3, rfl, rfl, rfl, rfl⟩
    · omega
    · rw [c2] at d2; cases d2
    · rw [c3] at d3; cases d3
    · refine ⟨rfl, ?_⟩
      have h59 := tb_c (c := 59) (by decide) (by decide) (h s' c1)
      by_cases hc : T s' = 59
      · exact Or.inr (Or.inr (Or.inr (Or.inl ⟨if_pos hc, if_pos (h59.mpr hc)⟩)))
      · exact Or.inr (Or.inr (Or.inr (Or.inr ⟨if_neg hc, if_neg (fun hh => hc (h59.mp hh))⟩)))
