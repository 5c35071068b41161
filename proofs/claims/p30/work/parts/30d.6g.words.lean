/-! WORDS: as a number, as letters -/
def pk (f : Nat → Int) : Nat → Int
  | 0 => 0
  | c + 1 => pk f c * 32 + f c
theorem pk_bd {f : Nat → Int} : ∀ n, (∀ j, j < n → 1 ≤ f j ∧ f j ≤ 26) → 0 ≤ pk f n ∧ pk f n < 32 ^ n
  | 0, _ => ⟨Int.le_refl _, by show (0 : Int) < 32 ^ 0; decide⟩
  | n + 1, h => by
    obtain ⟨a, b⟩ := pk_bd n (fun j hj => h j (by omega))
    have hn := h n (by omega)
    have e : (32 : Int) ^ (n + 1) = 32 ^ n * 32 := Int.pow_succ 32 n
    unfold pk
    rw [e]
    omega
theorem pk_inj {f g : Nat → Int} : ∀ n m, (∀ j, j < n → 1 ≤ f j ∧ f j ≤ 26) → (∀ j, j < m → 1 ≤ g j ∧ g j ≤ 26) → pk f n = pk g m → n = m ∧ ∀ j, j < n → f j = g j
  | 0, 0, _, _, _ => ⟨rfl, fun j h => by omega⟩
  | 0, m + 1, _, hg, h => by
    have a := (pk_bd m (fun j hj => hg j (by omega))).1
    have b := hg m (by omega)
    have h : (0 : Int) = pk g m * 32 + g m := h
    omega
  | n + 1, 0, hf, _, h => by
    have a := (pk_bd n (fun j hj => hf j (by omega))).1
    have b := hf n (by omega)
    have h : pk f n * 32 + f n = 0 := h
    omega
  | n + 1, m + 1, hf, hg, h => by
    have h : pk f n * 32 + f n = pk g m * 32 + g m := h
    have b := hf n (by omega)
    have d := hg m (by omega)
    obtain ⟨e1, e2⟩ := pk_inj n m (fun j hj => hf j (by omega)) (fun j hj => hg j (by omega)) (by omega)
    subst e1
    refine ⟨rfl, fun j hj => ?_⟩
    rcases Nat.lt_or_ge j n with hh | hh
    · exact e2 j hh
    · have : j = n := by omega
      subst this
      omega
theorem ch_l_bd {x : Int32} (h : ch_l x = true) : 97 ≤ x.toInt ∧ x.toInt ≤ 122 := by
  unfold ch_l at h
  simp only [Bool.and_eq_true, decide_eq_true_eq] at h
  exact h
theorem lbm {n : Int} (h1 : -9223372036854775808 ≤ n) (h2 : n ≤ 9223372036854775807) : n.bmod (2 ^ 64) = n := Int.bmod_eq_of_le (by omega) (by omega)
theorem tk_w_pk {T : Nat → Int32} {s : Nat} : ∀ n, n ≤ 8 → (∀ j, j < n → ch_l (T (s + j)) = true) → (tk_w T s n).toInt = pk (fun j => (T (s + j)).toInt - 96) n
  | 0, _, _ => by show (0 : Int64).toInt = 0; decide
  | n + 1, h8, h => by
    have ih := tk_w_pk n (by omega) (fun j hj => h j (by omega))
    have bd := pk_bd (f := fun j => (T (s + j)).toInt - 96) n (fun j hj => by
      have := ch_l_bd (h j (by omega))
      omega)
    have hb : (32 : Int) ^ n ≤ 32 ^ 7 := by
      have : n = 0 ∨ n = 1 ∨ n = 2 ∨ n = 3 ∨ n = 4 ∨ n = 5 ∨ n = 6 ∨ n = 7 := by omega
      rcases this with rfl | rfl | rfl | rfl | rfl | rfl | rfl | rfl <;> decide
    have h7 : (32 : Int) ^ 7 = 34359738368 := by decide
    have hx := ch_l_bd (h n (by omega))
    have e32 : (32 : Int64).toInt = 32 := by decide
    have e97 : (97 : Int64).toInt = 97 := by decide
    have e1 : (1 : Int64).toInt = 1 := by decide
    rw [tk_w_succ, Int64.toInt_add, Int64.toInt_sub, Int64.toInt_add, Int64.toInt_mul, ih, Int32.toInt_toInt64, e32, e97, e1]
    show _ = pk (fun j => (T (s + j)).toInt - 96) n * 32 + ((T (s + n)).toInt - 96)
    generalize pk (fun j => (T (s + j)).toInt - 96) n = p at bd ⊢
    generalize (T (s + n)).toInt = x at hx ⊢
    rw [lbm (n := p * 32) (by omega) (by omega), lbm (n := p * 32 + x) (by omega) (by omega), lbm (n := p * 32 + x - 97) (by omega) (by omega), lbm (by omega) (by omega)]
    omega
/-- a word's number and its letters -/
def wrep (W : Int64) (L : Nat → Int32) (n : Nat) : Prop := n ≤ 8 ∧ (∀ j, j < n → ch_l (L j) = true) ∧ W = tk_w L 0 n
theorem tk_w_sh (T : Nat → Int32) (s : Nat) : ∀ n, tk_w T s n = tk_w (fun j => T (s + j)) 0 n
  | 0 => rfl
  | n + 1 => by rw [tk_w_succ, tk_w_succ, tk_w_sh T s n, Nat.zero_add]
theorem tk_w_cg {L L' : Nat → Int32} : ∀ n, (∀ j, j < n → L j = L' j) → tk_w L 0 n = tk_w L' 0 n
  | 0, _ => rfl
  | n + 1, h => by rw [tk_w_succ, tk_w_succ, tk_w_cg n (fun j hj => h j (by omega)), Nat.zero_add, h n (by omega)]
theorem wrep_eq {W W' : Int64} {L L' : Nat → Int32} {n n' : Nat} (h : wrep W L n) (h' : wrep W' L' n') : W = W' ↔ (n = n' ∧ ∀ j, j < n → L j = L' j) := by
  obtain ⟨a1, a2, rfl⟩ := h
  obtain ⟨b1, b2, rfl⟩ := h'
  constructor
  · intro he
    have e1 := tk_w_pk (T := L) (s := 0) n a1 (fun j hj => by rw [Nat.zero_add]; exact a2 j hj)
    have e2 := tk_w_pk (T := L') (s := 0) n' b1 (fun j hj => by rw [Nat.zero_add]; exact b2 j hj)
    rw [he, e2] at e1
    obtain ⟨g1, g2⟩ := pk_inj n n' (fun j hj => by
        have := ch_l_bd (a2 j hj)
        rw [Nat.zero_add]
        omega) (fun j hj => by
        have := ch_l_bd (b2 j hj)
        rw [Nat.zero_add]
        omega) e1.symm
    refine ⟨g1, fun j hj => ?_⟩
    have := g2 j hj
    rw [Nat.zero_add] at this
    exact Int32.toInt_inj.mp (by omega)
  · rintro ⟨rfl, he⟩
    exact tk_w_cg n he
theorem sw_tk (B : List Int32) : ∀ n, sw B n = tk_w (fun j => chr (B.getD j 0)) 0 n
  | 0 => rfl
  | n + 1 => by
    rw [tk_w_succ, ← sw_tk B n, Nat.zero_add]
    rfl
set_option maxRecDepth 1000000 in
theorem strs_rep : ∀ r ∈ ev_strs, r.2.2.2.length ≤ 8 ∧ ∀ j, j < r.2.2.2.length → ch_l (chr (r.2.2.2.getD j 0)) = true := by decide +kernel
theorem sn_rep {t : Nat} {r : String × Nat × String × List Int32} (h : ev_strs[t]? = some r) : wrep (sn t) (fun j => chr (r.2.2.2.getD j 0)) r.2.2.2.length := by
  obtain ⟨a, b⟩ := strs_rep r (List.mem_of_getElem? h)
  refine ⟨a, b, ?_⟩
  unfold sn
  rw [h]
  exact sw_tk _ _
