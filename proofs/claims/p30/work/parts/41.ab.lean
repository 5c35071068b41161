/-! AB: an interpreter over bounds. A value: (0, n) the int n, (1, cs) a reference to one of the cells cs, (2) null, (3, k) the k-th variable, (6) a long, (7, cs) null or one of cs -/
abbrev ab_A : Type := Nat × Int × List Nat
/-- a variable: its bounds, and the operation on two values that it is (0: none) -/
abbrev ab_Ke : Type := Int × Int × Nat × ab_A × ab_A
abbrev ab_K : Type := List ab_Ke
/-- what is known of places of the memory -/
abbrev ab_Ca : Type := List (Nat × Nat × ab_A)
abbrev ab_S : Type := Nat × List (Nat × ab_A) × List ab_A × ab_K × ab_Ca
def ab_c (n : Int) : ab_A := (0, n, [])
def ab_x (k : Nat) : ab_A := (3, (k : Int), [])
def ab_i (ρ : List Int32) (a : ab_A) : Option Int32 := match a.1 with
  | 0 => some (Int32.ofInt a.2.1)
  | 3 => ρ[a.2.1.toNat]?
  | _ => none
def ab_v (ρ : List Int32) (a : ab_A) (v : Value) : Prop := match a.1 with
  | 0 => v = .int (Int32.ofInt a.2.1)
  | 1 => ∃ c, c ∈ a.2.2 ∧ v = .ref c
  | 2 => v = .null
  | 3 => ∃ x, ρ[a.2.1.toNat]? = some x ∧ v = .int x
  | 6 => ∃ x, v = .long x
  | 7 => v = .null ∨ ∃ c, c ∈ a.2.2 ∧ v = .ref c
  | _ => False
def ab_isI (a : ab_A) : Bool := Nat.beq a.1 0 || Nat.beq a.1 3
theorem ab_vi {ρ : List Int32} {a : ab_A} {v : Value} (h : ab_isI a = true) (hv : ab_v ρ a v) : ∃ x, ab_i ρ a = some x ∧ v = .int x := by
  obtain ⟨t, n, cs⟩ := a
  simp only [ab_isI, Bool.or_eq_true, Nat.beq_eq] at h
  rcases h with rfl | rfl
  · exact ⟨_, rfl, hv⟩
  · exact hv
theorem ab_iv {ρ : List Int32} {a : ab_A} {x : Int32} (h : ab_i ρ a = some x) : ab_v ρ a (.int x) := by
  obtain ⟨t, n, cs⟩ := a
  unfold ab_i at h
  split at h
  · rename_i e
    dsimp only at e
    subst e
    cases h
    rfl
  · rename_i e
    dsimp only at e
    subst e
    exact ⟨x, h, rfl⟩
  · cases h
theorem ab_ivI {ρ : List Int32} {a : ab_A} {x : Int32} (h : ab_i ρ a = some x) : ab_isI a = true := by
  obtain ⟨t, n, cs⟩ := a
  unfold ab_i at h
  split at h
  · rename_i e
    dsimp only at e
    subst e
    rfl
  · rename_i e
    dsimp only at e
    subst e
    rfl
  · cases h
theorem ab_vint {ρ : List Int32} {a : ab_A} {x : Int32} (h : ab_v ρ a (.int x)) : ab_i ρ a = some x := by
  obtain ⟨t, n, cs⟩ := a
  unfold ab_v at h
  split at h
  · rename_i e
    dsimp only at e
    subst e
    cases h
    rfl
  · obtain ⟨c, -, h⟩ := h
    cases h
  · cases h
  · rename_i e
    dsimp only at e
    subst e
    obtain ⟨y, h1, h2⟩ := h
    cases h2
    exact h1
  · obtain ⟨c, h⟩ := h
    cases h
  · rcases h with h | ⟨c, -, h⟩ <;> cases h
  · exact h.elim
/-- the category of a value by its tag -/
theorem ab_cat {ρ : List Int32} {a : ab_A} {v : Value} (hv : ab_v ρ a v) : (a.1 = 6 ∧ v.category = 2) ∨ (a.1 ≠ 6 ∧ v.category = 1) := by
  obtain ⟨t, n, cs⟩ := a
  unfold ab_v at hv
  split at hv
  · rename_i e; dsimp only at e; subst e; subst hv; exact Or.inr ⟨(by dsimp only; omega), rfl⟩
  · rename_i e; dsimp only at e; subst e; obtain ⟨c, -, rfl⟩ := hv; exact Or.inr ⟨(by dsimp only; omega), rfl⟩
  · rename_i e; dsimp only at e; subst e; subst hv; exact Or.inr ⟨(by dsimp only; omega), rfl⟩
  · rename_i e; dsimp only at e; subst e; obtain ⟨c, -, rfl⟩ := hv; exact Or.inr ⟨(by dsimp only; omega), rfl⟩
  · rename_i e; dsimp only at e; subst e; obtain ⟨c, rfl⟩ := hv; exact Or.inl ⟨rfl, rfl⟩
  · rename_i e
    dsimp only at e
    subst e
    rcases hv with rfl | ⟨c, -, rfl⟩
    · exact Or.inr ⟨(by dsimp only; omega), rfl⟩
    · exact Or.inr ⟨(by dsimp only; omega), rfl⟩
  · exact hv.elim
/-- variables are added behind -/
theorem ab_i_ap {ρ ext : List Int32} {a : ab_A} {x : Int32} (h : ab_i ρ a = some x) : ab_i (ρ ++ ext) a = some x := by
  unfold ab_i at h ⊢
  split at h
  · exact h
  · exact ev_ap h
  · cases h
theorem ab_v_ap {ρ ext : List Int32} {a : ab_A} {v : Value} (h : ab_v ρ a v) : ab_v (ρ ++ ext) a v := by
  unfold ab_v at h ⊢
  split at h
  · exact h
  · exact h
  · exact h
  · obtain ⟨x, h1, h2⟩ := h
    exact ⟨x, ev_ap h1, h2⟩
  · exact h
  · exact h
  · exact h
def ab_e (ρ : List Int32) (r : ab_Ke) (x : Int32) : Prop := ev_inb (r.1, r.2.1) x ∧ (r.2.2.1 = 0 ∨ ∃ y z, ab_i ρ r.2.2.2.1 = some y ∧ ab_i ρ r.2.2.2.2 = some z ∧ x = ev_f r.2.2.1 y z)
def ab_k (ρ : List Int32) (K : ab_K) : Prop := K.length = ρ.length ∧ ∀ (j : Nat) (r : ab_Ke) (x : Int32), K[j]? = some r → ρ[j]? = some x → ab_e ρ r x
theorem ab_e_ap {ρ ext : List Int32} {r : ab_Ke} {x : Int32} (h : ab_e ρ r x) : ab_e (ρ ++ ext) r x := by
  refine ⟨h.1, ?_⟩
  rcases h.2 with h | ⟨y, z, h1, h2, h3⟩
  · exact Or.inl h
  · exact Or.inr ⟨y, z, ab_i_ap h1, ab_i_ap h2, h3⟩
/-- the bounds of an int -/
def ab_bd (K : ab_K) (a : ab_A) : Int × Int := match a.1 with
  | 0 => ((Int32.ofInt a.2.1).toInt, (Int32.ofInt a.2.1).toInt)
  | 3 => (match K[a.2.1.toNat]? with
    | some r => (r.1, r.2.1)
    | none => ev_ful)
  | _ => ev_ful
theorem ab_bd_in {ρ : List Int32} {K : ab_K} {a : ab_A} {x : Int32} (hk : ab_k ρ K) (h : ab_i ρ a = some x) : ev_inb (ab_bd K a) x := by
  unfold ab_i at h
  unfold ab_bd
  split at h
  · cases h
    exact ⟨Int.le_refl _, Int.le_refl _⟩
  · split
    · rename_i r hr
      exact (hk.2 _ r x hr h).1
    · exact ev_ful_in x
  · cases h
/-- a new variable, or a number where both are numbers -/
def ab_new (K : ab_K) (op : Nat) (a b : ab_A) : ab_A × ab_K :=
  if a.1 == 0 && b.1 == 0 then (ab_c (ev_f op (Int32.ofInt a.2.1) (Int32.ofInt b.2.1)).toInt, K)
  else (ab_x K.length, K ++ [((ev_bd op (ab_bd K a) (ab_bd K b)).1, (ev_bd op (ab_bd K a) (ab_bd K b)).2, op, a, b)])
def ab_any (K : ab_K) (b : Int × Int) : ab_A × ab_K := (ab_x K.length, K ++ [(b.1, b.2, 0, ab_c 0, ab_c 0)])
theorem ab_push {ρ : List Int32} {K : ab_K} {r : ab_Ke} {x : Int32} (hk : ab_k ρ K) (hr : ab_e ρ r x) : ab_k (ρ ++ [x]) (K ++ [r]) := by
  refine ⟨by simp [hk.1], fun j q y h1 h2 => ?_⟩
  by_cases hj : j < K.length
  · rw [List.getElem?_append_left hj] at h1
    rw [List.getElem?_append_left (by rw [← hk.1]; exact hj)] at h2
    exact ab_e_ap (hk.2 j q y h1 h2)
  · rw [List.getElem?_append_right (by omega)] at h1
    rw [List.getElem?_append_right (by rw [← hk.1]; omega)] at h2
    have h3 : j - K.length < 1 := (List.getElem?_eq_some_iff.mp h1).1
    have h4 : j - K.length = 0 := by omega
    have h5 : j - ρ.length = 0 := by rw [← hk.1]; omega
    rw [h4] at h1
    rw [h5] at h2
    cases h1
    cases h2
    exact ab_e_ap hr
theorem ab_x_at {ρ : List Int32} {K : ab_K} (hk : ab_k ρ K) (x : Int32) : ab_i (ρ ++ [x]) (ab_x K.length) = some x := by
  show (ρ ++ [x])[((K.length : Int)).toNat]? = some x
  rw [Int.toNat_natCast, hk.1]
  simp
theorem ab_c_at (ρ : List Int32) (x : Int32) : ab_i ρ (ab_c x.toInt) = some x := by
  show some (Int32.ofInt x.toInt) = some x
  rw [Int32.ofInt_toInt]
theorem ab_new_ok {ρ : List Int32} {K K' : ab_K} {op : Nat} {a b c : ab_A} {x y : Int32} (hk : ab_k ρ K) (ha : ab_i ρ a = some x) (hb : ab_i ρ b = some y) (h : ab_new K op a b = (c, K')) : ∃ ext, ab_k (ρ ++ ext) K' ∧ ab_i (ρ ++ ext) c = some (ev_f op x y) := by
  unfold ab_new at h
  split at h
  · rename_i hz
    cases h
    simp only [Bool.and_eq_true, beq_iff_eq] at hz
    obtain ⟨ta, na, ca⟩ := a
    obtain ⟨tb, nb, cb⟩ := b
    obtain ⟨rfl, rfl⟩ := hz
    cases ha
    cases hb
    exact ⟨[], by simpa using hk, by rw [List.append_nil]; exact ab_c_at _ _⟩
  · cases h
    exact ⟨[ev_f op x y], ab_push hk ⟨ev_bd_in (ab_bd_in hk ha) (ab_bd_in hk hb), Or.inr ⟨x, y, ha, hb, rfl⟩⟩, ab_x_at hk _⟩
theorem ab_any_ok {ρ : List Int32} {K K' : ab_K} {b : Int × Int} {c : ab_A} {x : Int32} (hk : ab_k ρ K) (hx : ev_inb b x) (h : ab_any K b = (c, K')) : ∃ ext, ab_k (ρ ++ ext) K' ∧ ab_i (ρ ++ ext) c = some x := by
  cases h
  exact ⟨[x], ab_push hk ⟨hx, Or.inl rfl⟩, ab_x_at hk _⟩
/-! bounds are narrowed -/
def ab_set1 (K : ab_K) (a : ab_A) (b : Int × Int) : ab_K := if a.1 == 3 then (match K[a.2.1.toNat]? with
    | some r => K.set a.2.1.toNat (b.1, b.2, r.2.2)
    | none => K) else K
theorem ab_set1_ok {ρ : List Int32} {K : ab_K} {a : ab_A} {b : Int × Int} {x : Int32} (hk : ab_k ρ K) (ha : ab_i ρ a = some x) (hb : ev_inb b x) : ab_k ρ (ab_set1 K a b) := by
  unfold ab_set1
  split
  · rename_i h3
    split
    · rename_i r hr
      have hl := (List.getElem?_eq_some_iff.mp hr).1
      refine ⟨by rw [List.length_set]; exact hk.1, fun j q y h1 h2 => ?_⟩
      by_cases hj : j = a.2.1.toNat
      · subst hj
        rw [List.getElem?_set_self hl] at h1
        cases h1
        have h4 : a.1 = 3 := beq_iff_eq.mp h3
        unfold ab_i at ha
        rw [h4] at ha
        have ha : ρ[a.2.1.toNat]? = some x := ha
        rw [ha] at h2
        cases h2
        exact ⟨hb, (hk.2 _ r x hr ha).2⟩
      · rw [List.getElem?_set_ne (Ne.symm hj)] at h1
        exact hk.2 j q y h1 h2
    · exact hk
  · exact hk
/-- the bounds of x when x r y holds -/
def ab_nar (r : Nat) (x y : Int × Int) : Int × Int := match r with
  | 0 => (max x.1 y.1, min x.2 y.2)
  | 1 => if y.1 = y.2 then (if x.1 = y.1 then (x.1 + 1, x.2) else if x.2 = y.1 then (x.1, x.2 - 1) else x) else x
  | 2 => (x.1, min x.2 (y.2 - 1))
  | 3 => (max x.1 y.1, x.2)
  | 4 => (max x.1 (y.1 + 1), x.2)
  | _ => (x.1, min x.2 y.2)
theorem ab_nar_in {r : Nat} {b d : Int × Int} {x y : Int32} (hx : ev_inb b x) (hy : ev_inb d y) (h : ev_cmp r x y = true) : ev_inb (ab_nar r b d) x := by
  obtain ⟨x1, x2⟩ := hx
  obtain ⟨y1, y2⟩ := hy
  unfold ab_nar
  unfold ev_cmp at h
  split
  · have h : x = y := of_decide_eq_true h
    subst h
    exact ⟨by dsimp only; omega, by dsimp only; omega⟩
  · have h : ¬ x = y := by simpa using h
    have h : x.toInt ≠ y.toInt := fun q => h (Int32.toInt_inj.mp q)
    split
    · split
      · exact ⟨by dsimp only; omega, by dsimp only; omega⟩
      · split
        · exact ⟨by dsimp only; omega, by dsimp only; omega⟩
        · exact ⟨x1, x2⟩
    · exact ⟨x1, x2⟩
  · have h := Int32.lt_iff_toInt_lt.mp (of_decide_eq_true h)
    exact ⟨by dsimp only; omega, by dsimp only; omega⟩
  · have h := Int32.le_iff_toInt_le.mp (of_decide_eq_true h)
    exact ⟨by dsimp only; omega, by dsimp only; omega⟩
  · have h := Int32.lt_iff_toInt_lt.mp (of_decide_eq_true h)
    exact ⟨by dsimp only; omega, by dsimp only; omega⟩
  · rename_i n0 n1 n2 n3 n4
    have h : x ≤ y := by
      rcases r with _ | _ | _ | _ | _ | r
      · exact absurd rfl n0
      · exact absurd rfl n1
      · exact absurd rfl n2
      · exact absurd rfl n3
      · exact absurd rfl n4
      · exact of_decide_eq_true h
    have h := Int32.le_iff_toInt_le.mp h
    exact ⟨by dsimp only; omega, by dsimp only; omega⟩
def ab_swp (r : Nat) : Nat := match r with
  | 0 => 0
  | 1 => 1
  | 2 => 4
  | 3 => 5
  | 4 => 2
  | _ => 3
theorem ab_swp_ok {r : Nat} {x y : Int32} (h : ev_cmp r x y = true) : ev_cmp (ab_swp r) y x = true := by
  rcases r with _ | _ | _ | _ | _ | r
  · simp only [ev_cmp, ab_swp, decide_eq_true_eq] at h ⊢
    exact h.symm
  · simp only [ev_cmp, ab_swp, Bool.not_eq_true', decide_eq_false_iff_not] at h ⊢
    exact fun q => h q.symm
  · simpa [ev_cmp, ab_swp] using h
  · simpa [ev_cmp, ab_swp] using h
  · simpa [ev_cmp, ab_swp] using h
  · simpa [ev_cmp, ab_swp] using h
def ab_ngt (r : Nat) : Nat := match r with
  | 0 => 1
  | 1 => 0
  | 2 => 3
  | 3 => 2
  | 4 => 5
  | _ => 4
theorem ab_ngt_ok {r : Nat} {x y : Int32} (h : ev_cmp r x y = false) : ev_cmp (ab_ngt r) x y = true := by
  rcases r with _ | _ | _ | _ | _ | r
  · simpa [ev_cmp, ab_ngt] using h
  · simpa [ev_cmp, ab_ngt] using h
  · simpa [ev_cmp, ab_ngt] using h
  · simpa [ev_cmp, ab_ngt] using h
  · simpa [ev_cmp, ab_ngt] using h
  · simpa [ev_cmp, ab_ngt] using h
/-- back through a sum: x + c within bounds, so x -/
def ab_back (K : ab_K) (a : ab_A) : ab_K := if a.1 == 3 then (match K[a.2.1.toNat]? with
    | some r => (match r.2.2.2.2.1 with
      | 0 =>
        let u := r.2.2.2.1
        let c := (Int32.ofInt r.2.2.2.2.2.1).toInt
        let b := ab_bd K u
        if r.2.2.1 = 1 ∧ -2147483648 ≤ b.1 + c ∧ b.2 + c ≤ 2147483647 then ab_set1 K u (max b.1 (r.1 - c), min b.2 (r.2.1 - c))
        else if r.2.2.1 = 2 ∧ -2147483648 ≤ b.1 - c ∧ b.2 - c ≤ 2147483647 then ab_set1 K u (max b.1 (r.1 + c), min b.2 (r.2.1 + c))
        else K
      | _ => K)
    | none => K) else K
theorem ab_back_ok {ρ : List Int32} {K : ab_K} {a : ab_A} {x : Int32} (hk : ab_k ρ K) (ha : ab_i ρ a = some x) : ab_k ρ (ab_back K a) := by
  unfold ab_back
  split
  · rename_i h3
    split
    · rename_i r hr
      split
      · rename_i h0
        have h4 : a.1 = 3 := beq_iff_eq.mp h3
        unfold ab_i at ha
        rw [h4] at ha
        have ha : ρ[a.2.1.toNat]? = some x := ha
        obtain ⟨⟨b1, b2⟩, hd⟩ := hk.2 _ r x hr ha
        dsimp only at b1 b2 ⊢
        have hc : ab_i ρ r.2.2.2.2 = some (Int32.ofInt r.2.2.2.2.2.1) := by
          unfold ab_i
          rw [h0]
          rfl
        split
        · rename_i hc1
          rcases hd with hd | ⟨y, z, hy, hz, e⟩
          · omega
          · rw [hc] at hz
            cases hz
            obtain ⟨y1, y2⟩ := ab_bd_in hk hy
            rw [hc1.1] at e
            have e : x = y + Int32.ofInt r.2.2.2.2.2.1 := e
            have e2 : x.toInt = y.toInt + (Int32.ofInt r.2.2.2.2.2.1).toInt := by
              rw [e, Int32.toInt_add]
              exact ev_bm (by omega) (by omega)
            exact ab_set1_ok hk hy ⟨by dsimp only; omega, by dsimp only; omega⟩
        · split
          · rename_i hc1
            rcases hd with hd | ⟨y, z, hy, hz, e⟩
            · omega
            · rw [hc] at hz
              cases hz
              obtain ⟨y1, y2⟩ := ab_bd_in hk hy
              rw [hc1.1] at e
              have e : x = y - Int32.ofInt r.2.2.2.2.2.1 := e
              have e2 : x.toInt = y.toInt - (Int32.ofInt r.2.2.2.2.2.1).toInt := by
                rw [e, Int32.toInt_sub]
                exact ev_bm (by omega) (by omega)
              exact ab_set1_ok hk hy ⟨by dsimp only; omega, by dsimp only; omega⟩
          · exact hk
      · exact hk
    · exact hk
  · exact hk
/-- a relation: r is y - x within bounds, so x is at most y's highest less r's lowest -/
def ab_rel1 (K : ab_K) (r : ab_Ke) : ab_K := if -2147483648 ≤ (ab_bd K r.2.2.2.1).1 - (ab_bd K r.2.2.2.2).2 ∧ (ab_bd K r.2.2.2.1).2 - (ab_bd K r.2.2.2.2).1 ≤ 2147483647 then ab_set1 K r.2.2.2.2 ((ab_bd K r.2.2.2.2).1, min (ab_bd K r.2.2.2.2).2 ((ab_bd K r.2.2.2.1).2 - r.1)) else K
def ab_rel : List ab_Ke → ab_K → ab_K
  | [], K => K
  | r :: l, K => ab_rel l (if r.2.2.1 = 22 then ab_rel1 K r else K)
theorem ab_rel1_ok {ρ : List Int32} {K : ab_K} {r : ab_Ke} {w : Int32} (hk : ab_k ρ K) (h22 : r.2.2.1 = 22) (hr : ab_e ρ r w) : ab_k ρ (ab_rel1 K r) := by
  unfold ab_rel1
  split
  · rename_i hc
    rcases hr.2 with hz | ⟨y, x, hy, hx, e⟩
    · omega
    · obtain ⟨y1, y2⟩ := ab_bd_in hk hy
      obtain ⟨x1, x2⟩ := ab_bd_in hk hx
      obtain ⟨w1, w2⟩ := hr.1
      rw [h22] at e
      have e : w = y - x := e
      have e2 : w.toInt = y.toInt - x.toInt := by
        rw [e, Int32.toInt_sub]
        exact ev_bm (by omega) (by omega)
      dsimp only at w1 w2
      exact ab_set1_ok hk hx ⟨by dsimp only; omega, by dsimp only; omega⟩
  · exact hk
theorem ab_rel_ok {ρ : List Int32} : ∀ (l : List ab_Ke) {K : ab_K}, (∀ r ∈ l, ∃ w, ab_e ρ r w) → ab_k ρ K → ab_k ρ (ab_rel l K)
  | [], K, _, hk => hk
  | r :: l, K, hl, hk => by
    unfold ab_rel
    refine ab_rel_ok l (fun q hq => hl q (List.mem_cons_of_mem _ hq)) ?_
    split
    · rename_i h22
      obtain ⟨w, hw⟩ := hl r List.mem_cons_self
      exact ab_rel1_ok hk h22 hw
    · exact hk
theorem ab_k_all {ρ : List Int32} {K : ab_K} (hk : ab_k ρ K) : ∀ r ∈ K, ∃ w, ab_e ρ r w := by
  intro r hr
  obtain ⟨j, hj⟩ := List.getElem?_of_mem hr
  have hl : j < ρ.length := by rw [← hk.1]; exact (List.getElem?_eq_some_iff.mp hj).1
  exact ⟨ρ[j], hk.2 j r _ hj (List.getElem?_eq_getElem hl)⟩
/-- what is known when a r b holds: none if it can't -/
def ab_br (r : Nat) (a b : ab_A) (K : ab_K) : Option ab_K :=
  let x := ab_bd K a
  let y := ab_bd K b
  let x' := ab_nar r x y
  let y' := ab_nar (ab_swp r) y x
  if x'.1 ≤ x'.2 ∧ y'.1 ≤ y'.2 then some (ab_rel K (ab_back (ab_back (ab_set1 (ab_set1 K a x') b y') a) b)) else none
theorem ab_br_ok {ρ : List Int32} {K : ab_K} {r : Nat} {a b : ab_A} {x y : Int32} (hk : ab_k ρ K) (ha : ab_i ρ a = some x) (hb : ab_i ρ b = some y) (h : ev_cmp r x y = true) : ∃ K', ab_br r a b K = some K' ∧ ab_k ρ K' := by
  have hx := ab_bd_in hk ha
  have hy := ab_bd_in hk hb
  have h1 := ab_nar_in hx hy h
  have h2 := ab_nar_in hy hx (ab_swp_ok h)
  unfold ab_br
  dsimp only
  rw [if_pos ⟨Int.le_trans h1.1 h1.2, Int.le_trans h2.1 h2.2⟩]
  exact ⟨_, rfl, ab_rel_ok K (ab_k_all hk) (ab_back_ok (ab_back_ok (ab_set1_ok (ab_set1_ok hk ha h1) hb h2) ha) hb)⟩
