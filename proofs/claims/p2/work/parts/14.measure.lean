/-! MEASURES: weighted sums of (bound - variable) or (variable - bound), and a check that they fall -/
/-- weight; 0 bound - variable, 1 variable - bound, 2 the bound; bound; variable -/
abbrev ev_Mt : Type := Nat × Nat × Int × Nat
def ev_zi (vs : List Value) (i : Nat) : Int := match vs[i]? with
  | some (.int z) => z.toInt
  | _ => 0
def ev_tu (k : Nat) (B z : Int) : Int := if k = 0 then max 0 (B - z) else if k = 1 then max 0 (z - B) else max 0 B
def ev_tt (t : ev_Mt) (vs : List Value) : Int := (t.1 : Int) * ev_tu t.2.1 t.2.2.1 (ev_zi vs t.2.2.2)
def ev_ms : List ev_Mt → List Value → Int
  | [], _ => 0
  | t :: ts, vs => ev_tt t vs + ev_ms ts vs
theorem ev_tu_nn (k : Nat) (B z : Int) : 0 ≤ ev_tu k B z := by unfold ev_tu; split <;> (try split) <;> omega
theorem ev_ms_nn (vs : List Value) : ∀ ts : List ev_Mt, 0 ≤ ev_ms ts vs
  | [] => Int.le_refl 0
  | t :: ts => Int.add_nonneg (Int.mul_nonneg (Int.natCast_nonneg _) (ev_tu_nn ..)) (ev_ms_nn vs ts)
def ev_mu (tbl : List (List ev_Mt)) (h : Nat) (vs : List Value) : Nat := (ev_ms ((tbl[h]?).getD []) vs).toNat
/-- a value that is there: a constant, one of the first n variables, or a variable with a definition -/
def ev_has (K : ev_K) (n : Nat) (b : ev_A) : Bool := b.1 == 0 || (b.1 == 3 && (decide (b.2.toNat < n) || (match K.1[b.2.toNat]? with
  | some r => r.2.2.1 != 0
  | none => false)))
theorem ev_at3 {g : ev_G} {n : Int} {x : Int32} (h : g.2.2[n.toNat]? = some (.int x)) : ev_v g (3, n) = some (.int x) := by
  simp only [ev_v]
  rw [h]
theorem ev_has_ok {K : ev_K} {gh g : ev_G} {b : ev_A} (hai : ev_ai gh) (hle : ev_le gh g) (hB : ev_b K g) (h : ev_has K gh.2.2.length b = true) : ∃ x : Int32, ev_v g b = some (.int x) := by
  obtain ⟨t, n⟩ := b
  simp only [ev_has, Bool.or_eq_true, Bool.and_eq_true, beq_iff_eq, decide_eq_true_eq] at h
  rcases h with rfl | ⟨rfl, h | h⟩
  · exact ⟨_, rfl⟩
  · obtain ⟨l3, e3⟩ := hle.2.2
    obtain ⟨x, hx⟩ := hai n.toNat _ (List.getElem?_eq_getElem h)
    refine ⟨x, ev_at3 ?_⟩
    rw [e3, List.getElem?_append_left h, List.getElem?_eq_getElem h, hx]
  · split at h
    · rename_i r hr
      have hl : n.toNat < g.2.2.length := by
        rw [← hB.1]
        exact (List.getElem?_eq_some_iff.1 hr).1
      obtain ⟨-, h0 | ⟨x, y, -, -, e⟩⟩ := hB.2.1 n.toNat r _ hr (List.getElem?_eq_getElem hl)
      · rw [h0] at h
        cases h
      · exact ⟨_, ev_at3 (by rw [List.getElem?_eq_getElem hl, e])⟩
    · cases h
/-- a value less a variable, where its definition says it -/
def ev_dl (K : ev_K) (i : Nat) (a : ev_A) : Option Int := if a = (3, (i : Int)) then some 0 else if a.1 = 3 then (match K.1[a.2.toNat]? with
  | some r => if r.2.2.1 = 1 ∧ r.2.2.2.1 = (3, (i : Int)) ∧ r.2.2.2.2.1 = 0 ∧ -2147483648 ≤ (ev_ob K (3, (i : Int))).1 + (Int32.ofInt r.2.2.2.2.2).toInt ∧ (ev_ob K (3, (i : Int))).2 + (Int32.ofInt r.2.2.2.2.2).toInt ≤ 2147483647 then some (Int32.ofInt r.2.2.2.2.2).toInt else if r.2.2.1 = 2 ∧ r.2.2.2.1 = (3, (i : Int)) ∧ r.2.2.2.2.1 = 0 ∧ -2147483648 ≤ (ev_ob K (3, (i : Int))).1 - (Int32.ofInt r.2.2.2.2.2).toInt ∧ (ev_ob K (3, (i : Int))).2 - (Int32.ofInt r.2.2.2.2.2).toInt ≤ 2147483647 then some (-(Int32.ofInt r.2.2.2.2.2).toInt) else none
  | none => none) else none
theorem ev_dl_ok {K : ev_K} {g : ev_G} {i : Nat} {a : ev_A} {c : Int} {x z : Int32} (hB : ev_b K g) (h : ev_dl K i a = some c) (hx : ev_v g (3, (i : Int)) = some (.int x)) (hz : ev_v g a = some (.int z)) : z.toInt = x.toInt + c := by
  unfold ev_dl at h
  split at h
  · rename_i e
    rw [e, hx] at hz
    cases hz
    cases h
    omega
  · split at h
    · rename_i h3
      split at h
      · rename_i r hr
        split at h
        · rename_i hc
          obtain ⟨h1, h2, h4, h5, h6⟩ := hc
          cases h
          have hv := ev_var h3 hz
          obtain ⟨-, h0 | ⟨u, w, hu, hw, e⟩⟩ := hB.2.1 _ r _ hr hv
          · omega
          · rw [h2, hx] at hu
            cases hu
            have e4 : r.2.2.2.2 = (0, r.2.2.2.2.2) := by rw [← h4]
            rw [e4] at hw
            have hw : some (Value.int (Int32.ofInt r.2.2.2.2.2)) = some (.int w) := hw
            cases hw
            rw [h1] at e
            have e : Value.int z = .int (x + Int32.ofInt r.2.2.2.2.2) := e
            cases e
            obtain ⟨b1, b2⟩ := ev_ob_in hB rfl hx
            rw [Int32.toInt_add]
            exact ev_bm (by omega) (by omega)
        · split at h
          · rename_i hc
            obtain ⟨h1, h2, h4, h5, h6⟩ := hc
            cases h
            have hv := ev_var h3 hz
            obtain ⟨-, h0 | ⟨u, w, hu, hw, e⟩⟩ := hB.2.1 _ r _ hr hv
            · omega
            · rw [h2, hx] at hu
              cases hu
              have e4 : r.2.2.2.2 = (0, r.2.2.2.2.2) := by rw [← h4]
              rw [e4] at hw
              have hw : some (Value.int (Int32.ofInt r.2.2.2.2.2)) = some (.int w) := hw
              cases hw
              rw [h1] at e
              have e : Value.int z = .int (x - Int32.ofInt r.2.2.2.2.2) := e
              cases e
              obtain ⟨b1, b2⟩ := ev_ob_in hB rfl hx
              rw [Int32.toInt_sub, ← Int.sub_eq_add_neg]
              exact ev_bm (by omega) (by omega)
          · cases h
      · cases h
    · cases h
