noncomputable def RX0 : String := "BarberMinutes$Agenda"
noncomputable def TX0 : u_T := fun k => match k with
  | 0 => ("BarberMinutes$Agenda", "steps", "[LBarberMinutes$Minutes;", true)
  | 1 => ("BarberMinutes$Agenda", "weeks", "I", false)
  | 2 => ("BarberMinutes$Agenda", "bestRow", "I", false)
  | 3 => ("BarberMinutes$Agenda", "bestWorth", "I", false)
  | _ => ("BarberMinutes$Agenda", "bestCarried", "I", false)
noncomputable def tyX0 : Nat → FieldType := fun k => match k with
  | 0 => .array (.object "BarberMinutes$Minutes")
  | 1 => .int
  | 2 => .int
  | 3 => .int
  | _ => .int
theorem nmX0 : ∀ a, a < 5 → ∀ b, b < 5 → a ≠ b → (TX0 a).2.1 ≠ (TX0 b).2.1 := by decide +kernel
theorem tyX0_ok : ∀ k, k < 5 → parseFieldDescriptor (TX0 k).2.2.1 = some (tyX0 k) := by decide +kernel
noncomputable def RX1 : String := "BarberMinutes$Chance"
noncomputable def TX1 : u_T := fun k => match k with
  | 0 => ("BarberMinutes$Chance", "upper", "J", false)
  | 1 => ("BarberMinutes$Chance", "lower", "J", false)
  | _ => ("BarberMinutes$Chance", "seed", "I", false)
noncomputable def tyX1 : Nat → FieldType := fun k => match k with
  | 0 => .long
  | 1 => .long
  | _ => .int
theorem nmX1 : ∀ a, a < 3 → ∀ b, b < 3 → a ≠ b → (TX1 a).2.1 ≠ (TX1 b).2.1 := by decide +kernel
theorem tyX1_ok : ∀ k, k < 3 → parseFieldDescriptor (TX1 k).2.2.1 = some (tyX1 k) := by decide +kernel
noncomputable def RX2 : String := "BarberMinutes$Minutes"
noncomputable def TX2 : u_T := fun k => match k with
  | 0 => ("BarberMinutes$Minutes", "hair", "[I", true)
  | 1 => ("BarberMinutes$Minutes", "fallen", "[I", true)
  | 2 => ("BarberMinutes$Minutes", "carried", "I", false)
  | _ => ("BarberMinutes$Minutes", "weeks", "I", false)
noncomputable def tyX2 : Nat → FieldType := fun k => match k with
  | 0 => .array .int
  | 1 => .array .int
  | 2 => .int
  | _ => .int
theorem nmX2 : ∀ a, a < 4 → ∀ b, b < 4 → a ≠ b → (TX2 a).2.1 ≠ (TX2 b).2.1 := by decide +kernel
theorem tyX2_ok : ∀ k, k < 4 → parseFieldDescriptor (TX2 k).2.2.1 = some (tyX2 k) := by decide +kernel
noncomputable def RX3 : String := "BarberMinutes$Past"
noncomputable def TX3 : u_T := fun k => match k with
  | 0 => ("BarberMinutes$Past", "before", "[LBarberMinutes$Minutes;", true)
  | 1 => ("BarberMinutes$Past", "drawn", "[LBarberMinutes$Minutes;", true)
  | 2 => ("BarberMinutes$Past", "next", "I", false)
  | 3 => ("BarberMinutes$Past", "acts", "I", false)
  | _ => ("BarberMinutes$Past", "images", "I", false)
noncomputable def tyX3 : Nat → FieldType := fun k => match k with
  | 0 => .array (.object "BarberMinutes$Minutes")
  | 1 => .array (.object "BarberMinutes$Minutes")
  | 2 => .int
  | 3 => .int
  | _ => .int
theorem nmX3 : ∀ a, a < 5 → ∀ b, b < 5 → a ≠ b → (TX3 a).2.1 ≠ (TX3 b).2.1 := by decide +kernel
theorem tyX3_ok : ∀ k, k < 5 → parseFieldDescriptor (TX3 k).2.2.1 = some (tyX3 k) := by decide +kernel
noncomputable def RX4 : String := "BarberMinutes$Reader"
noncomputable def TX4 : u_T := fun k => match k with
  | 0 => ("BarberMinutes$Reader", "text", "[B", false)
  | 1 => ("BarberMinutes$Reader", "end", "I", false)
  | 2 => ("BarberMinutes$Reader", "next", "I", false)
  | 3 => ("BarberMinutes$Reader", "kind", "I", false)
  | 4 => ("BarberMinutes$Reader", "start", "I", false)
  | 5 => ("BarberMinutes$Reader", "value", "I", false)
  | 6 => ("BarberMinutes$Reader", "word", "J", false)
  | 7 => ("BarberMinutes$Reader", "town", "LBarberMinutes$Town;", false)
  | 8 => ("BarberMinutes$Reader", "townTold", "Z", false)
  | 9 => ("BarberMinutes$Reader", "fault", "I", false)
  | 10 => ("BarberMinutes$Reader", "names", "I", false)
  | 11 => ("BarberMinutes$Reader", "nameWord", "[J", true)
  | 12 => ("BarberMinutes$Reader", "nameSort", "[I", true)
  | _ => ("BarberMinutes$Reader", "nameNumber", "[I", true)
noncomputable def tyX4 : Nat → FieldType := fun k => match k with
  | 0 => .array .byte
  | 1 => .int
  | 2 => .int
  | 3 => .int
  | 4 => .int
  | 5 => .int
  | 6 => .long
  | 7 => .object "BarberMinutes$Town"
  | 8 => .boolean
  | 9 => .int
  | 10 => .int
  | 11 => .array .long
  | 12 => .array .int
  | _ => .array .int
theorem nmX4 : ∀ a, a < 14 → ∀ b, b < 14 → a ≠ b → (TX4 a).2.1 ≠ (TX4 b).2.1 := by decide +kernel
theorem tyX4_ok : ∀ k, k < 14 → parseFieldDescriptor (TX4 k).2.2.1 = some (tyX4 k) := by decide +kernel
noncomputable def RX5 : String := "BarberMinutes$Sweepings"
noncomputable def TX5 : u_T := fun k => match k with
  | 0 => ("BarberMinutes$Sweepings", "sets", "[I", true)
  | 1 => ("BarberMinutes$Sweepings", "count", "I", false)
  | _ => ("BarberMinutes$Sweepings", "trial", "LBarberMinutes$Minutes;", true)
noncomputable def tyX5 : Nat → FieldType := fun k => match k with
  | 0 => .array .int
  | 1 => .int
  | _ => .object "BarberMinutes$Minutes"
theorem nmX5 : ∀ a, a < 3 → ∀ b, b < 3 → a ≠ b → (TX5 a).2.1 ≠ (TX5 b).2.1 := by decide +kernel
theorem tyX5_ok : ∀ k, k < 3 → parseFieldDescriptor (TX5 k).2.2.1 = some (tyX5 k) := by decide +kernel
noncomputable def RX6 : String := "BarberMinutes$Tour"
noncomputable def TX6 : u_T := fun k => match k with
  | 0 => ("BarberMinutes$Tour", "order", "[I", true)
  | 1 => ("BarberMinutes$Tour", "best", "[I", true)
  | _ => ("BarberMinutes$Tour", "far", "I", false)
noncomputable def tyX6 : Nat → FieldType := fun k => match k with
  | 0 => .array .int
  | 1 => .array .int
  | _ => .int
theorem nmX6 : ∀ a, a < 3 → ∀ b, b < 3 → a ≠ b → (TX6 a).2.1 ≠ (TX6 b).2.1 := by decide +kernel
theorem tyX6_ok : ∀ k, k < 3 → parseFieldDescriptor (TX6 k).2.2.1 = some (tyX6 k) := by decide +kernel
noncomputable def RX7 : String := "BarberMinutes$Town"
noncomputable def TX7 : u_T := fun k => match k with
  | 0 => ("BarberMinutes$Town", "grows", "I", false)
  | 1 => ("BarberMinutes$Town", "baldBelow", "I", false)
  | 2 => ("BarberMinutes$Town", "shaveChance", "I", false)
  | 3 => ("BarberMinutes$Town", "men", "I", false)
  | 4 => ("BarberMinutes$Town", "colour", "[I", true)
  | 5 => ("BarberMinutes$Town", "firstHair", "[I", true)
  | 6 => ("BarberMinutes$Town", "votes", "[I", true)
  | 7 => ("BarberMinutes$Town", "against", "[I", true)
  | 8 => ("BarberMinutes$Town", "quarrels", "[I", true)
  | 9 => ("BarberMinutes$Town", "motions", "I", false)
  | 10 => ("BarberMinutes$Town", "cuts", "[I", true)
  | 11 => ("BarberMinutes$Town", "needs", "[I", true)
  | 12 => ("BarberMinutes$Town", "worth", "[I", true)
  | 13 => ("BarberMinutes$Town", "amends", "[I", true)
  | 14 => ("BarberMinutes$Town", "rows", "[I", true)
  | 15 => ("BarberMinutes$Town", "chairs", "I", false)
  | 16 => ("BarberMinutes$Town", "chairAt", "[I", true)
  | 17 => ("BarberMinutes$Town", "heap", "[I", true)
  | _ => ("BarberMinutes$Town", "heapsTold", "I", false)
noncomputable def tyX7 : Nat → FieldType := fun k => match k with
  | 0 => .int
  | 1 => .int
  | 2 => .int
  | 3 => .int
  | 4 => .array .int
  | 5 => .array .int
  | 6 => .array .int
  | 7 => .array .int
  | 8 => .array .int
  | 9 => .int
  | 10 => .array .int
  | 11 => .array .int
  | 12 => .array .int
  | 13 => .array .int
  | 14 => .array .int
  | 15 => .int
  | 16 => .array .int
  | 17 => .array .int
  | _ => .int
theorem nmX7 : ∀ a, a < 19 → ∀ b, b < 19 → a ≠ b → (TX7 a).2.1 ≠ (TX7 b).2.1 := by decide +kernel
theorem tyX7_ok : ∀ k, k < 19 → parseFieldDescriptor (TX7 k).2.2.1 = some (tyX7 k) := by decide +kernel
noncomputable def RX8 : String := "BarberMinutes"
noncomputable def TX8 : u_T := fun k => match k with
  | 0 => ("BarberMinutes", "tape", "[B", true)
  | 1 => ("BarberMinutes", "taped", "I", false)
  | 2 => ("BarberMinutes", "reader", "LBarberMinutes$Reader;", true)
  | 3 => ("BarberMinutes", "town", "LBarberMinutes$Town;", false)
  | 4 => ("BarberMinutes", "spare", "LBarberMinutes$Town;", false)
  | 5 => ("BarberMinutes", "now", "LBarberMinutes$Minutes;", true)
  | 6 => ("BarberMinutes", "trial", "LBarberMinutes$Minutes;", true)
  | 7 => ("BarberMinutes", "past", "LBarberMinutes$Past;", true)
  | 8 => ("BarberMinutes", "agenda", "LBarberMinutes$Agenda;", true)
  | 9 => ("BarberMinutes", "tour", "LBarberMinutes$Tour;", true)
  | 10 => ("BarberMinutes", "sweepings", "LBarberMinutes$Sweepings;", true)
  | 11 => ("BarberMinutes", "chance", "LBarberMinutes$Chance;", true)
  | 12 => ("BarberMinutes", "fault", "I", false)
  | 13 => ("BarberMinutes", "place", "I", false)
  | _ => ("BarberMinutes", "trouble", "I", false)
noncomputable def tyX8 : Nat → FieldType := fun k => match k with
  | 0 => .array .byte
  | 1 => .int
  | 2 => .object "BarberMinutes$Reader"
  | 3 => .object "BarberMinutes$Town"
  | 4 => .object "BarberMinutes$Town"
  | 5 => .object "BarberMinutes$Minutes"
  | 6 => .object "BarberMinutes$Minutes"
  | 7 => .object "BarberMinutes$Past"
  | 8 => .object "BarberMinutes$Agenda"
  | 9 => .object "BarberMinutes$Tour"
  | 10 => .object "BarberMinutes$Sweepings"
  | 11 => .object "BarberMinutes$Chance"
  | 12 => .int
  | 13 => .int
  | _ => .int
theorem nmX8 : ∀ a, a < 15 → ∀ b, b < 15 → a ≠ b → (TX8 a).2.1 ≠ (TX8 b).2.1 := by decide +kernel
theorem tyX8_ok : ∀ k, k < 15 → parseFieldDescriptor (TX8 k).2.2.1 = some (tyX8 k) := by decide +kernel
noncomputable def RX9 : String := "BarberMinutesModel"
noncomputable def TX9 : u_T := fun k => match k with
  | 0 => ("BarberMinutesModel", "thrown", "I", false)
  | 1 => ("BarberMinutesModel", "tape", "[I", true)
  | 2 => ("BarberMinutesModel", "taped", "I", false)
  | 3 => ("BarberMinutesModel", "size", "I", false)
  | 4 => ("BarberMinutesModel", "at", "I", false)
  | 5 => ("BarberMinutesModel", "end", "I", false)
  | 6 => ("BarberMinutesModel", "token", "I", false)
  | 7 => ("BarberMinutesModel", "whole", "I", false)
  | 8 => ("BarberMinutesModel", "nameSize", "I", false)
  | 9 => ("BarberMinutesModel", "fault", "I", false)
  | 10 => ("BarberMinutesModel", "place", "I", false)
  | 11 => ("BarberMinutesModel", "trouble", "I", false)
  | 12 => ("BarberMinutesModel", "letters", "[I", true)
  | 13 => ("BarberMinutesModel", "failed", "Z", false)
  | 14 => ("BarberMinutesModel", "hasTown", "Z", false)
  | 15 => ("BarberMinutesModel", "\x72", "[I", true)
  | 16 => ("BarberMinutesModel", "fresh", "[I", true)
  | 17 => ("BarberMinutesModel", "st", "[I", true)
  | 18 => ("BarberMinutesModel", "undone", "[I", true)
  | 19 => ("BarberMinutesModel", "kept", "[I", true)
  | 20 => ("BarberMinutesModel", "undos", "I", false)
  | 21 => ("BarberMinutesModel", "images", "I", false)
  | 22 => ("BarberMinutesModel", "trial", "[I", true)
  | 23 => ("BarberMinutesModel", "way", "[I", true)
  | 24 => ("BarberMinutesModel", "best", "[I", true)
  | 25 => ("BarberMinutesModel", "leastWay", "I", false)
  | 26 => ("BarberMinutesModel", "often", "[I", true)
  | 27 => ("BarberMinutesModel", "setMany", "I", false)
  | 28 => ("BarberMinutesModel", "someOf", "I", false)
  | 29 => ("BarberMinutesModel", "allOf", "I", false)
  | 30 => ("BarberMinutesModel", "firstRest", "I", false)
  | 31 => ("BarberMinutesModel", "allWeight", "J", false)
  | 32 => ("BarberMinutesModel", "enoughWeight", "J", false)
  | 33 => ("BarberMinutesModel", "yesSum", "J", false)
  | _ => ("BarberMinutesModel", "carriedIn", "I", false)
noncomputable def tyX9 : Nat → FieldType := fun k => match k with
  | 0 => .int
  | 1 => .array .int
  | 2 => .int
  | 3 => .int
  | 4 => .int
  | 5 => .int
  | 6 => .int
  | 7 => .int
  | 8 => .int
  | 9 => .int
  | 10 => .int
  | 11 => .int
  | 12 => .array .int
  | 13 => .boolean
  | 14 => .boolean
  | 15 => .array .int
  | 16 => .array .int
  | 17 => .array .int
  | 18 => .array .int
  | 19 => .array .int
  | 20 => .int
  | 21 => .int
  | 22 => .array .int
  | 23 => .array .int
  | 24 => .array .int
  | 25 => .int
  | 26 => .array .int
  | 27 => .int
  | 28 => .int
  | 29 => .int
  | 30 => .int
  | 31 => .long
  | 32 => .long
  | 33 => .long
  | _ => .int
theorem nmX9 : ∀ a, a < 35 → ∀ b, b < 35 → a ≠ b → (TX9 a).2.1 ≠ (TX9 b).2.1 := by decide +kernel
theorem tyX9_ok : ∀ k, k < 35 → parseFieldDescriptor (TX9 k).2.2.1 = some (tyX9 k) := by decide +kernel
noncomputable abbrev vwCl : List vw_C := [(RX0, TX0, 5), (RX1, TX1, 3), (RX2, TX2, 4), (RX3, TX3, 5), (RX4, TX4, 14), (RX5, TX5, 3), (RX6, TX6, 3), (RX7, TX7, 19), (RX8, TX8, 15), (RX9, TX9, 35)]
noncomputable abbrev ev_A : Type := Nat × Int
noncomputable abbrev ev_C : Type := Nat × List ev_A
noncomputable abbrev ev_K : Type := List (Int × Int)
noncomputable abbrev ev_G : Type := List Nat × (Nat → Nat) × List Value
noncomputable abbrev ev_S : Type := Nat × List (Nat × ev_A) × List ev_A × List ev_C × ev_K × Nat × Nat
noncomputable def ev_v (g : ev_G) (a : ev_A) : Option Value :=
  match a.1 with
  | 0 => some (.int (Int32.ofInt a.2))
  | 1 => (g.1[a.2.toNat]?).map Value.ref
  | 2 => some .null
  | 3 => match g.2.2[a.2.toNat]? with
    | some (.int x) => some (.int x)
    | _ => none
  | 4 => some (.long (Int64.ofInt a.2))
  | 5 => some (.ref (g.2.1 a.2.toNat))
  | 6 => match g.2.2[a.2.toNat]? with
    | some (.long x) => some (.long x)
    | _ => none
  | 7 => match g.2.2[a.2.toNat]? with
    | some .null => some .null
    | some (.ref x) => some (.ref x)
    | _ => none
  | _ => none
noncomputable def ev_le (g g' : ev_G) : Prop := (∃ l, g'.1 = g.1 ++ l) ∧ g'.2.1 = g.2.1 ∧ ∃ l, g'.2.2 = g.2.2 ++ l
theorem ev_le_rf (g : ev_G) : ev_le g g := ⟨⟨[], by simp⟩, rfl, ⟨[], by simp⟩⟩
theorem ev_le_tr {a b c : ev_G} (h1 : ev_le a b) (h2 : ev_le b c) : ev_le a c := by
  obtain ⟨⟨l1, e1⟩, e2, ⟨l3, e3⟩⟩ := h1
  obtain ⟨⟨k1, f1⟩, f2, ⟨k3, f3⟩⟩ := h2
  exact ⟨⟨l1 ++ k1, by rw [f1, e1, List.append_assoc]⟩, f2.trans e2, ⟨l3 ++ k3, by rw [f3, e3, List.append_assoc]⟩⟩
theorem ev_ap {α : Type} {l k : List α} {i : Nat} {x : α} (h : l[i]? = some x) : (l ++ k)[i]? = some x := by
  rw [List.getElem?_append_left (List.getElem?_eq_some_iff.mp h).1]; exact h
theorem ev_v_le {g g' : ev_G} {a : ev_A} {v : Value} (h : ev_le g g') (hv : ev_v g a = some v) : ev_v g' a = some v := by
  obtain ⟨⟨l1, e1⟩, e2, ⟨l3, e3⟩⟩ := h
  obtain ⟨t, n⟩ := a
  unfold ev_v at hv ⊢
  split at hv
  · exact hv
  · cases hq : g.1[n.toNat]? with
    | none => simp [hq] at hv
    | some q =>
      simp only [hq, Option.map_some] at hv
      simp only [e1, ev_ap hq, Option.map_some]
      exact hv
  · exact hv
  · cases hq : g.2.2[n.toNat]? with
    | none => simp [hq] at hv
    | some q =>
      simp only [hq] at hv
      simp only [e3, ev_ap hq]
      exact hv
  · exact hv
  · simp only [e2]; exact hv
  · cases hq : g.2.2[n.toNat]? with
    | none => simp [hq] at hv
    | some q =>
      simp only [hq] at hv
      simp only [e3, ev_ap hq]
      exact hv
  · cases hq : g.2.2[n.toNat]? with
    | none => simp [hq] at hv
    | some q =>
      simp only [hq] at hv
      simp only [e3, ev_ap hq]
      exact hv
  · cases hv
/-- an int value -/
noncomputable def ev_isI (a : ev_A) : Bool := a.1 == 0 || a.1 == 3
noncomputable def ev_isL (a : ev_A) : Bool := a.1 == 4 || a.1 == 6
theorem ev_vI {g : ev_G} {a : ev_A} {v : Value} (h : ev_isI a = true) (hv : ev_v g a = some v) : ∃ x : Int32, v = .int x := by
  obtain ⟨t, n⟩ := a
  simp only [ev_isI, Bool.or_eq_true, beq_iff_eq] at h
  rcases h with h | h
  · subst h
    exact ⟨_, (Option.some.inj hv).symm⟩
  · subst h
    simp only [ev_v] at hv
    split at hv
    · exact ⟨_, (Option.some.inj hv).symm⟩
    · cases hv
theorem ev_vL {g : ev_G} {a : ev_A} {v : Value} (h : ev_isL a = true) (hv : ev_v g a = some v) : ∃ x : Int64, v = .long x := by
  obtain ⟨t, n⟩ := a
  simp only [ev_isL, Bool.or_eq_true, beq_iff_eq] at h
  rcases h with h | h
  · subst h
    exact ⟨_, (Option.some.inj hv).symm⟩
  · subst h
    simp only [ev_v] at hv
    split at hv
    · exact ⟨_, (Option.some.inj hv).symm⟩
    · cases hv
theorem ev_cat {g : ev_G} {a : ev_A} {v : Value} (hv : ev_v g a = some v) : (ev_isL a = true ∧ v.category = 2) ∨ (ev_isL a = false ∧ v.category = 1) := by
  obtain ⟨t, n⟩ := a
  unfold ev_v at hv
  split at hv
  · rename_i h
    simp only at h
    subst h
    cases hv
    exact Or.inr ⟨rfl, rfl⟩
  · rename_i h
    simp only at h
    subst h
    cases hq : g.1[n.toNat]? with
    | none => simp [hq] at hv
    | some q =>
      simp only [hq, Option.map_some] at hv
      cases hv
      exact Or.inr ⟨rfl, rfl⟩
  · rename_i h
    simp only at h
    subst h
    cases hv
    exact Or.inr ⟨rfl, rfl⟩
  · rename_i h
    simp only at h
    subst h
    split at hv
    · cases hv
      exact Or.inr ⟨rfl, rfl⟩
    · cases hv
  · rename_i h
    simp only at h
    subst h
    cases hv
    exact Or.inl ⟨rfl, rfl⟩
  · rename_i h
    simp only at h
    subst h
    cases hv
    exact Or.inr ⟨rfl, rfl⟩
  · rename_i h
    simp only at h
    subst h
    split at hv
    · cases hv
      exact Or.inl ⟨rfl, rfl⟩
    · cases hv
  · rename_i h
    simp only at h
    subst h
    split at hv
    · cases hv
      exact Or.inr ⟨rfl, rfl⟩
    · cases hv
      exact Or.inr ⟨rfl, rfl⟩
    · cases hv
  · cases hv
/-- the words that a callee may take along -/
noncomputable def lw_good : List Cond := lw_tbl.filter goodWord
theorem lw_good_in {w : Cond} (h : w ∈ lw_good) : w ∈ lw_tbl := (List.mem_filter.mp h).1
theorem lw_good_at {w : Cond} (i : Nat) (h : lw_tbl[i]? = some w) (hg : goodWord w = true) : w ∈ lw_good := List.mem_filter.mpr ⟨List.mem_of_getElem? h, hg⟩
theorem lw_good_good {ws : List Cond} (hy : ∀ w ∈ ws, w ∈ lw_good) : GoodIn lw_good ws := fun w h => ⟨hy w h, good_of_word (List.mem_filter.mp (hy w h)).2⟩
/-- the types of arrays that the worlds hold -/
noncomputable def ev_ty : Nat → FieldType
  | 0 => .int
  | 1 => .byte
  | 2 => .long
  | _ => .object "BarberMinutes$Minutes"
noncomputable def ev_ar (g : ev_G) (t : Nat) (cs : List ev_A) (a : (Nat → Int32) ⊕ (Nat → Int64) ⊕ (Nat → UInt32) ⊕ (Nat → UInt64) ⊕ (Nat → Option Nat)) : Prop :=
  match a with
  | .inl f => t < 2 ∧ ∀ (j : Nat) (x : ev_A), cs[j]? = some x → ev_v g x = some (.int (f j))
  | .inr (.inl f) => t = 2 ∧ ∀ (j : Nat) (x : ev_A), cs[j]? = some x → ev_v g x = some (.long (f j))
  | .inr (.inr (.inr (.inr f))) => t = 3 ∧ ∀ (j : Nat) (x : ev_A), cs[j]? = some x → ev_v g x = some (va_rf (f j))
  | _ => False
noncomputable def ev_c (s : State) (g : ev_G) (c : ev_C) (x : va_E) : Prop := match x with
  | .inr o => c.1 = o.1 ∧ c.1 < 100 ∧ o.2.length = c.2.length ∧ ∀ (j : Nat) (a : ev_A), c.2[j]? = some a → ∃ v, ev_v g a = some v ∧ o.2[j]? = some v
  | .inl a => ∃ t, t < 4 ∧ c.1 = 100 + t ∧ a.2.1 = c.2.length ∧ ArrOfT s a.1 (ev_ty t) ∧ va_RA s a.1 (ev_ty t) ∧ ev_ar g t c.2 a.2.2
theorem ev_ar_le {g g' : ev_G} {t : Nat} {cs : List ev_A} {a} (h : ev_le g g') (h1 : ev_ar g t cs a) : ev_ar g' t cs a := by
  unfold ev_ar at h1 ⊢
  split at h1
  · exact ⟨h1.1, fun j x hx => ev_v_le h (h1.2 j x hx)⟩
  · exact ⟨h1.1, fun j x hx => ev_v_le h (h1.2 j x hx)⟩
  · exact ⟨h1.1, fun j x hx => ev_v_le h (h1.2 j x hx)⟩
  · exact h1
theorem ev_c_le {s : State} {g g' : ev_G} {c : ev_C} {x : va_E} (h : ev_le g g') (h1 : ev_c s g c x) : ev_c s g' c x := by
  cases x with
  | inr o =>
    obtain ⟨a1, a2, a3, a4⟩ := h1
    exact ⟨a1, a2, a3, fun j a hj => by
      obtain ⟨v, b1, b2⟩ := a4 j a hj
      exact ⟨v, ev_v_le h b1, b2⟩⟩
  | inl a =>
    obtain ⟨t, a1, a2, a3, a4, a5, a6⟩ := h1
    exact ⟨t, a1, a2, a3, a4, a5, ev_ar_le h a6⟩
theorem ev_c_moved {u U : State} {g : ev_G} {c : ev_C} {x : va_E} (hvm : u.vm.Alike U.vm) (h1 : ev_c u g c x) : ev_c U g c x := by
  cases x with
  | inr o => exact h1
  | inl a =>
    obtain ⟨t, a1, a2, a3, a4, a5, a6⟩ := h1
    exact ⟨t, a1, a2, a3, arrOfT_moved hvm a4, a5.moved hvm, a6⟩
noncomputable def ev_w (s : State) (g : ev_G) (w : List ev_C) (ws : va_W) : Prop := g.1 = ws.map (fun q => q.1) ∧ w.length = ws.length ∧ ∀ (k : Nat) (c : ev_C) (q : Nat × va_E), w[k]? = some c → ws[k]? = some q → ev_c s g c q.2
theorem ev_w_moved {u U : State} {g : ev_G} {w : List ev_C} {ws : va_W} (hvm : u.vm.Alike U.vm) (h : ev_w u g w ws) : ev_w U g w ws := ⟨h.1, h.2.1, fun k c q h1 h2 => ev_c_moved hvm (h.2.2 k c q h1 h2)⟩
/-- the bounds of the variables -/
noncomputable def ev_b (K : ev_K) (E : List Value) : Prop := K.length = E.length ∧ ∀ (k : Nat) (r : Int × Int) (x : Int32), K[k]? = some r → E[k]? = some (.int x) → r.1 ≤ x.toInt ∧ x.toInt ≤ r.2
noncomputable def ev_l (g : ev_G) (L : List (Nat × ev_A)) (nL : Nat) (ls : Array Slot) : Prop := ls.size = nL ∧ lv_wf ls ∧ ∀ q ∈ L, ∃ v, ev_v g q.2 = some v ∧ ls[q.1]? = some (.val v)
theorem ev_l_le {g g' : ev_G} {L : List (Nat × ev_A)} {nL : Nat} {ls : Array Slot} (h : ev_le g g') (h1 : ev_l g L nL ls) : ev_l g' L nL ls := ⟨h1.1, h1.2.1, fun q hq => by
  obtain ⟨v, a, b⟩ := h1.2.2 q hq
  exact ⟨v, ev_v_le h a, b⟩⟩
noncomputable def ev_s (g : ev_G) : List ev_A → List Value → Prop
  | [], [] => True
  | a :: st, v :: sc => ev_v g a = some v ∧ ev_s g st sc
  | _, _ => False
theorem ev_s_le {g g' : ev_G} (h : ev_le g g') : ∀ {st : List ev_A} {sc : List Value}, ev_s g st sc → ev_s g' st sc
  | [], [], _ => trivial
  | [], _ :: _, h1 => h1.elim
  | _ :: _, [], h1 => h1.elim
  | a :: st, v :: sc, h1 => ⟨ev_v_le h h1.1, ev_s_le h h1.2⟩
theorem ev_s_cons {g : ev_G} {a : ev_A} {st : List ev_A} {sc : List Value} (h : ev_s g (a :: st) sc) : ∃ v sc', sc = v :: sc' ∧ ev_v g a = some v ∧ ev_s g st sc' := by
  cases sc with
  | nil => exact h.elim
  | cons v sc' => exact ⟨v, sc', rfl, h.1, h.2⟩
theorem ev_s_nil {g : ev_G} {sc : List Value} (h : ev_s g [] sc) : sc = [] := by
  cases sc with
  | nil => rfl
  | cons v sc' => exact h.elim
/-- what holds between a picture and the machine -/
noncomputable def ev_R (s : State) (A : Nat → Prop) (D : va_G) (nL : Nat) (g : ev_G) (S : ev_S) (ws : va_W) (H : Heap) (locs : List Loc) (ls : Array Slot) (sc : List Value) : Prop :=
  va_P D vwCl ws H ∧ va_D A ws ∧ va_S A s.heap H locs ∧ ev_w s g S.2.2.2.1 ws ∧ ev_b S.2.2.2.2.1 g.2.2 ∧ ev_l g S.2.1 nL ls ∧ ev_s g S.2.2.1 sc
/-- the goal from a picture: the machine comes to an end with Q, wherever it stands as the picture says -/
noncomputable def ev_Go (p : Program) (l : Launch) (e : Env) (R : Room) (s : State) (m : MethodId) (args : Array Value) (below : List Frame) (meth : Method) (c : Code) (Q : State → Prop) (nL : Nat) (D : va_G) (A : Nat → Prop) (g0 : ev_G) (S : ev_S) : Prop :=
  ∀ (g : ev_G) (ws : va_W) (H : Heap) (locs : List Loc) (ls : Array Slot) (sc : List Value), ev_le g0 g → ev_R s A D nL g S ws H locs ls sc → W p l e R s m args below meth c H locs S.2.2.2.2.2.1 S.2.2.2.2.2.2 Q (F0 m S.1 ls sc)
/-- the text constants: class, pool number, text, bytes; the k-th stands at X (1 + 2 k), its bytes at X (2 + 2 k) -/
noncomputable def ev_strs : List (String × Nat × String × List Int32) := [("BarberMinutes$Reader", 217, "town", [116, 111, 119, 110]),
  ("BarberMinutes$Reader", 218, "man", [109, 97, 110]),
  ("BarberMinutes$Reader", 220, "motion", [109, 111, 116, 105, 111, 110]),
  ("BarberMinutes$Reader", 222, "against", [97, 103, 97, 105, 110, 115, 116]),
  ("BarberMinutes$Reader", 223, "amends", [97, 109, 101, 110, 100, 115]),
  ("BarberMinutes$Reader", 224, "quarrel", [113, 117, 97, 114, 114, 101, 108]),
  ("BarberMinutes$Reader", 226, "chair", [99, 104, 97, 105, 114]),
  ("BarberMinutes$Reader", 228, "heap", [104, 101, 97, 112]),
  ("BarberMinutes$Reader", 131, "grows", [103, 114, 111, 119, 115]),
  ("BarberMinutes$Reader", 142, "bald", [98, 97, 108, 100]),
  ("BarberMinutes$Reader", 147, "shave", [115, 104, 97, 118, 101]),
  ("BarberMinutes$Reader", 207, "fair", [102, 97, 105, 114]),
  ("BarberMinutes$Reader", 209, "dark", [100, 97, 114, 107]),
  ("BarberMinutes$Reader", 211, "grey", [103, 114, 101, 121]),
  ("BarberMinutes$Reader", 159, "long", [108, 111, 110, 103]),
  ("BarberMinutes$Reader", 161, "votes", [118, 111, 116, 101, 115]),
  ("BarberMinutes$Reader", 167, "cuts", [99, 117, 116, 115]),
  ("BarberMinutes$Reader", 169, "needs", [110, 101, 101, 100, 115]),
  ("BarberMinutes$Reader", 171, "worth", [119, 111, 114, 116, 104]),
  ("BarberMinutes$Reader", 182, "at", [97, 116]),
  ("BarberMinutesModel", 116, "town", [116, 111, 119, 110]),
  ("BarberMinutesModel", 216, "grows", [103, 114, 111, 119, 115]),
  ("BarberMinutesModel", 222, "bald", [98, 97, 108, 100]),
  ("BarberMinutesModel", 224, "shave", [115, 104, 97, 118, 101]),
  ("BarberMinutesModel", 118, "man", [109, 97, 110]),
  ("BarberMinutesModel", 120, "motion", [109, 111, 116, 105, 111, 110]),
  ("BarberMinutesModel", 122, "against", [97, 103, 97, 105, 110, 115, 116]),
  ("BarberMinutesModel", 124, "amends", [97, 109, 101, 110, 100, 115]),
  ("BarberMinutesModel", 126, "quarrel", [113, 117, 97, 114, 114, 101, 108]),
  ("BarberMinutesModel", 128, "chair", [99, 104, 97, 105, 114]),
  ("BarberMinutesModel", 130, "heap", [104, 101, 97, 112]),
  ("BarberMinutesModel", 153, "fair", [102, 97, 105, 114]),
  ("BarberMinutesModel", 155, "dark", [100, 97, 114, 107]),
  ("BarberMinutesModel", 157, "grey", [103, 114, 101, 121]),
  ("BarberMinutesModel", 233, "long", [108, 111, 110, 103]),
  ("BarberMinutesModel", 235, "votes", [118, 111, 116, 101, 115]),
  ("BarberMinutesModel", 237, "cuts", [99, 117, 116, 115]),
  ("BarberMinutesModel", 239, "needs", [110, 101, 101, 100, 115]),
  ("BarberMinutesModel", 241, "worth", [119, 111, 114, 116, 104]),
  ("BarberMinutesModel", 253, "at", [97, 116])]
/-- words that are not good: links to private members of a nest mate, arrays over a class -/
noncomputable def lw_nest : List Cond := lw_tbl.filter (fun w => match w with | .methodLinkNest _ _ _ _ => true | .fieldLinkNest _ _ _ _ _ _ => true | _ => false)
/-- what was there before: text constants and a static -/
noncomputable def ev_E (X : Nat → Nat) (A : Nat → Prop) (U : State) (H : Heap) : Prop :=
  (∀ (k : Nat) (r : String × Nat × String × List Int32), ev_strs[k]? = some r → va_O "java/lang/String" (X (1 + 2 * k)) A U H ∧ va_OF "java/lang/String" "coder" "B" (.int 0) (X (1 + 2 * k)) A U H ∧ va_OF "java/lang/String" "value" "[B" (.ref (X (2 + 2 * k))) (X (1 + 2 * k)) A U H ∧ va_T .byte (X (2 + 2 * k)) r.2.2.2.length (fun j => .int (r.2.2.2.getD j 0)) A U H)
  ∧ va_Z "java/lang/String" "COMPACT_STRINGS" "Z" (.int 1) A U H ∧ va_Zq "jdk/internal/util/Preconditions" "SIOOBE_FORMATTER" "Ljava/util/function/BiFunction;" A U H
noncomputable def ev_N (X : Nat → Nat) (A : Nat → Prop) (U : State) (H : Heap) : Prop := ((∀ w ∈ lw_nest, va_Nw w U) ∧ va_AO "BarberMinutes$Minutes" U) ∧ (∀ (k : Nat) (r : String × Nat × String × List Int32), ev_strs[k]? = some r → vk_R r.1 r.2.1 r.2.2.1 (X (1 + 2 * k)) U) ∧ ev_E X A U H
theorem ev_E_moved {X : Nat → Nat} {A : Nat → Prop} {u U : State} {H : Heap} (hvm : u.vm.Alike U.vm) (h : ev_E X A u H) : ev_E X A U H := ⟨fun k r hr => ⟨va_O.moved hvm (h.1 k r hr).1, va_OF.moved hvm (h.1 k r hr).2.1, va_OF.moved hvm (h.1 k r hr).2.2.1, va_T.moved hvm (h.1 k r hr).2.2.2⟩, va_Z.moved hvm h.2.1, va_Zq.moved hvm h.2.2⟩
theorem ev_E_kept {X : Nat → Nat} {A : Nat → Prop} {U : State} {H H1 : Heap} (h : ev_E X A U H) (hq : ∀ a : Nat, a < H.size → ¬ A a → H1[a]? = H[a]?) : ev_E X A U H1 := ⟨fun k r hr => ⟨va_O.kept (h.1 k r hr).1 hq, va_OF.kept (h.1 k r hr).2.1 hq, va_OF.kept (h.1 k r hr).2.2.1 hq, va_T.kept (h.1 k r hr).2.2.2 hq⟩, va_Z.kept h.2.1 hq, va_Zq.kept h.2.2 hq⟩
theorem ev_E_narrow {X : Nat → Nat} {A B : Nat → Prop} {U : State} {H : Heap} (h : ev_E X A U H) (hAB : ∀ q, B q → A q) : ev_E X B U H := ⟨fun k r hr => ⟨va_O.narrow (h.1 k r hr).1 hAB, va_OF.narrow (h.1 k r hr).2.1 hAB, va_OF.narrow (h.1 k r hr).2.2.1 hAB, va_T.narrow (h.1 k r hr).2.2.2 hAB⟩, va_Z.narrow h.2.1 hAB, va_Zq.narrow h.2.2 hAB⟩
theorem ev_N_on {w : Cond} (h : w ∈ lw_nest) : w.onTables = true := by
  have h := (List.mem_filter.mp h).2
  split at h
  · rfl
  · rfl
  · cases h
theorem ev_N_same {X : Nat → Nat} {A : Nat → Prop} {u U : State} {H : Heap} (h : u.vm = U.vm) (hN : ev_N X A u H) : ev_N X A U H := ⟨⟨fun w hw => (hN.1.1 w hw).same (ev_N_on hw) h, hN.1.2.moved (by rw [h]; exact Vm.Alike.refl _)⟩, fun k r hr => (hN.2.1 k r hr).same h.symm, ev_E_moved (by rw [h]; exact Vm.Alike.refl _) hN.2.2⟩
theorem ev_N_call {X : Nat → Nat} {A B : Nat → Prop} {s U : State} {H : Heap} {locs : List Loc} (hW : s.WarmedH U.vm) (hU : U.heap = H) (hS : va_S A s.heap H locs) (hAB : ∀ q, B q → A q) (hN : ev_N X A s s.heap) : ev_N X B U U.heap := by
  refine ⟨⟨fun w hw => ?_, hN.1.2.moved hW.alike⟩, fun k r hr => (hN.2.1 k r hr).warm hW, ?_⟩
  · have h := (List.mem_filter.mp hw).2
    have hz := hN.1.1 w hw
    split at h
    · exact va_Nw.warmM hW hz
    · exact va_Nw.warmF hW hz
    · cases h
  · rw [hU]
    exact ev_E_moved hW.alike (ev_E_narrow (ev_E_kept hN.2.2 hS.2.1) hAB)
/-- the fixed facts of a frame -/
noncomputable def ev_X (p : Program) (R : Room) (s : State) (m : MethodId) (args : Array Value) (meth : Method) (c : Code) (cc : ByteArray) (nL : Nat) (own : String) (ini : Bool) (D : va_G) (A : Nat → Prop) (capC capS : Nat) (g0 : ev_G) (Ls : Nat) : Prop :=
  p.tables.exec = Jvm.exec ∧ c.code = cc ∧ c.maxLocals = nL ∧ s.vm.findClass own = some m.cls ∧ (∀ w ∈ lw_good, w.before args s = true) ∧ va_K D vwCl [] s ∧ (∀ q : Nat, s.heap.size ≤ q → A q) ∧ ev_N g0.2.1 A s s.heap ∧ (ini = true → meth.name = "<init>") ∧ R.cells = capC ∧ R.slots = capS ∧ 1 ≤ R.frames ∧ 40 ≤ R.locals ∧ ∀ L, Ls = L + 1 → ∃ xs : Nat → Int32, va_X (g0.2.1 0) L xs s s.heap ∧ g0.2.1 0 < s.heap.size ∧ ¬ A (g0.2.1 0) ∧ ∀ j : Nat, j < L → g0.2.2[j]? = some (.int (xs j))
theorem lg_a {A B : List Cond} {n j : Nat} {c : Cond} (hA : A.length = n) (h : B[j]? = some c) : (A ++ B)[n + j]? = some c := by
  subst hA
  rw [List.getElem?_append_right (Nat.le_add_right _ _), Nat.add_sub_cancel_left]
  exact h
theorem lg_b {A B : List Cond} {j : Nat} {c : Cond} (h : A[j]? = some c) : (A ++ B)[j]? = some c := by
  have := (List.getElem?_eq_some_iff.mp h).1
  rw [List.getElem?_append_left this]
  exact h
theorem lg_0 : (k2_sels lw_privs).length = 115 := by decide +kernel
theorem lg_1 : tables_1_1.length = 240 := by decide +kernel
theorem lg_2 : tables_1_2.length = 240 := by decide +kernel
theorem lg_3 : tables_1_3.length = 240 := by decide +kernel
theorem lg_4 : tables_1_4.length = 240 := by decide +kernel
theorem lg_5 : tables_1_5.length = 240 := by decide +kernel
theorem lg_6 : tables_1_6.length = 240 := by decide +kernel
theorem lg_7 : tables_1_7.length = 240 := by decide +kernel
theorem lw_in_1 {p : Nat} {c : Cond} (h : tables_1_1[p]? = some c) : lw_tbl[115 + p]? = some c := lg_a lg_0 (lg_b h)
theorem lw_in_2 {p : Nat} {c : Cond} (h : tables_1_2[p]? = some c) : lw_tbl[115 + (240 + p)]? = some c := lg_a lg_0 (lg_a lg_1 (lg_b h))
theorem lw_in_3 {p : Nat} {c : Cond} (h : tables_1_3[p]? = some c) : lw_tbl[115 + (240 + (240 + p))]? = some c := lg_a lg_0 (lg_a lg_1 (lg_a lg_2 (lg_b h)))
theorem lw_in_4 {p : Nat} {c : Cond} (h : tables_1_4[p]? = some c) : lw_tbl[115 + (240 + (240 + (240 + p)))]? = some c := lg_a lg_0 (lg_a lg_1 (lg_a lg_2 (lg_a lg_3 (lg_b h))))
theorem lw_in_5 {p : Nat} {c : Cond} (h : tables_1_5[p]? = some c) : lw_tbl[115 + (240 + (240 + (240 + (240 + p))))]? = some c := lg_a lg_0 (lg_a lg_1 (lg_a lg_2 (lg_a lg_3 (lg_a lg_4 (lg_b h)))))
theorem lw_in_6 {p : Nat} {c : Cond} (h : tables_1_6[p]? = some c) : lw_tbl[115 + (240 + (240 + (240 + (240 + (240 + p)))))]? = some c := lg_a lg_0 (lg_a lg_1 (lg_a lg_2 (lg_a lg_3 (lg_a lg_4 (lg_a lg_5 (lg_b h))))))
theorem lw_in_7 {p : Nat} {c : Cond} (h : tables_1_7[p]? = some c) : lw_tbl[115 + (240 + (240 + (240 + (240 + (240 + (240 + p))))))]? = some c := lg_a lg_0 (lg_a lg_1 (lg_a lg_2 (lg_a lg_3 (lg_a lg_4 (lg_a lg_5 (lg_a lg_6 (lg_b h)))))))
theorem lw_in_8 {p : Nat} {c : Cond} (h : tables_1_8[p]? = some c) : lw_tbl[115 + (240 + (240 + (240 + (240 + (240 + (240 + (240 + p)))))))]? = some c := lg_a lg_0 (lg_a lg_1 (lg_a lg_2 (lg_a lg_3 (lg_a lg_4 (lg_a lg_5 (lg_a lg_6 (lg_a lg_7 (h))))))))
noncomputable def lwd_tab : List (Nat × List Cond) := [(0, tables_1_1), (1, tables_1_2), (2, tables_1_3), (3, tables_1_4), (4, tables_1_5), (5, tables_1_6), (6, tables_1_7), (7, tables_1_8)]
theorem lwd_tab_ok : ∀ q ∈ lwd_tab, ∀ (p : Nat) (c : Cond), q.2[p]? = some c → lw_tbl[115 + (240 * q.1 + p)]? = some c := List.forall_mem_cons.mpr ⟨fun p c h => (show lw_tbl[115 + (240 * 0 + p)]? = some c from (by rw [show 115 + (240 * 0 + p) = 115 + p from by omega]; exact lw_in_1 h)), List.forall_mem_cons.mpr ⟨fun p c h => (show lw_tbl[115 + (240 * 1 + p)]? = some c from (by rw [show 115 + (240 * 1 + p) = 115 + (240 + p) from by omega]; exact lw_in_2 h)), List.forall_mem_cons.mpr ⟨fun p c h => (show lw_tbl[115 + (240 * 2 + p)]? = some c from (by rw [show 115 + (240 * 2 + p) = 115 + (240 + (240 + p)) from by omega]; exact lw_in_3 h)), List.forall_mem_cons.mpr ⟨fun p c h => (show lw_tbl[115 + (240 * 3 + p)]? = some c from (by rw [show 115 + (240 * 3 + p) = 115 + (240 + (240 + (240 + p))) from by omega]; exact lw_in_4 h)), List.forall_mem_cons.mpr ⟨fun p c h => (show lw_tbl[115 + (240 * 4 + p)]? = some c from (by rw [show 115 + (240 * 4 + p) = 115 + (240 + (240 + (240 + (240 + p)))) from by omega]; exact lw_in_5 h)), List.forall_mem_cons.mpr ⟨fun p c h => (show lw_tbl[115 + (240 * 5 + p)]? = some c from (by rw [show 115 + (240 * 5 + p) = 115 + (240 + (240 + (240 + (240 + (240 + p))))) from by omega]; exact lw_in_6 h)), List.forall_mem_cons.mpr ⟨fun p c h => (show lw_tbl[115 + (240 * 6 + p)]? = some c from (by rw [show 115 + (240 * 6 + p) = 115 + (240 + (240 + (240 + (240 + (240 + (240 + p)))))) from by omega]; exact lw_in_7 h)), List.forall_mem_cons.mpr ⟨fun p c h => (show lw_tbl[115 + (240 * 7 + p)]? = some c from (by rw [show 115 + (240 * 7 + p) = 115 + (240 + (240 + (240 + (240 + (240 + (240 + (240 + p))))))) from by omega]; exact lw_in_8 h)), fun _ h => nomatch h⟩⟩⟩⟩⟩⟩⟩⟩
noncomputable def lwd_get : List (Nat × List Cond) → Nat → Option (List Cond)
  | [], _ => none
  | q :: l, i => cond (Nat.beq q.1 i) (some q.2) (lwd_get l i)
theorem lwd_get_mem : ∀ {l : List (Nat × List Cond)} {i : Nat} {a : List Cond}, lwd_get l i = some a → (i, a) ∈ l
  | [], i, a, h => by cases h
  | q :: l, i, a, h => by
    have h : cond (Nat.beq q.1 i) (some q.2) (lwd_get l i) = some a := h
    cases hq : Nat.beq q.1 i with
    | true =>
      rw [hq] at h
      have h : some q.2 = some a := h
      cases h
      rw [← Nat.eq_of_beq_eq_true hq]
      exact List.mem_cons_self
    | false =>
      rw [hq] at h
      exact List.mem_cons_of_mem _ (lwd_get_mem (show lwd_get l i = some a from h))
noncomputable def lw_at1 (i p : Nat) : Option Cond := match lwd_get lwd_tab i with
  | some l => l[p]?
  | none => none
noncomputable def lw_at (j : Nat) : Option Cond := cond (Nat.ble 115 j) (lw_at1 ((j - 115) / 240) ((j - 115) % 240)) ((k2_sels lw_privs)[j]?)
theorem lw_at_ok {j : Nat} {w : Cond} (h : lw_at j = some w) : lw_tbl[j]? = some w := by
  unfold lw_at at h
  cases hb : Nat.ble 115 j with
  | false =>
    rw [hb] at h
    have h : (k2_sels lw_privs)[j]? = some w := h
    exact lg_b (B := tables_1) h
  | true =>
    have hle := Nat.le_of_ble_eq_true hb
    rw [hb] at h
    have h : lw_at1 ((j - 115) / 240) ((j - 115) % 240) = some w := h
    unfold lw_at1 at h
    split at h
    · rename_i l hl
      have e := lwd_tab_ok _ (lwd_get_mem hl) _ _ h
      dsimp only at e
      have ej : 115 + (240 * ((j - 115) / 240) + (j - 115) % 240) = j := by omega
      rw [ej] at e
      exact e
    · cases h
noncomputable abbrev ev_P : Type := Nat × Nat × Bool × String × Nat × Nat
noncomputable abbrev ev_T : Type := Int × Int × Int × List Int
noncomputable abbrev ev_O : Type := (ev_P → ev_T → Option (Instr × Nat × List Cond)) × (ev_P → ev_T → ev_S → Option (List ev_S))
noncomputable def ev_Snd (o : ev_O) : Prop := ∀ (p : Program) (l : Launch) (e : Env) (R : Room) (s : State) (m : MethodId) (args : Array Value) (below : List Frame) (meth : Method) (c : Code) (cc : ByteArray) (Q : State → Prop) (D : va_G) (A : Nat → Prop) (g0 : ev_G) (P : ev_P) (t : ev_T) (S : ev_S) (i : Instr) (n : Nat) (cs : List Cond) (Ss : List ev_S),
  ev_X p R s m args meth c cc P.2.2.2.2.1 P.2.2.2.1 P.2.2.1 D A P.1 P.2.1 g0 P.2.2.2.2.2 → o.1 P t = some (i, n, cs) → decode cc S.1 = .ok (i, n) → (∀ w ∈ cs, w ∈ lw_good) → o.2 P t S = some Ss → (∀ S' ∈ Ss, ev_Go p l e R s m args below meth c Q P.2.2.2.2.1 D A g0 S') → ev_Go p l e R s m args below meth c Q P.2.2.2.2.1 D A g0 S
theorem ev_lo (x : Int32) : (-2147483648 : Int) ≤ x.toInt := by have := Int32.le_toInt x; omega
theorem ev_hi (x : Int32) : x.toInt ≤ (2147483647 : Int) := by have := Int32.toInt_lt x; omega
noncomputable def ev_full : Int × Int := (-2147483648, 2147483647)
theorem ev_full_ok (x : Int32) : ev_full.1 ≤ x.toInt ∧ x.toInt ≤ ev_full.2 := ⟨ev_lo x, ev_hi x⟩
theorem ev_v0 (g : ev_G) (x : Int32) : ev_v g (0, x.toInt) = some (.int x) := by
  show some (Value.int (Int32.ofInt x.toInt)) = _
  rw [Int32.ofInt_toInt]
theorem ev_v4 (g : ev_G) (x : Int64) : ev_v g (4, x.toInt) = some (.long x) := by
  show some (Value.long (Int64.ofInt x.toInt)) = _
  rw [Int64.ofInt_toInt]
theorem ev_v3 {g : ev_G} {k : Nat} {x : Int32} (h : g.2.2[k]? = some (.int x)) : ev_v g (3, (k : Int)) = some (.int x) := by
  simp [ev_v, h]
theorem ev_v6 {g : ev_G} {k : Nat} {x : Int64} (h : g.2.2[k]? = some (.long x)) : ev_v g (6, (k : Int)) = some (.long x) := by
  simp [ev_v, h]
theorem ev_w_le {s : State} {g g' : ev_G} {w : List ev_C} {ws : va_W} (h : ev_le g g') (h1 : g'.1 = g.1) (hw : ev_w s g w ws) : ev_w s g' w ws := ⟨h1.trans hw.1, hw.2.1, fun k c q a b => ev_c_le h (hw.2.2 k c q a b)⟩
/-- a name for a new value -/
theorem ev_fresh {s : State} {A : Nat → Prop} {D : va_G} {nL : Nat} {g : ev_G} {pc : Nat} {L : List (Nat × ev_A)} {st : List ev_A} {w : List ev_C} {K : ev_K} {ce sl : Nat} {ws : va_W} {H : Heap} {locs : List Loc} {ls : Array Slot} {sc : List Value} (hR : ev_R s A D nL g (pc, L, st, w, K, ce, sl) ws H locs ls sc) (v : Value) (r : Int × Int) (hr : ∀ x, v = .int x → r.1 ≤ x.toInt ∧ x.toInt ≤ r.2) :
    ∃ g' : ev_G, ev_le g g' ∧ ev_R s A D nL g' (pc, L, st, w, K ++ [r], ce, sl) ws H locs ls sc ∧ g'.2.2[K.length]? = some v := by
  obtain ⟨hP, hD, hS, hW, hB, hL, hs⟩ := hR
  have hle : ev_le g (g.1, g.2.1, g.2.2 ++ [v]) := ⟨⟨[], by simp⟩, rfl, ⟨[v], rfl⟩⟩
  have hlen : K.length = g.2.2.length := hB.1
  refine ⟨(g.1, g.2.1, g.2.2 ++ [v]), hle, ⟨hP, hD, hS, ev_w_le hle rfl hW, ⟨by simp [hlen], fun k q x h1 h2 => ?_⟩, ev_l_le hle hL, ev_s_le hle hs⟩, by simp [hlen]⟩
  dsimp only at h1 h2
  by_cases hk : k < K.length
  · rw [List.getElem?_append_left hk] at h1
    rw [List.getElem?_append_left (by omega)] at h2
    exact hB.2 k q x h1 h2
  · rw [List.getElem?_append_right (by omega)] at h1
    rw [List.getElem?_append_right (by omega)] at h2
    have hz : k - K.length < 1 := (List.getElem?_eq_some_iff.mp h1).1
    have hz2 : k - g.2.2.length = 0 := by omega
    have hz3 : k - K.length = 0 := by omega
    rw [hz3] at h1
    rw [hz2] at h2
    cases h1
    exact hr x (Option.some.inj h2)
noncomputable def ev_adv (S : ev_S) (n : Nat) (st : List ev_A) : ev_S := (S.1 + n, S.2.1, st, S.2.2.2)
noncomputable def ev_advK (S : ev_S) (n : Nat) (st : List ev_A) (r : Int × Int) : ev_S := (S.1 + n, S.2.1, st, S.2.2.2.1, S.2.2.2.2.1 ++ [r], S.2.2.2.2.2)

noncomputable def ev_iconst : ev_O := (fun _ t => some (.iconst t.1, 1, []), fun _ t S => some [ev_adv S 1 ((0, (Int32.ofInt t.1).toInt) :: S.2.2.1)])
theorem ev_iconst_ok : ev_Snd ev_iconst := by
  intro p l e R s m args below meth c cc Q D A g0 P t S i n cs Ss X h1 hd hw h2 hk g ws H locs ls sc hle hR
  obtain ⟨hx, hb, hml, hown, hts, hK, hA, hN, hini, hcC, hcS, hf, hlc, hscr⟩ := X
  obtain ⟨pc, L, st, w, K, ce, sl⟩ := S
  have h1 : some ((.iconst t.1 : Instr), (1 : Nat), ([] : List Cond)) = some (i, n, cs) := h1
  cases h1
  have h2 : some [ev_adv (pc, L, st, w, K, ce, sl) 1 ((0, (Int32.ofInt t.1).toInt) :: st)] = some Ss := h2
  cases h2
  obtain ⟨hP, hD, hS, hW, hB, hL, hs⟩ := hR
  exact lv_iconst (v := Int32.ofInt t.1) hx hb hd rfl (hk _ (List.mem_singleton.mpr rfl) g ws H locs ls _ hle ⟨hP, hD, hS, hW, hB, hL, ev_v0 g _, hs⟩)

noncomputable def ev_bipush : ev_O := (fun _ t => some (.bipush t.1, 2, []), fun _ t S => some [ev_adv S 2 ((0, ((Int8.ofInt t.1).toInt32).toInt) :: S.2.2.1)])
theorem ev_bipush_ok : ev_Snd ev_bipush := by
  intro p l e R s m args below meth c cc Q D A g0 P t S i n cs Ss X h1 hd hw h2 hk g ws H locs ls sc hle hR
  obtain ⟨hx, hb, hml, hown, hts, hK, hA, hN, hini, hcC, hcS, hf, hlc, hscr⟩ := X
  obtain ⟨pc, L, st, w, K, ce, sl⟩ := S
  have h1 : some ((.bipush t.1 : Instr), (2 : Nat), ([] : List Cond)) = some (i, n, cs) := h1
  cases h1
  have h2 : some [ev_adv (pc, L, st, w, K, ce, sl) 2 ((0, ((Int8.ofInt t.1).toInt32).toInt) :: st)] = some Ss := h2
  cases h2
  obtain ⟨hP, hD, hS, hW, hB, hL, hs⟩ := hR
  exact lv_bipush (v := (Int8.ofInt t.1).toInt32) hx hb hd rfl (hk _ (List.mem_singleton.mpr rfl) g ws H locs ls _ hle ⟨hP, hD, hS, hW, hB, hL, ev_v0 g _, hs⟩)

noncomputable def ev_sipush : ev_O := (fun _ t => some (.sipush t.1, 3, []), fun _ t S => some [ev_adv S 3 ((0, ((Int16.ofInt t.1).toInt32).toInt) :: S.2.2.1)])
theorem ev_sipush_ok : ev_Snd ev_sipush := by
  intro p l e R s m args below meth c cc Q D A g0 P t S i n cs Ss X h1 hd hw h2 hk g ws H locs ls sc hle hR
  obtain ⟨hx, hb, hml, hown, hts, hK, hA, hN, hini, hcC, hcS, hf, hlc, hscr⟩ := X
  obtain ⟨pc, L, st, w, K, ce, sl⟩ := S
  have h1 : some ((.sipush t.1 : Instr), (3 : Nat), ([] : List Cond)) = some (i, n, cs) := h1
  cases h1
  have h2 : some [ev_adv (pc, L, st, w, K, ce, sl) 3 ((0, ((Int16.ofInt t.1).toInt32).toInt) :: st)] = some Ss := h2
  cases h2
  obtain ⟨hP, hD, hS, hW, hB, hL, hs⟩ := hR
  exact lv_sipush (v := (Int16.ofInt t.1).toInt32) hx hb hd rfl (hk _ (List.mem_singleton.mpr rfl) g ws H locs ls _ hle ⟨hP, hD, hS, hW, hB, hL, ev_v0 g _, hs⟩)

noncomputable def ev_lconst : ev_O := (fun _ t => if h : t.1.toNat < 2 then some (.lconst ⟨t.1.toNat, h⟩, 1, []) else none, fun _ t S => some [ev_adv S 1 ((4, (Int64.ofNat t.1.toNat).toInt) :: S.2.2.1)])
theorem ev_lconst_ok : ev_Snd ev_lconst := by
  intro p l e R s m args below meth c cc Q D A g0 P t S i n cs Ss X h1 hd hw h2 hk g ws H locs ls sc hle hR
  obtain ⟨hx, hb, hml, hown, hts, hK, hA, hN, hini, hcC, hcS, hf, hlc, hscr⟩ := X
  obtain ⟨pc, L, st, w, K, ce, sl⟩ := S
  have h1 : (if h : t.1.toNat < 2 then some ((.lconst ⟨t.1.toNat, h⟩ : Instr), (1 : Nat), ([] : List Cond)) else none) = some (i, n, cs) := h1
  have h2 : some [ev_adv (pc, L, st, w, K, ce, sl) 1 ((4, (Int64.ofNat t.1.toNat).toInt) :: st)] = some Ss := h2
  cases h2
  split at h1
  · cases h1
    obtain ⟨hP, hD, hS, hW, hB, hL, hs⟩ := hR
    exact lv_lconst (v := Int64.ofNat t.1.toNat) hx hb hd rfl (hk _ (List.mem_singleton.mpr rfl) g ws H locs ls _ hle ⟨hP, hD, hS, hW, hB, hL, ev_v4 g _, hs⟩)
  · cases h1

noncomputable def ev_look : List (Nat × ev_A) → Nat → Option ev_A
  | [], _ => none
  | q :: L, i => if q.1 == i then some q.2 else ev_look L i
theorem ev_look_mem : ∀ {L : List (Nat × ev_A)} {i : Nat} {a : ev_A}, ev_look L i = some a → (i, a) ∈ L
  | [], i, a, h => by cases h
  | q :: L, i, a, h => by
    unfold ev_look at h
    split at h
    · rename_i hq
      cases h
      rw [← beq_iff_eq.mp hq]
      exact List.mem_cons_self
    · exact List.mem_cons_of_mem _ (ev_look_mem h)
noncomputable def ev_isR (a : ev_A) : Bool := a.1 == 1 || a.1 == 5
theorem ev_vR {g : ev_G} {a : ev_A} {v : Value} (h : ev_isR a = true) (hv : ev_v g a = some v) : ∃ x : Nat, v = .ref x := by
  obtain ⟨t, n⟩ := a
  simp only [ev_isR, Bool.or_eq_true, beq_iff_eq] at h
  rcases h with h | h
  · subst h
    simp only [ev_v] at hv
    cases hq : g.1[n.toNat]? with
    | none => simp [hq] at hv
    | some q =>
      simp only [hq, Option.map_some] at hv
      exact ⟨q, (Option.some.inj hv).symm⟩
  · subst h
    exact ⟨_, (Option.some.inj hv).symm⟩
noncomputable def ev_ld (ok : ev_A → Bool) (n : Nat) (i : Nat) (S : ev_S) : Option (List ev_S) := match ev_look S.2.1 i with
  | some a => if ok a = true then some [ev_adv S n (a :: S.2.2.1)] else none
  | none => none
theorem ev_ld_ok {ok : ev_A → Bool} {n i pc : Nat} {L : List (Nat × ev_A)} {st : List ev_A} {r} {Ss : List ev_S} (h : ev_ld ok n i (pc, L, st, r) = some Ss) : ∃ a, (i, a) ∈ L ∧ ok a = true ∧ Ss = [ev_adv (pc, L, st, r) n (a :: st)] := by
  unfold ev_ld at h
  split at h
  · rename_i a ha
    split at h
    · rename_i hok
      cases h
      exact ⟨a, ev_look_mem ha, hok, rfl⟩
    · cases h
  · cases h

noncomputable def ev_iload : ev_O := (fun _ t => some (.iload t.1.toNat, 2, []), fun _ t S => ev_ld ev_isI 2 t.1.toNat S)
theorem ev_iload_ok : ev_Snd ev_iload := by
  intro p l e R s m args below meth c cc Q D A g0 P t S i n cs Ss X h1 hd hw h2 hk g ws H locs ls sc hle hR
  obtain ⟨hx, hb, hml, hown, hts, hK, hA, hN, hini, hcC, hcS, hf, hlc, hscr⟩ := X
  obtain ⟨pc, L, st, w, K, ce, sl⟩ := S
  have h1 : some ((.iload t.1.toNat : Instr), (2 : Nat), ([] : List Cond)) = some (i, n, cs) := h1
  cases h1
  obtain ⟨a, ha, hok, rfl⟩ := ev_ld_ok h2
  obtain ⟨hP, hD, hS, hW, hB, hL, hs⟩ := hR
  obtain ⟨v, hv, hl⟩ := hL.2.2 _ ha
  obtain ⟨x, rfl⟩ := ev_vI hok hv
  exact lv_iload hx hb hd hl (hk _ (List.mem_singleton.mpr rfl) g ws H locs ls _ hle ⟨hP, hD, hS, hW, hB, hL, hv, hs⟩)
noncomputable def ev_iloadn : ev_O := (fun _ t => if h : t.1.toNat < 4 then some (.iload_n ⟨t.1.toNat, h⟩, 1, []) else none, fun _ t S => ev_ld ev_isI 1 t.1.toNat S)
theorem ev_iloadn_ok : ev_Snd ev_iloadn := by
  intro p l e R s m args below meth c cc Q D A g0 P t S i n cs Ss X h1 hd hw h2 hk g ws H locs ls sc hle hR
  obtain ⟨hx, hb, hml, hown, hts, hK, hA, hN, hini, hcC, hcS, hf, hlc, hscr⟩ := X
  obtain ⟨pc, L, st, w, K, ce, sl⟩ := S
  have h1 : (if h : t.1.toNat < 4 then some ((.iload_n ⟨t.1.toNat, h⟩ : Instr), (1 : Nat), ([] : List Cond)) else none) = some (i, n, cs) := h1
  split at h1
  · cases h1
    obtain ⟨a, ha, hok, rfl⟩ := ev_ld_ok h2
    obtain ⟨hP, hD, hS, hW, hB, hL, hs⟩ := hR
    obtain ⟨v, hv, hl⟩ := hL.2.2 _ ha
    obtain ⟨x, rfl⟩ := ev_vI hok hv
    exact lv_iload_n hx hb hd rfl hl (hk _ (List.mem_singleton.mpr rfl) g ws H locs ls _ hle ⟨hP, hD, hS, hW, hB, hL, hv, hs⟩)
  · cases h1

noncomputable def ev_lload : ev_O := (fun _ t => some (.lload t.1.toNat, 2, []), fun _ t S => ev_ld ev_isL 2 t.1.toNat S)
theorem ev_lload_ok : ev_Snd ev_lload := by
  intro p l e R s m args below meth c cc Q D A g0 P t S i n cs Ss X h1 hd hw h2 hk g ws H locs ls sc hle hR
  obtain ⟨hx, hb, hml, hown, hts, hK, hA, hN, hini, hcC, hcS, hf, hlc, hscr⟩ := X
  obtain ⟨pc, L, st, w, K, ce, sl⟩ := S
  have h1 : some ((.lload t.1.toNat : Instr), (2 : Nat), ([] : List Cond)) = some (i, n, cs) := h1
  cases h1
  obtain ⟨a, ha, hok, rfl⟩ := ev_ld_ok h2
  obtain ⟨hP, hD, hS, hW, hB, hL, hs⟩ := hR
  obtain ⟨v, hv, hl⟩ := hL.2.2 _ ha
  obtain ⟨x, rfl⟩ := ev_vL hok hv
  exact lv_lload hx hb hd hl (hk _ (List.mem_singleton.mpr rfl) g ws H locs ls _ hle ⟨hP, hD, hS, hW, hB, hL, hv, hs⟩)
noncomputable def ev_lloadn : ev_O := (fun _ t => if h : t.1.toNat < 4 then some (.lload_n ⟨t.1.toNat, h⟩, 1, []) else none, fun _ t S => ev_ld ev_isL 1 t.1.toNat S)
theorem ev_lloadn_ok : ev_Snd ev_lloadn := by
  intro p l e R s m args below meth c cc Q D A g0 P t S i n cs Ss X h1 hd hw h2 hk g ws H locs ls sc hle hR
  obtain ⟨hx, hb, hml, hown, hts, hK, hA, hN, hini, hcC, hcS, hf, hlc, hscr⟩ := X
  obtain ⟨pc, L, st, w, K, ce, sl⟩ := S
  have h1 : (if h : t.1.toNat < 4 then some ((.lload_n ⟨t.1.toNat, h⟩ : Instr), (1 : Nat), ([] : List Cond)) else none) = some (i, n, cs) := h1
  split at h1
  · cases h1
    obtain ⟨a, ha, hok, rfl⟩ := ev_ld_ok h2
    obtain ⟨hP, hD, hS, hW, hB, hL, hs⟩ := hR
    obtain ⟨v, hv, hl⟩ := hL.2.2 _ ha
    obtain ⟨x, rfl⟩ := ev_vL hok hv
    exact lv_lload_n hx hb hd rfl hl (hk _ (List.mem_singleton.mpr rfl) g ws H locs ls _ hle ⟨hP, hD, hS, hW, hB, hL, hv, hs⟩)
  · cases h1

noncomputable def ev_aload : ev_O := (fun _ t => some (.aload t.1.toNat, 2, []), fun _ t S => ev_ld ev_isR 2 t.1.toNat S)
theorem ev_aload_ok : ev_Snd ev_aload := by
  intro p l e R s m args below meth c cc Q D A g0 P t S i n cs Ss X h1 hd hw h2 hk g ws H locs ls sc hle hR
  obtain ⟨hx, hb, hml, hown, hts, hK, hA, hN, hini, hcC, hcS, hf, hlc, hscr⟩ := X
  obtain ⟨pc, L, st, w, K, ce, sl⟩ := S
  have h1 : some ((.aload t.1.toNat : Instr), (2 : Nat), ([] : List Cond)) = some (i, n, cs) := h1
  cases h1
  obtain ⟨a, ha, hok, rfl⟩ := ev_ld_ok h2
  obtain ⟨hP, hD, hS, hW, hB, hL, hs⟩ := hR
  obtain ⟨v, hv, hl⟩ := hL.2.2 _ ha
  obtain ⟨x, rfl⟩ := ev_vR hok hv
  exact lv_aload hx hb hd hl (hk _ (List.mem_singleton.mpr rfl) g ws H locs ls _ hle ⟨hP, hD, hS, hW, hB, hL, hv, hs⟩)
noncomputable def ev_aloadn : ev_O := (fun _ t => if h : t.1.toNat < 4 then some (.aload_n ⟨t.1.toNat, h⟩, 1, []) else none, fun _ t S => ev_ld ev_isR 1 t.1.toNat S)
theorem ev_aloadn_ok : ev_Snd ev_aloadn := by
  intro p l e R s m args below meth c cc Q D A g0 P t S i n cs Ss X h1 hd hw h2 hk g ws H locs ls sc hle hR
  obtain ⟨hx, hb, hml, hown, hts, hK, hA, hN, hini, hcC, hcS, hf, hlc, hscr⟩ := X
  obtain ⟨pc, L, st, w, K, ce, sl⟩ := S
  have h1 : (if h : t.1.toNat < 4 then some ((.aload_n ⟨t.1.toNat, h⟩ : Instr), (1 : Nat), ([] : List Cond)) else none) = some (i, n, cs) := h1
  split at h1
  · cases h1
    obtain ⟨a, ha, hok, rfl⟩ := ev_ld_ok h2
    obtain ⟨hP, hD, hS, hW, hB, hL, hs⟩ := hR
    obtain ⟨v, hv, hl⟩ := hL.2.2 _ ha
    obtain ⟨x, rfl⟩ := ev_vR hok hv
    exact lv_aload_n hx hb hd rfl hl (hk _ (List.mem_singleton.mpr rfl) g ws H locs ls _ hle ⟨hP, hD, hS, hW, hB, hL, hv, hs⟩)
  · cases h1

noncomputable def ev_conc (g : ev_G) (L : List (Nat × ev_A)) : List (Nat × Value) := L.filterMap (fun q => (ev_v g q.2).map (fun v => (q.1, v)))
theorem ev_conc_has {g : ev_G} {L : List (Nat × ev_A)} {nL : Nat} {ls : Array Slot} (h : ev_l g L nL ls) : lv_has ls nL (ev_conc g L) := by
  refine ⟨h.1, h.2.1, fun q hq => ?_⟩
  obtain ⟨r, hr, he⟩ := List.mem_filterMap.mp hq
  obtain ⟨v, a, b⟩ := h.2.2 r hr
  rw [a] at he
  cases he
  exact b
theorem ev_conc_mem {g : ev_G} {L : List (Nat × ev_A)} {q : Nat × ev_A} {v : Value} (h : q ∈ L) (hv : ev_v g q.2 = some v) : (q.1, v) ∈ ev_conc g L := List.mem_filterMap.mpr ⟨q, h, by rw [hv]; rfl⟩
noncomputable def ev_st1 (L : List (Nat × ev_A)) (i : Nat) (a : ev_A) : List (Nat × ev_A) := (i, a) :: L.filter (fun q => !(q.1 == i) && !(q.1 + 1 == i && ev_isL q.2))
noncomputable def ev_st2 (L : List (Nat × ev_A)) (i : Nat) (a : ev_A) : List (Nat × ev_A) := (i, a) :: L.filter (fun q => !(q.1 == i) && (!(q.1 == i + 1) && !(q.1 + 1 == i && ev_isL q.2)))
theorem ev_isL_cat {g : ev_G} {a : ev_A} {v : Value} (hv : ev_v g a = some v) : ev_isL a = (v.category == 2) := by
  rcases ev_cat hv with ⟨h1, h2⟩ | ⟨h1, h2⟩ <;> rw [h1, h2] <;> rfl
theorem ev_st1_ok {g : ev_G} {L : List (Nat × ev_A)} {nL i : Nat} {ls ls' : Array Slot} {a : ev_A} {v : Value} (h : ev_l g L nL ls) (hv : ev_v g a = some v) (h' : lv_has ls' nL ((i, v) :: (ev_conc g L).filter (fun q => !(q.1 == i) && !(q.1 + 1 == i && q.2.category == 2)))) : ev_l g (ev_st1 L i a) nL ls' := by
  refine ⟨h'.1, h'.2.1, fun q hq => ?_⟩
  rcases List.mem_cons.mp hq with rfl | hq
  · exact ⟨v, hv, h'.2.2 _ List.mem_cons_self⟩
  · obtain ⟨q1, q2⟩ := List.mem_filter.mp hq
    obtain ⟨x, a1, a2⟩ := h.2.2 q q1
    refine ⟨x, a1, h'.2.2 (q.1, x) (List.mem_cons_of_mem _ (List.mem_filter.mpr ⟨ev_conc_mem q1 a1, ?_⟩))⟩
    rw [ev_isL_cat a1] at q2
    exact q2
theorem ev_st2_ok {g : ev_G} {L : List (Nat × ev_A)} {nL i : Nat} {ls ls' : Array Slot} {a : ev_A} {v : Value} (h : ev_l g L nL ls) (hv : ev_v g a = some v) (h' : lv_has ls' nL ((i, v) :: (ev_conc g L).filter (fun q => !(q.1 == i) && (!(q.1 == i + 1) && !(q.1 + 1 == i && q.2.category == 2))))) : ev_l g (ev_st2 L i a) nL ls' := by
  refine ⟨h'.1, h'.2.1, fun q hq => ?_⟩
  rcases List.mem_cons.mp hq with rfl | hq
  · exact ⟨v, hv, h'.2.2 _ List.mem_cons_self⟩
  · obtain ⟨q1, q2⟩ := List.mem_filter.mp hq
    obtain ⟨x, a1, a2⟩ := h.2.2 q q1
    refine ⟨x, a1, h'.2.2 (q.1, x) (List.mem_cons_of_mem _ (List.mem_filter.mpr ⟨ev_conc_mem q1 a1, ?_⟩))⟩
    rw [ev_isL_cat a1] at q2
    exact q2
noncomputable def ev_sto (ok : ev_A → Bool) (wide : Nat) (n i nL : Nat) (S : ev_S) : Option (List ev_S) := match S.2.2.1 with
  | a :: st => if ok a = true ∧ i + wide < nL then some [(S.1 + n, (if wide = 0 then ev_st1 S.2.1 i a else ev_st2 S.2.1 i a), st, S.2.2.2)] else none
  | [] => none
theorem ev_sto_ok {ok : ev_A → Bool} {wide n i nL pc : Nat} {L : List (Nat × ev_A)} {st : List ev_A} {r} {Ss : List ev_S} (h : ev_sto ok wide n i nL (pc, L, st, r) = some Ss) : ∃ a st', st = a :: st' ∧ ok a = true ∧ i + wide < nL ∧ Ss = [(pc + n, (if wide = 0 then ev_st1 L i a else ev_st2 L i a), st', r)] := by
  unfold ev_sto at h
  split at h
  · rename_i a st' e
    split at h
    · rename_i hok
      cases h
      exact ⟨a, st', e, hok.1, hok.2, rfl⟩
    · cases h
  · cases h

noncomputable def ev_istore : ev_O := (fun _ t => some (.istore t.1.toNat, 2, []), fun P t S => ev_sto ev_isI 0 2 t.1.toNat P.2.2.2.2.1 S)
theorem ev_istore_ok : ev_Snd ev_istore := by
  intro p l e R s m args below meth c cc Q D A g0 P t S i n cs Ss X h1 hd hw h2 hk g ws H locs ls sc hle hR
  obtain ⟨hx, hb, hml, hown, hts, hK, hA, hN, hini, hcC, hcS, hf, hlc, hscr⟩ := X
  obtain ⟨pc, L, st, w, K, ce, sl⟩ := S
  have h1 : some ((.istore t.1.toNat : Instr), (2 : Nat), ([] : List Cond)) = some (i, n, cs) := h1
  cases h1
  · obtain ⟨a, st', rfl, hok, hi, rfl⟩ := ev_sto_ok h2
    obtain ⟨hP, hD, hS, hW, hB, hL, hs⟩ := hR
    obtain ⟨v, sc', rfl, hv, hs2⟩ := ev_s_cons hs
    obtain ⟨x, rfl⟩ := ev_vI hok hv
    exact lv_istore hx hb hd (ev_conc_has hL) hi rfl (fun ls' hl' => hk _ (List.mem_singleton.mpr rfl) g ws H locs ls' _ hle ⟨hP, hD, hS, hW, hB, ev_st1_ok hL hv hl', hs2⟩)
noncomputable def ev_istoren : ev_O := (fun _ t => if h : t.1.toNat < 4 then some (.istore_n ⟨t.1.toNat, h⟩, 1, []) else none, fun P t S => ev_sto ev_isI 0 1 t.1.toNat P.2.2.2.2.1 S)
theorem ev_istoren_ok : ev_Snd ev_istoren := by
  intro p l e R s m args below meth c cc Q D A g0 P t S i n cs Ss X h1 hd hw h2 hk g ws H locs ls sc hle hR
  obtain ⟨hx, hb, hml, hown, hts, hK, hA, hN, hini, hcC, hcS, hf, hlc, hscr⟩ := X
  obtain ⟨pc, L, st, w, K, ce, sl⟩ := S
  have h1 : (if h : t.1.toNat < 4 then some ((.istore_n ⟨t.1.toNat, h⟩ : Instr), (1 : Nat), ([] : List Cond)) else none) = some (i, n, cs) := h1
  split at h1
  · cases h1
    obtain ⟨a, st', rfl, hok, hi, rfl⟩ := ev_sto_ok h2
    obtain ⟨hP, hD, hS, hW, hB, hL, hs⟩ := hR
    obtain ⟨v, sc', rfl, hv, hs2⟩ := ev_s_cons hs
    obtain ⟨x, rfl⟩ := ev_vI hok hv
    exact lv_istore_n hx hb hd rfl (ev_conc_has hL) hi rfl (fun ls' hl' => hk _ (List.mem_singleton.mpr rfl) g ws H locs ls' _ hle ⟨hP, hD, hS, hW, hB, ev_st1_ok hL hv hl', hs2⟩)
  · cases h1

noncomputable def ev_lstore : ev_O := (fun _ t => some (.lstore t.1.toNat, 2, []), fun P t S => ev_sto ev_isL 1 2 t.1.toNat P.2.2.2.2.1 S)
theorem ev_lstore_ok : ev_Snd ev_lstore := by
  intro p l e R s m args below meth c cc Q D A g0 P t S i n cs Ss X h1 hd hw h2 hk g ws H locs ls sc hle hR
  obtain ⟨hx, hb, hml, hown, hts, hK, hA, hN, hini, hcC, hcS, hf, hlc, hscr⟩ := X
  obtain ⟨pc, L, st, w, K, ce, sl⟩ := S
  have h1 : some ((.lstore t.1.toNat : Instr), (2 : Nat), ([] : List Cond)) = some (i, n, cs) := h1
  cases h1
  · obtain ⟨a, st', rfl, hok, hi, rfl⟩ := ev_sto_ok h2
    obtain ⟨hP, hD, hS, hW, hB, hL, hs⟩ := hR
    obtain ⟨v, sc', rfl, hv, hs2⟩ := ev_s_cons hs
    obtain ⟨x, rfl⟩ := ev_vL hok hv
    exact lv_lstore hx hb hd (ev_conc_has hL) hi rfl (fun ls' hl' => hk _ (List.mem_singleton.mpr rfl) g ws H locs ls' _ hle ⟨hP, hD, hS, hW, hB, ev_st2_ok hL hv hl', hs2⟩)
noncomputable def ev_lstoren : ev_O := (fun _ t => if h : t.1.toNat < 4 then some (.lstore_n ⟨t.1.toNat, h⟩, 1, []) else none, fun P t S => ev_sto ev_isL 1 1 t.1.toNat P.2.2.2.2.1 S)
theorem ev_lstoren_ok : ev_Snd ev_lstoren := by
  intro p l e R s m args below meth c cc Q D A g0 P t S i n cs Ss X h1 hd hw h2 hk g ws H locs ls sc hle hR
  obtain ⟨hx, hb, hml, hown, hts, hK, hA, hN, hini, hcC, hcS, hf, hlc, hscr⟩ := X
  obtain ⟨pc, L, st, w, K, ce, sl⟩ := S
  have h1 : (if h : t.1.toNat < 4 then some ((.lstore_n ⟨t.1.toNat, h⟩ : Instr), (1 : Nat), ([] : List Cond)) else none) = some (i, n, cs) := h1
  split at h1
  · cases h1
    obtain ⟨a, st', rfl, hok, hi, rfl⟩ := ev_sto_ok h2
    obtain ⟨hP, hD, hS, hW, hB, hL, hs⟩ := hR
    obtain ⟨v, sc', rfl, hv, hs2⟩ := ev_s_cons hs
    obtain ⟨x, rfl⟩ := ev_vL hok hv
    exact lv_lstore_n hx hb hd rfl (ev_conc_has hL) hi rfl (fun ls' hl' => hk _ (List.mem_singleton.mpr rfl) g ws H locs ls' _ hle ⟨hP, hD, hS, hW, hB, ev_st2_ok hL hv hl', hs2⟩)
  · cases h1

noncomputable def ev_astore : ev_O := (fun _ t => some (.astore t.1.toNat, 2, []), fun P t S => ev_sto ev_isR 0 2 t.1.toNat P.2.2.2.2.1 S)
theorem ev_astore_ok : ev_Snd ev_astore := by
  intro p l e R s m args below meth c cc Q D A g0 P t S i n cs Ss X h1 hd hw h2 hk g ws H locs ls sc hle hR
  obtain ⟨hx, hb, hml, hown, hts, hK, hA, hN, hini, hcC, hcS, hf, hlc, hscr⟩ := X
  obtain ⟨pc, L, st, w, K, ce, sl⟩ := S
  have h1 : some ((.astore t.1.toNat : Instr), (2 : Nat), ([] : List Cond)) = some (i, n, cs) := h1
  cases h1
  · obtain ⟨a, st', rfl, hok, hi, rfl⟩ := ev_sto_ok h2
    obtain ⟨hP, hD, hS, hW, hB, hL, hs⟩ := hR
    obtain ⟨v, sc', rfl, hv, hs2⟩ := ev_s_cons hs
    obtain ⟨x, rfl⟩ := ev_vR hok hv
    exact lv_astore hx hb hd (ev_conc_has hL) hi rfl (fun ls' hl' => hk _ (List.mem_singleton.mpr rfl) g ws H locs ls' _ hle ⟨hP, hD, hS, hW, hB, ev_st1_ok hL hv hl', hs2⟩)
noncomputable def ev_astoren : ev_O := (fun _ t => if h : t.1.toNat < 4 then some (.astore_n ⟨t.1.toNat, h⟩, 1, []) else none, fun P t S => ev_sto ev_isR 0 1 t.1.toNat P.2.2.2.2.1 S)
theorem ev_astoren_ok : ev_Snd ev_astoren := by
  intro p l e R s m args below meth c cc Q D A g0 P t S i n cs Ss X h1 hd hw h2 hk g ws H locs ls sc hle hR
  obtain ⟨hx, hb, hml, hown, hts, hK, hA, hN, hini, hcC, hcS, hf, hlc, hscr⟩ := X
  obtain ⟨pc, L, st, w, K, ce, sl⟩ := S
  have h1 : (if h : t.1.toNat < 4 then some ((.astore_n ⟨t.1.toNat, h⟩ : Instr), (1 : Nat), ([] : List Cond)) else none) = some (i, n, cs) := h1
  split at h1
  · cases h1
    obtain ⟨a, st', rfl, hok, hi, rfl⟩ := ev_sto_ok h2
    obtain ⟨hP, hD, hS, hW, hB, hL, hs⟩ := hR
    obtain ⟨v, sc', rfl, hv, hs2⟩ := ev_s_cons hs
    obtain ⟨x, rfl⟩ := ev_vR hok hv
    exact lv_astore_n hx hb hd rfl (ev_conc_has hL) hi rfl (fun ls' hl' => hk _ (List.mem_singleton.mpr rfl) g ws H locs ls' _ hle ⟨hP, hD, hS, hW, hB, ev_st1_ok hL hv hl', hs2⟩)
  · cases h1
/-- two ints: a number if both are numbers, else a new variable -/
noncomputable def ev_bin (f : Int32 → Int32 → Int32) (ok : Int32 → Bool) (n : Nat) (S : ev_S) : Option (List ev_S) := match S.2.2.1 with
  | y :: x :: st =>
    if ev_isI x = true ∧ ev_isI y = true then
      (if x.1 = 0 ∧ y.1 = 0 then (if ok (Int32.ofInt y.2) = true then some [ev_adv S n ((0, (f (Int32.ofInt x.2) (Int32.ofInt y.2)).toInt) :: st)] else none)
       else if y.1 = 0 then (if ok (Int32.ofInt y.2) = true then some [ev_advK S n ((3, (S.2.2.2.2.1.length : Int)) :: st) ev_full] else none)
       else if ok 0 = true then some [ev_advK S n ((3, (S.2.2.2.2.1.length : Int)) :: st) ev_full] else none)
    else none
  | _ => none
theorem ev_bin_ok (f : Int32 → Int32 → Int32) (ok : Int32 → Bool) (hok0 : ok 0 = true → ∀ y, ok y = true) {n pc : Nat} {L : List (Nat × ev_A)} {st : List ev_A} {w : List ev_C} {K : ev_K} {ce sl : Nat} {Ss : List ev_S} (h : ev_bin f ok n (pc, L, st, w, K, ce, sl) = some Ss)
    {s : State} {A : Nat → Prop} {D : va_G} {nL : Nat} {g : ev_G} {ws : va_W} {H : Heap} {locs : List Loc} {ls : Array Slot} {sc : List Value} (hR : ev_R s A D nL g (pc, L, st, w, K, ce, sl) ws H locs ls sc) :
    ∃ (x y : Int32) (rest : List Value) (S' : ev_S), sc = .int y :: .int x :: rest ∧ ok y = true ∧ Ss = [S'] ∧ S'.1 = pc + n ∧ S'.2.2.2.2.2 = (ce, sl) ∧ ∃ g', ev_le g g' ∧ ev_R s A D nL g' S' ws H locs ls (.int (f x y) :: rest) := by
  unfold ev_bin at h
  split at h
  · rename_i y x st' e
    dsimp only at e
    subst e
    split at h
    · rename_i hi
      have hR0 := hR
      obtain ⟨hP, hD, hS, hW, hB, hL, hs⟩ := hR0
      obtain ⟨vy, sc1, rfl, hvy, hs1⟩ := ev_s_cons hs
      obtain ⟨vx, sc2, rfl, hvx, hs2⟩ := ev_s_cons hs1
      obtain ⟨y0, rfl⟩ := ev_vI hi.2 hvy
      obtain ⟨x0, rfl⟩ := ev_vI hi.1 hvx
      have fr : ∃ g', ev_le g g' ∧ ev_R s A D nL g' (ev_advK (pc, L, y :: x :: st', w, K, ce, sl) n ((3, (K.length : Int)) :: st') ev_full) ws H locs ls (.int (f x0 y0) :: sc2) := by
        obtain ⟨g', l1, ⟨hP, hD, hS, hW, hB, hL, hs⟩, e1⟩ := ev_fresh hR (.int (f x0 y0)) ev_full (fun z hz => by cases hz; exact ev_full_ok _)
        exact ⟨g', l1, hP, hD, hS, hW, hB, hL, ev_v3 e1, hs.2.2⟩
      split at h
      · rename_i hz
        split at h
        · rename_i hy
          cases h
          obtain ⟨xt, xn⟩ := x
          obtain ⟨yt, yn⟩ := y
          obtain ⟨rfl, rfl⟩ := hz
          have ex : Int32.ofInt xn = x0 := Value.int.inj (Option.some.inj hvx)
          have ey : Int32.ofInt yn = y0 := Value.int.inj (Option.some.inj hvy)
          dsimp only at hy ⊢
          rw [ex, ey]
          exact ⟨x0, y0, sc2, _, rfl, by rw [← ey]; exact hy, rfl, rfl, rfl, g, ev_le_rf g, hP, hD, hS, hW, hB, hL, ev_v0 g _, hs2⟩
        · cases h
      · split at h
        · rename_i hz
          split at h
          · rename_i hy
            cases h
            obtain ⟨yt, yn⟩ := y
            have hz : yt = 0 := hz
            subst hz
            have ey : Int32.ofInt yn = y0 := Value.int.inj (Option.some.inj hvy)
            exact ⟨x0, y0, sc2, _, rfl, by rw [← ey]; exact hy, rfl, rfl, rfl, fr⟩
          · cases h
        · split at h
          · rename_i hy
            cases h
            exact ⟨x0, y0, sc2, _, rfl, hok0 hy _, rfl, rfl, rfl, fr⟩
          · cases h
    · cases h
  · cases h
theorem ev_Go_eq {p : Program} {l : Launch} {e : Env} {R : Room} {s : State} {m : MethodId} {args : Array Value} {below : List Frame} {meth : Method} {c : Code} {Q : State → Prop} {nL : Nat} {D : va_G} {A : Nat → Prop} {g0 : ev_G} {S : ev_S} {pc ce sl : Nat} (h : ev_Go p l e R s m args below meth c Q nL D A g0 S) (h1 : S.1 = pc) (h2 : S.2.2.2.2.2 = (ce, sl))
    {g : ev_G} {ws : va_W} {H : Heap} {locs : List Loc} {ls : Array Slot} {sc : List Value} (hle : ev_le g0 g) (hR : ev_R s A D nL g S ws H locs ls sc) : W p l e R s m args below meth c H locs ce sl Q (F0 m pc ls sc) := by
  have := h g ws H locs ls sc hle hR
  rw [h1, h2] at this
  exact this

noncomputable def ev_iadd : ev_O := (fun _ _ => some (.iadd, 1, []), fun _ _ S => ev_bin (fun x y => x + y) (fun _ => true) 1 S)
theorem ev_iadd_ok : ev_Snd ev_iadd := by
  intro p l e R s m args below meth c cc Q D A g0 P t S i n cs Ss X h1 hd hw h2 hk g ws H locs ls sc hle hR
  obtain ⟨hx, hb, hml, hown, hts, hK, hA, hN, hini, hcC, hcS, hf, hlc, hscr⟩ := X
  obtain ⟨pc, L, st, w, K, ce, sl⟩ := S
  have h1 : some ((.iadd : Instr), (1 : Nat), ([] : List Cond)) = some (i, n, cs) := h1
  cases h1
  · obtain ⟨x0, y0, rest, S', rfl, hy, rfl, e1, e2, g', l1, hR'⟩ := ev_bin_ok (fun x y => x + y) (fun _ => true) (fun _ _ => rfl) (show ev_bin (fun x y => x + y) (fun _ => true) 1 (pc, L, st, w, K, ce, sl) = some Ss from h2) hR
    exact lv_iadd hx hb hd (ev_Go_eq (hk S' (List.mem_singleton.mpr rfl)) e1 e2 (ev_le_tr hle l1) hR')

noncomputable def ev_isub : ev_O := (fun _ _ => some (.isub, 1, []), fun _ _ S => ev_bin (fun x y => x - y) (fun _ => true) 1 S)
theorem ev_isub_ok : ev_Snd ev_isub := by
  intro p l e R s m args below meth c cc Q D A g0 P t S i n cs Ss X h1 hd hw h2 hk g ws H locs ls sc hle hR
  obtain ⟨hx, hb, hml, hown, hts, hK, hA, hN, hini, hcC, hcS, hf, hlc, hscr⟩ := X
  obtain ⟨pc, L, st, w, K, ce, sl⟩ := S
  have h1 : some ((.isub : Instr), (1 : Nat), ([] : List Cond)) = some (i, n, cs) := h1
  cases h1
  · obtain ⟨x0, y0, rest, S', rfl, hy, rfl, e1, e2, g', l1, hR'⟩ := ev_bin_ok (fun x y => x - y) (fun _ => true) (fun _ _ => rfl) (show ev_bin (fun x y => x - y) (fun _ => true) 1 (pc, L, st, w, K, ce, sl) = some Ss from h2) hR
    exact lv_isub hx hb hd (ev_Go_eq (hk S' (List.mem_singleton.mpr rfl)) e1 e2 (ev_le_tr hle l1) hR')

noncomputable def ev_imul : ev_O := (fun _ _ => some (.imul, 1, []), fun _ _ S => ev_bin (fun x y => x * y) (fun _ => true) 1 S)
theorem ev_imul_ok : ev_Snd ev_imul := by
  intro p l e R s m args below meth c cc Q D A g0 P t S i n cs Ss X h1 hd hw h2 hk g ws H locs ls sc hle hR
  obtain ⟨hx, hb, hml, hown, hts, hK, hA, hN, hini, hcC, hcS, hf, hlc, hscr⟩ := X
  obtain ⟨pc, L, st, w, K, ce, sl⟩ := S
  have h1 : some ((.imul : Instr), (1 : Nat), ([] : List Cond)) = some (i, n, cs) := h1
  cases h1
  · obtain ⟨x0, y0, rest, S', rfl, hy, rfl, e1, e2, g', l1, hR'⟩ := ev_bin_ok (fun x y => x * y) (fun _ => true) (fun _ _ => rfl) (show ev_bin (fun x y => x * y) (fun _ => true) 1 (pc, L, st, w, K, ce, sl) = some Ss from h2) hR
    exact lv_imul hx hb hd (ev_Go_eq (hk S' (List.mem_singleton.mpr rfl)) e1 e2 (ev_le_tr hle l1) hR')

noncomputable def ev_iand : ev_O := (fun _ _ => some (.iand, 1, []), fun _ _ S => ev_bin (fun x y => x &&& y) (fun _ => true) 1 S)
theorem ev_iand_ok : ev_Snd ev_iand := by
  intro p l e R s m args below meth c cc Q D A g0 P t S i n cs Ss X h1 hd hw h2 hk g ws H locs ls sc hle hR
  obtain ⟨hx, hb, hml, hown, hts, hK, hA, hN, hini, hcC, hcS, hf, hlc, hscr⟩ := X
  obtain ⟨pc, L, st, w, K, ce, sl⟩ := S
  have h1 : some ((.iand : Instr), (1 : Nat), ([] : List Cond)) = some (i, n, cs) := h1
  cases h1
  · obtain ⟨x0, y0, rest, S', rfl, hy, rfl, e1, e2, g', l1, hR'⟩ := ev_bin_ok (fun x y => x &&& y) (fun _ => true) (fun _ _ => rfl) (show ev_bin (fun x y => x &&& y) (fun _ => true) 1 (pc, L, st, w, K, ce, sl) = some Ss from h2) hR
    exact lv_iand hx hb hd (ev_Go_eq (hk S' (List.mem_singleton.mpr rfl)) e1 e2 (ev_le_tr hle l1) hR')

noncomputable def ev_ior : ev_O := (fun _ _ => some (.ior, 1, []), fun _ _ S => ev_bin (fun x y => x ||| y) (fun _ => true) 1 S)
theorem ev_ior_ok : ev_Snd ev_ior := by
  intro p l e R s m args below meth c cc Q D A g0 P t S i n cs Ss X h1 hd hw h2 hk g ws H locs ls sc hle hR
  obtain ⟨hx, hb, hml, hown, hts, hK, hA, hN, hini, hcC, hcS, hf, hlc, hscr⟩ := X
  obtain ⟨pc, L, st, w, K, ce, sl⟩ := S
  have h1 : some ((.ior : Instr), (1 : Nat), ([] : List Cond)) = some (i, n, cs) := h1
  cases h1
  · obtain ⟨x0, y0, rest, S', rfl, hy, rfl, e1, e2, g', l1, hR'⟩ := ev_bin_ok (fun x y => x ||| y) (fun _ => true) (fun _ _ => rfl) (show ev_bin (fun x y => x ||| y) (fun _ => true) 1 (pc, L, st, w, K, ce, sl) = some Ss from h2) hR
    exact lv_ior hx hb hd (ev_Go_eq (hk S' (List.mem_singleton.mpr rfl)) e1 e2 (ev_le_tr hle l1) hR')

noncomputable def ev_ixor : ev_O := (fun _ _ => some (.ixor, 1, []), fun _ _ S => ev_bin (fun x y => x ^^^ y) (fun _ => true) 1 S)
theorem ev_ixor_ok : ev_Snd ev_ixor := by
  intro p l e R s m args below meth c cc Q D A g0 P t S i n cs Ss X h1 hd hw h2 hk g ws H locs ls sc hle hR
  obtain ⟨hx, hb, hml, hown, hts, hK, hA, hN, hini, hcC, hcS, hf, hlc, hscr⟩ := X
  obtain ⟨pc, L, st, w, K, ce, sl⟩ := S
  have h1 : some ((.ixor : Instr), (1 : Nat), ([] : List Cond)) = some (i, n, cs) := h1
  cases h1
  · obtain ⟨x0, y0, rest, S', rfl, hy, rfl, e1, e2, g', l1, hR'⟩ := ev_bin_ok (fun x y => x ^^^ y) (fun _ => true) (fun _ _ => rfl) (show ev_bin (fun x y => x ^^^ y) (fun _ => true) 1 (pc, L, st, w, K, ce, sl) = some Ss from h2) hR
    exact lv_ixor hx hb hd (ev_Go_eq (hk S' (List.mem_singleton.mpr rfl)) e1 e2 (ev_le_tr hle l1) hR')

noncomputable def ev_ishl : ev_O := (fun _ _ => some (.ishl, 1, []), fun _ _ S => ev_bin (fun x y => x <<< (y &&& 31)) (fun _ => true) 1 S)
theorem ev_ishl_ok : ev_Snd ev_ishl := by
  intro p l e R s m args below meth c cc Q D A g0 P t S i n cs Ss X h1 hd hw h2 hk g ws H locs ls sc hle hR
  obtain ⟨hx, hb, hml, hown, hts, hK, hA, hN, hini, hcC, hcS, hf, hlc, hscr⟩ := X
  obtain ⟨pc, L, st, w, K, ce, sl⟩ := S
  have h1 : some ((.ishl : Instr), (1 : Nat), ([] : List Cond)) = some (i, n, cs) := h1
  cases h1
  · obtain ⟨x0, y0, rest, S', rfl, hy, rfl, e1, e2, g', l1, hR'⟩ := ev_bin_ok (fun x y => x <<< (y &&& 31)) (fun _ => true) (fun _ _ => rfl) (show ev_bin (fun x y => x <<< (y &&& 31)) (fun _ => true) 1 (pc, L, st, w, K, ce, sl) = some Ss from h2) hR
    exact lv_ishl hx hb hd (ev_Go_eq (hk S' (List.mem_singleton.mpr rfl)) e1 e2 (ev_le_tr hle l1) hR')

noncomputable def ev_ishr : ev_O := (fun _ _ => some (.ishr, 1, []), fun _ _ S => ev_bin (fun x y => x >>> (y &&& 31)) (fun _ => true) 1 S)
theorem ev_ishr_ok : ev_Snd ev_ishr := by
  intro p l e R s m args below meth c cc Q D A g0 P t S i n cs Ss X h1 hd hw h2 hk g ws H locs ls sc hle hR
  obtain ⟨hx, hb, hml, hown, hts, hK, hA, hN, hini, hcC, hcS, hf, hlc, hscr⟩ := X
  obtain ⟨pc, L, st, w, K, ce, sl⟩ := S
  have h1 : some ((.ishr : Instr), (1 : Nat), ([] : List Cond)) = some (i, n, cs) := h1
  cases h1
  · obtain ⟨x0, y0, rest, S', rfl, hy, rfl, e1, e2, g', l1, hR'⟩ := ev_bin_ok (fun x y => x >>> (y &&& 31)) (fun _ => true) (fun _ _ => rfl) (show ev_bin (fun x y => x >>> (y &&& 31)) (fun _ => true) 1 (pc, L, st, w, K, ce, sl) = some Ss from h2) hR
    exact lv_ishr hx hb hd (ev_Go_eq (hk S' (List.mem_singleton.mpr rfl)) e1 e2 (ev_le_tr hle l1) hR')

noncomputable def ev_iushr : ev_O := (fun _ _ => some (.iushr, 1, []), fun _ _ S => ev_bin (fun x y => (x.toUInt32 >>> (y.toUInt32 &&& Int32.toUInt32 31)).toInt32) (fun _ => true) 1 S)
theorem ev_iushr_ok : ev_Snd ev_iushr := by
  intro p l e R s m args below meth c cc Q D A g0 P t S i n cs Ss X h1 hd hw h2 hk g ws H locs ls sc hle hR
  obtain ⟨hx, hb, hml, hown, hts, hK, hA, hN, hini, hcC, hcS, hf, hlc, hscr⟩ := X
  obtain ⟨pc, L, st, w, K, ce, sl⟩ := S
  have h1 : some ((.iushr : Instr), (1 : Nat), ([] : List Cond)) = some (i, n, cs) := h1
  cases h1
  · obtain ⟨x0, y0, rest, S', rfl, hy, rfl, e1, e2, g', l1, hR'⟩ := ev_bin_ok (fun x y => (x.toUInt32 >>> (y.toUInt32 &&& Int32.toUInt32 31)).toInt32) (fun _ => true) (fun _ _ => rfl) (show ev_bin (fun x y => (x.toUInt32 >>> (y.toUInt32 &&& Int32.toUInt32 31)).toInt32) (fun _ => true) 1 (pc, L, st, w, K, ce, sl) = some Ss from h2) hR
    exact lv_iushr hx hb hd rfl (ev_Go_eq (hk S' (List.mem_singleton.mpr rfl)) e1 e2 (ev_le_tr hle l1) hR')

noncomputable def ev_idiv : ev_O := (fun _ _ => some (.idiv, 1, []), fun _ _ S => ev_bin (fun x y => x / y) (fun y => !(y == 0)) 1 S)
theorem ev_idiv_ok : ev_Snd ev_idiv := by
  intro p l e R s m args below meth c cc Q D A g0 P t S i n cs Ss X h1 hd hw h2 hk g ws H locs ls sc hle hR
  obtain ⟨hx, hb, hml, hown, hts, hK, hA, hN, hini, hcC, hcS, hf, hlc, hscr⟩ := X
  obtain ⟨pc, L, st, w, K, ce, sl⟩ := S
  have h1 : some ((.idiv : Instr), (1 : Nat), ([] : List Cond)) = some (i, n, cs) := h1
  cases h1
  · obtain ⟨x0, y0, rest, S', rfl, hy, rfl, e1, e2, g', l1, hR'⟩ := ev_bin_ok (fun x y => x / y) (fun y => !(y == 0)) (fun h => by simp at h) (show ev_bin (fun x y => x / y) (fun y => !(y == 0)) 1 (pc, L, st, w, K, ce, sl) = some Ss from h2) hR
    have hne : ¬ y0 = 0 := by simpa using hy
    exact lv_idiv hx hb hd hne (ev_Go_eq (hk S' (List.mem_singleton.mpr rfl)) e1 e2 (ev_le_tr hle l1) hR')

noncomputable def ev_irem : ev_O := (fun _ _ => some (.irem, 1, []), fun _ _ S => ev_bin (fun x y => x - x / y * y) (fun y => !(y == 0)) 1 S)
theorem ev_irem_ok : ev_Snd ev_irem := by
  intro p l e R s m args below meth c cc Q D A g0 P t S i n cs Ss X h1 hd hw h2 hk g ws H locs ls sc hle hR
  obtain ⟨hx, hb, hml, hown, hts, hK, hA, hN, hini, hcC, hcS, hf, hlc, hscr⟩ := X
  obtain ⟨pc, L, st, w, K, ce, sl⟩ := S
  have h1 : some ((.irem : Instr), (1 : Nat), ([] : List Cond)) = some (i, n, cs) := h1
  cases h1
  · obtain ⟨x0, y0, rest, S', rfl, hy, rfl, e1, e2, g', l1, hR'⟩ := ev_bin_ok (fun x y => x - x / y * y) (fun y => !(y == 0)) (fun h => by simp at h) (show ev_bin (fun x y => x - x / y * y) (fun y => !(y == 0)) 1 (pc, L, st, w, K, ce, sl) = some Ss from h2) hR
    have hne : ¬ y0 = 0 := by simpa using hy
    exact lv_irem hx hb hd hne (ev_Go_eq (hk S' (List.mem_singleton.mpr rfl)) e1 e2 (ev_le_tr hle l1) hR')

noncomputable def ev_una (f : Int32 → Int32) (n : Nat) (r : Int × Int) (S : ev_S) : Option (List ev_S) := match S.2.2.1 with
  | x :: st =>
    if ev_isI x = true then
      (if x.1 = 0 then some [ev_adv S n ((0, (f (Int32.ofInt x.2)).toInt) :: st)]
       else some [ev_advK S n ((3, (S.2.2.2.2.1.length : Int)) :: st) r])
    else none
  | _ => none
theorem ev_una_ok (f : Int32 → Int32) (r : Int × Int) (hr : ∀ x, r.1 ≤ (f x).toInt ∧ (f x).toInt ≤ r.2) {n pc : Nat} {L : List (Nat × ev_A)} {st : List ev_A} {w : List ev_C} {K : ev_K} {ce sl : Nat} {Ss : List ev_S} (h : ev_una f n r (pc, L, st, w, K, ce, sl) = some Ss)
    {s : State} {A : Nat → Prop} {D : va_G} {nL : Nat} {g : ev_G} {ws : va_W} {H : Heap} {locs : List Loc} {ls : Array Slot} {sc : List Value} (hR : ev_R s A D nL g (pc, L, st, w, K, ce, sl) ws H locs ls sc) :
    ∃ (x : Int32) (rest : List Value) (S' : ev_S), sc = .int x :: rest ∧ Ss = [S'] ∧ S'.1 = pc + n ∧ S'.2.2.2.2.2 = (ce, sl) ∧ ∃ g', ev_le g g' ∧ ev_R s A D nL g' S' ws H locs ls (.int (f x) :: rest) := by
  unfold ev_una at h
  split at h
  · rename_i x st' e
    dsimp only at e
    subst e
    split at h
    · rename_i hi
      have hR0 := hR
      obtain ⟨hP, hD, hS, hW, hB, hL, hs⟩ := hR0
      obtain ⟨vx, sc2, rfl, hvx, hs2⟩ := ev_s_cons hs
      obtain ⟨x0, rfl⟩ := ev_vI hi hvx
      split at h
      · rename_i hz
        cases h
        obtain ⟨xt, xn⟩ := x
        have hz : xt = 0 := hz
        subst hz
        have ex : Int32.ofInt xn = x0 := Value.int.inj (Option.some.inj hvx)
        dsimp only
        rw [ex]
        exact ⟨x0, sc2, _, rfl, rfl, rfl, rfl, g, ev_le_rf g, hP, hD, hS, hW, hB, hL, ev_v0 g _, hs2⟩
      · cases h
        obtain ⟨g', l1, ⟨hP, hD, hS, hW, hB, hL, hs⟩, e1⟩ := ev_fresh hR (.int (f x0)) r (fun z hz => by cases hz; exact hr _)
        exact ⟨x0, sc2, _, rfl, rfl, rfl, rfl, g', l1, hP, hD, hS, hW, hB, hL, ev_v3 e1, hs.2⟩
    · cases h
  · cases h

noncomputable def ev_ineg : ev_O := (fun _ _ => some (.ineg, 1, []), fun _ _ S => ev_una (fun x => -x) 1 ev_full S)
theorem ev_ineg_ok : ev_Snd ev_ineg := by
  intro p l e R s m args below meth c cc Q D A g0 P t S i n cs Ss X h1 hd hw h2 hk g ws H locs ls sc hle hR
  obtain ⟨hx, hb, hml, hown, hts, hK, hA, hN, hini, hcC, hcS, hf, hlc, hscr⟩ := X
  obtain ⟨pc, L, st, w, K, ce, sl⟩ := S
  have h1 : some ((.ineg : Instr), (1 : Nat), ([] : List Cond)) = some (i, n, cs) := h1
  cases h1
  · obtain ⟨x0, rest, S', rfl, rfl, e1, e2, g', l1, hR'⟩ := ev_una_ok (fun x => -x) ev_full (fun _ => ev_full_ok _) (show ev_una (fun x => -x) 1 ev_full (pc, L, st, w, K, ce, sl) = some Ss from h2) hR
    exact lv_ineg hx hb hd (ev_Go_eq (hk S' (List.mem_singleton.mpr rfl)) e1 e2 (ev_le_tr hle l1) hR')

noncomputable def ev_i2b : ev_O := (fun _ _ => some (.i2b, 1, []), fun _ _ S => ev_una (fun x => x.toInt8.toInt32) 1 ev_full S)
theorem ev_i2b_ok : ev_Snd ev_i2b := by
  intro p l e R s m args below meth c cc Q D A g0 P t S i n cs Ss X h1 hd hw h2 hk g ws H locs ls sc hle hR
  obtain ⟨hx, hb, hml, hown, hts, hK, hA, hN, hini, hcC, hcS, hf, hlc, hscr⟩ := X
  obtain ⟨pc, L, st, w, K, ce, sl⟩ := S
  have h1 : some ((.i2b : Instr), (1 : Nat), ([] : List Cond)) = some (i, n, cs) := h1
  cases h1
  · obtain ⟨x0, rest, S', rfl, rfl, e1, e2, g', l1, hR'⟩ := ev_una_ok (fun x => x.toInt8.toInt32) ev_full (fun _ => ev_full_ok _) (show ev_una (fun x => x.toInt8.toInt32) 1 ev_full (pc, L, st, w, K, ce, sl) = some Ss from h2) hR
    exact lv_i2b hx hb hd rfl (ev_Go_eq (hk S' (List.mem_singleton.mpr rfl)) e1 e2 (ev_le_tr hle l1) hR')

noncomputable def ev_i2l : ev_O := (fun _ _ => some (.i2l, 1, []), fun _ _ S => match S.2.2.1 with
  | x :: st => if ev_isI x = true then (if x.1 = 0 then some [ev_adv S 1 ((4, ((Int32.ofInt x.2).toInt64).toInt) :: st)] else some [ev_advK S 1 ((6, (S.2.2.2.2.1.length : Int)) :: st) ev_full]) else none
  | _ => none)
theorem ev_i2l_ok : ev_Snd ev_i2l := by
  intro p l e R s m args below meth c cc Q D A g0 P t S i n cs Ss X h1 hd hw h2 hk g ws H locs ls sc hle hR
  obtain ⟨hx, hb, hml, hown, hts, hK, hA, hN, hini, hcC, hcS, hf, hlc, hscr⟩ := X
  obtain ⟨pc, L, st, w, K, ce, sl⟩ := S
  have h1 : some ((.i2l : Instr), (1 : Nat), ([] : List Cond)) = some (i, n, cs) := h1
  cases h1
  unfold ev_i2l at h2
  dsimp only at h2
  split at h2
  · rename_i x st'
    split at h2
    · rename_i hi
      have hR0 := hR
      obtain ⟨hP, hD, hS, hW, hB, hL, hs⟩ := hR0
      obtain ⟨vx, sc2, rfl, hvx, hs2⟩ := ev_s_cons hs
      obtain ⟨x0, rfl⟩ := ev_vI hi hvx
      split at h2
      · rename_i hz
        cases h2
        obtain ⟨xt, xn⟩ := x
        have hz : xt = 0 := hz
        subst hz
        have ex : Int32.ofInt xn = x0 := Value.int.inj (Option.some.inj hvx)
        exact lv_i2l hx hb hd rfl (hk _ (List.mem_singleton.mpr rfl) g ws H locs ls _ hle ⟨hP, hD, hS, hW, hB, hL, by dsimp only; rw [ex]; exact ev_v4 g _, hs2⟩)
      · cases h2
        obtain ⟨g', l1, ⟨hP, hD, hS, hW, hB, hL, hs⟩, e1⟩ := ev_fresh hR (.long x0.toInt64) ev_full (fun z hz => by cases hz)
        exact lv_i2l hx hb hd rfl (hk _ (List.mem_singleton.mpr rfl) g' ws H locs ls _ (ev_le_tr hle l1) ⟨hP, hD, hS, hW, hB, hL, ev_v6 e1, hs.2⟩)
    · cases h2
  · cases h2
noncomputable def ev_lcmp : ev_O := (fun _ _ => some (.lcmp, 1, []), fun _ _ S => match S.2.2.1 with
  | y :: x :: st => if ev_isL x = true ∧ ev_isL y = true then (if x.1 = 4 ∧ y.1 = 4 then some [ev_adv S 1 ((0, (lg_cmp (Int64.ofInt x.2) (Int64.ofInt y.2)).toInt) :: st)] else some [ev_advK S 1 ((3, (S.2.2.2.2.1.length : Int)) :: st) ev_full]) else none
  | _ => none)
theorem ev_lcmp_ok : ev_Snd ev_lcmp := by
  intro p l e R s m args below meth c cc Q D A g0 P t S i n cs Ss X h1 hd hw h2 hk g ws H locs ls sc hle hR
  obtain ⟨hx, hb, hml, hown, hts, hK, hA, hN, hini, hcC, hcS, hf, hlc, hscr⟩ := X
  obtain ⟨pc, L, st, w, K, ce, sl⟩ := S
  have h1 : some ((.lcmp : Instr), (1 : Nat), ([] : List Cond)) = some (i, n, cs) := h1
  cases h1
  unfold ev_lcmp at h2
  dsimp only at h2
  split at h2
  · rename_i y x st'
    split at h2
    · rename_i hi
      have hR0 := hR
      obtain ⟨hP, hD, hS, hW, hB, hL, hs⟩ := hR0
      obtain ⟨vy, sc1, rfl, hvy, hs1⟩ := ev_s_cons hs
      obtain ⟨vx, sc2, rfl, hvx, hs2⟩ := ev_s_cons hs1
      obtain ⟨y0, rfl⟩ := ev_vL hi.2 hvy
      obtain ⟨x0, rfl⟩ := ev_vL hi.1 hvx
      split at h2
      · rename_i hz
        cases h2
        obtain ⟨xt, xn⟩ := x
        obtain ⟨yt, yn⟩ := y
        obtain ⟨rfl, rfl⟩ := hz
        have ex : Int64.ofInt xn = x0 := Value.long.inj (Option.some.inj hvx)
        have ey : Int64.ofInt yn = y0 := Value.long.inj (Option.some.inj hvy)
        exact W.lcmp hx hb hd (hk _ (List.mem_singleton.mpr rfl) g ws H locs ls _ hle ⟨hP, hD, hS, hW, hB, hL, by dsimp only; rw [ex, ey]; exact ev_v0 g _, hs2⟩)
      · cases h2
        obtain ⟨g', l1, ⟨hP, hD, hS, hW, hB, hL, hs⟩, e1⟩ := ev_fresh hR (.int (lg_cmp x0 y0)) ev_full (fun z hz => ev_full_ok _)
        exact W.lcmp hx hb hd (hk _ (List.mem_singleton.mpr rfl) g' ws H locs ls _ (ev_le_tr hle l1) ⟨hP, hD, hS, hW, hB, hL, ev_v3 e1, hs.2.2⟩)
    · cases h2
  · cases h2
noncomputable def ev_dup : ev_O := (fun _ _ => some (.dup, 1, []), fun _ _ S => match S.2.2.1 with
  | x :: st => if ev_isL x = false then some [ev_adv S 1 (x :: x :: st)] else none
  | _ => none)
theorem ev_cat1 {g : ev_G} {a : ev_A} {v : Value} (hv : ev_v g a = some v) (h : ev_isL a = false) : v.category = 1 := by
  rcases ev_cat hv with ⟨h1, h2⟩ | ⟨h1, h2⟩
  · rw [h] at h1; cases h1
  · exact h2
theorem ev_dup_ok : ev_Snd ev_dup := by
  intro p l e R s m args below meth c cc Q D A g0 P t S i n cs Ss X h1 hd hw h2 hk g ws H locs ls sc hle hR
  obtain ⟨hx, hb, hml, hown, hts, hK, hA, hN, hini, hcC, hcS, hf, hlc, hscr⟩ := X
  obtain ⟨pc, L, st, w, K, ce, sl⟩ := S
  have h1 : some ((.dup : Instr), (1 : Nat), ([] : List Cond)) = some (i, n, cs) := h1
  cases h1
  unfold ev_dup at h2
  dsimp only at h2
  split at h2
  · rename_i x st'
    split at h2
    · rename_i hi
      cases h2
      obtain ⟨hP, hD, hS, hW, hB, hL, hs⟩ := hR
      obtain ⟨vx, sc2, rfl, hvx, hs2⟩ := ev_s_cons hs
      exact lv_dup hx hb hd (ev_cat1 hvx hi) (hk _ (List.mem_singleton.mpr rfl) g ws H locs ls _ hle ⟨hP, hD, hS, hW, hB, hL, hvx, hvx, hs2⟩)
    · cases h2
  · cases h2
noncomputable def ev_pop : ev_O := (fun _ _ => some (.pop, 1, []), fun _ _ S => match S.2.2.1 with
  | x :: st => if ev_isL x = false then some [ev_adv S 1 st] else none
  | _ => none)
theorem ev_pop_ok : ev_Snd ev_pop := by
  intro p l e R s m args below meth c cc Q D A g0 P t S i n cs Ss X h1 hd hw h2 hk g ws H locs ls sc hle hR
  obtain ⟨hx, hb, hml, hown, hts, hK, hA, hN, hini, hcC, hcS, hf, hlc, hscr⟩ := X
  obtain ⟨pc, L, st, w, K, ce, sl⟩ := S
  have h1 : some ((.pop : Instr), (1 : Nat), ([] : List Cond)) = some (i, n, cs) := h1
  cases h1
  unfold ev_pop at h2
  dsimp only at h2
  split at h2
  · rename_i x st'
    split at h2
    · rename_i hi
      cases h2
      obtain ⟨hP, hD, hS, hW, hB, hL, hs⟩ := hR
      obtain ⟨vx, sc2, rfl, hvx, hs2⟩ := ev_s_cons hs
      exact lv_pop hx hb hd (ev_cat1 hvx hi) (hk _ (List.mem_singleton.mpr rfl) g ws H locs ls _ hle ⟨hP, hD, hS, hW, hB, hL, hs2⟩)
    · cases h2
  · cases h2
noncomputable def ev_dup2 : ev_O := (fun _ _ => some (.dup2, 1, []), fun _ _ S => match S.2.2.1 with
  | x :: y :: st => if ev_isL x = false ∧ ev_isL y = false then some [ev_adv S 1 (x :: y :: x :: y :: st)] else none
  | _ => none)
theorem ev_dup2_ok : ev_Snd ev_dup2 := by
  intro p l e R s m args below meth c cc Q D A g0 P t S i n cs Ss X h1 hd hw h2 hk g ws H locs ls sc hle hR
  obtain ⟨hx, hb, hml, hown, hts, hK, hA, hN, hini, hcC, hcS, hf, hlc, hscr⟩ := X
  obtain ⟨pc, L, st, w, K, ce, sl⟩ := S
  have h1 : some ((.dup2 : Instr), (1 : Nat), ([] : List Cond)) = some (i, n, cs) := h1
  cases h1
  unfold ev_dup2 at h2
  dsimp only at h2
  split at h2
  · rename_i x y st'
    split at h2
    · rename_i hi
      cases h2
      obtain ⟨hP, hD, hS, hW, hB, hL, hs⟩ := hR
      obtain ⟨vx, sc1, rfl, hvx, hs1⟩ := ev_s_cons hs
      obtain ⟨vy, sc2, rfl, hvy, hs2⟩ := ev_s_cons hs1
      exact lv_dup2_11 hx hb hd (ev_cat1 hvx hi.1) (ev_cat1 hvy hi.2) (hk _ (List.mem_singleton.mpr rfl) g ws H locs ls _ hle ⟨hP, hD, hS, hW, hB, hL, hvx, hvy, hvx, hvy, hs2⟩)
    · cases h2
  · cases h2
noncomputable def ev_iinc : ev_O := (fun _ t => some (.iinc t.1.toNat t.2.1, 3, []), fun P t S => match ev_look S.2.1 t.1.toNat with
  | some x => if ev_isI x = true ∧ t.1.toNat < P.2.2.2.2.1 then (if x.1 = 0 then some [(S.1 + 3, ev_st1 S.2.1 t.1.toNat (0, (Int32.ofInt x.2 + Int32.ofInt t.2.1).toInt), S.2.2)] else some [(S.1 + 3, ev_st1 S.2.1 t.1.toNat (3, (S.2.2.2.2.1.length : Int)), S.2.2.1, S.2.2.2.1, S.2.2.2.2.1 ++ [ev_full], S.2.2.2.2.2)]) else none
  | none => none)
theorem ev_iinc_ok : ev_Snd ev_iinc := by
  intro p l e R s m args below meth c cc Q D A g0 P t S i n cs Ss X h1 hd hw h2 hk g ws H locs ls sc hle hR
  obtain ⟨hx, hb, hml, hown, hts, hK, hA, hN, hini, hcC, hcS, hf, hlc, hscr⟩ := X
  obtain ⟨pc, L, st, w, K, ce, sl⟩ := S
  have h1 : some ((.iinc t.1.toNat t.2.1 : Instr), (3 : Nat), ([] : List Cond)) = some (i, n, cs) := h1
  cases h1
  unfold ev_iinc at h2
  dsimp only at h2
  split at h2
  · rename_i x ha
    split at h2
    · rename_i hi
      have hR0 := hR
      obtain ⟨hP, hD, hS, hW, hB, hL, hs⟩ := hR0
      obtain ⟨v, hv, hl⟩ := hL.2.2 _ (ev_look_mem ha)
      dsimp only at hv hl
      obtain ⟨x0, rfl⟩ := ev_vI hi.1 hv
      split at h2
      · rename_i hz
        cases h2
        obtain ⟨xt, xn⟩ := x
        have hz : xt = 0 := hz
        subst hz
        have ex : Int32.ofInt xn = x0 := Value.int.inj (Option.some.inj hv)
        obtain ⟨k, hk1⟩ := List.getElem?_of_mem (ev_conc_mem (ev_look_mem ha) hv)
        refine lv_iinc hx hb hd (ev_conc_has hL) hk1 rfl hi.2 rfl (fun ls' hl' => hk _ (List.mem_singleton.mpr rfl) g ws H locs ls' _ hle ⟨hP, hD, hS, hW, hB, ev_st1_ok hL ?_ hl', hs⟩)
        dsimp only
        rw [ex]
        exact ev_v0 g _
      · cases h2
        obtain ⟨g', l1, ⟨hP, hD, hS, hW, hB, hL, hs⟩, e1⟩ := ev_fresh hR (.int (x0 + Int32.ofInt t.2.1)) ev_full (fun z hz => ev_full_ok _)
        have hv := ev_v_le l1 hv
        obtain ⟨k, hk1⟩ := List.getElem?_of_mem (ev_conc_mem (ev_look_mem ha) hv)
        exact lv_iinc hx hb hd (ev_conc_has hL) hk1 rfl hi.2 rfl (fun ls' hl' => hk _ (List.mem_singleton.mpr rfl) g' ws H locs ls' _ (ev_le_tr hle l1) ⟨hP, hD, hS, hW, hB, ev_st1_ok hL (ev_v3 e1) hl', hs⟩)
    · cases h2
  · cases h2
noncomputable def ev_cmp (r : Nat) (x y : Int32) : Bool := match r with
  | 0 => decide (x = y)
  | 1 => !decide (x = y)
  | 2 => decide (x < y)
  | 3 => decide (y ≤ x)
  | 4 => decide (y < x)
  | _ => decide (x ≤ y)
noncomputable def ev_neg (r : Nat) : Nat := match r with
  | 0 => 1
  | 1 => 0
  | 2 => 3
  | 3 => 2
  | 4 => 5
  | _ => 4
theorem ev_neg_ok (r : Nat) (x y : Int32) : ev_cmp (ev_neg r) x y = !ev_cmp r x y := by
  match r with
  | 0 => simp [ev_neg, ev_cmp]
  | 1 => simp [ev_neg, ev_cmp]
  | 2 => show decide (y ≤ x) = !decide (x < y); rw [← decide_not]; exact decide_eq_decide.mpr Int32.not_lt.symm
  | 3 => show decide (x < y) = !decide (y ≤ x); rw [← decide_not]; exact decide_eq_decide.mpr Int32.not_le.symm
  | 4 => show decide (x ≤ y) = !decide (y < x); rw [← decide_not]; exact decide_eq_decide.mpr Int32.not_lt.symm
  | n + 5 => show decide (y < x) = !decide (x ≤ y); rw [← decide_not]; exact decide_eq_decide.mpr Int32.not_le.symm
noncomputable def ev_swp (r : Nat) : Nat := match r with
  | 0 => 0
  | 1 => 1
  | 2 => 4
  | 3 => 5
  | 4 => 2
  | _ => 3
theorem ev_swp_ok (r : Nat) (x y : Int32) : ev_cmp (ev_swp r) y x = ev_cmp r x y := by
  match r with
  | 0 => simp [ev_swp, ev_cmp, eq_comm]
  | 1 => simp [ev_swp, ev_cmp, eq_comm]
  | 2 => rfl
  | 3 => rfl
  | 4 => rfl
  | n + 5 => rfl
noncomputable def ev_ref (r : Nat) (b : Int × Int) (c : Int) : Int × Int := match r with
  | 0 => (max b.1 c, min b.2 c)
  | 1 => (if b.1 = c then c + 1 else b.1, if b.2 = c then c - 1 else b.2)
  | 2 => (b.1, min b.2 (c - 1))
  | 3 => (max b.1 c, b.2)
  | 4 => (max b.1 (c + 1), b.2)
  | _ => (b.1, min b.2 c)
theorem ev_ref_ok {r : Nat} {b : Int × Int} {x y : Int32} (hb : b.1 ≤ x.toInt ∧ x.toInt ≤ b.2) (h : ev_cmp r x y = true) : (ev_ref r b y.toInt).1 ≤ x.toInt ∧ x.toInt ≤ (ev_ref r b y.toInt).2 := by
  match r, h with
  | 0, h =>
    have h : x = y := by simpa [ev_cmp] using h
    subst h
    simp only [ev_ref]
    omega
  | 1, h =>
    have h : ¬ x = y := by simpa [ev_cmp] using h
    have h : ¬ x.toInt = y.toInt := fun q => h (Int32.toInt_inj.mp q)
    simp only [ev_ref]
    constructor <;> split <;> omega
  | 2, h =>
    have h : x < y := by simpa [ev_cmp] using h
    rw [Int32.lt_iff_toInt_lt] at h
    simp only [ev_ref]
    omega
  | 3, h =>
    have h : y ≤ x := by simpa [ev_cmp] using h
    rw [Int32.le_iff_toInt_le] at h
    simp only [ev_ref]
    omega
  | 4, h =>
    have h : y < x := by simpa [ev_cmp] using h
    rw [Int32.lt_iff_toInt_lt] at h
    simp only [ev_ref]
    omega
  | n + 5, h =>
    have h : x ≤ y := by simpa [ev_cmp] using h
    rw [Int32.le_iff_toInt_le] at h
    simp only [ev_ref]
    omega
/-- the bounds under which 'x r y' holds: none if it can't -/
noncomputable def ev_nar (r : Nat) (a : ev_A) (c : Int32) (K : ev_K) : List ev_K := match K[a.2.toNat]? with
  | some b => if (ev_ref r b c.toInt).1 ≤ (ev_ref r b c.toInt).2 then [K.set a.2.toNat (ev_ref r b c.toInt)] else []
  | none => [K]
noncomputable def ev_br (r : Nat) (x y : ev_A) (K : ev_K) : List ev_K :=
  if x.1 = 0 ∧ y.1 = 0 then (if ev_cmp r (Int32.ofInt x.2) (Int32.ofInt y.2) = true then [K] else [])
  else if x.1 = 3 ∧ y.1 = 0 then ev_nar r x (Int32.ofInt y.2) K
  else if x.1 = 0 ∧ y.1 = 3 then ev_nar (ev_swp r) y (Int32.ofInt x.2) K
  else [K]
theorem ev_b_set {K : ev_K} {E : List Value} {k : Nat} {b : Int × Int} {x : Int32} (h : ev_b K E) (hx : E[k]? = some (.int x)) (hb : b.1 ≤ x.toInt ∧ x.toInt ≤ b.2) : ev_b (K.set k b) E := by
  refine ⟨by rw [List.length_set]; exact h.1, fun j q z h1 h2 => ?_⟩
  by_cases hj : j = k
  · subst hj
    have hl : j < (K.set j b).length := (List.getElem?_eq_some_iff.mp h1).1
    rw [List.length_set] at hl
    rw [List.getElem?_set_self hl] at h1
    cases h1
    rw [hx] at h2
    cases h2
    exact hb
  · rw [List.getElem?_set_ne (Ne.symm hj)] at h1
    exact h.2 j q z h1 h2
theorem ev_var {g : ev_G} {a : ev_A} {x : Int32} (h : a.1 = 3) (hv : ev_v g a = some (.int x)) : g.2.2[a.2.toNat]? = some (.int x) := by
  obtain ⟨t, n⟩ := a
  have h : t = 3 := h
  subst h
  simp only [ev_v] at hv
  split at hv
  · rename_i z hz
    cases hv
    exact hz
  · cases hv
theorem ev_nar_ok {r : Nat} {a : ev_A} {K : ev_K} {g : ev_G} {x y : Int32} (hB : ev_b K g.2.2) (ht : a.1 = 3) (hv : ev_v g a = some (.int x)) (h : ev_cmp r x y = true) : ∃ K' ∈ ev_nar r a y K, ev_b K' g.2.2 := by
  have hE := ev_var ht hv
  unfold ev_nar
  split
  · rename_i b hb
    have h1 := hB.2 _ b x hb hE
    have h2 := ev_ref_ok h1 h
    rw [if_pos (Int.le_trans h2.1 h2.2)]
    exact ⟨_, List.mem_singleton.mpr rfl, ev_b_set hB hE h2⟩
  · exact ⟨_, List.mem_singleton.mpr rfl, hB⟩
theorem ev_br_ok {r : Nat} {a b : ev_A} {K : ev_K} {g : ev_G} {x y : Int32} (hB : ev_b K g.2.2) (ha : ev_v g a = some (.int x)) (hb : ev_v g b = some (.int y)) (h : ev_cmp r x y = true) : ∃ K' ∈ ev_br r a b K, ev_b K' g.2.2 := by
  have cst : ∀ {z : ev_A} {n : Int32}, z.1 = 0 → ev_v g z = some (.int n) → Int32.ofInt z.2 = n := by
    intro z n hz hv
    obtain ⟨t, k⟩ := z
    have hz : t = 0 := hz
    subst hz
    exact Value.int.inj (Option.some.inj hv)
  unfold ev_br
  split
  · rename_i hz
    rw [cst hz.1 ha, cst hz.2 hb, if_pos h]
    exact ⟨_, List.mem_singleton.mpr rfl, hB⟩
  · split
    · rename_i hz
      rw [cst hz.2 hb]
      exact ev_nar_ok hB hz.1 ha h
    · split
      · rename_i hz
        rw [cst hz.1 ha]
        exact ev_nar_ok hB hz.2 hb (by rw [ev_swp_ok]; exact h)
      · exact ⟨_, List.mem_singleton.mpr rfl, hB⟩
noncomputable def ev_setK (S : ev_S) (pc : Nat) (st : List ev_A) (K : ev_K) : ev_S := (pc, S.2.1, st, S.2.2.2.1, K, S.2.2.2.2.2)
noncomputable def ev_fork (r : Nat) (x y : ev_A) (off : Int) (st : List ev_A) (S : ev_S) : Option (List ev_S) :=
  if 0 ≤ (S.1 : Int) + off then some ((ev_br r x y S.2.2.2.2.1).map (ev_setK S ((S.1 : Int) + off).toNat st) ++ (ev_br (ev_neg r) x y S.2.2.2.2.1).map (ev_setK S (S.1 + 3) st)) else none
theorem ev_fork_ok {r : Nat} {a b : ev_A} {off : Int} {st' : List ev_A} {pc : Nat} {L : List (Nat × ev_A)} {st : List ev_A} {w : List ev_C} {K : ev_K} {ce sl : Nat} {Ss : List ev_S} (h : ev_fork r a b off st' (pc, L, st, w, K, ce, sl) = some Ss)
    {p : Program} {l : Launch} {e : Env} {R : Room} {s : State} {m : MethodId} {args : Array Value} {below : List Frame} {meth : Method} {c : Code} {Q : State → Prop} {nL : Nat} {D : va_G} {A : Nat → Prop} {g0 : ev_G} (hk : ∀ S' ∈ Ss, ev_Go p l e R s m args below meth c Q nL D A g0 S')
    {g : ev_G} {ws : va_W} {H : Heap} {locs : List Loc} {ls : Array Slot} {sc : List Value} (hle : ev_le g0 g) (hP : va_P D vwCl ws H) (hD : va_D A ws) (hS : va_S A s.heap H locs) (hW : ev_w s g w ws) (hB : ev_b K g.2.2) (hL : ev_l g L nL ls) (hs : ev_s g st' sc) {x y : Int32} (ha : ev_v g a = some (.int x)) (hb : ev_v g b = some (.int y)) :
    ∃ tgt : Nat, (pc : Int) + off = (tgt : Int) ∧ (ev_cmp r x y = true → W p l e R s m args below meth c H locs ce sl Q (F0 m tgt ls sc)) ∧ (ev_cmp r x y = false → W p l e R s m args below meth c H locs ce sl Q (F0 m (pc + 3) ls sc)) := by
  unfold ev_fork at h
  split at h
  · rename_i h0
    dsimp only at h0
    cases h
    refine ⟨((pc : Int) + off).toNat, by omega, fun hc => ?_, fun hc => ?_⟩
    · obtain ⟨K', h1, h2⟩ := ev_br_ok hB ha hb hc
      exact hk _ (List.mem_append_left _ (List.mem_map.mpr ⟨K', h1, rfl⟩)) g ws H locs ls sc hle ⟨hP, hD, hS, hW, h2, hL, hs⟩
    · obtain ⟨K', h1, h2⟩ := ev_br_ok (r := ev_neg r) hB ha hb (by rw [ev_neg_ok, hc]; rfl)
      exact hk _ (List.mem_append_right _ (List.mem_map.mpr ⟨K', h1, rfl⟩)) g ws H locs ls sc hle ⟨hP, hD, hS, hW, h2, hL, hs⟩
  · cases h

noncomputable def ev_icmp_eq : ev_O := (fun _ t => some (.if_icmp .eq t.1, 3, []), fun _ t S => match S.2.2.1 with
  | y :: x :: st => if ev_isI x = true ∧ ev_isI y = true then ev_fork 0 x y t.1 st S else none
  | _ => none)
theorem ev_icmp_eq_ok : ev_Snd ev_icmp_eq := by
  intro p l e R s m args below meth c cc Q D A g0 P t S i n cs Ss X h1 hd hw h2 hk g ws H locs ls sc hle hR
  obtain ⟨hx, hb, hml, hown, hts, hK, hA, hN, hini, hcC, hcS, hf, hlc, hscr⟩ := X
  obtain ⟨pc, L, st, w, K, ce, sl⟩ := S
  have h1 : some ((.if_icmp .eq t.1 : Instr), (3 : Nat), ([] : List Cond)) = some (i, n, cs) := h1
  cases h1
  unfold ev_icmp_eq at h2
  dsimp only at h2
  split at h2
  · rename_i y x st'
    split at h2
    · rename_i hi
      obtain ⟨hP, hD, hS, hW, hB, hL, hs⟩ := hR
      obtain ⟨vy, sc1, rfl, hvy, hs1⟩ := ev_s_cons hs
      obtain ⟨vx, sc2, rfl, hvx, hs2⟩ := ev_s_cons hs1
      obtain ⟨y0, rfl⟩ := ev_vI hi.2 hvy
      obtain ⟨x0, rfl⟩ := ev_vI hi.1 hvx
      obtain ⟨tgt, ht, k1, k2⟩ := ev_fork_ok h2 hk hle hP hD hS hW hB hL hs2 hvx hvy
      exact lv_icmp_eq hx hb hd ht (fun q => k1 (by simpa [ev_cmp] using q)) (fun q => k2 (by simpa [ev_cmp] using q))
    · cases h2
  · cases h2
noncomputable def ev_if_eq : ev_O := (fun _ t => some (.ifCond .eq t.1, 3, []), fun _ t S => match S.2.2.1 with
  | x :: st => if ev_isI x = true then ev_fork 0 x (0, 0) t.1 st S else none
  | _ => none)
theorem ev_if_eq_ok : ev_Snd ev_if_eq := by
  intro p l e R s m args below meth c cc Q D A g0 P t S i n cs Ss X h1 hd hw h2 hk g ws H locs ls sc hle hR
  obtain ⟨hx, hb, hml, hown, hts, hK, hA, hN, hini, hcC, hcS, hf, hlc, hscr⟩ := X
  obtain ⟨pc, L, st, w, K, ce, sl⟩ := S
  have h1 : some ((.ifCond .eq t.1 : Instr), (3 : Nat), ([] : List Cond)) = some (i, n, cs) := h1
  cases h1
  unfold ev_if_eq at h2
  dsimp only at h2
  split at h2
  · rename_i x st'
    split at h2
    · rename_i hi
      obtain ⟨hP, hD, hS, hW, hB, hL, hs⟩ := hR
      obtain ⟨vx, sc2, rfl, hvx, hs2⟩ := ev_s_cons hs
      obtain ⟨x0, rfl⟩ := ev_vI hi hvx
      obtain ⟨tgt, ht, k1, k2⟩ := ev_fork_ok h2 hk hle hP hD hS hW hB hL hs2 hvx (show ev_v g (0, 0) = some (.int 0) from rfl)
      exact lv_if_eq hx hb hd ht (fun q => k1 (by simpa [ev_cmp] using q)) (fun q => k2 (by simpa [ev_cmp] using q))
    · cases h2
  · cases h2

noncomputable def ev_icmp_ne : ev_O := (fun _ t => some (.if_icmp .ne t.1, 3, []), fun _ t S => match S.2.2.1 with
  | y :: x :: st => if ev_isI x = true ∧ ev_isI y = true then ev_fork 1 x y t.1 st S else none
  | _ => none)
theorem ev_icmp_ne_ok : ev_Snd ev_icmp_ne := by
  intro p l e R s m args below meth c cc Q D A g0 P t S i n cs Ss X h1 hd hw h2 hk g ws H locs ls sc hle hR
  obtain ⟨hx, hb, hml, hown, hts, hK, hA, hN, hini, hcC, hcS, hf, hlc, hscr⟩ := X
  obtain ⟨pc, L, st, w, K, ce, sl⟩ := S
  have h1 : some ((.if_icmp .ne t.1 : Instr), (3 : Nat), ([] : List Cond)) = some (i, n, cs) := h1
  cases h1
  unfold ev_icmp_ne at h2
  dsimp only at h2
  split at h2
  · rename_i y x st'
    split at h2
    · rename_i hi
      obtain ⟨hP, hD, hS, hW, hB, hL, hs⟩ := hR
      obtain ⟨vy, sc1, rfl, hvy, hs1⟩ := ev_s_cons hs
      obtain ⟨vx, sc2, rfl, hvx, hs2⟩ := ev_s_cons hs1
      obtain ⟨y0, rfl⟩ := ev_vI hi.2 hvy
      obtain ⟨x0, rfl⟩ := ev_vI hi.1 hvx
      obtain ⟨tgt, ht, k1, k2⟩ := ev_fork_ok h2 hk hle hP hD hS hW hB hL hs2 hvx hvy
      exact lv_icmp_ne hx hb hd ht (fun q => k1 (by simpa [ev_cmp] using q)) (fun q => k2 (by simpa [ev_cmp] using q))
    · cases h2
  · cases h2
noncomputable def ev_if_ne : ev_O := (fun _ t => some (.ifCond .ne t.1, 3, []), fun _ t S => match S.2.2.1 with
  | x :: st => if ev_isI x = true then ev_fork 1 x (0, 0) t.1 st S else none
  | _ => none)
theorem ev_if_ne_ok : ev_Snd ev_if_ne := by
  intro p l e R s m args below meth c cc Q D A g0 P t S i n cs Ss X h1 hd hw h2 hk g ws H locs ls sc hle hR
  obtain ⟨hx, hb, hml, hown, hts, hK, hA, hN, hini, hcC, hcS, hf, hlc, hscr⟩ := X
  obtain ⟨pc, L, st, w, K, ce, sl⟩ := S
  have h1 : some ((.ifCond .ne t.1 : Instr), (3 : Nat), ([] : List Cond)) = some (i, n, cs) := h1
  cases h1
  unfold ev_if_ne at h2
  dsimp only at h2
  split at h2
  · rename_i x st'
    split at h2
    · rename_i hi
      obtain ⟨hP, hD, hS, hW, hB, hL, hs⟩ := hR
      obtain ⟨vx, sc2, rfl, hvx, hs2⟩ := ev_s_cons hs
      obtain ⟨x0, rfl⟩ := ev_vI hi hvx
      obtain ⟨tgt, ht, k1, k2⟩ := ev_fork_ok h2 hk hle hP hD hS hW hB hL hs2 hvx (show ev_v g (0, 0) = some (.int 0) from rfl)
      exact lv_if_ne hx hb hd ht (fun q => k1 (by simpa [ev_cmp] using q)) (fun q => k2 (by simpa [ev_cmp] using q))
    · cases h2
  · cases h2

noncomputable def ev_icmp_lt : ev_O := (fun _ t => some (.if_icmp .lt t.1, 3, []), fun _ t S => match S.2.2.1 with
  | y :: x :: st => if ev_isI x = true ∧ ev_isI y = true then ev_fork 2 x y t.1 st S else none
  | _ => none)
theorem ev_icmp_lt_ok : ev_Snd ev_icmp_lt := by
  intro p l e R s m args below meth c cc Q D A g0 P t S i n cs Ss X h1 hd hw h2 hk g ws H locs ls sc hle hR
  obtain ⟨hx, hb, hml, hown, hts, hK, hA, hN, hini, hcC, hcS, hf, hlc, hscr⟩ := X
  obtain ⟨pc, L, st, w, K, ce, sl⟩ := S
  have h1 : some ((.if_icmp .lt t.1 : Instr), (3 : Nat), ([] : List Cond)) = some (i, n, cs) := h1
  cases h1
  unfold ev_icmp_lt at h2
  dsimp only at h2
  split at h2
  · rename_i y x st'
    split at h2
    · rename_i hi
      obtain ⟨hP, hD, hS, hW, hB, hL, hs⟩ := hR
      obtain ⟨vy, sc1, rfl, hvy, hs1⟩ := ev_s_cons hs
      obtain ⟨vx, sc2, rfl, hvx, hs2⟩ := ev_s_cons hs1
      obtain ⟨y0, rfl⟩ := ev_vI hi.2 hvy
      obtain ⟨x0, rfl⟩ := ev_vI hi.1 hvx
      obtain ⟨tgt, ht, k1, k2⟩ := ev_fork_ok h2 hk hle hP hD hS hW hB hL hs2 hvx hvy
      exact lv_icmp_lt hx hb hd ht (fun q => k1 (by simpa [ev_cmp] using q)) (fun q => k2 (by simpa [ev_cmp] using q))
    · cases h2
  · cases h2
noncomputable def ev_if_lt : ev_O := (fun _ t => some (.ifCond .lt t.1, 3, []), fun _ t S => match S.2.2.1 with
  | x :: st => if ev_isI x = true then ev_fork 2 x (0, 0) t.1 st S else none
  | _ => none)
theorem ev_if_lt_ok : ev_Snd ev_if_lt := by
  intro p l e R s m args below meth c cc Q D A g0 P t S i n cs Ss X h1 hd hw h2 hk g ws H locs ls sc hle hR
  obtain ⟨hx, hb, hml, hown, hts, hK, hA, hN, hini, hcC, hcS, hf, hlc, hscr⟩ := X
  obtain ⟨pc, L, st, w, K, ce, sl⟩ := S
  have h1 : some ((.ifCond .lt t.1 : Instr), (3 : Nat), ([] : List Cond)) = some (i, n, cs) := h1
  cases h1
  unfold ev_if_lt at h2
  dsimp only at h2
  split at h2
  · rename_i x st'
    split at h2
    · rename_i hi
      obtain ⟨hP, hD, hS, hW, hB, hL, hs⟩ := hR
      obtain ⟨vx, sc2, rfl, hvx, hs2⟩ := ev_s_cons hs
      obtain ⟨x0, rfl⟩ := ev_vI hi hvx
      obtain ⟨tgt, ht, k1, k2⟩ := ev_fork_ok h2 hk hle hP hD hS hW hB hL hs2 hvx (show ev_v g (0, 0) = some (.int 0) from rfl)
      exact lv_if_lt hx hb hd ht (fun q => k1 (by simpa [ev_cmp] using q)) (fun q => k2 (by simpa [ev_cmp] using q))
    · cases h2
  · cases h2

noncomputable def ev_icmp_ge : ev_O := (fun _ t => some (.if_icmp .ge t.1, 3, []), fun _ t S => match S.2.2.1 with
  | y :: x :: st => if ev_isI x = true ∧ ev_isI y = true then ev_fork 3 x y t.1 st S else none
  | _ => none)
theorem ev_icmp_ge_ok : ev_Snd ev_icmp_ge := by
  intro p l e R s m args below meth c cc Q D A g0 P t S i n cs Ss X h1 hd hw h2 hk g ws H locs ls sc hle hR
  obtain ⟨hx, hb, hml, hown, hts, hK, hA, hN, hini, hcC, hcS, hf, hlc, hscr⟩ := X
  obtain ⟨pc, L, st, w, K, ce, sl⟩ := S
  have h1 : some ((.if_icmp .ge t.1 : Instr), (3 : Nat), ([] : List Cond)) = some (i, n, cs) := h1
  cases h1
  unfold ev_icmp_ge at h2
  dsimp only at h2
  split at h2
  · rename_i y x st'
    split at h2
    · rename_i hi
      obtain ⟨hP, hD, hS, hW, hB, hL, hs⟩ := hR
      obtain ⟨vy, sc1, rfl, hvy, hs1⟩ := ev_s_cons hs
      obtain ⟨vx, sc2, rfl, hvx, hs2⟩ := ev_s_cons hs1
      obtain ⟨y0, rfl⟩ := ev_vI hi.2 hvy
      obtain ⟨x0, rfl⟩ := ev_vI hi.1 hvx
      obtain ⟨tgt, ht, k1, k2⟩ := ev_fork_ok h2 hk hle hP hD hS hW hB hL hs2 hvx hvy
      exact lv_icmp_ge hx hb hd ht (fun q => k1 (by simpa [ev_cmp] using q)) (fun q => k2 (by simpa [ev_cmp] using q))
    · cases h2
  · cases h2
noncomputable def ev_if_ge : ev_O := (fun _ t => some (.ifCond .ge t.1, 3, []), fun _ t S => match S.2.2.1 with
  | x :: st => if ev_isI x = true then ev_fork 3 x (0, 0) t.1 st S else none
  | _ => none)
theorem ev_if_ge_ok : ev_Snd ev_if_ge := by
  intro p l e R s m args below meth c cc Q D A g0 P t S i n cs Ss X h1 hd hw h2 hk g ws H locs ls sc hle hR
  obtain ⟨hx, hb, hml, hown, hts, hK, hA, hN, hini, hcC, hcS, hf, hlc, hscr⟩ := X
  obtain ⟨pc, L, st, w, K, ce, sl⟩ := S
  have h1 : some ((.ifCond .ge t.1 : Instr), (3 : Nat), ([] : List Cond)) = some (i, n, cs) := h1
  cases h1
  unfold ev_if_ge at h2
  dsimp only at h2
  split at h2
  · rename_i x st'
    split at h2
    · rename_i hi
      obtain ⟨hP, hD, hS, hW, hB, hL, hs⟩ := hR
      obtain ⟨vx, sc2, rfl, hvx, hs2⟩ := ev_s_cons hs
      obtain ⟨x0, rfl⟩ := ev_vI hi hvx
      obtain ⟨tgt, ht, k1, k2⟩ := ev_fork_ok h2 hk hle hP hD hS hW hB hL hs2 hvx (show ev_v g (0, 0) = some (.int 0) from rfl)
      exact lv_if_ge hx hb hd ht (fun q => k1 (by simpa [ev_cmp] using q)) (fun q => k2 (by simpa [ev_cmp] using q))
    · cases h2
  · cases h2

noncomputable def ev_icmp_gt : ev_O := (fun _ t => some (.if_icmp .gt t.1, 3, []), fun _ t S => match S.2.2.1 with
  | y :: x :: st => if ev_isI x = true ∧ ev_isI y = true then ev_fork 4 x y t.1 st S else none
  | _ => none)
theorem ev_icmp_gt_ok : ev_Snd ev_icmp_gt := by
  intro p l e R s m args below meth c cc Q D A g0 P t S i n cs Ss X h1 hd hw h2 hk g ws H locs ls sc hle hR
  obtain ⟨hx, hb, hml, hown, hts, hK, hA, hN, hini, hcC, hcS, hf, hlc, hscr⟩ := X
  obtain ⟨pc, L, st, w, K, ce, sl⟩ := S
  have h1 : some ((.if_icmp .gt t.1 : Instr), (3 : Nat), ([] : List Cond)) = some (i, n, cs) := h1
  cases h1
  unfold ev_icmp_gt at h2
  dsimp only at h2
  split at h2
  · rename_i y x st'
    split at h2
    · rename_i hi
      obtain ⟨hP, hD, hS, hW, hB, hL, hs⟩ := hR
      obtain ⟨vy, sc1, rfl, hvy, hs1⟩ := ev_s_cons hs
      obtain ⟨vx, sc2, rfl, hvx, hs2⟩ := ev_s_cons hs1
      obtain ⟨y0, rfl⟩ := ev_vI hi.2 hvy
      obtain ⟨x0, rfl⟩ := ev_vI hi.1 hvx
      obtain ⟨tgt, ht, k1, k2⟩ := ev_fork_ok h2 hk hle hP hD hS hW hB hL hs2 hvx hvy
      exact lv_icmp_gt hx hb hd ht (fun q => k1 (by simpa [ev_cmp] using q)) (fun q => k2 (by simpa [ev_cmp] using q))
    · cases h2
  · cases h2
noncomputable def ev_if_gt : ev_O := (fun _ t => some (.ifCond .gt t.1, 3, []), fun _ t S => match S.2.2.1 with
  | x :: st => if ev_isI x = true then ev_fork 4 x (0, 0) t.1 st S else none
  | _ => none)
theorem ev_if_gt_ok : ev_Snd ev_if_gt := by
  intro p l e R s m args below meth c cc Q D A g0 P t S i n cs Ss X h1 hd hw h2 hk g ws H locs ls sc hle hR
  obtain ⟨hx, hb, hml, hown, hts, hK, hA, hN, hini, hcC, hcS, hf, hlc, hscr⟩ := X
  obtain ⟨pc, L, st, w, K, ce, sl⟩ := S
  have h1 : some ((.ifCond .gt t.1 : Instr), (3 : Nat), ([] : List Cond)) = some (i, n, cs) := h1
  cases h1
  unfold ev_if_gt at h2
  dsimp only at h2
  split at h2
  · rename_i x st'
    split at h2
    · rename_i hi
      obtain ⟨hP, hD, hS, hW, hB, hL, hs⟩ := hR
      obtain ⟨vx, sc2, rfl, hvx, hs2⟩ := ev_s_cons hs
      obtain ⟨x0, rfl⟩ := ev_vI hi hvx
      obtain ⟨tgt, ht, k1, k2⟩ := ev_fork_ok h2 hk hle hP hD hS hW hB hL hs2 hvx (show ev_v g (0, 0) = some (.int 0) from rfl)
      exact lv_if_gt hx hb hd ht (fun q => k1 (by simpa [ev_cmp] using q)) (fun q => k2 (by simpa [ev_cmp] using q))
    · cases h2
  · cases h2

noncomputable def ev_icmp_le : ev_O := (fun _ t => some (.if_icmp .le t.1, 3, []), fun _ t S => match S.2.2.1 with
  | y :: x :: st => if ev_isI x = true ∧ ev_isI y = true then ev_fork 5 x y t.1 st S else none
  | _ => none)
theorem ev_icmp_le_ok : ev_Snd ev_icmp_le := by
  intro p l e R s m args below meth c cc Q D A g0 P t S i n cs Ss X h1 hd hw h2 hk g ws H locs ls sc hle hR
  obtain ⟨hx, hb, hml, hown, hts, hK, hA, hN, hini, hcC, hcS, hf, hlc, hscr⟩ := X
  obtain ⟨pc, L, st, w, K, ce, sl⟩ := S
  have h1 : some ((.if_icmp .le t.1 : Instr), (3 : Nat), ([] : List Cond)) = some (i, n, cs) := h1
  cases h1
  unfold ev_icmp_le at h2
  dsimp only at h2
  split at h2
  · rename_i y x st'
    split at h2
    · rename_i hi
      obtain ⟨hP, hD, hS, hW, hB, hL, hs⟩ := hR
      obtain ⟨vy, sc1, rfl, hvy, hs1⟩ := ev_s_cons hs
      obtain ⟨vx, sc2, rfl, hvx, hs2⟩ := ev_s_cons hs1
      obtain ⟨y0, rfl⟩ := ev_vI hi.2 hvy
      obtain ⟨x0, rfl⟩ := ev_vI hi.1 hvx
      obtain ⟨tgt, ht, k1, k2⟩ := ev_fork_ok h2 hk hle hP hD hS hW hB hL hs2 hvx hvy
      exact lv_icmp_le hx hb hd ht (fun q => k1 (by simpa [ev_cmp] using q)) (fun q => k2 (by simpa [ev_cmp] using q))
    · cases h2
  · cases h2
noncomputable def ev_if_le : ev_O := (fun _ t => some (.ifCond .le t.1, 3, []), fun _ t S => match S.2.2.1 with
  | x :: st => if ev_isI x = true then ev_fork 5 x (0, 0) t.1 st S else none
  | _ => none)
theorem ev_if_le_ok : ev_Snd ev_if_le := by
  intro p l e R s m args below meth c cc Q D A g0 P t S i n cs Ss X h1 hd hw h2 hk g ws H locs ls sc hle hR
  obtain ⟨hx, hb, hml, hown, hts, hK, hA, hN, hini, hcC, hcS, hf, hlc, hscr⟩ := X
  obtain ⟨pc, L, st, w, K, ce, sl⟩ := S
  have h1 : some ((.ifCond .le t.1 : Instr), (3 : Nat), ([] : List Cond)) = some (i, n, cs) := h1
  cases h1
  unfold ev_if_le at h2
  dsimp only at h2
  split at h2
  · rename_i x st'
    split at h2
    · rename_i hi
      obtain ⟨hP, hD, hS, hW, hB, hL, hs⟩ := hR
      obtain ⟨vx, sc2, rfl, hvx, hs2⟩ := ev_s_cons hs
      obtain ⟨x0, rfl⟩ := ev_vI hi hvx
      obtain ⟨tgt, ht, k1, k2⟩ := ev_fork_ok h2 hk hle hP hD hS hW hB hL hs2 hvx (show ev_v g (0, 0) = some (.int 0) from rfl)
      exact lv_if_le hx hb hd ht (fun q => k1 (by simpa [ev_cmp] using q)) (fun q => k2 (by simpa [ev_cmp] using q))
    · cases h2
  · cases h2

noncomputable def ev_goto : ev_O := (fun _ t => some (.goto t.1, 3, []), fun _ t S => if 0 ≤ (S.1 : Int) + t.1 then some [(((S.1 : Int) + t.1).toNat, S.2)] else none)
theorem ev_goto_ok : ev_Snd ev_goto := by
  intro p l e R s m args below meth c cc Q D A g0 P t S i n cs Ss X h1 hd hw h2 hk g ws H locs ls sc hle hR
  obtain ⟨hx, hb, hml, hown, hts, hK, hA, hN, hini, hcC, hcS, hf, hlc, hscr⟩ := X
  obtain ⟨pc, L, st, w, K, ce, sl⟩ := S
  have h1 : some ((.goto t.1 : Instr), (3 : Nat), ([] : List Cond)) = some (i, n, cs) := h1
  cases h1
  unfold ev_goto at h2
  dsimp only at h2
  split at h2
  · rename_i h0
    cases h2
    exact lv_goto (tgt := ((pc : Int) + t.1).toNat) hx hb hd (by omega) (hk _ (List.mem_singleton.mpr rfl) g ws H locs ls sc hle hR)
  · cases h2
noncomputable def ev_swV (b : Int × Int) (lo hi : Int) (offs : List Int) (dflt : Int) (k : Nat) (st : List ev_A) (S : ev_S) : List ev_S :=
  (List.range offs.length).filterMap (fun (j : Nat) => if b.1 ≤ lo + (j : Int) ∧ lo + (j : Int) ≤ b.2 then some (ev_setK S ((S.1 : Int) + offs.getD j 0).toNat st (S.2.2.2.2.1.set k (lo + (j : Int), lo + (j : Int)))) else none)
  ++ [ev_setK S ((S.1 : Int) + dflt).toNat st (S.2.2.2.2.1.set k (b.1, min b.2 (lo - 1))), ev_setK S ((S.1 : Int) + dflt).toNat st (S.2.2.2.2.1.set k (max b.1 (hi + 1), b.2))].filter (fun S' => match S'.2.2.2.2.1[k]? with
    | some q => decide (q.1 ≤ q.2)
    | none => true)
noncomputable def ev_sw : ev_O := (fun _ t => match t.2.2.2 with
  | len :: offs => some (.tableswitch t.1 t.2.1 t.2.2.1 offs.toArray, len.toNat, [])
  | [] => none, fun _ t S => match t.2.2.2, S.2.2.1 with
  | _ :: offs, x :: st =>
    if ev_isI x = true ∧ t.2.2.1 - t.2.1 + 1 = (offs.length : Int) ∧ 0 ≤ (S.1 : Int) + t.1 ∧ offs.all (fun o => decide (0 ≤ (S.1 : Int) + o)) = true then
      (if x.1 = 0 then
        (if (Int32.ofInt x.2).toInt < t.2.1 ∨ t.2.2.1 < (Int32.ofInt x.2).toInt then some [((((S.1 : Int) + t.1).toNat), S.2.1, st, S.2.2.2)] else some [((((S.1 : Int) + offs.getD ((Int32.ofInt x.2).toInt - t.2.1).toNat 0).toNat), S.2.1, st, S.2.2.2)])
       else match S.2.2.2.2.1[x.2.toNat]? with
        | some b => some (ev_swV b t.2.1 t.2.2.1 offs t.1 x.2.toNat st S)
        | none => none)
    else none
  | _, _ => none)
theorem ev_sw_ok : ev_Snd ev_sw := by
  intro p l e R s m args below meth c cc Q D A g0 P t S i n cs Ss X h1 hd hw h2 hk g ws H locs ls sc hle hR
  obtain ⟨hx, hb, hml, hown, hts, hK, hA, hN, hini, hcC, hcS, hf, hlc, hscr⟩ := X
  obtain ⟨pc, L, st, w, K, ce, sl⟩ := S
  obtain ⟨dflt, lo, hi, offs0⟩ := t
  cases offs0 with
  | nil => cases h1
  | cons len offs =>
    have h1 : some ((.tableswitch dflt lo hi offs.toArray : Instr), len.toNat, ([] : List Cond)) = some (i, n, cs) := h1
    cases h1
    unfold ev_sw at h2
    dsimp only at h2
    cases st with
    | nil => cases h2
    | cons x st' =>
      dsimp only at h2
      split at h2
      · rename_i hi0
        obtain ⟨hI, hlen, hd0, hall⟩ := hi0
        have hin : ∀ j : Nat, j < offs.length → ∃ o : Int, offs[j]? = some o ∧ offs.getD j 0 = o ∧ 0 ≤ (pc : Int) + o := by
          intro j hj
          refine ⟨offs[j], List.getElem?_eq_getElem hj, by simp [List.getD, List.getElem?_eq_getElem hj], ?_⟩
          have := List.all_eq_true.mp hall offs[j] (List.getElem_mem hj)
          simpa using this
        obtain ⟨hP, hD, hS, hW, hB, hL, hs⟩ := hR
        obtain ⟨vx, sc2, rfl, hvx, hs2⟩ := ev_s_cons hs
        obtain ⟨x0, rfl⟩ := ev_vI hI hvx
        have hin2 : ¬ x0.toInt < lo → ¬ hi < x0.toInt → ∃ o : Int, offs.toArray[(x0.toInt - lo).toNat]? = some o ∧ offs.getD (x0.toInt - lo).toNat 0 = o ∧ (pc : Int) + o = (((pc : Int) + o).toNat : Int) := by
          intro q1 q2
          obtain ⟨o, a1, a2, a3⟩ := hin (x0.toInt - lo).toNat (by omega)
          exact ⟨o, by simpa using a1, a2, by omega⟩
        split at h2
        · rename_i hz
          obtain ⟨xt, xn⟩ := x
          have hz : xt = 0 := hz
          subst hz
          have ex : Int32.ofInt xn = x0 := Value.int.inj (Option.some.inj hvx)
          dsimp only at h2
          rw [ex] at h2
          split at h2
          · rename_i hq
            cases h2
            exact lv_tableOut (tgt := ((pc : Int) + dflt).toNat) hx hb hd hq (by omega) (hk _ (List.mem_singleton.mpr rfl) g ws H locs ls sc2 hle ⟨hP, hD, hS, hW, hB, hL, hs2⟩)
          · rename_i hq
            cases h2
            have q1 : ¬ x0.toInt < lo := fun z => hq (Or.inl z)
            have q2 : ¬ hi < x0.toInt := fun z => hq (Or.inr z)
            obtain ⟨o, a1, a2, a3⟩ := hin2 q1 q2
            exact lv_tableIn hx hb hd q1 q2 a1 a3 (by
              have := hk _ (List.mem_singleton.mpr rfl) g ws H locs ls sc2 hle ⟨hP, hD, hS, hW, hB, hL, hs2⟩
              dsimp only at this
              rw [a2] at this
              exact this)
        · rename_i hz
          have h3 : x.1 = 3 := by
            simp only [ev_isI, Bool.or_eq_true, beq_iff_eq] at hI
            rcases hI with q | q
            · exact absurd q hz
            · exact q
          split at h2
          · rename_i b hb0
            cases h2
            have hE := ev_var h3 hvx
            have hbd := hB.2 _ b x0 hb0 hE
            have hkl : x.2.toNat < K.length := (List.getElem?_eq_some_iff.mp hb0).1
            by_cases q1 : x0.toInt < lo
            · refine lv_tableOut (tgt := ((pc : Int) + dflt).toNat) hx hb hd (Or.inl q1) (by omega) (hk (ev_setK (pc, L, x :: st', w, K, ce, sl) ((pc : Int) + dflt).toNat st' (K.set x.2.toNat (b.1, min b.2 (lo - 1)))) (List.mem_append_right _ (List.mem_filter.mpr ⟨List.mem_cons_self, ?_⟩)) g ws H locs ls sc2 hle ⟨hP, hD, hS, hW, ev_b_set hB hE (by dsimp only; omega), hL, hs2⟩)
              simp only [ev_setK, List.getElem?_set_self hkl, decide_eq_true_eq]
              omega
            · by_cases q2 : hi < x0.toInt
              · refine lv_tableOut (tgt := ((pc : Int) + dflt).toNat) hx hb hd (Or.inr q2) (by omega) (hk (ev_setK (pc, L, x :: st', w, K, ce, sl) ((pc : Int) + dflt).toNat st' (K.set x.2.toNat (max b.1 (hi + 1), b.2))) (List.mem_append_right _ (List.mem_filter.mpr ⟨List.mem_cons_of_mem _ List.mem_cons_self, ?_⟩)) g ws H locs ls sc2 hle ⟨hP, hD, hS, hW, ev_b_set hB hE (by dsimp only; omega), hL, hs2⟩)
                simp only [ev_setK, List.getElem?_set_self hkl, decide_eq_true_eq]
                omega
              · obtain ⟨o, a1, a2, a3⟩ := hin2 q1 q2
                have hj : lo + ((x0.toInt - lo).toNat : Int) = x0.toInt := by omega
                have hmem : ev_setK (pc, L, x :: st', w, K, ce, sl) ((pc : Int) + o).toNat st' (K.set x.2.toNat (x0.toInt, x0.toInt)) ∈ ev_swV b lo hi offs dflt x.2.toNat st' (pc, L, x :: st', w, K, ce, sl) := by
                  refine List.mem_append_left _ (List.mem_filterMap.mpr ⟨(x0.toInt - lo).toNat, List.mem_range.mpr (by omega), ?_⟩)
                  rw [hj, if_pos hbd, a2]
                exact lv_tableIn hx hb hd q1 q2 a1 a3 (hk _ hmem g ws H locs ls sc2 hle ⟨hP, hD, hS, hW, ev_b_set hB hE (by dsimp only; omega), hL, hs2⟩)
          · cases h2
      · cases h2
theorem lw_good_ps {ws : List Cond} (ps : List Nat) (hp : ws = ps.filterMap lw_at) (h : ws.all goodWord = true) : ∀ w ∈ ws, w ∈ lw_good := by
  intro w hw
  have h1 := List.all_eq_true.mp h w hw
  rw [hp] at hw
  obtain ⟨i, -, hi⟩ := List.mem_filterMap.mp hw
  exact lw_good_at i (lw_at_ok hi) h1
set_option maxRecDepth 100000 in
theorem ev_in0 : ∀ w ∈ u_ws RX0 TX0 5, w ∈ lw_good := lw_good_ps [374, 376, 378, 380, 382] (by decide +kernel) (by decide +kernel)
set_option maxRecDepth 100000 in
theorem ev_in1 : ∀ w ∈ u_ws RX1 TX1 3, w ∈ lw_good := lw_good_ps [435, 437, 439] (by decide +kernel) (by decide +kernel)
set_option maxRecDepth 100000 in
theorem ev_in2 : ∀ w ∈ u_ws RX2 TX2 4, w ∈ lw_good := lw_good_ps [322, 324, 326, 328] (by decide +kernel) (by decide +kernel)
set_option maxRecDepth 100000 in
theorem ev_in3 : ∀ w ∈ u_ws RX3 TX3 5, w ∈ lw_good := lw_good_ps [347, 349, 351, 353, 355] (by decide +kernel) (by decide +kernel)
set_option maxRecDepth 100000 in
theorem ev_in4 : ∀ w ∈ u_ws RX4 TX4 14, w ∈ lw_good := lw_good_ps [165, 167, 169, 171, 173, 175, 177, 179, 181, 183, 185, 187, 189, 191] (by decide +kernel) (by decide +kernel)
set_option maxRecDepth 100000 in
theorem ev_in5 : ∀ w ∈ u_ws RX5 TX5 3, w ∈ lw_good := lw_good_ps [416, 418, 420] (by decide +kernel) (by decide +kernel)
set_option maxRecDepth 100000 in
theorem ev_in6 : ∀ w ∈ u_ws RX6 TX6 3, w ∈ lw_good := lw_good_ps [396, 398, 400] (by decide +kernel) (by decide +kernel)
set_option maxRecDepth 100000 in
theorem ev_in7 : ∀ w ∈ u_ws RX7 TX7 19, w ∈ lw_good := lw_good_ps [267, 269, 271, 273, 275, 277, 279, 281, 283, 285, 287, 289, 291, 293, 295, 297, 299, 301, 303] (by decide +kernel) (by decide +kernel)
set_option maxRecDepth 100000 in
theorem ev_in8 : ∀ w ∈ u_ws RX8 TX8 15, w ∈ lw_good := lw_good_ps [457, 459, 461, 463, 465, 467, 469, 471, 473, 475, 477, 479, 481, 483, 485] (by decide +kernel) (by decide +kernel)
set_option maxRecDepth 100000 in
theorem ev_in9 : ∀ w ∈ u_ws RX9 TX9 35, w ∈ lw_good := lw_good_ps [1338, 1340, 1342, 1344, 1346, 1348, 1350, 1352, 1354, 1356, 1358, 1360, 1362, 1364, 1366, 1368, 1370, 1372, 1374, 1376, 1378, 1380, 1382, 1384, 1386, 1388, 1390, 1392, 1394, 1396, 1398, 1400, 1402, 1404, 1406] (by decide +kernel) (by decide +kernel)
noncomputable def ev_tyl : List (Nat → FieldType) := [tyX0, tyX1, tyX2, tyX3, tyX4, tyX5, tyX6, tyX7, tyX8, tyX9]
/-- what is known of a class by its number -/
noncomputable def ev_cok (r : vw_C) (ty : Nat → FieldType) : Prop := (∀ w ∈ u_ws r.1 r.2.1 r.2.2, w ∈ lw_good) ∧ (∀ k, k < r.2.2 → parseFieldDescriptor (r.2.1 k).2.2.1 = some (ty k)) ∧ (∀ a, a < r.2.2 → ∀ b, b < r.2.2 → a ≠ b → (r.2.1 a).2.1 ≠ (r.2.1 b).2.1) ∧ r.2.2 < 100
theorem ev_cls : ∀ (ci : Nat) (r : vw_C) (ty : Nat → FieldType), vwCl[ci]? = some r → ev_tyl[ci]? = some ty → ev_cok r ty
  | 0, r, ty, h1, h2 => by cases h1; cases h2; exact ⟨ev_in0, tyX0_ok, nmX0, by decide⟩
  | 1, r, ty, h1, h2 => by cases h1; cases h2; exact ⟨ev_in1, tyX1_ok, nmX1, by decide⟩
  | 2, r, ty, h1, h2 => by cases h1; cases h2; exact ⟨ev_in2, tyX2_ok, nmX2, by decide⟩
  | 3, r, ty, h1, h2 => by cases h1; cases h2; exact ⟨ev_in3, tyX3_ok, nmX3, by decide⟩
  | 4, r, ty, h1, h2 => by cases h1; cases h2; exact ⟨ev_in4, tyX4_ok, nmX4, by decide⟩
  | 5, r, ty, h1, h2 => by cases h1; cases h2; exact ⟨ev_in5, tyX5_ok, nmX5, by decide⟩
  | 6, r, ty, h1, h2 => by cases h1; cases h2; exact ⟨ev_in6, tyX6_ok, nmX6, by decide⟩
  | 7, r, ty, h1, h2 => by cases h1; cases h2; exact ⟨ev_in7, tyX7_ok, nmX7, by decide⟩
  | 8, r, ty, h1, h2 => by cases h1; cases h2; exact ⟨ev_in8, tyX8_ok, nmX8, by decide⟩
  | 9, r, ty, h1, h2 => by cases h1; cases h2; exact ⟨ev_in9, tyX9_ok, nmX9, by decide⟩
  | n + 10, r, ty, h1, h2 => by cases h1
theorem ev_ref1 {s : State} {g : ev_G} {w : List ev_C} {ws : va_W} {a : ev_A} {v : Value} {cl : ev_C} (hW : ev_w s g w ws) (ht : a.1 = 1) (hv : ev_v g a = some v) (hc : w[a.2.toNat]? = some cl) : ∃ ad x, v = .ref ad ∧ ws[a.2.toNat]? = some (ad, x) ∧ ev_c s g cl x := by
  obtain ⟨t, n⟩ := a
  have ht : t = 1 := ht
  subst ht
  simp only [ev_v] at hv
  cases hq : g.1[n.toNat]? with
  | none => simp [hq] at hv
  | some ad =>
    simp only [hq, Option.map_some] at hv
    cases hv
    rw [hW.1, List.getElem?_map] at hq
    cases hz : ws[n.toNat]? with
    | none => simp [hz] at hq
    | some z =>
      simp only [hz, Option.map_some] at hq
      cases hq
      exact ⟨z.1, z.2, rfl, rfl, hW.2.2 _ cl z hc hz⟩
theorem ev_w_set {s : State} {g : ev_G} {w : List ev_C} {ws : va_W} {q ad : Nat} {x0 x : va_E} {cl : ev_C} (hW : ev_w s g w ws) (hq : ws[q]? = some (ad, x0)) (hc : ev_c s g cl x) : ev_w s g (w.set q cl) (ws.set q (ad, x)) := by
  have hl := (List.getElem?_eq_some_iff.mp hq).1
  refine ⟨?_, by rw [List.length_set, List.length_set]; exact hW.2.1, fun k c z h1 h2 => ?_⟩
  · rw [hW.1]
    apply List.ext_getElem?
    intro j
    rw [List.getElem?_map, List.getElem?_map]
    by_cases hj : j = q
    · subst hj
      rw [List.getElem?_set_self hl, hq]
      rfl
    · rw [List.getElem?_set_ne (Ne.symm hj)]
  · by_cases hk : k = q
    · subst hk
      have hl2 : k < w.length := by rw [hW.2.1]; exact hl
      rw [List.getElem?_set_self hl2] at h1
      rw [List.getElem?_set_self hl] at h2
      cases h1
      cases h2
      exact hc
    · rw [List.getElem?_set_ne (Ne.symm hk)] at h1 h2
      exact hW.2.2 k c z h1 h2
theorem ev_w_push {s : State} {g : ev_G} {w : List ev_C} {ws : va_W} {ad : Nat} {x : va_E} {cl : ev_C} (hW : ev_w s g w ws) (hc : ev_c s (g.1 ++ [ad], g.2.1, g.2.2) cl x) : ev_le g (g.1 ++ [ad], g.2.1, g.2.2) ∧ ev_w s (g.1 ++ [ad], g.2.1, g.2.2) (w ++ [cl]) (ws ++ [(ad, x)]) ∧ ev_v (g.1 ++ [ad], g.2.1, g.2.2) (1, (w.length : Int)) = some (.ref ad) := by
  have hle : ev_le g (g.1 ++ [ad], g.2.1, g.2.2) := ⟨⟨[ad], rfl⟩, rfl, ⟨[], by simp⟩⟩
  have hlg : g.1.length = w.length := by rw [hW.1, List.length_map, hW.2.1]
  refine ⟨hle, ⟨by rw [List.map_append]; dsimp only; rw [hW.1]; rfl, by rw [List.length_append, List.length_append, hW.2.1]; rfl, fun k c z h1 h2 => ?_⟩, ?_⟩
  · by_cases hk : k < w.length
    · rw [List.getElem?_append_left hk] at h1
      rw [List.getElem?_append_left (by rw [← hW.2.1]; exact hk)] at h2
      exact ev_c_le hle (hW.2.2 k c z h1 h2)
    · rw [List.getElem?_append_right (by omega)] at h1
      rw [List.getElem?_append_right (by have := hW.2.1; omega)] at h2
      have hz : k - w.length < 1 := (List.getElem?_eq_some_iff.mp h1).1
      have h3 : k - w.length = 0 := by omega
      have h4 : k - ws.length = 0 := by have := hW.2.1; omega
      rw [h3] at h1
      rw [h4] at h2
      cases h1
      cases h2
      exact hc
  · simp [ev_v, ← hlg]
noncomputable def ev_get : ev_O := (fun P t => match vwCl[t.1.toNat]? with
  | some r => some (.getfield t.2.2.1.toNat, 3, [.fieldLink P.2.2.2.1 t.2.2.1.toNat (r.2.1 t.2.1.toNat).1 (r.2.1 t.2.1.toNat).2.1 (r.2.1 t.2.1.toNat).2.2.1])
  | none => none, fun _ t S => match S.2.2.1 with
  | x :: st => (match S.2.2.2.1[x.2.toNat]?, vwCl[t.1.toNat]? with
    | some cl, some r => if x.1 = 1 ∧ cl.1 = t.1.toNat ∧ t.2.1.toNat < r.2.2 then (match cl.2[t.2.1.toNat]? with
      | some a => some [ev_adv S 3 (a :: st)]
      | none => none) else none
    | _, _ => none)
  | [] => none)
theorem ev_get_ok : ev_Snd ev_get := by
  intro p l e R s m args below meth c cc Q D A g0 P t S i n cs Ss X h1 hd hw h2 hk g ws H locs ls sc hle hR
  obtain ⟨hx, hb, hml, hown, hts, hK, hA, hN, hini, hcC, hcS, hf, hlc, hscr⟩ := X
  obtain ⟨pc, L, st, w, K, ce, sl⟩ := S
  obtain ⟨t1, t2, t3, t4⟩ := t
  unfold ev_get at h1 h2
  dsimp only at h1 h2
  cases hr : vwCl[t1.toNat]? with
  | none => simp [hr] at h1
  | some r =>
    rw [hr] at h1 h2
    dsimp only at h1
    cases h1
    cases st with
    | nil => cases h2
    | cons x st' =>
      dsimp only at h2
      split at h2
      · rename_i cl r' hcl hr'
        cases hr'
        split at h2
        · rename_i hc
          obtain ⟨hc1, hc2, hc3⟩ := hc
          split at h2
          · rename_i a ha
            cases h2
            obtain ⟨hP, hD, hS, hW, hB, hL, hs⟩ := hR
            obtain ⟨vx, sc2, rfl, hvx, hs2⟩ := ev_s_cons hs
            obtain ⟨ad, x0, rfl, hws, hcc⟩ := ev_ref1 hW hc1 hvx hcl
            cases x0 with
            | inl z =>
              obtain ⟨tt, b1, b2, -⟩ := hcc
              have : t1.toNat < 10 := (List.getElem?_eq_some_iff.mp hr).1
              omega
            | inr o =>
              obtain ⟨ci, fs⟩ := o
              obtain ⟨b1, b2, b3, b4⟩ := hcc
              dsimp only at b1 b3 b4
              obtain ⟨v, d1, d2⟩ := b4 _ a ha
              have hci : vwCl[ci]? = some r := by rw [← b1, hc2]; exact hr
              obtain ⟨ty, hty⟩ : ∃ ty, ev_tyl[ci]? = some ty := ⟨_, List.getElem?_eq_getElem (show ci < ev_tyl.length from (List.getElem?_eq_some_iff.mp hci).1)⟩
              exact va_get hx hb hts (ev_cls ci r ty hci hty).1 hown hK hP _ hws hci t2.toNat hc3 (hts _ (hw _ (List.mem_singleton.mpr rfl))) (fun _ h => h) d2 hd (hk _ (List.mem_singleton.mpr rfl) g ws H locs ls _ hle ⟨hP, hD, hS, hW, hB, hL, d1, hs2⟩)
          · cases h2
        · cases h2
      · cases h2
/-- a value that a field of this type may hold -/
noncomputable def ev_fit (ty : FieldType) (a : ev_A) : Bool := match ty with
  | .int => ev_isI a
  | .long => ev_isL a
  | .boolean => a.1 == 0 && (a.2 == 0 || a.2 == 1)
  | .char => a.1 == 0 && (decide (0 ≤ a.2) && decide (a.2.toNat < 65536))
  | .byte => a.1 == 0 && a.2 == 0
  | .object _ => a.1 == 1 || a.1 == 2 || a.1 == 5
  | .array _ => a.1 == 1 || a.1 == 2 || a.1 == 5
  | _ => false
theorem ev_vN {g : ev_G} {a : ev_A} {v : Value} (h : (a.1 == 1 || a.1 == 2 || a.1 == 5) = true) (hv : ev_v g a = some v) : v = .null ∨ ∃ x : Nat, v = .ref x := by
  by_cases h2 : a.1 = 2
  · obtain ⟨t, n⟩ := a
    have h2 : t = 2 := h2
    subst h2
    exact Or.inl (Option.some.inj hv).symm
  · refine Or.inr (ev_vR ?_ hv)
    simp only [Bool.or_eq_true, beq_iff_eq] at h
    simp only [ev_isR, Bool.or_eq_true, beq_iff_eq]
    rcases h with (h | h) | h
    · exact Or.inl h
    · exact absurd h h2
    · exact Or.inr h
theorem ev_fit_ok {ty : FieldType} {a : ev_A} {g : ev_G} {v : Value} (h : ev_fit ty a = true) (hv : ev_v g a = some v) : narrow ty v = v ∧ fits ty v = true := by
  unfold ev_fit at h
  split at h
  · obtain ⟨x, rfl⟩ := ev_vI h hv
    exact ⟨rfl, rfl⟩
  · obtain ⟨x, rfl⟩ := ev_vL h hv
    exact ⟨rfl, rfl⟩
  · obtain ⟨t, n⟩ := a
    simp only [Bool.and_eq_true, Bool.or_eq_true, beq_iff_eq] at h
    obtain ⟨rfl, h⟩ := h
    have hv := Option.some.inj hv
    rcases h with rfl | rfl
    · subst hv
      exact ⟨by decide, by decide⟩
    · subst hv
      exact ⟨by decide, by decide⟩
  · obtain ⟨t, n⟩ := a
    simp only [Bool.and_eq_true, beq_iff_eq, decide_eq_true_eq] at h
    obtain ⟨rfl, h0, h1⟩ := h
    have hv := Option.some.inj hv
    subst hv
    dsimp only at h0 h1 ⊢
    have e : Int32.ofInt n = nI n.toNat := by
      have : n = ((n.toNat : Nat) : Int) := by omega
      rw [this]
      rfl
    rw [e]
    exact pk_charN h1
  · obtain ⟨t, n⟩ := a
    simp only [Bool.and_eq_true, beq_iff_eq] at h
    obtain ⟨rfl, rfl⟩ := h
    have hv := Option.some.inj hv
    subst hv
    exact ⟨by decide, by decide⟩
  · rcases ev_vN h hv with rfl | ⟨x, rfl⟩ <;> exact ⟨rfl, rfl⟩
  · rcases ev_vN h hv with rfl | ⟨x, rfl⟩ <;> exact ⟨rfl, rfl⟩
  · cases h

noncomputable def ev_put : ev_O := (fun P t => match vwCl[t.1.toNat]? with
  | some r => some (.putfield t.2.2.1.toNat, 3, [.fieldLink P.2.2.2.1 t.2.2.1.toNat (r.2.1 t.2.1.toNat).1 (r.2.1 t.2.1.toNat).2.1 (r.2.1 t.2.1.toNat).2.2.1])
  | none => none, fun P t S => match S.2.2.1 with
  | a :: x :: st => (match S.2.2.2.1[x.2.toNat]?, vwCl[t.1.toNat]?, ev_tyl[t.1.toNat]? with
    | some cl, some r, some ty => if x.1 = 1 ∧ cl.1 = t.1.toNat ∧ t.2.1.toNat < r.2.2 ∧ t.2.1.toNat < cl.2.length ∧ ev_fit (ty t.2.1.toNat) a = true ∧ ((r.2.1 t.2.1.toNat).2.2.2 = false) then some [(S.1 + 3, S.2.1, st, S.2.2.2.1.set x.2.toNat (cl.1, cl.2.set t.2.1.toNat a), S.2.2.2.2)] else none
    | _, _, _ => none)
  | _ => none)
theorem ev_put_ok : ev_Snd ev_put := by
  intro p l e R s m args below meth c cc Q D A g0 P t S i n cs Ss X h1 hd hw h2 hk g ws H locs ls sc hle hR
  obtain ⟨hx, hb, hml, hown, hts, hK, hA, hN, hini, hcC, hcS, hf, hlc, hscr⟩ := X
  obtain ⟨pc, L, st, w, K, ce, sl⟩ := S
  obtain ⟨t1, t2, t3, t4⟩ := t
  unfold ev_put at h1 h2
  dsimp only at h1 h2
  cases hr : vwCl[t1.toNat]? with
  | none => simp [hr] at h1
  | some r =>
    rw [hr] at h1 h2
    dsimp only at h1
    cases h1
    split at h2
    · rename_i a x st'
      split at h2
      · rename_i cl r' ty hcl hr' hty
        cases hr'
        split at h2
        · rename_i hc
          obtain ⟨hc1, hc2, hc3, hlen, hft, hfin⟩ := hc
          cases h2
          obtain ⟨hP, hD, hS, hW, hB, hL, hs⟩ := hR
          obtain ⟨va, sc1, rfl, hva, hs1⟩ := ev_s_cons hs
          obtain ⟨vx, sc2, rfl, hvx, hs2⟩ := ev_s_cons hs1
          obtain ⟨ad, x0, rfl, hws, hcc⟩ := ev_ref1 hW hc1 hvx hcl
          cases x0 with
          | inl z =>
            obtain ⟨tt, b1, b2, -⟩ := hcc
            have : t1.toNat < 10 := (List.getElem?_eq_some_iff.mp hr).1
            omega
          | inr o =>
            obtain ⟨ci, fs⟩ := o
            obtain ⟨b1, b2, b3, b4⟩ := hcc
            dsimp only at b1 b3 b4
            have hci : vwCl[ci]? = some r := by rw [← b1, hc2]; exact hr
            have hty : ev_tyl[ci]? = some ty := by rw [← b1, hc2]; exact hty
            obtain ⟨k1, k2, k3, -⟩ := ev_cls ci r ty hci hty
            obtain ⟨hn, hfit⟩ := ev_fit_ok hft hva
            refine va_put hx hb hts k1 ty k2 k3 hown hK hP hD hS _ hws hci t2.toNat hc3 (hts _ (hw _ (List.mem_singleton.mpr rfl))) (fun _ h => h) hfin (k2 _ hc3) hn hfit (by rw [b3]; exact hlen) hd (fun H1 locs1 hP1 hD1 hS1 => hk _ (List.mem_singleton.mpr rfl) g _ H1 locs1 ls _ hle ⟨hP1, hD1, hS1, ev_w_set hW hws ⟨b1, b2, by rw [List.length_set, List.length_set]; exact b3, fun j a' hj => ?_⟩, hB, hL, hs2⟩)
            dsimp only at hj ⊢
            by_cases hjk : j = t2.toNat
            · subst hjk
              rw [List.getElem?_set_self hlen] at hj
              cases hj
              exact ⟨va, hva, List.getElem?_set_self (by rw [b3]; exact hlen)⟩
            · rw [List.getElem?_set_ne (Ne.symm hjk)] at hj
              obtain ⟨v, d1, d2⟩ := b4 j a' hj
              exact ⟨v, d1, by rw [List.getElem?_set_ne (Ne.symm hjk)]; exact d2⟩
        · cases h2
      · cases h2
    · cases h2

noncomputable def ev_putF : ev_O := (fun P t => match vwCl[t.1.toNat]? with
  | some r => some (.putfield t.2.2.1.toNat, 3, [.fieldLink P.2.2.2.1 t.2.2.1.toNat (r.2.1 t.2.1.toNat).1 (r.2.1 t.2.1.toNat).2.1 (r.2.1 t.2.1.toNat).2.2.1])
  | none => none, fun P t S => match S.2.2.1 with
  | a :: x :: st => (match S.2.2.2.1[x.2.toNat]?, vwCl[t.1.toNat]?, ev_tyl[t.1.toNat]? with
    | some cl, some r, some ty => if x.1 = 1 ∧ cl.1 = t.1.toNat ∧ t.2.1.toNat < r.2.2 ∧ t.2.1.toNat < cl.2.length ∧ ev_fit (ty t.2.1.toNat) a = true ∧ ((r.2.1 t.2.1.toNat).2.2.2 = true ∧ P.2.2.1 = true ∧ (r.2.1 t.2.1.toNat).1 = P.2.2.2.1) then some [(S.1 + 3, S.2.1, st, S.2.2.2.1.set x.2.toNat (cl.1, cl.2.set t.2.1.toNat a), S.2.2.2.2)] else none
    | _, _, _ => none)
  | _ => none)
theorem ev_putF_ok : ev_Snd ev_putF := by
  intro p l e R s m args below meth c cc Q D A g0 P t S i n cs Ss X h1 hd hw h2 hk g ws H locs ls sc hle hR
  obtain ⟨hx, hb, hml, hown, hts, hK, hA, hN, hini, hcC, hcS, hf, hlc, hscr⟩ := X
  obtain ⟨pc, L, st, w, K, ce, sl⟩ := S
  obtain ⟨t1, t2, t3, t4⟩ := t
  unfold ev_putF at h1 h2
  dsimp only at h1 h2
  cases hr : vwCl[t1.toNat]? with
  | none => simp [hr] at h1
  | some r =>
    rw [hr] at h1 h2
    dsimp only at h1
    cases h1
    split at h2
    · rename_i a x st'
      split at h2
      · rename_i cl r' ty hcl hr' hty
        cases hr'
        split at h2
        · rename_i hc
          obtain ⟨hc1, hc2, hc3, hlen, hft, hfin⟩ := hc
          cases h2
          obtain ⟨hP, hD, hS, hW, hB, hL, hs⟩ := hR
          obtain ⟨va, sc1, rfl, hva, hs1⟩ := ev_s_cons hs
          obtain ⟨vx, sc2, rfl, hvx, hs2⟩ := ev_s_cons hs1
          obtain ⟨ad, x0, rfl, hws, hcc⟩ := ev_ref1 hW hc1 hvx hcl
          cases x0 with
          | inl z =>
            obtain ⟨tt, b1, b2, -⟩ := hcc
            have : t1.toNat < 10 := (List.getElem?_eq_some_iff.mp hr).1
            omega
          | inr o =>
            obtain ⟨ci, fs⟩ := o
            obtain ⟨b1, b2, b3, b4⟩ := hcc
            dsimp only at b1 b3 b4
            have hci : vwCl[ci]? = some r := by rw [← b1, hc2]; exact hr
            have hty : ev_tyl[ci]? = some ty := by rw [← b1, hc2]; exact hty
            obtain ⟨k1, k2, k3, -⟩ := ev_cls ci r ty hci hty
            obtain ⟨hn, hfit⟩ := ev_fit_ok hft hva
            refine va_putF hx hb hts k1 ty k2 k3 hown hK hP hD hS _ hws hci t2.toNat hc3 (hts _ (hw _ (List.mem_singleton.mpr rfl))) (fun _ h => h) hfin.1 (hini hfin.2.1) hfin.2.2 (k2 _ hc3) hn hfit (by rw [b3]; exact hlen) hd (fun H1 locs1 hP1 hD1 hS1 => hk _ (List.mem_singleton.mpr rfl) g _ H1 locs1 ls _ hle ⟨hP1, hD1, hS1, ev_w_set hW hws ⟨b1, b2, by rw [List.length_set, List.length_set]; exact b3, fun j a' hj => ?_⟩, hB, hL, hs2⟩)
            dsimp only at hj ⊢
            by_cases hjk : j = t2.toNat
            · subst hjk
              rw [List.getElem?_set_self hlen] at hj
              cases hj
              exact ⟨va, hva, List.getElem?_set_self (by rw [b3]; exact hlen)⟩
            · rw [List.getElem?_set_ne (Ne.symm hjk)] at hj
              obtain ⟨v, d1, d2⟩ := b4 j a' hj
              exact ⟨v, d1, by rw [List.getElem?_set_ne (Ne.symm hjk)]; exact d2⟩
        · cases h2
      · cases h2
    · cases h2

/-- an array's cell, at a number within it -/
noncomputable def ev_ix (t : Nat) (x i : ev_A) (w : List ev_C) : Option (List ev_A × Nat) := match w[x.2.toNat]? with
  | some cl => if x.1 = 1 ∧ cl.1 = 100 + t ∧ i.1 = 0 ∧ 0 ≤ (Int32.ofInt i.2).toInt ∧ (Int32.ofInt i.2).toInt < (cl.2.length : Int) then some (cl.2, (Int32.ofInt i.2).toNatClampNeg) else none
  | none => none
theorem ev_ix_ok {t : Nat} (ht : t < 4) {x i : ev_A} {w : List ev_C} {cs : List ev_A} {j : Nat} (h : ev_ix t x i w = some (cs, j)) {s : State} {g : ev_G} {ws : va_W} (hW : ev_w s g w ws) {vx vi : Value} (hx : ev_v g x = some vx) (hi : ev_v g i = some vi) :
    ∃ (ad : Nat) (cA : ClassId) (n : Nat) (arr : (Nat → Int32) ⊕ (Nat → Int64) ⊕ (Nat → UInt32) ⊕ (Nat → UInt64) ⊕ (Nat → Option Nat)) (i0 : Int32), vx = .ref ad ∧ vi = .int i0 ∧ ws[x.2.toNat]? = some (ad, .inl (cA, n, arr)) ∧ n = cs.length ∧ vp_in i0 n ∧ i0.toNatClampNeg = j ∧ j < cs.length ∧ ArrOfT s cA (ev_ty t) ∧ va_RA s cA (ev_ty t) ∧ ev_ar g t cs arr ∧ w[x.2.toNat]? = some (100 + t, cs) := by
  unfold ev_ix at h
  split at h
  · rename_i cl hcl
    split at h
    · rename_i hc
      obtain ⟨h1, h2, h3, h4, h5⟩ := hc
      cases h
      obtain ⟨ad, x0, rfl, hws, hcc⟩ := ev_ref1 hW h1 hx hcl
      obtain ⟨it, iv⟩ := i
      have h3 : it = 0 := h3
      subst h3
      have hi : vi = .int (Int32.ofInt iv) := (Option.some.inj hi).symm
      subst hi
      cases x0 with
      | inr o =>
        obtain ⟨b1, b2, -⟩ := hcc
        omega
      | inl z =>
        obtain ⟨cA, n, arr⟩ := z
        obtain ⟨tt, b1, b2, b3, b4, b5, b6⟩ := hcc
        have : tt = t := by omega
        subst this
        dsimp only at b3 b4 b5 b6 h4 h5
        have hv : vp_in (Int32.ofInt iv) n := by rw [vp_in_iff, b3]; exact ⟨h4, h5⟩
        have hj : (Int32.ofInt iv).toNatClampNeg < cl.2.length := by
          have h9 := hv
          unfold vp_in at h9
          rw [b3] at h9
          exact Nat.lt_of_not_le (fun q => h9 (Or.inr q))
        exact ⟨ad, cA, n, arr, _, rfl, rfl, hws, b3, hv, rfl, hj, b4, b5, b6, by rw [hcl, ← h2]⟩
    · cases h
  · cases h
theorem ev_K1 {D : va_G} {s : State} {cA : ClassId} {ty : FieldType} (hK : va_K D vwCl [] s) (h1 : ArrOfT s cA ty) (h2 : va_RA s cA ty) : va_K D vwCl [(cA, ty)] s := ⟨hK.1, fun k q hk => by
  have hz : k < 1 := (List.getElem?_eq_some_iff.mp hk).1
  rw [show k = 0 by omega] at hk
  cases hk
  exact ⟨h1, h2⟩⟩

noncomputable def ev_iaload : ev_O := (fun _ _ => some (.iaload, 1, []), fun _ _ S => match S.2.2.1 with
  | i :: x :: st => (match ev_ix 0 x i S.2.2.2.1 with
    | some (cs, j) => (match cs[j]? with
      | some a => some [ev_adv S 1 (a :: st)]
      | none => none)
    | none => none)
  | _ => none)
theorem ev_iaload_ok : ev_Snd ev_iaload := by
  intro p l e R s m args below meth c cc Q D A g0 P t S i n cs Ss X h1 hd hw h2 hk g ws H locs ls sc hle hR
  obtain ⟨hx, hb, hml, hown, hts, hK, hA, hN, hini, hcC, hcS, hf, hlc, hscr⟩ := X
  obtain ⟨pc, L, st, w, K, ce, sl⟩ := S
  have h1 : some ((.iaload : Instr), (1 : Nat), ([] : List Cond)) = some (i, n, cs) := h1
  cases h1
  unfold ev_iaload at h2
  dsimp only at h2
  split at h2
  · rename_i i x st'
    split at h2
    · rename_i cs j hix
      split at h2
      · rename_i a ha
        cases h2
        obtain ⟨hP, hD, hS, hW, hB, hL, hs⟩ := hR
        obtain ⟨vi, sc2, rfl, hvi, hs2⟩ := ev_s_cons hs
        obtain ⟨vx, sc3, rfl, hvx, hs3⟩ := ev_s_cons hs2
        obtain ⟨ad, cA, n, arr, i0, rfl, rfl, hws, hn, hv, hj, hjl, b4, b5, b6, hwc⟩ := ev_ix_ok (by decide) hix hW hvx hvi
        cases arr with
        | inl f =>
          exact va_iald hx hb (ev_K1 hK b4 b5) hP _ 0 hws rfl hv hd (hk _ (List.mem_singleton.mpr rfl) g ws H locs ls _ hle ⟨hP, hD, hS, hW, hB, hL, by rw [hj]; exact b6.2 j a ha, hs3⟩)
        | inr z => rcases z with z | z | z | z <;> first | exact b6.elim | (have := b6.1; omega)
      · cases h2
    · cases h2
  · cases h2

noncomputable def ev_baload : ev_O := (fun _ _ => some (.baload, 1, []), fun _ _ S => match S.2.2.1 with
  | i :: x :: st => (match ev_ix 1 x i S.2.2.2.1 with
    | some (cs, j) => (match cs[j]? with
      | some a => some [ev_adv S 1 (a :: st)]
      | none => none)
    | none => none)
  | _ => none)
theorem ev_baload_ok : ev_Snd ev_baload := by
  intro p l e R s m args below meth c cc Q D A g0 P t S i n cs Ss X h1 hd hw h2 hk g ws H locs ls sc hle hR
  obtain ⟨hx, hb, hml, hown, hts, hK, hA, hN, hini, hcC, hcS, hf, hlc, hscr⟩ := X
  obtain ⟨pc, L, st, w, K, ce, sl⟩ := S
  have h1 : some ((.baload : Instr), (1 : Nat), ([] : List Cond)) = some (i, n, cs) := h1
  cases h1
  unfold ev_baload at h2
  dsimp only at h2
  split at h2
  · rename_i i x st'
    split at h2
    · rename_i cs j hix
      split at h2
      · rename_i a ha
        cases h2
        obtain ⟨hP, hD, hS, hW, hB, hL, hs⟩ := hR
        obtain ⟨vi, sc2, rfl, hvi, hs2⟩ := ev_s_cons hs
        obtain ⟨vx, sc3, rfl, hvx, hs3⟩ := ev_s_cons hs2
        obtain ⟨ad, cA, n, arr, i0, rfl, rfl, hws, hn, hv, hj, hjl, b4, b5, b6, hwc⟩ := ev_ix_ok (by decide) hix hW hvx hvi
        cases arr with
        | inl f =>
          exact va_bald hx hb (ev_K1 hK b4 b5) hP _ 0 hws rfl hv hd (hk _ (List.mem_singleton.mpr rfl) g ws H locs ls _ hle ⟨hP, hD, hS, hW, hB, hL, by rw [hj]; exact b6.2 j a ha, hs3⟩)
        | inr z => rcases z with z | z | z | z <;> first | exact b6.elim | (have := b6.1; omega)
      · cases h2
    · cases h2
  · cases h2

noncomputable def ev_laload : ev_O := (fun _ _ => some (.laload, 1, []), fun _ _ S => match S.2.2.1 with
  | i :: x :: st => (match ev_ix 2 x i S.2.2.2.1 with
    | some (cs, j) => (match cs[j]? with
      | some a => some [ev_adv S 1 (a :: st)]
      | none => none)
    | none => none)
  | _ => none)
theorem ev_laload_ok : ev_Snd ev_laload := by
  intro p l e R s m args below meth c cc Q D A g0 P t S i n cs Ss X h1 hd hw h2 hk g ws H locs ls sc hle hR
  obtain ⟨hx, hb, hml, hown, hts, hK, hA, hN, hini, hcC, hcS, hf, hlc, hscr⟩ := X
  obtain ⟨pc, L, st, w, K, ce, sl⟩ := S
  have h1 : some ((.laload : Instr), (1 : Nat), ([] : List Cond)) = some (i, n, cs) := h1
  cases h1
  unfold ev_laload at h2
  dsimp only at h2
  split at h2
  · rename_i i x st'
    split at h2
    · rename_i cs j hix
      split at h2
      · rename_i a ha
        cases h2
        obtain ⟨hP, hD, hS, hW, hB, hL, hs⟩ := hR
        obtain ⟨vi, sc2, rfl, hvi, hs2⟩ := ev_s_cons hs
        obtain ⟨vx, sc3, rfl, hvx, hs3⟩ := ev_s_cons hs2
        obtain ⟨ad, cA, n, arr, i0, rfl, rfl, hws, hn, hv, hj, hjl, b4, b5, b6, hwc⟩ := ev_ix_ok (by decide) hix hW hvx hvi
        rcases arr with f | f | f | f | f
        · have := b6.1; omega
        · exact va_lald hx hb (ev_K1 hK b4 b5) hP _ 0 hws rfl hv hd (hk _ (List.mem_singleton.mpr rfl) g ws H locs ls _ hle ⟨hP, hD, hS, hW, hB, hL, by rw [hj]; exact b6.2 j a ha, hs3⟩)
        · exact b6.elim
        · exact b6.elim
        · have := b6.1; omega
      · cases h2
    · cases h2
  · cases h2

noncomputable def ev_aaload : ev_O := (fun _ _ => some (.aaload, 1, []), fun _ _ S => match S.2.2.1 with
  | i :: x :: st => (match ev_ix 3 x i S.2.2.2.1 with
    | some (cs, j) => (match cs[j]? with
      | some a => some [ev_adv S 1 (a :: st)]
      | none => none)
    | none => none)
  | _ => none)
theorem ev_aaload_ok : ev_Snd ev_aaload := by
  intro p l e R s m args below meth c cc Q D A g0 P t S i n cs Ss X h1 hd hw h2 hk g ws H locs ls sc hle hR
  obtain ⟨hx, hb, hml, hown, hts, hK, hA, hN, hini, hcC, hcS, hf, hlc, hscr⟩ := X
  obtain ⟨pc, L, st, w, K, ce, sl⟩ := S
  have h1 : some ((.aaload : Instr), (1 : Nat), ([] : List Cond)) = some (i, n, cs) := h1
  cases h1
  unfold ev_aaload at h2
  dsimp only at h2
  split at h2
  · rename_i i x st'
    split at h2
    · rename_i cs j hix
      split at h2
      · rename_i a ha
        cases h2
        obtain ⟨hP, hD, hS, hW, hB, hL, hs⟩ := hR
        obtain ⟨vi, sc2, rfl, hvi, hs2⟩ := ev_s_cons hs
        obtain ⟨vx, sc3, rfl, hvx, hs3⟩ := ev_s_cons hs2
        obtain ⟨ad, cA, n, arr, i0, rfl, rfl, hws, hn, hv, hj, hjl, b4, b5, b6, hwc⟩ := ev_ix_ok (by decide) hix hW hvx hvi
        rcases arr with f | f | f | f | f
        · have := b6.1; omega
        · have := b6.1; omega
        · exact b6.elim
        · exact b6.elim
        · exact va_aldq hx hb (ev_K1 hK b4 b5) hP _ 0 hws rfl hv hd (hk _ (List.mem_singleton.mpr rfl) g ws H locs ls _ hle ⟨hP, hD, hS, hW, hB, hL, by rw [hj]; exact b6.2 j a ha, hs3⟩)
      · cases h2
    · cases h2
  · cases h2

theorem ev_set_rel {α : Type} {cs : List ev_A} {j : Nat} {a : ev_A} {g : ev_G} {F : α → Value} {f : Nat → α} {v : α} (hj : j < cs.length) (h : ∀ (k : Nat) (x : ev_A), cs[k]? = some x → ev_v g x = some (F (f k))) (ha : ev_v g a = some (F v)) : ∀ (k : Nat) (x : ev_A), (cs.set j a)[k]? = some x → ev_v g x = some (F (if k = j then v else f k)) := by
  intro k x hk
  by_cases hkj : k = j
  · subst hkj
    rw [List.getElem?_set_self hj] at hk
    cases hk
    rw [if_pos rfl]
    exact ha
  · rw [List.getElem?_set_ne (Ne.symm hkj)] at hk
    rw [if_neg hkj]
    exact h k x hk
noncomputable def ev_iastore : ev_O := (fun _ _ => some (.iastore, 1, []), fun _ _ S => match S.2.2.1 with
  | a :: i :: x :: st => (match ev_ix 0 x i S.2.2.2.1 with
    | some (cs, j) => if ev_isI a = true then some [(S.1 + 1, S.2.1, st, S.2.2.2.1.set x.2.toNat (100, cs.set j a), S.2.2.2.2)] else none
    | none => none)
  | _ => none)
theorem ev_iastore_ok : ev_Snd ev_iastore := by
  intro p l e R s m args below meth c cc Q D A g0 P t S i n cs Ss X h1 hd hw h2 hk g ws H locs ls sc hle hR
  obtain ⟨hx, hb, hml, hown, hts, hK, hA, hN, hini, hcC, hcS, hf, hlc, hscr⟩ := X
  obtain ⟨pc, L, st, w, K, ce, sl⟩ := S
  have h1 : some ((.iastore : Instr), (1 : Nat), ([] : List Cond)) = some (i, n, cs) := h1
  cases h1
  unfold ev_iastore at h2
  dsimp only at h2
  split at h2
  · rename_i a i x st'
    split at h2
    · rename_i cs j hix
      split at h2
      · rename_i ha
        cases h2
        obtain ⟨hP, hD, hS, hW, hB, hL, hs⟩ := hR
        obtain ⟨va, sc1, rfl, hva, hs1⟩ := ev_s_cons hs
        obtain ⟨vi, sc2, rfl, hvi, hs2⟩ := ev_s_cons hs1
        obtain ⟨vx, sc3, rfl, hvx, hs3⟩ := ev_s_cons hs2
        obtain ⟨a0, rfl⟩ := ev_vI ha hva
        obtain ⟨ad, cA, n, arr, i0, rfl, rfl, hws, hn, hv, hj, hjl, b4, b5, b6, hwc⟩ := ev_ix_ok (by decide) hix hW hvx hvi
        cases arr with
        | inl f =>
          refine va_iast hx hb (ev_K1 hK b4 b5) hP hD hS _ 0 hws rfl hv hd (fun H1 locs1 hP1 hD1 hS1 => hk _ (List.mem_singleton.mpr rfl) g _ H1 locs1 ls _ hle ⟨hP1, hD1, hS1, ev_w_set hW hws ⟨0, by decide, rfl, by rw [List.length_set]; exact hn, b4, b5, by decide, ?_⟩, hB, hL, hs3⟩)
          rw [hj]
          exact ev_set_rel (F := Value.int) hjl b6.2 hva
        | inr z => rcases z with z | z | z | z <;> first | exact b6.elim | (have := b6.1; omega)
      · cases h2
    · cases h2
  · cases h2
/-- a byte into an array of bytes: a number is cut, a variable gets a new name -/
noncomputable def ev_bastore : ev_O := (fun _ _ => some (.bastore, 1, []), fun _ _ S => match S.2.2.1 with
  | a :: i :: x :: st => (match ev_ix 1 x i S.2.2.2.1 with
    | some (cs, j) => if ev_isI a = true then (if a.1 = 0 then some [(S.1 + 1, S.2.1, st, S.2.2.2.1.set x.2.toNat (101, cs.set j (0, (vp_nar .byte (Int32.ofInt a.2)).toInt)), S.2.2.2.2)] else some [(S.1 + 1, S.2.1, st, S.2.2.2.1.set x.2.toNat (101, cs.set j (3, (S.2.2.2.2.1.length : Int))), S.2.2.2.2.1 ++ [ev_full], S.2.2.2.2.2)]) else none
    | none => none)
  | _ => none)
theorem ev_bastore_ok : ev_Snd ev_bastore := by
  intro p l e R s m args below meth c cc Q D A g0 P t S i n cs Ss X h1 hd hw h2 hk g ws H locs ls sc hle hR
  obtain ⟨hx, hb, hml, hown, hts, hK, hA, hN, hini, hcC, hcS, hf, hlc, hscr⟩ := X
  obtain ⟨pc, L, st, w, K, ce, sl⟩ := S
  have h1 : some ((.bastore : Instr), (1 : Nat), ([] : List Cond)) = some (i, n, cs) := h1
  cases h1
  unfold ev_bastore at h2
  dsimp only at h2
  split at h2
  · rename_i a i x st'
    split at h2
    · rename_i cs j hix
      split at h2
      · rename_i ha
        have hR0 := hR
        obtain ⟨hP, hD, hS, hW, hB, hL, hs⟩ := hR0
        obtain ⟨va, sc1, rfl, hva, hs1⟩ := ev_s_cons hs
        obtain ⟨vi, sc2, rfl, hvi, hs2⟩ := ev_s_cons hs1
        obtain ⟨vx, sc3, rfl, hvx, hs3⟩ := ev_s_cons hs2
        obtain ⟨a0, rfl⟩ := ev_vI ha hva
        obtain ⟨ad, cA, n, arr, i0, rfl, rfl, hws, hn, hv, hj, hjl, b4, b5, b6, hwc⟩ := ev_ix_ok (by decide) hix hW hvx hvi
        cases arr with
        | inl f =>
          split at h2
          · rename_i hz
            cases h2
            obtain ⟨at_, an⟩ := a
            have hz : at_ = 0 := hz
            subst hz
            have ea : Int32.ofInt an = a0 := Value.int.inj (Option.some.inj hva)
            refine va_bast hx hb (ev_K1 hK b4 b5) hP hD hS _ 0 hws rfl hv hd (fun H1 locs1 hP1 hD1 hS1 => hk _ (List.mem_singleton.mpr rfl) g _ H1 locs1 ls _ hle ⟨hP1, hD1, hS1, ev_w_set hW hws ⟨1, by decide, rfl, by rw [List.length_set]; exact hn, b4, b5, by decide, ?_⟩, hB, hL, hs3⟩)
            rw [hj]
            dsimp only
            rw [ea]
            exact ev_set_rel (F := Value.int) hjl b6.2 (ev_v0 g _)
          · cases h2
            obtain ⟨g', l1, ⟨hP, hD, hS, hW, hB, hL, hs⟩, e1⟩ := ev_fresh hR (.int (vp_nar .byte a0)) ev_full (fun z hz => ev_full_ok _)
            refine va_bast hx hb (ev_K1 hK b4 b5) hP hD hS _ 0 hws rfl hv hd (fun H1 locs1 hP1 hD1 hS1 => hk _ (List.mem_singleton.mpr rfl) g' _ H1 locs1 ls _ (ev_le_tr hle l1) ⟨hP1, hD1, hS1, ev_w_set hW hws ⟨1, by decide, rfl, by rw [List.length_set]; exact hn, b4, b5, by decide, ?_⟩, hB, hL, hs.2.2.2⟩)
            rw [hj]
            exact ev_set_rel (F := Value.int) hjl (fun k x hk => ev_v_le l1 (b6.2 k x hk)) (ev_v3 e1)
        | inr z => rcases z with z | z | z | z <;> first | exact b6.elim | (have := b6.1; omega)
      · cases h2
    · cases h2
  · cases h2
noncomputable def ev_cs (st : List ev_A) : Nat := (st.map (fun a => if ev_isL a = true then 2 else 1)).sum
theorem ev_cs_ok {g : ev_G} : ∀ {st : List ev_A} {sc : List Value}, ev_s g st sc → (sc.map fun v => v.category).sum = ev_cs st
  | [], [], _ => rfl
  | [], _ :: _, h => h.elim
  | _ :: _, [], h => h.elim
  | a :: st, v :: sc, h => by
    have ih := ev_cs_ok h.2
    simp only [ev_cs, List.map_cons, List.sum_cons] at ih ⊢
    rw [ih]
    rcases ev_cat h.1 with ⟨q1, q2⟩ | ⟨q1, q2⟩ <;> rw [q1, q2] <;> rfl
theorem ev_nn {x : Int32} (h : 0 ≤ x.toInt) : ¬ x < 0 := by
  rw [Int32.lt_iff_toInt_lt]
  exact Int.not_lt.mpr h
/-- how many places a new array has -/
noncomputable def ev_len (a : ev_A) : Option Nat := if a.1 = 0 ∧ 0 ≤ (Int32.ofInt a.2).toInt ∧ (Int32.ofInt a.2).toNatClampNeg ≤ 100000 then some (Int32.ofInt a.2).toNatClampNeg else none
theorem ev_len_ok {a : ev_A} {n : Nat} {g : ev_G} {v : Value} (h : ev_len a = some n) (hv : ev_v g a = some v) : ∃ x : Int32, v = .int x ∧ ¬ x < 0 ∧ x.toNatClampNeg = n ∧ n ≤ 100000 := by
  unfold ev_len at h
  split at h
  · rename_i hc
    cases h
    obtain ⟨t, k⟩ := a
    obtain ⟨h1, h2, h3⟩ := hc
    have h1 : t = 0 := h1
    subst h1
    exact ⟨_, (Option.some.inj hv).symm, ev_nn h2, rfl, h3⟩
  · cases h

noncomputable def ev_newI : ev_O := (fun _ _ => some (.newarray .int, 2, [.arrayClass .int]), fun P _ S => match S.2.2.1 with
  | a :: st => (match ev_len a with
    | some n => if S.2.2.2.2.2.1 + 1 ≤ P.1 ∧ S.2.2.2.2.2.2 + n ≤ P.2.1 then some [(S.1 + 2, S.2.1, (1, (S.2.2.2.1.length : Int)) :: st, S.2.2.2.1 ++ [(100, List.replicate n (0, 0))], S.2.2.2.2.1, S.2.2.2.2.2.1 + 1, S.2.2.2.2.2.2 + n)] else none
    | none => none)
  | _ => none)
theorem ev_newI_ok : ev_Snd ev_newI := by
  intro p l e R s m args below meth c cc Q D A g0 P t S i n cs Ss X h1 hd hw h2 hk g ws H locs ls sc hle hR
  obtain ⟨hx, hb, hml, hown, hts, hK, hA, hN, hini, hcC, hcS, hf, hlc, hscr⟩ := X
  obtain ⟨pc, L, st, w, K, ce, sl⟩ := S
  have h1 : some ((.newarray .int : Instr), (2 : Nat), ([.arrayClass .int] : List Cond)) = some (i, n, cs) := h1
  cases h1
  unfold ev_newI at h2
  dsimp only at h2
  split at h2
  · rename_i a st'
    split at h2
    · rename_i n hn
      split at h2
      · rename_i hc
        cases h2
        obtain ⟨hP, hD, hS, hW, hB, hL, hs⟩ := hR
        obtain ⟨va, sc1, rfl, hva, hs1⟩ := ev_s_cons hs
        obtain ⟨x, rfl, x1, x2, x3⟩ := ev_len_ok hn hva
        refine va_newa hx hb (atype := .int) (hts _ (hw _ (List.mem_singleton.mpr rfl))) rfl hK hP hD hS hA (a0 := (n, .inl (fun _ => 0))) (fun cA => rfl) x1 x2 (by simp only [componentBytes, newarray.typeOf]; omega) (by rw [hcC]; exact hc.1) (by rw [hcS]; exact hc.2) hd (fun q cA H1 hK1 hP1 hD1 hS1 => ?_)
        obtain ⟨k1, k2⟩ := hK1.2 0 _ rfl
        have hcell : ev_c s (g.1 ++ [q], g.2.1, g.2.2) (100, List.replicate n (0, 0)) (.inl (cA, n, .inl (fun _ => 0))) := by
          refine ⟨0, by decide, rfl, by simp, k1, k2, by decide, fun j y hj => ?_⟩
          rw [List.getElem?_replicate] at hj
          split at hj
          · cases hj
            rfl
          · cases hj
        obtain ⟨l1, w1, v1⟩ := ev_w_push hW hcell
        exact hk _ (List.mem_singleton.mpr rfl) _ _ H1 locs ls _ (ev_le_tr hle l1) ⟨hP1, hD1, hS1, w1, hB, ev_l_le l1 hL, v1, ev_s_le l1 hs1⟩
      · cases h2
    · cases h2
  · cases h2

noncomputable def ev_newB : ev_O := (fun _ _ => some (.newarray .byte, 2, [.arrayClass .byte]), fun P _ S => match S.2.2.1 with
  | a :: st => (match ev_len a with
    | some n => if S.2.2.2.2.2.1 + 1 ≤ P.1 ∧ S.2.2.2.2.2.2 + n ≤ P.2.1 then some [(S.1 + 2, S.2.1, (1, (S.2.2.2.1.length : Int)) :: st, S.2.2.2.1 ++ [(101, List.replicate n (0, 0))], S.2.2.2.2.1, S.2.2.2.2.2.1 + 1, S.2.2.2.2.2.2 + n)] else none
    | none => none)
  | _ => none)
theorem ev_newB_ok : ev_Snd ev_newB := by
  intro p l e R s m args below meth c cc Q D A g0 P t S i n cs Ss X h1 hd hw h2 hk g ws H locs ls sc hle hR
  obtain ⟨hx, hb, hml, hown, hts, hK, hA, hN, hini, hcC, hcS, hf, hlc, hscr⟩ := X
  obtain ⟨pc, L, st, w, K, ce, sl⟩ := S
  have h1 : some ((.newarray .byte : Instr), (2 : Nat), ([.arrayClass .byte] : List Cond)) = some (i, n, cs) := h1
  cases h1
  unfold ev_newB at h2
  dsimp only at h2
  split at h2
  · rename_i a st'
    split at h2
    · rename_i n hn
      split at h2
      · rename_i hc
        cases h2
        obtain ⟨hP, hD, hS, hW, hB, hL, hs⟩ := hR
        obtain ⟨va, sc1, rfl, hva, hs1⟩ := ev_s_cons hs
        obtain ⟨x, rfl, x1, x2, x3⟩ := ev_len_ok hn hva
        refine va_newa hx hb (atype := .byte) (hts _ (hw _ (List.mem_singleton.mpr rfl))) rfl hK hP hD hS hA (a0 := (n, .inl (fun _ => 0))) (fun cA => rfl) x1 x2 (by simp only [componentBytes, newarray.typeOf]; omega) (by rw [hcC]; exact hc.1) (by rw [hcS]; exact hc.2) hd (fun q cA H1 hK1 hP1 hD1 hS1 => ?_)
        obtain ⟨k1, k2⟩ := hK1.2 0 _ rfl
        have hcell : ev_c s (g.1 ++ [q], g.2.1, g.2.2) (101, List.replicate n (0, 0)) (.inl (cA, n, .inl (fun _ => 0))) := by
          refine ⟨1, by decide, rfl, by simp, k1, k2, by decide, fun j y hj => ?_⟩
          rw [List.getElem?_replicate] at hj
          split at hj
          · cases hj
            rfl
          · cases hj
        obtain ⟨l1, w1, v1⟩ := ev_w_push hW hcell
        exact hk _ (List.mem_singleton.mpr rfl) _ _ H1 locs ls _ (ev_le_tr hle l1) ⟨hP1, hD1, hS1, w1, hB, ev_l_le l1 hL, v1, ev_s_le l1 hs1⟩
      · cases h2
    · cases h2
  · cases h2

noncomputable def ev_newJ : ev_O := (fun _ _ => some (.newarray .long, 2, [.arrayClass .long]), fun P _ S => match S.2.2.1 with
  | a :: st => (match ev_len a with
    | some n => if S.2.2.2.2.2.1 + 1 ≤ P.1 ∧ S.2.2.2.2.2.2 + n ≤ P.2.1 then some [(S.1 + 2, S.2.1, (1, (S.2.2.2.1.length : Int)) :: st, S.2.2.2.1 ++ [(102, List.replicate n (4, 0))], S.2.2.2.2.1, S.2.2.2.2.2.1 + 1, S.2.2.2.2.2.2 + n)] else none
    | none => none)
  | _ => none)
theorem ev_newJ_ok : ev_Snd ev_newJ := by
  intro p l e R s m args below meth c cc Q D A g0 P t S i n cs Ss X h1 hd hw h2 hk g ws H locs ls sc hle hR
  obtain ⟨hx, hb, hml, hown, hts, hK, hA, hN, hini, hcC, hcS, hf, hlc, hscr⟩ := X
  obtain ⟨pc, L, st, w, K, ce, sl⟩ := S
  have h1 : some ((.newarray .long : Instr), (2 : Nat), ([.arrayClass .long] : List Cond)) = some (i, n, cs) := h1
  cases h1
  unfold ev_newJ at h2
  dsimp only at h2
  split at h2
  · rename_i a st'
    split at h2
    · rename_i n hn
      split at h2
      · rename_i hc
        cases h2
        obtain ⟨hP, hD, hS, hW, hB, hL, hs⟩ := hR
        obtain ⟨va, sc1, rfl, hva, hs1⟩ := ev_s_cons hs
        obtain ⟨x, rfl, x1, x2, x3⟩ := ev_len_ok hn hva
        refine va_newa hx hb (atype := .long) (hts _ (hw _ (List.mem_singleton.mpr rfl))) rfl hK hP hD hS hA (a0 := (n, .inr (.inl (fun _ => 0)))) (fun cA => rfl) x1 x2 (by simp only [componentBytes, newarray.typeOf]; omega) (by rw [hcC]; exact hc.1) (by rw [hcS]; exact hc.2) hd (fun q cA H1 hK1 hP1 hD1 hS1 => ?_)
        obtain ⟨k1, k2⟩ := hK1.2 0 _ rfl
        have hcell : ev_c s (g.1 ++ [q], g.2.1, g.2.2) (102, List.replicate n (4, 0)) (.inl (cA, n, .inr (.inl (fun _ => 0)))) := by
          refine ⟨2, by decide, rfl, by simp, k1, k2, by decide, fun j y hj => ?_⟩
          rw [List.getElem?_replicate] at hj
          split at hj
          · cases hj
            rfl
          · cases hj
        obtain ⟨l1, w1, v1⟩ := ev_w_push hW hcell
        exact hk _ (List.mem_singleton.mpr rfl) _ _ H1 locs ls _ (ev_le_tr hle l1) ⟨hP1, hD1, hS1, w1, hB, ev_l_le l1 hL, v1, ev_s_le l1 hs1⟩
      · cases h2
    · cases h2
  · cases h2

noncomputable def ev_newQ : ev_O := (fun P t => some (.anewarray t.1.toNat, 3, [.classLink P.2.2.2.1 t.1.toNat "BarberMinutes$Minutes"]), fun P _ S => match S.2.2.1 with
  | a :: st => (match ev_len a with
    | some n => if S.2.2.2.2.2.1 + 1 ≤ P.1 ∧ S.2.2.2.2.2.2 + n ≤ P.2.1 then some [(S.1 + 3, S.2.1, (1, (S.2.2.2.1.length : Int)) :: st, S.2.2.2.1 ++ [(103, List.replicate n (2, 0))], S.2.2.2.2.1, S.2.2.2.2.2.1 + 1, S.2.2.2.2.2.2 + n)] else none
    | none => none)
  | _ => none)
theorem ev_newQ_ok : ev_Snd ev_newQ := by
  intro p l e R s m args below meth c cc Q D A g0 P t S i n cs Ss X h1 hd hw h2 hk g ws H locs ls sc hle hR
  obtain ⟨hx, hb, hml, hown, hts, hK, hA, hN, hini, hcC, hcS, hf, hlc, hscr⟩ := X
  obtain ⟨pc, L, st, w, K, ce, sl⟩ := S
  have h1 : some ((.anewarray t.1.toNat : Instr), (3 : Nat), ([.classLink P.2.2.2.1 t.1.toNat "BarberMinutes$Minutes"] : List Cond)) = some (i, n, cs) := h1
  cases h1
  unfold ev_newQ at h2
  dsimp only at h2
  split at h2
  · rename_i a st'
    split at h2
    · rename_i n hn
      split at h2
      · rename_i hc
        cases h2
        obtain ⟨hP, hD, hS, hW, hB, hL, hs⟩ := hR
        obtain ⟨va, sc1, rfl, hva, hs1⟩ := ev_s_cons hs
        obtain ⟨x, rfl, x1, x2, x3⟩ := ev_len_ok hn hva
        refine va_newq hx hb hown (hts _ (hw _ (List.mem_singleton.mpr rfl))) hN.1.2 hK hP hD hS hA x1 x2 (by omega) (by rw [hcC]; exact hc.1) (by rw [hcS]; exact hc.2) hd (fun q cA H1 hK1 hP1 hD1 hS1 => ?_)
        obtain ⟨k1, k2⟩ := hK1.2 0 _ rfl
        have hcell : ev_c s (g.1 ++ [q], g.2.1, g.2.2) (103, List.replicate n (2, 0)) (.inl (cA, n, .inr (.inr (.inr (.inr (fun _ => none)))))) := by
          refine ⟨3, by decide, rfl, by simp, k1, k2, rfl, fun j y hj => ?_⟩
          rw [List.getElem?_replicate] at hj
          split at hj
          · cases hj
            rfl
          · cases hj
        obtain ⟨l1, w1, v1⟩ := ev_w_push hW hcell
        exact hk _ (List.mem_singleton.mpr rfl) _ _ H1 locs ls _ (ev_le_tr hle l1) ⟨hP1, hD1, hS1, w1, hB, ev_l_le l1 hL, v1, ev_s_le l1 hs1⟩
      · cases h2
    · cases h2
  · cases h2
noncomputable def ev_def (ty : FieldType) : ev_A := match ty with
  | .int => (0, 0)
  | .boolean => (0, 0)
  | .long => (4, 0)
  | .object _ => (2, 0)
  | .array _ => (2, 0)
  | _ => (9, 0)
theorem ev_def_ok (g : ev_G) {ty : FieldType} (h : ((ev_def ty).1 == 9) = false) : ev_v g (ev_def ty) = some (defaultValue ty) := by
  cases ty <;> first | rfl | (simp [ev_def] at h)
noncomputable def ev_new : ev_O := (fun P t => match vwCl[t.1.toNat]? with
  | some r => some (.new t.2.2.1.toNat, 3, [.classLink P.2.2.2.1 t.2.2.1.toNat r.1, .instantiable r.1 r.2.2, .initialized r.1])
  | none => none, fun P t S => match vwCl[t.1.toNat]?, ev_tyl[t.1.toNat]? with
  | some r, some ty => if S.2.2.2.2.2.1 + 1 ≤ P.1 ∧ S.2.2.2.2.2.2 + r.2.2 ≤ P.2.1 ∧ (List.range r.2.2).all (fun j => !((ev_def (ty j)).1 == 9)) = true then some [(S.1 + 3, S.2.1, (1, (S.2.2.2.1.length : Int)) :: S.2.2.1, S.2.2.2.1 ++ [(t.1.toNat, (List.range r.2.2).map (fun j => ev_def (ty j)))], S.2.2.2.2.1, S.2.2.2.2.2.1 + 1, S.2.2.2.2.2.2 + r.2.2)] else none
  | _, _ => none)
theorem ev_new_ok : ev_Snd ev_new := by
  intro p l e R s m args below meth c cc Q D A g0 P t S i n cs Ss X h1 hd hw h2 hk g ws H locs ls sc hle hR
  obtain ⟨hx, hb, hml, hown, hts, hK, hA, hN, hini, hcC, hcS, hf, hlc, hscr⟩ := X
  obtain ⟨pc, L, st, w, K, ce, sl⟩ := S
  obtain ⟨t1, t2, t3, t4⟩ := t
  unfold ev_new at h1 h2
  dsimp only at h1 h2
  cases hr : vwCl[t1.toNat]? with
  | none => simp [hr] at h1
  | some r =>
    rw [hr] at h1 h2
    dsimp only at h1
    cases h1
    split at h2
    · rename_i r' ty hr' hty
      cases hr'
      split at h2
      · rename_i hc
        obtain ⟨hc1, hc2, hc3⟩ := hc
        cases h2
        obtain ⟨hP, hD, hS, hW, hB, hL, hs⟩ := hR
        obtain ⟨k1, k2, k3, k4⟩ := ev_cls _ r ty hr hty
        have hlt : t1.toNat < 10 := (List.getElem?_eq_some_iff.mp hr).1
        refine va_new (fs := (List.range r.2.2).map (fun j => defaultValue (ty j))) hx hb hts k1 ty k2 hown (hts _ (hw _ (by simp))) (hts _ (hw _ (by simp))) (hts _ (hw _ (by simp))) hK hP hD hS hA hr (fun j hj => by simp [vp_V, List.getD, hj]) (by rw [hcC]; exact hc1) (by rw [hcS]; exact hc2) hd (fun q H1 hP1 hD1 hS1 => ?_)
        have hcell : ev_c s (g.1 ++ [q], g.2.1, g.2.2) (t1.toNat, (List.range r.2.2).map (fun j => ev_def (ty j))) (.inr (t1.toNat, (List.range r.2.2).map (fun j => defaultValue (ty j)))) := by
          refine ⟨rfl, by omega, by simp, fun j a hj => ?_⟩
          dsimp only at hj ⊢
          rw [List.getElem?_map] at hj ⊢
          cases hz : (List.range r.2.2)[j]? with
          | none => simp [hz] at hj
          | some z =>
            simp only [hz, Option.map_some] at hj ⊢
            cases hj
            refine ⟨_, ev_def_ok _ ?_, rfl⟩
            have := List.all_eq_true.mp hc3 z (List.mem_of_getElem? hz)
            simpa using this
        obtain ⟨l1, w1, v1⟩ := ev_w_push hW hcell
        exact hk _ (List.mem_singleton.mpr rfl) _ _ H1 locs ls _ (ev_le_tr hle l1) ⟨hP1, hD1, hS1, w1, hB, ev_l_le l1 hL, v1, ev_s_le l1 hs⟩
      · cases h2
    · cases h2
noncomputable def ev_aastore : ev_O := (fun _ _ => some (.aastore, 1, []), fun _ _ S => match S.2.2.1 with
  | a :: i :: x :: st => (match ev_ix 3 x i S.2.2.2.1, S.2.2.2.1[a.2.toNat]? with
    | some (cs, j), some cl => if a.1 = 1 ∧ cl.1 = 2 then some [(S.1 + 1, S.2.1, st, S.2.2.2.1.set x.2.toNat (103, cs.set j a), S.2.2.2.2)] else none
    | _, _ => none)
  | _ => none)
theorem ev_aastore_ok : ev_Snd ev_aastore := by
  intro p l e R s m args below meth c cc Q D A g0 P t S i n cs Ss X h1 hd hw h2 hk g ws H locs ls sc hle hR
  obtain ⟨hx, hb, hml, hown, hts, hK, hA, hN, hini, hcC, hcS, hf, hlc, hscr⟩ := X
  obtain ⟨pc, L, st, w, K, ce, sl⟩ := S
  have h1 : some ((.aastore : Instr), (1 : Nat), ([] : List Cond)) = some (i, n, cs) := h1
  cases h1
  unfold ev_aastore at h2
  dsimp only at h2
  split at h2
  · rename_i a i x st'
    split at h2
    · rename_i cs j cl hix hcl
      split at h2
      · rename_i ha
        cases h2
        obtain ⟨hP, hD, hS, hW, hB, hL, hs⟩ := hR
        obtain ⟨va, sc1, rfl, hva, hs1⟩ := ev_s_cons hs
        obtain ⟨vi, sc2, rfl, hvi, hs2⟩ := ev_s_cons hs1
        obtain ⟨vx, sc3, rfl, hvx, hs3⟩ := ev_s_cons hs2
        obtain ⟨ad2, y0, rfl, hws2, hcc⟩ := ev_ref1 hW ha.1 hva hcl
        obtain ⟨ad, cA, n, arr, i0, rfl, rfl, hws, hn, hv, hj, hjl, b4, b5, b6, hwc⟩ := ev_ix_ok (by decide) hix hW hvx hvi
        cases y0 with
        | inl z =>
          obtain ⟨tt, c1, c2, -⟩ := hcc
          omega
        | inr o =>
          obtain ⟨ci, vs⟩ := o
          obtain ⟨c1, -⟩ := hcc
          have c1 : ci = 2 := by dsimp only at c1; omega
          subst c1
          rcases arr with f | f | f | f | f
          · have := b6.1; omega
          · have := b6.1; omega
          · exact b6.elim
          · exact b6.elim
          · refine va_astq hx hb (ev_K1 hK b4 b5) hP hD hS _ 0 _ 2 (r := (RX2, TX2, 4)) hws rfl hws2 rfl hv hd (fun H1 locs1 hP1 hD1 hS1 => hk _ (List.mem_singleton.mpr rfl) g _ H1 locs1 ls _ hle ⟨hP1, hD1, hS1, ev_w_set hW hws ⟨3, by decide, rfl, by rw [List.length_set]; exact hn, b4, b5, rfl, ?_⟩, hB, hL, hs3⟩)
            rw [hj]
            exact ev_set_rel (F := va_rf) (v := some ad2) hjl b6.2 hva
      · cases h2
    · cases h2
  · cases h2
noncomputable def ev_alen : ev_O := (fun _ _ => some (.arraylength, 1, []), fun P _ S => match S.2.2.1 with
  | x :: st => if x.1 = 5 then (if x.2 = 0 ∧ 1 ≤ P.2.2.2.2.2 then some [ev_adv S 1 ((0, (Int32.ofNat (P.2.2.2.2.2 - 1)).toInt) :: st)] else none) else (match S.2.2.2.1[x.2.toNat]? with
    | some cl => if x.1 = 1 ∧ 100 ≤ cl.1 then some [ev_adv S 1 ((0, (Int32.ofNat cl.2.length).toInt) :: st)] else none
    | none => none)
  | _ => none)
theorem ev_alen_ok : ev_Snd ev_alen := by
  intro p l e R s m args below meth c cc Q D A g0 P t S i n cs Ss X h1 hd hw h2 hk g ws H locs ls sc hle hR
  obtain ⟨hx, hb, hml, hown, hts, hK, hA, hN, hini, hcC, hcS, hf, hlc, hscr⟩ := X
  obtain ⟨pc, L, st, w, K, ce, sl⟩ := S
  have h1 : some ((.arraylength : Instr), (1 : Nat), ([] : List Cond)) = some (i, n, cs) := h1
  cases h1
  unfold ev_alen at h2
  dsimp only at h2
  split at h2
  · rename_i x st'
    obtain ⟨hP, hD, hS, hW, hB, hL, hs⟩ := hR
    obtain ⟨vx, sc1, rfl, hvx, hs1⟩ := ev_s_cons hs
    split at h2
    · rename_i h5
      split at h2
      · rename_i hc
        cases h2
        obtain ⟨xt, xn⟩ := x
        have h5 : xt = 5 := h5
        subst h5
        have hc1 : xn = 0 := hc.1
        subst hc1
        obtain ⟨xs, s1, s2, s3, s4⟩ := hscr (P.2.2.2.2.2 - 1) (by omega)
        have e0 : g.2.1 = g0.2.1 := hle.2.1
        have hvx : vx = .ref (g0.2.1 0) := by rw [← e0]; exact (Option.some.inj hvx).symm
        subst hvx
        exact va_slen hx hb s1 s2 s3 hS hd (hk _ (List.mem_singleton.mpr rfl) g ws H locs ls _ hle ⟨hP, hD, hS, hW, hB, hL, ev_v0 g _, hs1⟩)
      · cases h2
    · split at h2
      · rename_i cl hcl
        split at h2
        · rename_i hc
          cases h2
          obtain ⟨ad, y0, rfl, hws, hcc⟩ := ev_ref1 hW hc.1 hvx hcl
          cases y0 with
          | inr o =>
            obtain ⟨c1, c2, -⟩ := hcc
            omega
          | inl z =>
            obtain ⟨cA, n, arr⟩ := z
            obtain ⟨tt, c1, c2, c3, c4, c5, c6⟩ := hcc
            exact va_alen hx hb (ev_K1 hK c4 c5) hP _ 0 hws rfl rfl hd (hk _ (List.mem_singleton.mpr rfl) g ws H locs ls _ hle ⟨hP, hD, hS, hW, hB, hL, by dsimp only at c3 ⊢; rw [c3]; exact ev_v0 g _, hs1⟩)
        · cases h2
      · cases h2
  · cases h2
/-- the law's own script: its j-th number is the j-th variable -/
noncomputable def ev_sald : ev_O := (fun _ _ => some (.iaload, 1, []), fun P _ S => match S.2.2.1 with
  | i :: x :: st => if x.1 = 5 ∧ x.2 = 0 ∧ i.1 = 0 ∧ 1 ≤ P.2.2.2.2.2 ∧ 0 ≤ (Int32.ofInt i.2).toInt ∧ (Int32.ofInt i.2).toInt < ((P.2.2.2.2.2 - 1 : Nat) : Int) then some [ev_adv S 1 ((3, ((Int32.ofInt i.2).toNatClampNeg : Int)) :: st)] else none
  | _ => none)
theorem ev_sald_ok : ev_Snd ev_sald := by
  intro p l e R s m args below meth c cc Q D A g0 P t S i n cs Ss X h1 hd hw h2 hk g ws H locs ls sc hle hR
  obtain ⟨hx, hb, hml, hown, hts, hK, hA, hN, hini, hcC, hcS, hf, hlc, hscr⟩ := X
  obtain ⟨pc, L, st, w, K, ce, sl⟩ := S
  have h1 : some ((.iaload : Instr), (1 : Nat), ([] : List Cond)) = some (i, n, cs) := h1
  cases h1
  unfold ev_sald at h2
  dsimp only at h2
  split at h2
  · rename_i i x st'
    split at h2
    · rename_i hc
      cases h2
      obtain ⟨h5, h50, hi0, hL1, hi1, hi2⟩ := hc
      obtain ⟨hP, hD, hS, hW, hB, hL, hs⟩ := hR
      obtain ⟨vi, sc1, rfl, hvi, hs1⟩ := ev_s_cons hs
      obtain ⟨vx, sc2, rfl, hvx, hs2⟩ := ev_s_cons hs1
      obtain ⟨xt, xn⟩ := x
      have h5 : xt = 5 := h5
      subst h5
      have h50 : xn = 0 := h50
      subst h50
      obtain ⟨it, iv⟩ := i
      have hi0 : it = 0 := hi0
      subst hi0
      have hvi : vi = .int (Int32.ofInt iv) := (Option.some.inj hvi).symm
      subst hvi
      obtain ⟨xs, s1, s2, s3, s4⟩ := hscr (P.2.2.2.2.2 - 1) (by omega)
      have e0 : g.2.1 = g0.2.1 := hle.2.1
      have hvx : vx = .ref (g0.2.1 0) := by rw [← e0]; exact (Option.some.inj hvx).symm
      subst hvx
      have hv : vp_in (Int32.ofInt iv) (P.2.2.2.2.2 - 1) := by rw [vp_in_iff]; exact ⟨hi1, hi2⟩
      have hj : (Int32.ofInt iv).toNatClampNeg < P.2.2.2.2.2 - 1 := by
        have h9 := hv
        unfold vp_in at h9
        exact Nat.lt_of_not_le (fun q => h9 (Or.inr q))
      obtain ⟨l3, e3⟩ := hle.2.2
      have he : g.2.2[(Int32.ofInt iv).toNatClampNeg]? = some (.int (xs (Int32.ofInt iv).toNatClampNeg)) := by rw [e3]; exact ev_ap (s4 _ hj)
      exact va_sld hx hb s1 s2 s3 hS hv hd (hk _ (List.mem_singleton.mpr rfl) g ws H locs ls _ hle ⟨hP, hD, hS, hW, hB, hL, ev_v3 he, hs2⟩)
    · cases h2
  · cases h2
noncomputable def ev_oinit : ev_O := (fun P t => some (.invokespecial t.1.toNat, 3, [.methodLink P.2.2.2.1 t.1.toNat objectInit, .instanceMethod objectInit, .code objectInit ⟨#[0xb1]⟩ 1 none]), fun _ _ S => match S.2.2.1 with
  | x :: st => if ev_isR x = true ∧ ev_cs st ≤ 8 then some [ev_adv S 3 st] else none
  | _ => none)
theorem ev_oinit_ok : ev_Snd ev_oinit := by
  intro p l e R s m args below meth c cc Q D A g0 P t S i n cs Ss X h1 hd hw h2 hk g ws H locs ls sc hle hR
  obtain ⟨hx, hb, hml, hown, hts, hK, hA, hN, hini, hcC, hcS, hf, hlc, hscr⟩ := X
  obtain ⟨pc, L, st, w, K, ce, sl⟩ := S
  have h1 : some ((.invokespecial t.1.toNat : Instr), (3 : Nat), ([.methodLink P.2.2.2.1 t.1.toNat objectInit, .instanceMethod objectInit, .code objectInit ⟨#[0xb1]⟩ 1 none] : List Cond)) = some (i, n, cs) := h1
  cases h1
  unfold ev_oinit at h2
  dsimp only at h2
  split at h2
  · rename_i x st'
    split at h2
    · rename_i hc
      cases h2
      obtain ⟨hP, hD, hS, hW, hB, hL, hs⟩ := hR
      obtain ⟨vx, sc1, rfl, hvx, hs1⟩ := ev_s_cons hs
      obtain ⟨ad, rfl⟩ := ev_vR hc.1 hvx
      refine W.objInit hx hb hown (hts _ (hw _ (by simp))) (hts _ (hw _ (by simp))) (hts _ (hw _ (by simp))) (g := F0 m pc ls (.ref ad :: sc1)) rfl (hL.1.trans hml.symm) (a := ad) (rest := sc1) rfl hd hf ?_ (hk _ (List.mem_singleton.mpr rfl) g ws H locs ls _ hle ⟨hP, hD, hS, hW, hB, hL, hs1⟩)
      rw [ev_cs_ok hs1]
      show 2 * 0 + _ + 12 ≤ _
      omega
    · cases h2
  · cases h2

noncomputable def ev_mmin : ev_O := (fun P t => some (.invokestatic t.1.toNat, 3, [.methodLink P.2.2.2.1 t.1.toNat Lib.Math.min.name, .static Lib.Math.min.name, .initialized "java/lang/Math", .code Lib.Math.min.name Lib.Math.min.code 2 (some .int)]), fun P _ S => match S.2.2.1 with
  | _ :: _ :: st => if ev_cs st ≤ 8 ∧ S.2.2.2.2.2.1 ≤ P.1 ∧ S.2.2.2.2.2.2 ≤ P.2.1 then ev_bin (fun x y => if y < x then y else x) (fun _ => true) 3 S else none
  | _ => none)
theorem ev_mmin_ok : ev_Snd ev_mmin := by
  intro p l e R s m args below meth c cc Q D A g0 P t S i n cs Ss X h1 hd hw h2 hk g ws H locs ls sc hle hR
  obtain ⟨hx, hb, hml, hown, hts, hK, hA, hN, hini, hcC, hcS, hf, hlc, hscr⟩ := X
  obtain ⟨pc, L, st, w, K, ce, sl⟩ := S
  have h1 : some ((.invokestatic t.1.toNat : Instr), (3 : Nat), ([.methodLink P.2.2.2.1 t.1.toNat Lib.Math.min.name, .static Lib.Math.min.name, .initialized "java/lang/Math", .code Lib.Math.min.name Lib.Math.min.code 2 (some .int)] : List Cond)) = some (i, n, cs) := h1
  cases h1
  unfold ev_mmin at h2
  dsimp only at h2
  split at h2
  · rename_i y x st'
    split at h2
    · rename_i hc
      have hs0 := hR.2.2.2.2.2.2
      have hl0 := hR.2.2.2.2.2.1.1
      obtain ⟨x0, y0, rest, S', rfl, hy, rfl, e1, e2, g', l1, hR'⟩ := ev_bin_ok (fun x y => if y < x then y else x) (fun _ => true) (fun _ _ => rfl) h2 hR
      have hsum := ev_cs_ok hs0.2.2
      exact va_mmin hx hb (hml.trans hl0.symm) hown (hts _ (hw _ (by simp))) (hts _ (hw _ (by simp))) (hts _ (hw _ (by simp))) (hts _ (hw _ (by simp))) hf (by omega) (by rw [hcC]; exact hc.2.1) (by rw [hcS]; exact hc.2.2) hd (ev_Go_eq (hk S' (List.mem_singleton.mpr rfl)) e1 e2 (ev_le_tr hle l1) hR')
    · cases h2
  · cases h2

noncomputable def ev_ldc : ev_O := (fun P t => some (.ldc t.2.1.toNat, 2, [.constant P.2.2.2.1 t.2.1.toNat (Int32.ofInt t.1)]), fun _ t S => some [ev_adv S 2 ((0, (Int32.ofInt t.1).toInt) :: S.2.2.1)])
theorem ev_ldc_ok : ev_Snd ev_ldc := by
  intro p l e R s m args below meth c cc Q D A g0 P t S i n cs Ss X h1 hd hw h2 hk g ws H locs ls sc hle hR
  obtain ⟨hx, hb, hml, hown, hts, hK, hA, hN, hini, hcC, hcS, hf, hlc, hscr⟩ := X
  obtain ⟨pc, L, st, w, K, ce, sl⟩ := S
  have h1 : some ((.ldc t.2.1.toNat : Instr), (2 : Nat), ([.constant P.2.2.2.1 t.2.1.toNat (Int32.ofInt t.1)] : List Cond)) = some (i, n, cs) := h1
  cases h1
  have h2 : some [ev_adv (pc, L, st, w, K, ce, sl) 2 ((0, (Int32.ofInt t.1).toInt) :: st)] = some Ss := h2
  cases h2
  obtain ⟨hP, hD, hS, hW, hB, hL, hs⟩ := hR
  exact W.ldc hx hb hown (hts _ (hw _ (List.mem_singleton.mpr rfl))) (g := F0 m pc ls sc) rfl hd (hk _ (List.mem_singleton.mpr rfl) g ws H locs ls _ hle ⟨hP, hD, hS, hW, hB, hL, ev_v0 g _, hs⟩)

noncomputable def ev_ldcS : ev_O := (fun P t => match ev_strs[t.1.toNat]? with
  | some r => if r.1 = P.2.2.2.1 then some (.ldc r.2.1, 2, []) else none
  | none => none, fun _ t S => some [ev_adv S 2 ((5, 1 + 2 * (t.1.toNat : Int)) :: S.2.2.1)])
theorem ev_x5 {g : ev_G} {k : Nat} : ev_v g (5, 1 + 2 * (k : Int)) = some (.ref (g.2.1 (1 + 2 * k))) := by
  show some (Value.ref (g.2.1 (1 + 2 * (k : Int)).toNat)) = _
  rw [show (1 + 2 * (k : Int)).toNat = 1 + 2 * k by omega]
theorem ev_ldcS_ok : ev_Snd ev_ldcS := by
  intro p l e R s m args below meth c cc Q D A g0 P t S i n cs Ss X h1 hd hw h2 hk g ws H locs ls sc hle hR
  obtain ⟨hx, hb, hml, hown, hts, hK, hA, hN, hini, hcC, hcS, hf, hlc, hscr⟩ := X
  obtain ⟨pc, L, st, w, K, ce, sl⟩ := S
  unfold ev_ldcS at h1
  dsimp only at h1
  have h2 : some [ev_adv (pc, L, st, w, K, ce, sl) 2 ((5, 1 + 2 * (t.1.toNat : Int)) :: st)] = some Ss := h2
  cases h2
  split at h1
  · rename_i r hr
    split at h1
    · rename_i ho
      cases h1
      obtain ⟨hP, hD, hS, hW, hB, hL, hs⟩ := hR
      have e0 : g.2.1 = g0.2.1 := hle.2.1
      have hz := hN.2.1 _ r hr
      rw [ho] at hz
      exact va_ldcS hx hb hown hz hd (hk _ (List.mem_singleton.mpr rfl) g ws H locs ls _ hle ⟨hP, hD, hS, hW, hB, hL, by rw [← e0]; exact ev_x5, hs⟩)
    · cases h1
  · cases h1
/-- a text, by its value -/
noncomputable def ev_isS (a : ev_A) : Bool := a.1 == 5 && (decide (a.2.toNat % 2 = 1) && decide (a.2.toNat / 2 < 40))
theorem ev_isS_ok {a : ev_A} {g : ev_G} {v : Value} (h : ev_isS a = true) (hv : ev_v g a = some v) : ∃ r, ev_strs[a.2.toNat / 2]? = some r ∧ a.2.toNat = 1 + 2 * (a.2.toNat / 2) ∧ v = .ref (g.2.1 (1 + 2 * (a.2.toNat / 2))) := by
  simp only [ev_isS, Bool.and_eq_true, beq_iff_eq, decide_eq_true_eq] at h
  obtain ⟨h1, h2, h3⟩ := h
  obtain ⟨t, n⟩ := a
  have h1 : t = 5 := h1
  subst h1
  dsimp only at h2 h3 ⊢
  refine ⟨_, List.getElem?_eq_getElem (show n.toNat / 2 < ev_strs.length from h3), by omega, ?_⟩
  rw [show 1 + 2 * (n.toNat / 2) = n.toNat by omega]
  exact (Option.some.inj hv).symm
noncomputable def ev_getV : ev_O := (fun P t => some (.getfield t.1.toNat, 3, [.fieldLink P.2.2.2.1 t.1.toNat "java/lang/String" "value" "[B"]), fun _ _ S => match S.2.2.1 with
  | x :: st => if ev_isS x = true then some [ev_adv S 3 ((5, 2 + 2 * ((x.2.toNat / 2 : Nat) : Int)) :: st)] else none
  | _ => none)
theorem ev_x52 {g : ev_G} {k : Nat} : ev_v g (5, 2 + 2 * (k : Int)) = some (.ref (g.2.1 (2 + 2 * k))) := by
  show some (Value.ref (g.2.1 (2 + 2 * (k : Int)).toNat)) = _
  rw [show (2 + 2 * (k : Int)).toNat = 2 + 2 * k by omega]
theorem ev_getV_ok : ev_Snd ev_getV := by
  intro p l e R s m args below meth c cc Q D A g0 P t S i n cs Ss X h1 hd hw h2 hk g ws H locs ls sc hle hR
  obtain ⟨hx, hb, hml, hown, hts, hK, hA, hN, hini, hcC, hcS, hf, hlc, hscr⟩ := X
  obtain ⟨pc, L, st, w, K, ce, sl⟩ := S
  have h1 : some ((.getfield t.1.toNat : Instr), (3 : Nat), ([.fieldLink P.2.2.2.1 t.1.toNat "java/lang/String" "value" "[B"] : List Cond)) = some (i, n, cs) := h1
  cases h1
  unfold ev_getV at h2
  dsimp only at h2
  split at h2
  · rename_i x st'
    split at h2
    · rename_i hc
      cases h2
      obtain ⟨hP, hD, hS, hW, hB, hL, hs⟩ := hR
      obtain ⟨vx, sc1, rfl, hvx, hs1⟩ := ev_s_cons hs
      obtain ⟨r, hr, e1, rfl⟩ := ev_isS_ok hc hvx
      have e0 : g.2.1 = g0.2.1 := hle.2.1
      rw [e0]
      exact vk_getf hx hb (hN.2.2.1 _ r hr).2.2.1 hS hown (hts _ (hw _ (List.mem_singleton.mpr rfl))) (fun _ h => h) hd (hk _ (List.mem_singleton.mpr rfl) g ws H locs ls _ hle ⟨hP, hD, hS, hW, hB, hL, by rw [← e0]; exact ev_x52, hs1⟩)
    · cases h2
  · cases h2
noncomputable def ev_getC : ev_O := (fun P t => some (.getfield t.1.toNat, 3, [.fieldLink P.2.2.2.1 t.1.toNat "java/lang/String" "coder" "B"]), fun _ _ S => match S.2.2.1 with
  | x :: st => if ev_isS x = true then some [ev_adv S 3 ((0, 0) :: st)] else none
  | _ => none)
theorem ev_getC_ok : ev_Snd ev_getC := by
  intro p l e R s m args below meth c cc Q D A g0 P t S i n cs Ss X h1 hd hw h2 hk g ws H locs ls sc hle hR
  obtain ⟨hx, hb, hml, hown, hts, hK, hA, hN, hini, hcC, hcS, hf, hlc, hscr⟩ := X
  obtain ⟨pc, L, st, w, K, ce, sl⟩ := S
  have h1 : some ((.getfield t.1.toNat : Instr), (3 : Nat), ([.fieldLink P.2.2.2.1 t.1.toNat "java/lang/String" "coder" "B"] : List Cond)) = some (i, n, cs) := h1
  cases h1
  unfold ev_getC at h2
  dsimp only at h2
  split at h2
  · rename_i x st'
    split at h2
    · rename_i hc
      cases h2
      obtain ⟨hP, hD, hS, hW, hB, hL, hs⟩ := hR
      obtain ⟨vx, sc1, rfl, hvx, hs1⟩ := ev_s_cons hs
      obtain ⟨r, hr, e1, rfl⟩ := ev_isS_ok hc hvx
      have e0 : g.2.1 = g0.2.1 := hle.2.1
      rw [e0]
      exact vk_getf hx hb (hN.2.2.1 _ r hr).2.1 hS hown (hts _ (hw _ (List.mem_singleton.mpr rfl))) (fun _ h => h) hd (hk _ (List.mem_singleton.mpr rfl) g ws H locs ls _ hle ⟨hP, hD, hS, hW, hB, hL, rfl, hs1⟩)
    · cases h2
  · cases h2
noncomputable def ev_gets : ev_O := (fun P t => some (.getstatic t.1.toNat, 3, [.fieldLink P.2.2.2.1 t.1.toNat "java/lang/String" "COMPACT_STRINGS" "Z"]), fun _ _ S => some [ev_adv S 3 ((0, 1) :: S.2.2.1)])
theorem ev_gets_ok : ev_Snd ev_gets := by
  intro p l e R s m args below meth c cc Q D A g0 P t S i n cs Ss X h1 hd hw h2 hk g ws H locs ls sc hle hR
  obtain ⟨hx, hb, hml, hown, hts, hK, hA, hN, hini, hcC, hcS, hf, hlc, hscr⟩ := X
  obtain ⟨pc, L, st, w, K, ce, sl⟩ := S
  have h1 : some ((.getstatic t.1.toNat : Instr), (3 : Nat), ([.fieldLink P.2.2.2.1 t.1.toNat "java/lang/String" "COMPACT_STRINGS" "Z"] : List Cond)) = some (i, n, cs) := h1
  cases h1
  have h2 : some [ev_adv (pc, L, st, w, K, ce, sl) 3 ((0, 1) :: st)] = some Ss := h2
  cases h2
  obtain ⟨hP, hD, hS, hW, hB, hL, hs⟩ := hR
  exact va_gets hx hb hN.2.2.2.1 hS hown (hts _ (hw _ (List.mem_singleton.mpr rfl))) (fun _ h => h) hd (hk _ (List.mem_singleton.mpr rfl) g ws H locs ls _ hle ⟨hP, hD, hS, hW, hB, hL, rfl, hs⟩)
/-- a text's bytes -/
noncomputable def ev_isY (a : ev_A) : Bool := a.1 == 5 && (decide (a.2.toNat % 2 = 0) && (decide (2 ≤ a.2.toNat) && decide (a.2.toNat / 2 - 1 < 40)))
theorem ev_isY_ok {a : ev_A} {g : ev_G} {v : Value} (h : ev_isY a = true) (hv : ev_v g a = some v) : ∃ r, ev_strs[a.2.toNat / 2 - 1]? = some r ∧ v = .ref (g.2.1 (2 + 2 * (a.2.toNat / 2 - 1))) := by
  simp only [ev_isY, Bool.and_eq_true, beq_iff_eq, decide_eq_true_eq] at h
  obtain ⟨h1, h2, h3, h4⟩ := h
  obtain ⟨t, n⟩ := a
  have h1 : t = 5 := h1
  subst h1
  dsimp only at h2 h3 h4 ⊢
  refine ⟨_, List.getElem?_eq_getElem (show n.toNat / 2 - 1 < ev_strs.length from h4), ?_⟩
  rw [show 2 + 2 * (n.toNat / 2 - 1) = n.toNat by omega]
  exact (Option.some.inj hv).symm
noncomputable def ev_alenS : ev_O := (fun _ _ => some (.arraylength, 1, []), fun _ _ S => match S.2.2.1 with
  | x :: st => if ev_isY x = true then (match ev_strs[x.2.toNat / 2 - 1]? with
    | some r => some [ev_adv S 1 ((0, (Int32.ofNat r.2.2.2.length).toInt) :: st)]
    | none => none) else none
  | _ => none)
theorem ev_alenS_ok : ev_Snd ev_alenS := by
  intro p l e R s m args below meth c cc Q D A g0 P t S i n cs Ss X h1 hd hw h2 hk g ws H locs ls sc hle hR
  obtain ⟨hx, hb, hml, hown, hts, hK, hA, hN, hini, hcC, hcS, hf, hlc, hscr⟩ := X
  obtain ⟨pc, L, st, w, K, ce, sl⟩ := S
  have h1 : some ((.arraylength : Instr), (1 : Nat), ([] : List Cond)) = some (i, n, cs) := h1
  cases h1
  unfold ev_alenS at h2
  dsimp only at h2
  split at h2
  · rename_i x st'
    split at h2
    · rename_i hc
      split at h2
      · rename_i r hr
        cases h2
        obtain ⟨hP, hD, hS, hW, hB, hL, hs⟩ := hR
        obtain ⟨vx, sc1, rfl, hvx, hs1⟩ := ev_s_cons hs
        obtain ⟨r', hr', rfl⟩ := ev_isY_ok hc hvx
        have e0 : g.2.1 = g0.2.1 := hle.2.1
        rw [e0]
        exact va_tlen hx hb (hN.2.2.1 _ r hr).2.2.2 hS rfl hd (hk _ (List.mem_singleton.mpr rfl) g ws H locs ls _ hle ⟨hP, hD, hS, hW, hB, hL, ev_v0 g _, hs1⟩)
      · cases h2
    · cases h2
  · cases h2
noncomputable def ev_baloadS : ev_O := (fun _ _ => some (.baload, 1, []), fun _ _ S => match S.2.2.1 with
  | i :: x :: st => if ev_isY x = true then (match ev_strs[x.2.toNat / 2 - 1]? with
    | some r => if i.1 = 0 ∧ 0 ≤ (Int32.ofInt i.2).toInt ∧ (Int32.ofInt i.2).toInt < (r.2.2.2.length : Int) then some [ev_adv S 1 ((0, (r.2.2.2.getD (Int32.ofInt i.2).toNatClampNeg 0).toInt) :: st)] else none
    | none => none) else none
  | _ => none)
theorem ev_baloadS_ok : ev_Snd ev_baloadS := by
  intro p l e R s m args below meth c cc Q D A g0 P t S i n cs Ss X h1 hd hw h2 hk g ws H locs ls sc hle hR
  obtain ⟨hx, hb, hml, hown, hts, hK, hA, hN, hini, hcC, hcS, hf, hlc, hscr⟩ := X
  obtain ⟨pc, L, st, w, K, ce, sl⟩ := S
  have h1 : some ((.baload : Instr), (1 : Nat), ([] : List Cond)) = some (i, n, cs) := h1
  cases h1
  unfold ev_baloadS at h2
  dsimp only at h2
  split at h2
  · rename_i i x st'
    split at h2
    · rename_i hc
      split at h2
      · rename_i r hr
        split at h2
        · rename_i hi
          cases h2
          obtain ⟨hP, hD, hS, hW, hB, hL, hs⟩ := hR
          obtain ⟨vi, sc1, rfl, hvi, hs1⟩ := ev_s_cons hs
          obtain ⟨vx, sc2, rfl, hvx, hs2⟩ := ev_s_cons hs1
          obtain ⟨r', hr', rfl⟩ := ev_isY_ok hc hvx
          obtain ⟨it, iv⟩ := i
          have hi0 : it = 0 := hi.1
          subst hi0
          have hvi : vi = .int (Int32.ofInt iv) := (Option.some.inj hvi).symm
          subst hvi
          have e0 : g.2.1 = g0.2.1 := hle.2.1
          rw [e0]
          exact va_tb hx hb (hN.2.2.1 _ r hr).2.2.2 hS (by rw [vp_in_iff]; exact hi.2) rfl hd (hk _ (List.mem_singleton.mpr rfl) g ws H locs ls _ hle ⟨hP, hD, hS, hW, hB, hL, ev_v0 g _, hs2⟩)
        · cases h2
      · cases h2
    · cases h2
  · cases h2
noncomputable def ev_i2c : ev_O := (fun _ _ => some (.i2c, 1, []), fun _ _ S => ev_una (fun x => (x.toUInt32 % 65536).toInt32) 1 ev_full S)
theorem ev_i2c_ok : ev_Snd ev_i2c := by
  intro p l e R s m args below meth c cc Q D A g0 P t S i n cs Ss X h1 hd hw h2 hk g ws H locs ls sc hle hR
  obtain ⟨hx, hb, hml, hown, hts, hK, hA, hN, hini, hcC, hcS, hf, hlc, hscr⟩ := X
  obtain ⟨pc, L, st, w, K, ce, sl⟩ := S
  have h1 : some ((.i2c : Instr), (1 : Nat), ([] : List Cond)) = some (i, n, cs) := h1
  cases h1
  obtain ⟨x0, rest, S', rfl, rfl, e1, e2, g', l1, hR'⟩ := ev_una_ok (fun x => (x.toUInt32 % 65536).toInt32) ev_full (fun _ => ev_full_ok _) (show ev_una (fun x => (x.toUInt32 % 65536).toInt32) 1 ev_full (pc, L, st, w, K, ce, sl) = some Ss from h2) hR
  exact lv_i2c hx hb hd rfl (ev_Go_eq (hk S' (List.mem_singleton.mpr rfl)) e1 e2 (ev_le_tr hle l1) hR')

noncomputable def ev_binL (f : Int64 → Int64 → Int64) (nz : Bool) (S : ev_S) : Option (List ev_S) := match S.2.2.1 with
  | y :: x :: st =>
    if ev_isL x = true ∧ ev_isL y = true then
      (if x.1 = 4 ∧ y.1 = 4 then (if nz = false ∨ ¬ Int64.ofInt y.2 = 0 then some [ev_adv S 1 ((4, (f (Int64.ofInt x.2) (Int64.ofInt y.2)).toInt) :: st)] else none)
       else if nz = false then some [ev_advK S 1 ((6, (S.2.2.2.2.1.length : Int)) :: st) ev_full] else none)
    else none
  | _ => none
theorem ev_binL_ok (f : Int64 → Int64 → Int64) (nz : Bool) {pc : Nat} {L : List (Nat × ev_A)} {st : List ev_A} {w : List ev_C} {K : ev_K} {ce sl : Nat} {Ss : List ev_S} (h : ev_binL f nz (pc, L, st, w, K, ce, sl) = some Ss)
    {s : State} {A : Nat → Prop} {D : va_G} {nL : Nat} {g : ev_G} {ws : va_W} {H : Heap} {locs : List Loc} {ls : Array Slot} {sc : List Value} (hR : ev_R s A D nL g (pc, L, st, w, K, ce, sl) ws H locs ls sc) :
    ∃ (x y : Int64) (rest : List Value) (S' : ev_S), sc = .long y :: .long x :: rest ∧ (nz = false ∨ ¬ y = 0) ∧ Ss = [S'] ∧ S'.1 = pc + 1 ∧ S'.2.2.2.2.2 = (ce, sl) ∧ ∃ g', ev_le g g' ∧ ev_R s A D nL g' S' ws H locs ls (.long (f x y) :: rest) := by
  unfold ev_binL at h
  split at h
  · rename_i y x st' e
    dsimp only at e
    subst e
    split at h
    · rename_i hi
      have hR0 := hR
      obtain ⟨hP, hD, hS, hW, hB, hL, hs⟩ := hR0
      obtain ⟨vy, sc1, rfl, hvy, hs1⟩ := ev_s_cons hs
      obtain ⟨vx, sc2, rfl, hvx, hs2⟩ := ev_s_cons hs1
      obtain ⟨y0, rfl⟩ := ev_vL hi.2 hvy
      obtain ⟨x0, rfl⟩ := ev_vL hi.1 hvx
      split at h
      · rename_i hz
        split at h
        · rename_i hy
          cases h
          obtain ⟨xt, xn⟩ := x
          obtain ⟨yt, yn⟩ := y
          obtain ⟨rfl, rfl⟩ := hz
          have ex : Int64.ofInt xn = x0 := Value.long.inj (Option.some.inj hvx)
          have ey : Int64.ofInt yn = y0 := Value.long.inj (Option.some.inj hvy)
          dsimp only at hy ⊢
          rw [ex, ey]
          exact ⟨x0, y0, sc2, _, rfl, by rw [← ey]; exact hy, rfl, rfl, rfl, g, ev_le_rf g, hP, hD, hS, hW, hB, hL, ev_v4 g _, hs2⟩
        · cases h
      · split at h
        · rename_i hz
          cases h
          obtain ⟨g', l1, ⟨hP, hD, hS, hW, hB, hL, hs⟩, e1⟩ := ev_fresh hR (.long (f x0 y0)) ev_full (fun z hz => by cases hz)
          exact ⟨x0, y0, sc2, _, rfl, Or.inl hz, rfl, rfl, rfl, g', l1, hP, hD, hS, hW, hB, hL, ev_v6 e1, hs.2.2⟩
        · cases h
    · cases h
  · cases h

noncomputable def ev_ladd : ev_O := (fun _ _ => some (.ladd, 1, []), fun _ _ S => ev_binL (fun x y => x + y) false S)
theorem ev_ladd_ok : ev_Snd ev_ladd := by
  intro p l e R s m args below meth c cc Q D A g0 P t S i n cs Ss X h1 hd hw h2 hk g ws H locs ls sc hle hR
  obtain ⟨hx, hb, hml, hown, hts, hK, hA, hN, hini, hcC, hcS, hf, hlc, hscr⟩ := X
  obtain ⟨pc, L, st, w, K, ce, sl⟩ := S
  have h1 : some ((.ladd : Instr), (1 : Nat), ([] : List Cond)) = some (i, n, cs) := h1
  cases h1
  obtain ⟨x0, y0, rest, S', rfl, hy, rfl, e1, e2, g', l1, hR'⟩ := ev_binL_ok (fun x y => x + y) false (show ev_binL (fun x y => x + y) false (pc, L, st, w, K, ce, sl) = some Ss from h2) hR
  exact lv_ladd hx hb hd (ev_Go_eq (hk S' (List.mem_singleton.mpr rfl)) e1 e2 (ev_le_tr hle l1) hR')

noncomputable def ev_lsub : ev_O := (fun _ _ => some (.lsub, 1, []), fun _ _ S => ev_binL (fun x y => x - y) false S)
theorem ev_lsub_ok : ev_Snd ev_lsub := by
  intro p l e R s m args below meth c cc Q D A g0 P t S i n cs Ss X h1 hd hw h2 hk g ws H locs ls sc hle hR
  obtain ⟨hx, hb, hml, hown, hts, hK, hA, hN, hini, hcC, hcS, hf, hlc, hscr⟩ := X
  obtain ⟨pc, L, st, w, K, ce, sl⟩ := S
  have h1 : some ((.lsub : Instr), (1 : Nat), ([] : List Cond)) = some (i, n, cs) := h1
  cases h1
  obtain ⟨x0, y0, rest, S', rfl, hy, rfl, e1, e2, g', l1, hR'⟩ := ev_binL_ok (fun x y => x - y) false (show ev_binL (fun x y => x - y) false (pc, L, st, w, K, ce, sl) = some Ss from h2) hR
  exact lv_lsub hx hb hd (ev_Go_eq (hk S' (List.mem_singleton.mpr rfl)) e1 e2 (ev_le_tr hle l1) hR')

noncomputable def ev_lmul : ev_O := (fun _ _ => some (.lmul, 1, []), fun _ _ S => ev_binL (fun x y => x * y) false S)
theorem ev_lmul_ok : ev_Snd ev_lmul := by
  intro p l e R s m args below meth c cc Q D A g0 P t S i n cs Ss X h1 hd hw h2 hk g ws H locs ls sc hle hR
  obtain ⟨hx, hb, hml, hown, hts, hK, hA, hN, hini, hcC, hcS, hf, hlc, hscr⟩ := X
  obtain ⟨pc, L, st, w, K, ce, sl⟩ := S
  have h1 : some ((.lmul : Instr), (1 : Nat), ([] : List Cond)) = some (i, n, cs) := h1
  cases h1
  obtain ⟨x0, y0, rest, S', rfl, hy, rfl, e1, e2, g', l1, hR'⟩ := ev_binL_ok (fun x y => x * y) false (show ev_binL (fun x y => x * y) false (pc, L, st, w, K, ce, sl) = some Ss from h2) hR
  exact lv_lmul hx hb hd (ev_Go_eq (hk S' (List.mem_singleton.mpr rfl)) e1 e2 (ev_le_tr hle l1) hR')

noncomputable def ev_ldiv : ev_O := (fun _ _ => some (.ldiv, 1, []), fun _ _ S => ev_binL (fun x y => x / y) true S)
theorem ev_ldiv_ok : ev_Snd ev_ldiv := by
  intro p l e R s m args below meth c cc Q D A g0 P t S i n cs Ss X h1 hd hw h2 hk g ws H locs ls sc hle hR
  obtain ⟨hx, hb, hml, hown, hts, hK, hA, hN, hini, hcC, hcS, hf, hlc, hscr⟩ := X
  obtain ⟨pc, L, st, w, K, ce, sl⟩ := S
  have h1 : some ((.ldiv : Instr), (1 : Nat), ([] : List Cond)) = some (i, n, cs) := h1
  cases h1
  obtain ⟨x0, y0, rest, S', rfl, hy, rfl, e1, e2, g', l1, hR'⟩ := ev_binL_ok (fun x y => x / y) true (show ev_binL (fun x y => x / y) true (pc, L, st, w, K, ce, sl) = some Ss from h2) hR
  exact lv_ldiv hx hb hd (by rcases hy with hy | hy; cases hy; exact hy) (ev_Go_eq (hk S' (List.mem_singleton.mpr rfl)) e1 e2 (ev_le_tr hle l1) hR')

noncomputable def ev_lrem : ev_O := (fun _ _ => some (.lrem, 1, []), fun _ _ S => ev_binL (fun x y => x - x / y * y) true S)
theorem ev_lrem_ok : ev_Snd ev_lrem := by
  intro p l e R s m args below meth c cc Q D A g0 P t S i n cs Ss X h1 hd hw h2 hk g ws H locs ls sc hle hR
  obtain ⟨hx, hb, hml, hown, hts, hK, hA, hN, hini, hcC, hcS, hf, hlc, hscr⟩ := X
  obtain ⟨pc, L, st, w, K, ce, sl⟩ := S
  have h1 : some ((.lrem : Instr), (1 : Nat), ([] : List Cond)) = some (i, n, cs) := h1
  cases h1
  obtain ⟨x0, y0, rest, S', rfl, hy, rfl, e1, e2, g', l1, hR'⟩ := ev_binL_ok (fun x y => x - x / y * y) true (show ev_binL (fun x y => x - x / y * y) true (pc, L, st, w, K, ce, sl) = some Ss from h2) hR
  exact lv_lrem hx hb hd (by rcases hy with hy | hy; cases hy; exact hy) (ev_Go_eq (hk S' (List.mem_singleton.mpr rfl)) e1 e2 (ev_le_tr hle l1) hR')

noncomputable def ev_ldc2 : ev_O := (fun P t => some (.ldc2_w t.2.1.toNat, 3, [.constantLong P.2.2.2.1 t.2.1.toNat (Int64.ofInt t.1)]), fun _ t S => some [ev_adv S 3 ((4, (Int64.ofInt t.1).toInt) :: S.2.2.1)])
theorem ev_ldc2_ok : ev_Snd ev_ldc2 := by
  intro p l e R s m args below meth c cc Q D A g0 P t S i n cs Ss X h1 hd hw h2 hk g ws H locs ls sc hle hR
  obtain ⟨hx, hb, hml, hown, hts, hK, hA, hN, hini, hcC, hcS, hf, hlc, hscr⟩ := X
  obtain ⟨pc, L, st, w, K, ce, sl⟩ := S
  have h1 : some ((.ldc2_w t.2.1.toNat : Instr), (3 : Nat), ([.constantLong P.2.2.2.1 t.2.1.toNat (Int64.ofInt t.1)] : List Cond)) = some (i, n, cs) := h1
  cases h1
  have h2 : some [ev_adv (pc, L, st, w, K, ce, sl) 3 ((4, (Int64.ofInt t.1).toInt) :: st)] = some Ss := h2
  cases h2
  obtain ⟨hP, hD, hS, hW, hB, hL, hs⟩ := hR
  exact W.ldc2 hx hb hown (hts _ (hw _ (List.mem_singleton.mpr rfl))) (g := F0 m pc ls sc) rfl hd (hk _ (List.mem_singleton.mpr rfl) g ws H locs ls _ hle ⟨hP, hD, hS, hW, hB, hL, ev_v4 g _, hs⟩)

/-- a static of which only this is known: null, or a cell -/
noncomputable def ev_getsF : ev_O := (fun P t => some (.getstatic t.1.toNat, 3, [.fieldLink P.2.2.2.1 t.1.toNat "jdk/internal/util/Preconditions" "SIOOBE_FORMATTER" "Ljava/util/function/BiFunction;"]), fun _ _ S => some [ev_advK S 3 ((7, (S.2.2.2.2.1.length : Int)) :: S.2.2.1) ev_full])
theorem ev_getsF_ok : ev_Snd ev_getsF := by
  intro p l e R s m args below meth c cc Q D A g0 P t S i n cs Ss X h1 hd hw h2 hk g ws H locs ls sc hle hR
  obtain ⟨hx, hb, hml, hown, hts, hK, hA, hN, hini, hcC, hcS, hf, hlc, hscr⟩ := X
  obtain ⟨pc, L, st, w, K, ce, sl⟩ := S
  have h1 : some ((.getstatic t.1.toNat : Instr), (3 : Nat), ([.fieldLink P.2.2.2.1 t.1.toNat "jdk/internal/util/Preconditions" "SIOOBE_FORMATTER" "Ljava/util/function/BiFunction;"] : List Cond)) = some (i, n, cs) := h1
  cases h1
  have h2 : some [ev_advK (pc, L, st, w, K, ce, sl) 3 ((7, (K.length : Int)) :: st) ev_full] = some Ss := h2
  cases h2
  rcases hN.2.2.2.2 with hz | ⟨q, hz⟩
  · obtain ⟨g', l1, ⟨hP, hD, hS, hW, hB, hL, hs⟩, e1⟩ := ev_fresh hR .null ev_full (fun z hz => by cases hz)
    exact va_gets hx hb hz hS hown (hts _ (hw _ (List.mem_singleton.mpr rfl))) (fun _ h => h) hd (hk _ (List.mem_singleton.mpr rfl) g' ws H locs ls _ (ev_le_tr hle l1) ⟨hP, hD, hS, hW, hB, hL, by simp [ev_v, e1], hs⟩)
  · obtain ⟨g', l1, ⟨hP, hD, hS, hW, hB, hL, hs⟩, e1⟩ := ev_fresh hR (.ref q) ev_full (fun z hz => by cases hz)
    exact va_gets hx hb hz hS hown (hts _ (hw _ (List.mem_singleton.mpr rfl))) (fun _ h => h) hd (hk _ (List.mem_singleton.mpr rfl) g' ws H locs ls _ (ev_le_tr hle l1) ⟨hP, hD, hS, hW, hB, hL, by simp [ev_v, e1], hs⟩)

noncomputable def ev_ldcw : ev_O := (fun P t => some (.ldc_w t.2.1.toNat, 3, [.constant P.2.2.2.1 t.2.1.toNat (Int32.ofInt t.1)]), fun _ t S => some [ev_adv S 3 ((0, (Int32.ofInt t.1).toInt) :: S.2.2.1)])
theorem ev_ldcw_ok : ev_Snd ev_ldcw := by
  intro p l e R s m args below meth c cc Q D A g0 P t S i n cs Ss X h1 hd hw h2 hk g ws H locs ls sc hle hR
  obtain ⟨hx, hb, hml, hown, hts, hK, hA, hN, hini, hcC, hcS, hf, hlc, hscr⟩ := X
  obtain ⟨pc, L, st, w, K, ce, sl⟩ := S
  have h1 : some ((.ldc_w t.2.1.toNat : Instr), (3 : Nat), ([.constant P.2.2.2.1 t.2.1.toNat (Int32.ofInt t.1)] : List Cond)) = some (i, n, cs) := h1
  cases h1
  have h2 : some [ev_adv (pc, L, st, w, K, ce, sl) 3 ((0, (Int32.ofInt t.1).toInt) :: st)] = some Ss := h2
  cases h2
  obtain ⟨hP, hD, hS, hW, hB, hL, hs⟩ := hR
  exact lv_ldcw hx hb hown (hts _ (hw _ (List.mem_singleton.mpr rfl))) hd (hk _ (List.mem_singleton.mpr rfl) g ws H locs ls _ hle ⟨hP, hD, hS, hW, hB, hL, ev_v0 g _, hs⟩)
noncomputable abbrev ev_Row : Type := Nat × ev_T
noncomputable abbrev ev_MI : Type := MethodName × ByteArray × Nat × Option FieldType × Nat × Nat × List (Nat × ev_Row)
noncomputable abbrev ev_Out : Type := Option ev_A × List ev_C × ev_K
noncomputable def ev_ops : List ev_O := [ev_iconst, ev_bipush, ev_sipush, ev_lconst, ev_iload, ev_iloadn, ev_lload, ev_lloadn, ev_aload, ev_aloadn, ev_istore, ev_istoren, ev_lstore, ev_lstoren, ev_astore, ev_astoren,
  ev_iadd, ev_isub, ev_imul, ev_iand, ev_ior, ev_ixor, ev_ishl, ev_ishr, ev_iushr, ev_idiv, ev_irem, ev_ineg, ev_i2b, ev_i2l, ev_lcmp, ev_dup, ev_pop, ev_dup2, ev_iinc,
  ev_icmp_eq, ev_icmp_ne, ev_icmp_lt, ev_icmp_ge, ev_icmp_gt, ev_icmp_le, ev_if_eq, ev_if_ne, ev_if_lt, ev_if_ge, ev_if_gt, ev_if_le, ev_goto, ev_sw,
  ev_get, ev_put, ev_putF, ev_iaload, ev_baload, ev_laload, ev_aaload, ev_iastore, ev_bastore, ev_newI, ev_newB, ev_newJ, ev_newQ, ev_new, ev_aastore, ev_alen, ev_sald, ev_oinit, ev_mmin, ev_ldc, ev_ldcS, ev_getV, ev_getC, ev_gets, ev_alenS, ev_baloadS, ev_i2c, ev_ladd, ev_lsub, ev_lmul, ev_ldiv, ev_lrem, ev_ldc2, ev_getsF, ev_ldcw]
theorem ev_c1 {o : ev_O} {l : List ev_O} (h : ev_Snd o) (h2 : ∀ o ∈ l, ev_Snd o) : ∀ o' ∈ o :: l, ev_Snd o' := List.forall_mem_cons.mpr ⟨h, h2⟩
theorem ev_ops_ok : ∀ o ∈ ev_ops, ev_Snd o :=
  ev_c1 ev_iconst_ok (ev_c1 ev_bipush_ok (ev_c1 ev_sipush_ok (ev_c1 ev_lconst_ok (ev_c1 ev_iload_ok (ev_c1 ev_iloadn_ok (ev_c1 ev_lload_ok (ev_c1 ev_lloadn_ok (ev_c1 ev_aload_ok (ev_c1 ev_aloadn_ok (ev_c1 ev_istore_ok (ev_c1 ev_istoren_ok (ev_c1 ev_lstore_ok (ev_c1 ev_lstoren_ok (ev_c1 ev_astore_ok (ev_c1 ev_astoren_ok
  (ev_c1 ev_iadd_ok (ev_c1 ev_isub_ok (ev_c1 ev_imul_ok (ev_c1 ev_iand_ok (ev_c1 ev_ior_ok (ev_c1 ev_ixor_ok (ev_c1 ev_ishl_ok (ev_c1 ev_ishr_ok (ev_c1 ev_iushr_ok (ev_c1 ev_idiv_ok (ev_c1 ev_irem_ok (ev_c1 ev_ineg_ok (ev_c1 ev_i2b_ok (ev_c1 ev_i2l_ok (ev_c1 ev_lcmp_ok (ev_c1 ev_dup_ok (ev_c1 ev_pop_ok (ev_c1 ev_dup2_ok (ev_c1 ev_iinc_ok
  (ev_c1 ev_icmp_eq_ok (ev_c1 ev_icmp_ne_ok (ev_c1 ev_icmp_lt_ok (ev_c1 ev_icmp_ge_ok (ev_c1 ev_icmp_gt_ok (ev_c1 ev_icmp_le_ok (ev_c1 ev_if_eq_ok (ev_c1 ev_if_ne_ok (ev_c1 ev_if_lt_ok (ev_c1 ev_if_ge_ok (ev_c1 ev_if_gt_ok (ev_c1 ev_if_le_ok (ev_c1 ev_goto_ok (ev_c1 ev_sw_ok
  (ev_c1 ev_get_ok (ev_c1 ev_put_ok (ev_c1 ev_putF_ok (ev_c1 ev_iaload_ok (ev_c1 ev_baload_ok (ev_c1 ev_laload_ok (ev_c1 ev_aaload_ok (ev_c1 ev_iastore_ok (ev_c1 ev_bastore_ok (ev_c1 ev_newI_ok (ev_c1 ev_newB_ok (ev_c1 ev_newJ_ok (ev_c1 ev_newQ_ok (ev_c1 ev_new_ok (ev_c1 ev_aastore_ok (ev_c1 ev_alen_ok (ev_c1 ev_sald_ok (ev_c1 ev_oinit_ok (ev_c1 ev_mmin_ok (ev_c1 ev_ldc_ok (ev_c1 ev_ldcS_ok (ev_c1 ev_getV_ok (ev_c1 ev_getC_ok (ev_c1 ev_gets_ok (ev_c1 ev_alenS_ok (ev_c1 ev_baloadS_ok (ev_c1 ev_i2c_ok (ev_c1 ev_ladd_ok (ev_c1 ev_lsub_ok (ev_c1 ev_lmul_ok (ev_c1 ev_ldiv_ok (ev_c1 ev_lrem_ok (ev_c1 ev_ldc2_ok (ev_c1 ev_getsF_ok (ev_c1 ev_ldcw_ok (fun _ h => nomatch h))))))))))))))))))))))))))))))))))))))))))))))))))))))))))))))))))))))))))))))))))))
noncomputable def ev_at {α : Type} (l : List (Nat × α)) (i : Nat) : Option α := List.rec (motive := fun _ => Option α) none (fun q _ r => cond (Nat.beq q.1 i) (some q.2) r) l
theorem ev_at_mem {α : Type} : ∀ {l : List (Nat × α)} {i : Nat} {a : α}, ev_at l i = some a → (i, a) ∈ l
  | [], i, a, h => by
    have h : (none : Option α) = some a := h
    cases h
  | q :: l, i, a, h => by
    have h : cond (Nat.beq q.1 i) (some q.2) (ev_at l i) = some a := h
    cases hq : Nat.beq q.1 i with
    | true =>
      rw [hq] at h
      have h : some q.2 = some a := h
      cases h
      rw [← Nat.eq_of_beq_eq_true hq]
      exact List.mem_cons_self
    | false =>
      rw [hq] at h
      exact List.mem_cons_of_mem _ (ev_at_mem h)
/-- what an instruction's row says: the instruction, its length, the words that it needs -/
noncomputable def ev_rowI (ms : List ev_MI) (P : ev_P) (r : ev_Row) : Option (Instr × Nat × List Cond) :=
  match r.1 with
  | 200 => (match ms[r.2.1.toNat]? with
    | some mi => some (.invokevirtual r.2.2.1.toNat, 3, [.methodLink P.2.2.2.1 r.2.2.1.toNat mi.1, .instanceMethod mi.1, .selects mi.1.cls mi.1 mi.1, .initialized mi.1.cls])
    | none => none)
  | 201 => (match ms[r.2.1.toNat]? with
    | some mi => some (.invokestatic r.2.2.1.toNat, 3, [.methodLink P.2.2.2.1 r.2.2.1.toNat mi.1, .static mi.1, .initialized mi.1.cls])
    | none => none)
  | 202 => (match ms[r.2.1.toNat]? with
    | some mi => some (.invokespecial r.2.2.1.toNat, 3, [.methodLink P.2.2.2.1 r.2.2.1.toNat mi.1, .instanceMethod mi.1, .initialized mi.1.cls])
    | none => none)
  | 203 => (match ms[r.2.1.toNat]? with
    | some mi => some (.invokespecial r.2.2.1.toNat, 3, [.instanceMethod mi.1, .initialized mi.1.cls])
    | none => none)
  | 210 => some (.ireturn, 1, [])
  | 211 => some (.lreturn, 1, [])
  | 212 => some (.areturn, 1, [])
  | 213 => some (.return_, 1, [])
  | k => (match ev_ops[k]? with
    | some o => o.1 P r.2
    | none => none)
/-- a row is right: the instruction stands there, the tables have its words; a nest mate's private constructor by its link -/
noncomputable def ev_RowOK (ms : List ev_MI) (P : ev_P) (cc : ByteArray) (q : Nat × ev_Row) : Prop :=
  (∃ i n cs, ev_rowI ms P q.2 = some (i, n, cs) ∧ decode cc q.1 = .ok (i, n) ∧ ∀ w ∈ cs, w ∈ lw_good) ∧ (q.2.1 = 203 → ∀ mi, ms[q.2.2.1.toNat]? = some mi → Cond.methodLinkNest P.2.2.2.1 q.2.2.2.1.toNat mi.1 "BarberMinutes" ∈ lw_nest)
/-- a method is right -/
noncomputable def ev_MOK (ms : List ev_MI) (mi : ev_MI) : Prop :=
  plainName mi.1.cls = true ∧ Cond.code mi.1 mi.2.1 mi.2.2.1 mi.2.2.2.1 ∈ lw_good ∧ mi.2.2.1 ≤ 21 ∧ (mi.1.cls ≠ "java/lang/invoke/MethodHandle" ∧ mi.1.cls ≠ "java/lang/invoke/VarHandle") ∧
  ∀ q ∈ mi.2.2.2.2.2.2, ev_RowOK ms (mi.2.2.2.2.1, mi.2.2.2.2.2.1, decide (mi.1.name = "<init>"), mi.1.cls, mi.2.2.1, 0) mi.2.1 q
noncomputable def ev_args : Nat → List ev_A → List (Nat × ev_A)
  | _, [] => []
  | i, a :: as => (i, a) :: ev_args (i + if ev_isL a = true then 2 else 1) as
noncomputable def ev_all (f : ev_S → Option (List ev_S)) : List ev_S → Option (List ev_S)
  | [] => some []
  | S :: r => match f S with
    | some a => (match ev_all f r with
      | some b => some (a ++ b)
      | none => none)
    | none => none
theorem ev_all_ok {f : ev_S → Option (List ev_S)} : ∀ {Ss o : List ev_S}, ev_all f Ss = some o → ∀ S ∈ Ss, ∃ o', f S = some o' ∧ ∀ x ∈ o', x ∈ o
  | [], o, h => fun S hS => nomatch hS
  | S :: r, o, h => by
    unfold ev_all at h
    split at h
    · rename_i a ha
      split at h
      · rename_i b hb
        cases h
        intro S' hS'
        rcases List.mem_cons.mp hS' with rfl | hS'
        · exact ⟨a, ha, fun x hx => List.mem_append_left _ hx⟩
        · obtain ⟨o', h1, h2⟩ := ev_all_ok hb S' hS'
          exact ⟨o', h1, fun x hx => List.mem_append_right _ (h2 x hx)⟩
      · cases h
    · cases h
/-- how many words a call's descriptor takes: told by its row, held against the descriptor -/
noncomputable def ev_nar1 (y : MethodName) (n : Nat) : Bool := decide ((parseMethodDescriptor y.desc).map (fun d => d.parameters.length) = some n)
/-- a call: what it takes off the stack -/
noncomputable def ev_take (recv : Bool) (n : Nat) (st : List ev_A) : Option (List ev_A × List ev_A) :=
  if recv = true then (match st.drop n with
    | x :: rest => if (st.take n).length = n then some (x :: (st.take n).reverse, rest) else none
    | [] => none)
  else (if (st.take n).length = n then some ((st.take n).reverse, st.drop n) else none)
noncomputable def ev_c5 (op : Nat) (as : List ev_A) (w : List ev_C) (cls : String) : Bool := if op = 200 then (match as with
    | x :: _ => if x.1 = 5 then (decide (x.2.toNat % 2 = 1) && (decide (x.2.toNat / 2 < 40) && decide (cls = "java/lang/String"))) else (match w[x.2.toNat]? with
      | some cl => decide (x.1 = 1) && decide ((vwCl[cl.1]?).map (fun q => q.1) = some cls)
      | none => false)
    | [] => false) else true
noncomputable def ev_c6 (op : Nat) (as : List ev_A) (mi : ev_MI) : Bool := if op = 202 ∨ op = 203 then decide (mi.1.name = "<init>") && mi.2.2.2.1.isNone && (match as with
    | x :: _ => ev_isR x
    | [] => false) else true
noncomputable def ev_inv (ms : List ev_MI) (call : Nat → List ev_A → List ev_C → ev_K → Option (List ev_Out)) (P : ev_P) (r : ev_Row) (S : ev_S) : Option (List ev_S) :=
  match ms[r.2.1.toNat]? with
  | some mi => (match ev_take (!(r.1 == 201)) r.2.2.2.1.toNat S.2.2.1 with
    | some (as, rest) =>
      if ev_cs rest ≤ 8 ∧ S.2.2.2.2.2.1 + mi.2.2.2.2.1 ≤ P.1 ∧ S.2.2.2.2.2.2 + mi.2.2.2.2.2.1 ≤ P.2.1 ∧ ev_nar1 mi.1 r.2.2.2.1.toNat = true
        ∧ ev_c5 r.1 as S.2.2.2.1 mi.1.cls = true ∧ ev_c6 r.1 as mi = true
      then (match call r.2.1.toNat as S.2.2.2.1 S.2.2.2.2.1 with
        | some outs => some (outs.map (fun o => (S.1 + 3, S.2.1, o.1.toList ++ rest, o.2.1, o.2.2, S.2.2.2.2.2.1 + mi.2.2.2.2.1, S.2.2.2.2.2.2 + mi.2.2.2.2.2.1)))
        | none => none)
      else none
    | none => none)
  | none => none
noncomputable def ev_run (ms : List ev_MI) (call : Nat → List ev_A → List ev_C → ev_K → Option (List ev_Out)) (P : ev_P) (rows : List (Nat × ev_Row)) (stops : List Nat) : Nat → ev_S → Option (List ev_S)
  | 0, _ => none
  | n + 1, S =>
    if stops.contains S.1 = true then some [S] else
    match ev_at rows S.1 with
    | none => none
    | some r =>
      if 210 ≤ r.1 then some [S]
      else if 200 ≤ r.1 then (match ev_inv ms call P r S with
        | some Ss => ev_all (ev_run ms call P rows stops n) Ss
        | none => none)
      else (match ev_ops[r.1]? with
        | some o => (match o.2 P r.2 S with
          | some Ss => ev_all (ev_run ms call P rows stops n) Ss
          | none => none)
        | none => none)
/-- a method's end: what it answers -/
noncomputable def ev_end (ret : Option FieldType) (mc ms : Nat) (rows : List (Nat × ev_Row)) (S : ev_S) : Option ev_Out :=
  if S.2.2.2.2.2.1 ≤ mc ∧ S.2.2.2.2.2.2 ≤ ms then
    match ev_at rows S.1 with
    | none => none
    | some r => match r.1, ret, S.2.2.1 with
      | 210, some ty, [a] => if ev_isI a = true ∧ ev_fit ty a = true then some (some a, S.2.2.2.1, S.2.2.2.2.1) else none
      | 211, some .long, [a] => if ev_isL a = true then some (some a, S.2.2.2.1, S.2.2.2.2.1) else none
      | 212, some (.object _), [a] => if (a.1 == 1 || a.1 == 2 || a.1 == 5) = true then some (some a, S.2.2.2.1, S.2.2.2.2.1) else none
      | 213, none, [] => some (none, S.2.2.2.1, S.2.2.2.2.1)
      | _, _, _ => none
  else none
noncomputable def ev_ends (ret : Option FieldType) (mc ms : Nat) (rows : List (Nat × ev_Row)) : List ev_S → Option (List ev_Out)
  | [] => some []
  | S :: r => match ev_end ret mc ms rows S with
    | some a => (match ev_ends ret mc ms rows r with
      | some b => some (a :: b)
      | none => none)
    | none => none
theorem ev_ends_ok {ret : Option FieldType} {mc ms : Nat} {rows : List (Nat × ev_Row)} : ∀ {Ss : List ev_S} {o : List ev_Out}, ev_ends ret mc ms rows Ss = some o → ∀ S ∈ Ss, ∃ x, ev_end ret mc ms rows S = some x ∧ x ∈ o
  | [], o, h => fun S hS => nomatch hS
  | S :: r, o, h => by
    unfold ev_ends at h
    split at h
    · rename_i a ha
      split at h
      · rename_i b hb
        cases h
        intro S' hS'
        rcases List.mem_cons.mp hS' with rfl | hS'
        · exact ⟨a, ha, List.mem_cons_self⟩
        · obtain ⟨x, h1, h2⟩ := ev_ends_ok hb S' hS'
          exact ⟨x, h1, List.mem_cons_of_mem _ h2⟩
      · cases h
    · cases h
noncomputable def ev_exec (ms : List ev_MI) : Nat → Nat → List ev_A → List ev_C → ev_K → Option (List ev_Out)
  | 0, _, _, _, _ => none
  | d + 1, k, as, w, K => match ms[k]? with
    | none => none
    | some mi => if ev_cs as ≤ mi.2.2.1 then (match ev_run ms (ev_exec ms d) (mi.2.2.2.2.1, mi.2.2.2.2.2.1, decide (mi.1.name = "<init>"), mi.1.cls, mi.2.2.1, 0) mi.2.2.2.2.2.2 [] 20000 (0, ev_args 0 as, [], w, K, 0, 0) with
      | some fs => ev_ends mi.2.2.2.1 mi.2.2.2.2.1 mi.2.2.2.2.2.1 mi.2.2.2.2.2.2 fs
      | none => none) else none
noncomputable def ev_rm (d mc ms : Nat) : Room := { frames := d + 1, cells := mc, slots := ms, locals := 40 * (d + 1) }
noncomputable def ev_rv (g : ev_G) : Option ev_A → Option Value → Prop
  | none, none => True
  | some a, some v => ev_v g a = some v
  | _, _ => False
noncomputable def ev_Q (D : va_G) (g : ev_G) (A : Nat → Prop) (outs : List ev_Out) : Array Value → State → Outcome → State → Prop := fun _ st oc t =>
  (∃ (o : ev_Out) (g' : ev_G) (ws' : va_W) (v : Option Value), o ∈ outs ∧ oc = .returned v ∧ ev_rv g' o.1 v ∧ ev_le g g' ∧ va_P D vwCl ws' t.heap ∧ va_D A ws' ∧ ev_w t g' o.2.1 ws' ∧ ev_b o.2.2 g'.2.2) ∧ va_F A st t
noncomputable def ev_Pb (D : va_G) (g : ev_G) (ws : va_W) (sz : Nat) (w : List ev_C) (U : State) : Prop := U.heap.size = sz ∧ va_P D vwCl ws U.heap ∧ va_K D vwCl [] U ∧ va_D (fun _ => True) ws ∧ ev_w U g w ws ∧ ev_N g.2.1 (va_A ws sz) U U.heap
noncomputable def ev_Met (l : Launch) (mi : ev_MI) (d : Nat) (D : va_G) (g : ev_G) (ws : va_W) (sz : Nat) (w : List ev_C) (asc : List Value) (outs : List ev_Out) : Prop :=
  Met l mi.1 (Cond.code mi.1 mi.2.1 mi.2.2.1 mi.2.2.2.1 :: lw_good) (ev_rm d mi.2.2.2.2.1 mi.2.2.2.2.2.1) (va_Pc asc (ev_Pb D g ws sz w)) (ev_Q D g (va_A ws sz) outs) mi.2.2.2.2.1 mi.2.2.2.2.2.1 (va_A ws sz)
/-- calls are right, at a depth -/
noncomputable def ev_Cs (ms : List ev_MI) (call : Nat → List ev_A → List ev_C → ev_K → Option (List ev_Out)) (d : Nat) : Prop :=
  ∀ (k : Nat) (mi : ev_MI) (as : List ev_A) (w : List ev_C) (K : ev_K) (outs : List ev_Out), ms[k]? = some mi → call k as w K = some outs → ∃ d', d = d' + 1 ∧ ∀ (l : Launch) (D : va_G) (g : ev_G) (ws : va_W) (sz : Nat) (asc : List Value), ev_s g as asc → ev_b K g.2.2 → ev_Met l mi d' D g ws sz w asc outs
theorem ev_s_app {g : ev_G} : ∀ {a b : List ev_A} {x y : List Value}, ev_s g a x → ev_s g b y → ev_s g (a ++ b) (x ++ y)
  | [], _, [], _, _, h => h
  | [], _, _ :: _, _, h, _ => h.elim
  | _ :: _, _, [], _, h, _ => h.elim
  | _ :: _, _, _ :: _, _, h1, h2 => ⟨h1.1, ev_s_app h1.2 h2⟩
theorem ev_s_rev {g : ev_G} : ∀ {a : List ev_A} {x : List Value}, ev_s g a x → ev_s g a.reverse x.reverse
  | [], [], _ => trivial
  | [], _ :: _, h => h.elim
  | _ :: _, [], h => h.elim
  | a :: as, x :: xs, h => by
    rw [List.reverse_cons, List.reverse_cons]
    exact ev_s_app (ev_s_rev h.2) ⟨h.1, trivial⟩
theorem ev_s_split {g : ev_G} : ∀ (n : Nat) {a : List ev_A} {x : List Value}, ev_s g a x → ev_s g (a.take n) (x.take n) ∧ ev_s g (a.drop n) (x.drop n)
  | 0, _, _, h => ⟨trivial, h⟩
  | _ + 1, [], [], _ => ⟨trivial, trivial⟩
  | _ + 1, [], _ :: _, h => h.elim
  | _ + 1, _ :: _, [], h => h.elim
  | n + 1, _ :: _, _ :: _, h => ⟨⟨h.1, (ev_s_split n h.2).1⟩, (ev_s_split n h.2).2⟩
theorem ev_s_len {g : ev_G} : ∀ {a : List ev_A} {x : List Value}, ev_s g a x → a.length = x.length
  | [], [], _ => rfl
  | [], _ :: _, h => h.elim
  | _ :: _, [], h => h.elim
  | _ :: _, _ :: _, h => congrArg Nat.succ (ev_s_len h.2)
/-- what a call takes: the arguments as a list, in their order; the stack below them -/
theorem ev_take_ok {recv : Bool} {n : Nat} {st as rest : List ev_A} (h : ev_take recv n st = some (as, rest)) {g : ev_G} {sc : List Value} (hs : ev_s g st sc) :
    ∃ (xs restc : List Value), xs.length = n ∧ ev_s g rest restc ∧ ((recv = true ∧ ∃ (a : ev_A) (as' : List ev_A) (v : Value), as = a :: as' ∧ ev_v g a = some v ∧ ev_s g as' xs ∧ sc = xs.reverse ++ v :: restc) ∨ (recv = false ∧ ev_s g as xs ∧ sc = xs.reverse ++ restc)) := by
  obtain ⟨t1, t2⟩ := ev_s_split n hs
  have hsp : sc = sc.take n ++ sc.drop n := (List.take_append_drop n sc).symm
  unfold ev_take at h
  split at h
  · rename_i hr
    split at h
    · rename_i x rest' hd
      split at h
      · rename_i hl
        cases h
        rw [hd] at t2
        obtain ⟨v, sc', e1, e2, e3⟩ := ev_s_cons t2
        refine ⟨(sc.take n).reverse, sc', by rw [List.length_reverse, ← ev_s_len t1]; exact hl, e3, Or.inl ⟨hr, x, _, v, rfl, e2, ev_s_rev t1, ?_⟩⟩
        rw [List.reverse_reverse, ← e1]
        exact hsp
      · cases h
    · cases h
  · rename_i hr
    split at h
    · rename_i hl
      cases h
      refine ⟨(sc.take n).reverse, sc.drop n, by rw [List.length_reverse, ← ev_s_len t1]; exact hl, t2, Or.inr ⟨by simpa using hr, ev_s_rev t1, ?_⟩⟩
      rw [List.reverse_reverse]
      exact hsp
    · cases h
/-- behind a call -/
theorem ev_callW {p : Program} {l : Launch} {e : Env} {R : Room} {s : State} {m : MethodId} {args : Array Value} {below : List Frame} {meth : Method} {c : Code} {H : Heap} {locs : List Loc} {ce sl mc ms pc : Nat} {ls : Array Slot} {rest st0 : List Value} {a : Array Value} {A A1 : Nat → Prop} {H0 : Heap} {free : Addr → Prop} {Q : State → Prop} {D : va_G} {g : ev_G} {outs : List ev_Out}
    (hr : va_Run p l e R s m args below meth c H locs ce sl mc ms (F0 m pc ls st0) rest (ev_Q D g A1 outs a) free) (hS : va_S A H0 H locs) (hA : ∀ q, A1 q → A q) (hf : ∀ q, free q → A q)
    (kk : ∀ (o : ev_Out) (g' : ev_G) (ws' : va_W) (v : Option Value) (t : State) (H1 : Heap) (locs1 : List Loc), o ∈ outs → t.heap = H1 → s.vm.Alike t.vm → ev_rv g' o.1 v → ev_le g g' → va_P D vwCl ws' H1 → va_D A1 ws' → ev_w t g' o.2.1 ws' → ev_b o.2.2 g'.2.2 → va_S A H0 H1 locs1 → W p l e R s m args below meth c H1 locs1 (ce + mc) (sl + ms) Q (F0 m (pc + 3) ls (v.toList ++ rest))) :
    W p l e R s m args below meth c H locs ce sl Q (F0 m pc ls st0) := by
  intro T hT X
  obtain ⟨v, st₀, t, T', L, h0, X', hL, e1, e2, ⟨⟨o, g', ws', v', ho, hv, hrv, hle, hP, hD, hw, hb⟩, hz, hk⟩, st⟩ := hr T hT X
  cases hv
  rw [h0] at hz hk
  obtain ⟨t2, a1, b1⟩ := kk o g' ws' v t T'.heap (locs ++ L) ho e1.symm (by rw [← e2]; exact X'.warmed.alike) hrv hle (by rw [e1]; exact hP) hD hw hb
    ⟨Nat.le_trans hS.1 (by rw [e1]; exact hz), fun q h1 h2 => by rw [e1, hk q (Nat.lt_of_lt_of_le h1 hS.1) (fun z => h2 (hA q z))]; exact hS.2.1 q h1 h2, fun q hq => by
      rcases List.mem_append.mp hq with h | h
      · exact hS.2.2 q h
      · exact hf _ (hL q h)⟩ T' rfl X'
  exact ⟨t2, st t2 a1, b1⟩
theorem ev_Pb_blind {D : va_G} {g : ev_G} {ws : va_W} {sz : Nat} {w : List ev_C} {asc : List Value} : FrameBlind (va_Pc asc (ev_Pb D g ws sz w)) := fun a U gf mk q => by
  obtain ⟨q0, q1, q2, q3, q4, q5, q6⟩ := q
  exact ⟨q0, q1, q2, va_K.moved (u := U) (U := U.calling gf mk a) (Vm.Alike.refl U.vm) q3, q4, ev_w_moved (u := U) (U := U.calling gf mk a) (Vm.Alike.refl U.vm) q5, ev_N_same (u := U) (U := U.calling gf mk a) rfl q6⟩
theorem ev_rowI_op {ms : List ev_MI} {P : ev_P} {r : ev_Row} (h : r.1 < 200) : ev_rowI ms P r = (match ev_ops[r.1]? with
    | some o => o.1 P r.2
    | none => none) := by
  unfold ev_rowI
  split
  · omega
  · omega
  · omega
  · omega
  · omega
  · omega
  · omega
  · omega
  · rfl
section EVS
variable {p : Program} {l : Launch} {e : Env} {R : Room} {s : State} {m : MethodId} {args : Array Value} {below : List Frame} {meth : Method} {c : Code} {cc : ByteArray} {Q : State → Prop} {D : va_G} {A : Nat → Prop} {g0 : ev_G} {P : ev_P} {ms : List ev_MI} {call : Nat → List ev_A → List ev_C → ev_K → Option (List ev_Out)} {d : Nat}
set_option maxHeartbeats 4000000 in
theorem ev_inv_ok (hMS : ∀ (k : Nat) (mi : ev_MI), ms[k]? = some mi → ev_MOK ms mi) (hC : ev_Cs ms call d) (hRm : d + 1 ≤ R.frames ∧ 40 * (d + 1) ≤ R.locals) (X : ev_X p R s m args meth c cc P.2.2.2.2.1 P.2.2.2.1 P.2.2.1 D A P.1 P.2.1 g0 P.2.2.2.2.2)
    {q : Nat × ev_Row} (hq : ev_RowOK ms P cc q) (h200 : 200 ≤ q.2.1) (h210 : q.2.1 < 210) {S : ev_S} (hpc : S.1 = q.1) {Ss : List ev_S} (h : ev_inv ms call P q.2 S = some Ss) (hk : ∀ S' ∈ Ss, ev_Go p l e R s m args below meth c Q P.2.2.2.2.1 D A g0 S') : ev_Go p l e R s m args below meth c Q P.2.2.2.2.1 D A g0 S := by
  intro g ws H locs ls sc hle hR
  obtain ⟨hx, hb, hml, hown, hts, hK, hA, hN, hini, hcC, hcS, hf, hlc, hscr⟩ := X
  obtain ⟨pc, L, st, w, K, ce, sl⟩ := S
  obtain ⟨qpc, op, t1, t2, t3, t4⟩ := q
  have hpc : pc = qpc := hpc
  subst hpc
  obtain ⟨⟨i, n, cs, hi, hd, hw⟩, hnest⟩ := hq
  dsimp only at hi hd hnest h200 h210
  unfold ev_inv at h
  dsimp only at h
  split at h
  · rename_i mi hmi
    obtain ⟨hpl, hcd, hnL, hmh, -⟩ := hMS _ mi hmi
    split at h
    · rename_i as rest htk
      split at h
      · rename_i hc
        obtain ⟨hc1, hc2, hc3, hc4, hc5, hc6⟩ := hc
        split at h
        · rename_i outs hcall
          cases h
          obtain ⟨hP, hD, hS, hW, hB, hL, hs⟩ := hR
          obtain ⟨d', rfl, hM⟩ := hC _ mi as w K outs hmi hcall
          have hnp : (parseMethodDescriptor mi.1.desc).map (fun d => d.parameters.length) = some t3.toNat := by simpa [ev_nar1] using hc4
          have hroom : (ev_rm d' mi.2.2.2.2.1 mi.2.2.2.2.2.1).frames + 1 ≤ R.frames ∧ 8 + (mi.2.2.1 + 11) + (ev_rm d' mi.2.2.2.2.1 mi.2.2.2.2.2.1).locals ≤ R.locals := by
            simp only [ev_rm]
            omega
          have hG : GoodIn lw_good (Cond.code mi.1 mi.2.1 mi.2.2.1 mi.2.2.2.1 :: lw_good) := lw_good_good (fun w h => by
            rcases List.mem_cons.mp h with rfl | h
            · exact hcd
            · exact h)
          have hcap : ce + mi.2.2.2.2.1 ≤ R.cells ∧ sl + mi.2.2.2.2.2.1 ≤ R.slots := by rw [hcC, hcS]; exact ⟨hc2, hc3⟩
          have hfree : ∀ q, va_A ws H.size q → A q := by
            intro q h
            rcases h with ⟨k, e, h⟩ | h
            · exact hD.2 k (q, e) h
            · exact hA q (Nat.le_trans hS.1 h)
          obtain ⟨xs, restc, hxl, hrest, hor⟩ := ev_take_ok htk hs
          have hsum : (restc.map fun v => v.category).sum ≤ 8 := by rw [ev_cs_ok hrest]; exact hc1
          have hkk : ∀ (o : ev_Out) (g' : ev_G) (ws' : va_W) (v : Option Value) (t : State) (H1 : Heap) (locs1 : List Loc), o ∈ outs → t.heap = H1 → s.vm.Alike t.vm → ev_rv g' o.1 v → ev_le g g' → va_P D vwCl ws' H1 → va_D (va_A ws H.size) ws' → ev_w t g' o.2.1 ws' → ev_b o.2.2 g'.2.2 → va_S A s.heap H1 locs1 → W p l e R s m args below meth c H1 locs1 (ce + mi.2.2.2.2.1) (sl + mi.2.2.2.2.2.1) Q (F0 m (pc + 3) ls (v.toList ++ restc)) := by
            intro o g' ws' v t H1 locs1 ho ht hvm hrv hle' hP1 hD1 hw1 hb1 hS1
            refine hk _ (List.mem_map.mpr ⟨o, ho, rfl⟩) g' ws' H1 locs1 ls _ (ev_le_tr hle hle') ⟨hP1, hD1.weaken (fun _ _ _ h => hfree _ h), hS1, ev_w_moved hvm.symm hw1, hb1, ev_l_le hle' hL, ?_⟩
            refine ev_s_app ?_ (ev_s_le hle' hrest)
            cases ho1 : o.1 with
            | none =>
              cases v with
              | none => exact trivial
              | some v => rw [ho1] at hrv; exact hrv.elim
            | some a =>
              cases v with
              | none => rw [ho1] at hrv; exact hrv.elim
              | some v => rw [ho1] at hrv; exact ⟨hrv, trivial⟩
          have hpre : ∀ (asc : List Value), ∀ U : State, U.heap = H → s.WarmedH U.vm → va_Pc asc (ev_Pb D g ws H.size w) asc.toArray U := fun asc U hU hWm =>
            ⟨rfl, by rw [hU], by rw [hU]; exact hP, va_K.moved hWm.alike hK, hD.weaken (fun _ _ _ _ => trivial), ev_w_moved hWm.alike hW, by rw [hle.2.1]; exact ev_N_call hWm hU hS hfree hN⟩
          have h4 : op = 200 ∨ op = 201 ∨ op = 202 ∨ op = 203 ∨ 203 < op := by omega
          rcases h4 with rfl | rfl | rfl | rfl | hbig
          · have hi : some ((.invokevirtual t2.toNat : Instr), (3 : Nat), ([.methodLink P.2.2.2.1 t2.toNat mi.1, .instanceMethod mi.1, .selects mi.1.cls mi.1 mi.1, .initialized mi.1.cls] : List Cond)) = some (i, n, cs) := by
              simpa [ev_rowI, hmi] using hi
            cases hi
            rcases hor with ⟨-, a, as', v, rfl, hva, hxs, rfl⟩ | ⟨hf0, -⟩
            · have hGV : GoodIn lw_good (wsV P.2.2.2.1 t2.toNat mi.1.cls mi.1 (Cond.code mi.1 mi.2.1 mi.2.2.1 mi.2.2.2.1 :: lw_good)) := lw_good_good (fun w h => by
                unfold wsV at h
                rcases List.mem_append.mp h with h | h
                · exact hw w h
                · exact (hG w h).1)
              have h5 : (if a.1 = 5 then (decide (a.2.toNat % 2 = 1) && (decide (a.2.toNat / 2 < 40) && decide (mi.1.cls = "java/lang/String"))) else (match w[a.2.toNat]? with
                | some cl => decide (a.1 = 1) && decide ((vwCl[cl.1]?).map (fun q => q.1) = some mi.1.cls)
                | none => false)) = true := hc5
              split at h5
              · rename_i ha5
                simp only [Bool.and_eq_true, decide_eq_true_eq] at h5
                obtain ⟨h51, h52, h53⟩ := h5
                obtain ⟨r, hr⟩ : ∃ r, ev_strs[a.2.toNat / 2]? = some r := ⟨_, List.getElem?_eq_getElem (show a.2.toNat / 2 < ev_strs.length from h52)⟩
                obtain ⟨at_, an⟩ := a
                have ha5 : at_ = 5 := ha5
                subst ha5
                have hva2 : v = .ref (g0.2.1 (1 + 2 * (an.toNat / 2))) := by
                  have : g.2.1 = g0.2.1 := hle.2.1
                  rw [← this, show 1 + 2 * (an.toNat / 2) = an.toNat by dsimp only at h51; omega]
                  exact (Option.some.inj hva).symm
                subst hva2
                obtain ⟨cell, k1, k2, k3, k4⟩ := va_O.kept (hN.2.2.1 _ r hr).1 hS.2.1
                exact ev_callW (va_runV (As := xs) (rest := restc) ⟨hx, hb, hml, hown, hts⟩ (hM l D g ws H.size (.ref _ :: xs) ⟨hva, hxs⟩ hB) (cwV t3.toNat hts hGV rfl rfl rfl ⟨rfl, hmh.1, hmh.2, hnp⟩ hroom) ⟨ev_Pb_blind, ⟨cell, k1, k2, by rw [h53]; exact k3⟩, fun U hU hWm => hpre _ U hU hWm⟩ rfl hxl hL.1 rfl (lv_room hsum) hd hcap) hS (fun q h => hfree q h) hfree hkk
              split at h5
              · rename_i cl hcl
                simp only [Bool.and_eq_true, decide_eq_true_eq] at h5
                obtain ⟨ad, x0, rfl, hws, hcc⟩ := ev_ref1 hW h5.1 hva hcl
                obtain ⟨r, hr1, hr2⟩ : ∃ r, vwCl[cl.1]? = some r ∧ r.1 = mi.1.cls := by
                  cases hz : vwCl[cl.1]? with
                  | none => rw [hz] at h5; exact absurd h5.2 (by simp)
                  | some r => rw [hz] at h5; exact ⟨r, rfl, Option.some.inj h5.2⟩
                cases x0 with
                | inl z =>
                  obtain ⟨tt, b1, b2, -⟩ := hcc
                  have : cl.1 < 10 := (List.getElem?_eq_some_iff.mp hr1).1
                  omega
                | inr o =>
                  obtain ⟨ci, fs⟩ := o
                  obtain ⟨b1, -⟩ := hcc
                  dsimp only at b1
                  rw [b1] at hr1
                  have hrecv := va_recv hK hP hr1 hws
                  rw [hr2] at hrecv
                  exact ev_callW (va_runV (As := xs) (rest := restc) ⟨hx, hb, hml, hown, hts⟩ (hM l D g ws H.size (.ref ad :: xs) ⟨hva, hxs⟩ hB) (cwV t3.toNat hts hGV rfl rfl rfl ⟨rfl, hmh.1, hmh.2, hnp⟩ hroom) ⟨ev_Pb_blind, hrecv, fun U hU hWm => hpre _ U hU hWm⟩ rfl hxl hL.1 rfl (lv_room hsum) hd hcap) hS (fun q h => hfree q h) hfree hkk
              · cases h5
            · cases hf0
          · have hi : some ((.invokestatic t2.toNat : Instr), (3 : Nat), ([.methodLink P.2.2.2.1 t2.toNat mi.1, .static mi.1, .initialized mi.1.cls] : List Cond)) = some (i, n, cs) := by
              simpa [ev_rowI, hmi] using hi
            cases hi
            rcases hor with ⟨hf0, -⟩ | ⟨-, hxs, rfl⟩
            · cases hf0
            · have hGS : GoodIn lw_good (va_wsS P.2.2.2.1 t2.toNat mi.1 (Cond.code mi.1 mi.2.1 mi.2.2.1 mi.2.2.2.1 :: lw_good)) := lw_good_good (fun w h => by
                unfold va_wsS at h
                rcases List.mem_append.mp h with h | h
                · exact hw w h
                · exact (hG w h).1)
              exact ev_callW (va_runS (As := xs) (rest := restc) ⟨hx, hb, hml, hown, hts⟩ (hM l D g ws H.size xs hxs hB) (va_cwS t3.toNat hts hGS rfl rfl rfl ⟨hmh.1, hmh.2, hnp⟩ hroom) ⟨ev_Pb_blind, fun U hU hWm => hpre _ U hU hWm⟩ rfl hxl hL.1 rfl (lv_room hsum) hd hcap) hS (fun q h => hfree q h) hfree hkk
          · have hi : some ((.invokespecial t2.toNat : Instr), (3 : Nat), ([.methodLink P.2.2.2.1 t2.toNat mi.1, .instanceMethod mi.1, .initialized mi.1.cls] : List Cond)) = some (i, n, cs) := by
              simpa [ev_rowI, hmi] using hi
            cases hi
            rcases hor with ⟨-, a, as', v, rfl, hva, hxs, rfl⟩ | ⟨hf0, -⟩
            · have h6 : (decide (mi.1.name = "<init>") && mi.2.2.2.1.isNone && ev_isR a) = true := hc6
              simp only [Bool.and_eq_true, decide_eq_true_eq, Option.isNone_iff_eq_none] at h6
              obtain ⟨⟨hy1, hy2⟩, hy3⟩ := h6
              obtain ⟨ad, rfl⟩ := ev_vR hy3 hva
              have hw3 : Cond.code mi.1 mi.2.1 mi.2.2.1 mi.2.2.2.1 = Cond.code mi.1 mi.2.1 mi.2.2.1 none := by rw [hy2]
              exact ev_callW (va_runI (As := xs) (rest := restc) ⟨hx, hb, hml, hown, hts⟩ (hM l D g ws H.size (.ref ad :: xs) ⟨hva, hxs⟩ hB) (cwI t3.toNat hts hG (by rw [hw3]) rfl rfl (hts _ (hw _ (by simp))) (hts _ (hw _ (by simp))) (hts _ (hw _ (by simp))) hy1 ⟨hmh.1, hmh.2, hnp⟩ hroom) ⟨ev_Pb_blind, fun U hU hWm => hpre _ U hU hWm⟩ rfl hxl hL.1 rfl (lv_room hsum) hd hcap) hS (fun q h => hfree q h) hfree hkk
            · cases hf0
          · have hi : some ((.invokespecial t2.toNat : Instr), (3 : Nat), ([.instanceMethod mi.1, .initialized mi.1.cls] : List Cond)) = some (i, n, cs) := by
              simpa [ev_rowI, hmi] using hi
            cases hi
            rcases hor with ⟨-, a, as', v, rfl, hva, hxs, rfl⟩ | ⟨hf0, -⟩
            · have h6 : (decide (mi.1.name = "<init>") && mi.2.2.2.1.isNone && ev_isR a) = true := hc6
              simp only [Bool.and_eq_true, decide_eq_true_eq, Option.isNone_iff_eq_none] at h6
              obtain ⟨⟨hy1, hy2⟩, hy3⟩ := h6
              obtain ⟨ad, rfl⟩ := ev_vR hy3 hva
              have hw3 : Cond.code mi.1 mi.2.1 mi.2.2.1 mi.2.2.2.1 = Cond.code mi.1 mi.2.1 mi.2.2.1 none := by rw [hy2]
              have hnl := hN.1.1 _ (hnest rfl mi hmi)
              exact ev_callW (va_runIN (As := xs) (rest := restc) ⟨hx, hb, hml, hown, hts⟩ (hM l D g ws H.size (.ref ad :: xs) ⟨hva, hxs⟩ hB) ⟨va_cnB t3.toNat hts hG (by rw [hw3]) rfl rfl hnl (hts _ (hw _ (by simp))) ⟨hmh.1, hmh.2, hnp⟩ hroom, hy1, hts _ (hw _ (by simp))⟩ ⟨ev_Pb_blind, fun U hU hWm => hpre _ U hU hWm⟩ rfl hxl hL.1 rfl (lv_room hsum) hd hcap) hS (fun q h => hfree q h) hfree hkk
            · cases hf0
          · exfalso
            have : ev_rowI ms P (op, t1, t2, t3, t4) = none := by
              unfold ev_rowI
              split
              · omega
              · omega
              · omega
              · omega
              · omega
              · omega
              · omega
              · omega
              · have : ev_ops[op]? = none := by
                  apply List.getElem?_eq_none
                  have : ev_ops.length = 84 := rfl
                  omega
                simp [this]
            rw [this] at hi
            cases hi
        · cases h
      · cases h
    · cases h
  · cases h
end EVS

section EVR
variable {p : Program} {l : Launch} {e : Env} {R : Room} {s : State} {m : MethodId} {args : Array Value} {below : List Frame} {meth : Method} {c : Code} {cc : ByteArray} {Q : State → Prop} {D : va_G} {A : Nat → Prop} {g0 : ev_G} {P : ev_P} {ms : List ev_MI} {call : Nat → List ev_A → List ev_C → ev_K → Option (List ev_Out)} {d : Nat} {rows : List (Nat × ev_Row)} {stops : List Nat}
/-- from the ends of a run back to its start -/
theorem ev_run_ok (hMS : ∀ (k : Nat) (mi : ev_MI), ms[k]? = some mi → ev_MOK ms mi) (hC : ev_Cs ms call d) (hRm : d + 1 ≤ R.frames ∧ 40 * (d + 1) ≤ R.locals) (X : ev_X p R s m args meth c cc P.2.2.2.2.1 P.2.2.2.1 P.2.2.1 D A P.1 P.2.1 g0 P.2.2.2.2.2)
    (hrows : ∀ q ∈ rows, ev_RowOK ms P cc q) : ∀ (n : Nat) (S : ev_S) (outs : List ev_S), ev_run ms call P rows stops n S = some outs → (∀ o ∈ outs, ev_Go p l e R s m args below meth c Q P.2.2.2.2.1 D A g0 o) → ev_Go p l e R s m args below meth c Q P.2.2.2.2.1 D A g0 S
  | 0, S, outs, h, hk => by cases h
  | n + 1, S, outs, h, hk => by
    unfold ev_run at h
    split at h
    · cases h
      exact hk S (List.mem_singleton.mpr rfl)
    · split at h
      · cases h
      · rename_i r hr
        have hq := hrows _ (ev_at_mem hr)
        split at h
        · cases h
          exact hk S (List.mem_singleton.mpr rfl)
        · rename_i h210
          split at h
          · rename_i h200
            split at h
            · rename_i Ss hSs
              refine ev_inv_ok hMS hC hRm X hq h200 (by dsimp only; omega) rfl hSs (fun S' hS' => ?_)
              obtain ⟨o', h1, h2⟩ := ev_all_ok h S' hS'
              exact ev_run_ok hMS hC hRm X hrows n S' o' h1 (fun x hx => hk x (h2 x hx))
            · cases h
          · rename_i h200
            split at h
            · rename_i o ho
              split at h
              · rename_i Ss hSs
                obtain ⟨⟨i, k, cs, hi, hd, hw⟩, -⟩ := hq
                rw [ev_rowI_op (by dsimp only; omega)] at hi
                dsimp only at hi hd
                rw [ho] at hi
                refine ev_ops_ok o (List.mem_of_getElem? ho) p l e R s m args below meth c cc Q D A g0 P r.2 S i k cs Ss X hi hd hw hSs (fun S' hS' => ?_)
                obtain ⟨o', h1, h2⟩ := ev_all_ok h S' hS'
                exact ev_run_ok hMS hC hRm X hrows n S' o' h1 (fun x hx => hk x (h2 x hx))
              · cases h
            · cases h
end EVR
theorem ev_args_ok {g : ev_G} : ∀ {as : List ev_A} {xs : List Value} (i : Nat), ev_s g as xs → ∀ q ∈ ev_args i as, ∃ v, ev_v g q.2 = some v ∧ (q.1, v) ∈ lv_args i xs
  | [], [], i, _, q, hq => nomatch hq
  | [], _ :: _, i, h, q, hq => h.elim
  | _ :: _, [], i, h, q, hq => h.elim
  | a :: as, x :: xs, i, h, q, hq => by
    unfold ev_args at hq
    rcases List.mem_cons.mp hq with rfl | hq
    · exact ⟨x, h.1, by unfold lv_args; exact List.mem_cons_self⟩
    · obtain ⟨v, h1, h2⟩ := ev_args_ok (i + if ev_isL a = true then 2 else 1) h.2 q hq
      refine ⟨v, h1, ?_⟩
      unfold lv_args
      refine List.mem_cons_of_mem _ ?_
      rcases ev_cat h.1 with ⟨q1, q2⟩ | ⟨q1, q2⟩
      · rw [if_pos q2]
        rw [if_pos q1] at h2
        exact h2
      · rw [if_neg (by omega)]
        rw [if_neg (by rw [q1]; decide)] at h2
        exact h2
theorem ev_sl_len {g : ev_G} : ∀ {as : List ev_A} {xs : List Value}, ev_s g as xs → (lg_sl xs).length = ev_cs as
  | [], [], _ => rfl
  | [], _ :: _, h => h.elim
  | _ :: _, [], h => h.elim
  | a :: as, x :: xs, h => by
    have ih := ev_sl_len h.2
    simp only [lg_sl, List.flatMap_cons, List.length_append, ev_cs, List.map_cons, List.sum_cons] at ih ⊢
    rw [ih]
    rcases ev_cat h.1 with ⟨q1, q2⟩ | ⟨q1, q2⟩ <;> rw [q1, q2] <;> rfl
set_option maxHeartbeats 4000000 in
/-- the execution of methods by their rows is right, at every depth -/
theorem ev_exec_ok {ms : List ev_MI} (hMS : ∀ (k : Nat) (mi : ev_MI), ms[k]? = some mi → ev_MOK ms mi) : ∀ d : Nat, ev_Cs ms (ev_exec ms d) d
  | 0 => fun k mi as w K outs hmi h => by cases h
  | d + 1 => fun k mi as w K outs hmi h => by
    refine ⟨d, rfl, fun l D g ws sz asc hs hB => ?_⟩
    unfold ev_exec at h
    rw [hmi] at h
    dsimp only at h
    split at h
    · rename_i hcs
      split at h
      · rename_i fs hrun
        obtain ⟨hpl, hcd, hnL, hmh, hrows⟩ := hMS k mi hmi
        refine Met.ofW (cc := mi.2.1) (maxL := mi.2.2.1) (ret := mi.2.2.2.1) hpl rfl ?_
        intro p e s m args below meth c s₁ B hml hv
        obtain ⟨rfl, hsz, hP, hK, hD0, hW, hN⟩ := hv
        subst hsz
        have hD : va_D (va_A ws s.heap.size) ws := hD0.self (sz := s.heap.size)
        have hts : ∀ w ∈ lw_good, w.before asc.toArray s = true := fun w hw => atoms_spec (ws := Cond.code mi.1 mi.2.1 mi.2.2.1 mi.2.2.2.1 :: lw_good) B.pre w (List.mem_cons_of_mem _ hw)
        have hA : ∀ q : Nat, s.heap.size ≤ q → va_A ws s.heap.size q := fun q h => Or.inr h
        have X : ev_X p (ev_rm d mi.2.2.2.2.1 mi.2.2.2.2.2.1) s m asc.toArray meth c mi.2.1 mi.2.2.1 mi.1.cls (decide (mi.1.name = "<init>")) D (va_A ws s.heap.size) mi.2.2.2.2.1 mi.2.2.2.2.2.1 g 0 :=
          ⟨B.exec, B.bytes, hml, findClass_of_methodNamed B.named, hts, hK, hA, hN, fun h => by rw [(name_of_methodNamed B.named B.method).1]; simpa using h, rfl, rfl, by simp [ev_rm], by simp only [ev_rm]; omega, fun L h => by cases h⟩
        have hlocks := B.notSynchronized
        have hr := B.returns
        have hlen : (lg_sl asc).length ≤ mi.2.2.1 := by rw [ev_sl_len hs]; exact hcs
        have hl := lv_entry asc (n := mi.2.2.1) hlen
        rw [lg_entry_eq]
        refine ev_run_ok (P := (mi.2.2.2.2.1, mi.2.2.2.2.2.1, decide (mi.1.name = "<init>"), mi.1.cls, mi.2.2.1, 0)) hMS (ev_exec_ok hMS d) ⟨by simp [ev_rm], by simp [ev_rm]⟩ X hrows 20000 _ fs hrun (fun o ho => ?_) g ws s.heap [] _ [] (ev_le_rf g) ⟨hP, hD, va_S.rf, hW, hB, ⟨hl.1, hl.2.1, fun q hq => ?_⟩, trivial⟩
        · obtain ⟨x, hx1, hx2⟩ := ev_ends_ok h o ho
          obtain ⟨pc, L, st, w', K', ce, sl⟩ := o
          intro g' ws' H locs ls sc hle ⟨hP', hD', hS', hW', hB', hL', hs'⟩
          unfold ev_end at hx1
          split at hx1
          · rename_i hcap
            refine W.widen (k := mi.2.2.2.2.1) (n := mi.2.2.2.2.2.1) hcap.1 hcap.2 ?_
            have qq : ∀ (v : Option Value) (t : State), t.heap = H → s.WarmedH t.vm → ev_rv g' x.1 v → x.2.1 = w' → x.2.2 = K' → ev_Q D g (va_A ws s.heap.size) outs asc.toArray s (.returned v) t := by
              intro v t ht hWm hv e1 e2
              exact ⟨⟨x, g', ws', v, hx2, rfl, hv, hle, by rw [ht]; exact hP', hD', by rw [e1]; exact ev_w_moved hWm.alike hW', by rw [e2]; exact hB'⟩, hS'.F ht⟩
            split at hx1
            · cases hx1
            · rename_i r hrr
              obtain ⟨⟨i, n, cs, hi, hd, -⟩, -⟩ := hrows _ (ev_at_mem hrr)
              dsimp only at hi hd
              split at hx1
              · rename_i ty a e1 e2 e3
                split at hx1
                · rename_i hf
                  cases hx1
                  dsimp only at e3
                  subst e3
                  obtain ⟨v, sc', rfl, hv, hs2⟩ := ev_s_cons hs'
                  cases ev_s_nil hs2
                  obtain ⟨x0, rfl⟩ := ev_vI hf.1 hv
                  have hi : some ((.ireturn : Instr), (1 : Nat), ([] : List Cond)) = some (i, n, cs) := by simpa [ev_rowI, e1] using hi
                  cases hi
                  exact W.zret B.exec B.bytes (hr.trans e2) (ev_fit_ok hf.2 hv).1 (fun t ht hWm => qq _ t ht hWm hv rfl rfl) hS'.2.2 hd
                · cases hx1
              · rename_i a e1 e2 e3
                split at hx1
                · rename_i hf
                  cases hx1
                  dsimp only at e3
                  subst e3
                  obtain ⟨v, sc', rfl, hv, hs2⟩ := ev_s_cons hs'
                  cases ev_s_nil hs2
                  obtain ⟨x0, rfl⟩ := ev_vL hf hv
                  have hi : some ((.lreturn : Instr), (1 : Nat), ([] : List Cond)) = some (i, n, cs) := by simpa [ev_rowI, e1] using hi
                  cases hi
                  exact W.lret B.exec B.bytes (hr.trans e2) (fun t ht hWm => qq _ t ht hWm hv rfl rfl) hS'.2.2 hd
                · cases hx1
              · rename_i nm a e1 e2 e3
                split at hx1
                · rename_i hf
                  cases hx1
                  dsimp only at e3
                  subst e3
                  obtain ⟨v, sc', rfl, hv, hs2⟩ := ev_s_cons hs'
                  cases ev_s_nil hs2
                  have hi : some ((.areturn : Instr), (1 : Nat), ([] : List Cond)) = some (i, n, cs) := by simpa [ev_rowI, e1] using hi
                  cases hi
                  exact W.aret B.exec B.bytes (hr.trans e2) (Or.inl ⟨_, rfl⟩) (ev_vN hf hv) (fun t ht hWm => qq _ t ht hWm hv rfl rfl) hS'.2.2 hd
                · cases hx1
              · rename_i e1 e2 e3
                cases hx1
                dsimp only at e3
                subst e3
                cases ev_s_nil hs'
                have hi : some ((.return_ : Instr), (1 : Nat), ([] : List Cond)) = some (i, n, cs) := by simpa [ev_rowI, e1] using hi
                cases hi
                exact W.vret B.exec B.bytes (hr.trans e2) (fun t ht hWm => qq none t ht hWm trivial rfl rfl) hS'.2.2 hd
              · cases hx1
          · cases hx1
        · obtain ⟨v, h1, h2⟩ := ev_args_ok 0 hs q hq
          exact ⟨v, h1, hl.2.2 _ h2⟩
      · cases h
    · cases h
noncomputable abbrev cm_M : Type := (Nat → Nat → Int32) × (Nat → Nat → Int64) × (Nat → Nat → Option Nat)
/-- where it stands: place, locals, stack, memory -/
noncomputable abbrev cm_S : Type := Nat × List (Nat × Value) × List Value × cm_M
noncomputable def cm_v (adr : Nat → Nat) (v : Value) : Value := match v with
  | .ref k => .ref (adr k)
  | v => v
theorem cm_v_cat (adr : Nat → Nat) (v : Value) : (cm_v adr v).category = v.category := by cases v <;> rfl
theorem cm_v_cats (adr : Nat → Nat) (l : List Value) : ((l.map (cm_v adr)).map fun v => v.category).sum = (l.map fun v => v.category).sum := by
  induction l with
  | nil => rfl
  | cons a l ih => simp only [List.map_cons, List.sum_cons, cm_v_cat, ih]
/-- the cells: class (or 100 and the array's type), how many places -/
noncomputable def cm_lay : List (Nat × Nat) := [(8, 15), (101, 900), (4, 14), (102, 16), (100, 16), (100, 16), (7, 19), (100, 6), (100, 6), (100, 6), (100, 6), (100, 6), (100, 5), (100, 5), (100, 5), (100, 5), (100, 5), (100, 5), (100, 3), (7, 19), (100, 6), (100, 6), (100, 6), (100, 6), (100, 6), (100, 5), (100, 5), (100, 5), (100, 5), (100, 5), (100, 5), (100, 3), (2, 4), (100, 6), (100, 3), (2, 4), (100, 6), (100, 3), (3, 5), (103, 16), (103, 3), (2, 4), (100, 6), (100, 3), (2, 4), (100, 6), (100, 3), (2, 4), (100, 6), (100, 3), (2, 4), (100, 6), (100, 3), (2, 4), (100, 6), (100, 3), (2, 4), (100, 6), (100, 3), (2, 4), (100, 6), (100, 3), (2, 4), (100, 6), (100, 3), (2, 4), (100, 6), (100, 3), (2, 4), (100, 6), (100, 3), (2, 4), (100, 6), (100, 3), (2, 4), (100, 6), (100, 3), (2, 4), (100, 6), (100, 3), (2, 4), (100, 6), (100, 3), (2, 4), (100, 6), (100, 3), (2, 4), (100, 6), (100, 3), (2, 4), (100, 6), (100, 3), (2, 4), (100, 6), (100, 3), (2, 4), (100, 6), (100, 3), (0, 5), (103, 5), (2, 4), (100, 6), (100, 3), (2, 4), (100, 6), (100, 3), (2, 4), (100, 6), (100, 3), (2, 4), (100, 6), (100, 3), (2, 4), (100, 6), (100, 3), (6, 3), (100, 5), (100, 5), (5, 3), (100, 32), (2, 4), (100, 6), (100, 3), (1, 3), (9, 35), (100, 900), (100, 8), (100, 213), (100, 213), (100, 11), (100, 176), (100, 33), (100, 11), (100, 5), (100, 5), (100, 5), (102, 1)]
noncomputable def cm_kind (c : Nat) : Nat × Nat := match cm_lay[c]? with
  | some q => q
  | none => (999, 0)
theorem cm_kind_at {c : Nat} {q : Nat × Nat} (h : cm_kind c = q) (h9 : q.1 < 999) : cm_lay[c]? = some q := by
  unfold cm_kind at h
  cases hc : cm_lay[c]? with
  | none => rw [hc] at h; subst h; exact absurd h9 (by decide)
  | some r => rw [hc] at h; exact congrArg some h
/-- what a field holds: 0 an int, 2 a long, 3 a reference -/
noncomputable def cm_ft (ci j : Nat) : Nat := match ev_tyl[ci]? with
  | some ty => (match ty j with
    | .long => 2
    | .object _ => 3
    | .array _ => 3
    | _ => 0)
  | none => 0
/-- a field of truth values -/
noncomputable def cm_isB (ci j : Nat) : Bool := match ev_tyl[ci]? with
  | some ty => (match ty j with
    | .boolean => true
    | _ => false)
  | none => false
noncomputable def cm_rq : Option Nat → Value
  | some q => .ref q
  | none => .null
noncomputable def cm_rd (M : cm_M) (tag c j : Nat) : Value := match tag with
  | 2 => .long (M.2.1 c j)
  | 3 => cm_rq (M.2.2 c j)
  | _ => .int (M.1 c j)
noncomputable def cm_wi (M : cm_M) (c i : Nat) (x : Int32) : cm_M := (fun c' i' => if c' = c ∧ i' = i then x else M.1 c' i', M.2)
noncomputable def cm_wl (M : cm_M) (c i : Nat) (x : Int64) : cm_M := (M.1, fun c' i' => if c' = c ∧ i' = i then x else M.2.1 c' i', M.2.2)
noncomputable def cm_wr (M : cm_M) (c i : Nat) (x : Option Nat) : cm_M := (M.1, M.2.1, fun c' i' => if c' = c ∧ i' = i then x else M.2.2 c' i')
noncomputable def cm_cp (M : cm_M) (c sp d dp n : Nat) : cm_M := (fun c' i' => if c' = d ∧ dp ≤ i' ∧ i' < dp + n then M.1 c (sp + (i' - dp)) else M.1 c' i', M.2)
noncomputable def cm_ar (adr : Nat → Nat) (M : cm_M) (k t n : Nat) (a : (Nat → Int32) ⊕ (Nat → Int64) ⊕ (Nat → UInt32) ⊕ (Nat → UInt64) ⊕ (Nat → Option Nat)) : Prop := match a with
  | .inl f => t < 2 ∧ ∀ j, j < n → f j = M.1 k j
  | .inr (.inl f) => t = 2 ∧ ∀ j, j < n → f j = M.2.1 k j
  | .inr (.inr (.inr (.inr f))) => t = 3 ∧ ∀ j, j < n → f j = (M.2.2 k j).map adr
  | _ => False
noncomputable def cm_c (s : State) (adr : Nat → Nat) (M : cm_M) (k : Nat) (c : Nat × Nat) (x : va_E) : Prop := match x with
  | .inr o => o.1 = c.1 ∧ c.1 < 100 ∧ o.2.length = c.2 ∧ ∀ j, j < c.2 → o.2[j]? = some (cm_v adr (cm_rd M (cm_ft c.1 j) k j))
  | .inl a => ∃ t, t < 4 ∧ c.1 = 100 + t ∧ a.2.1 = c.2 ∧ ArrOfT s a.1 (ev_ty t) ∧ va_RA s a.1 (ev_ty t) ∧ cm_ar adr M k t c.2 a.2.2
/-- the world is as the memory says -/
noncomputable def cm_w (s : State) (adr : Nat → Nat) (M : cm_M) (ws : va_W) : Prop := ws.length = cm_lay.length ∧ ∀ (k : Nat) (c : Nat × Nat) (q : Nat × va_E), cm_lay[k]? = some c → ws[k]? = some q → q.1 = adr k ∧ cm_c s adr M k c q.2
theorem cm_c_moved {u U : State} {adr : Nat → Nat} {M : cm_M} {k : Nat} {c : Nat × Nat} {x : va_E} (hvm : u.vm.Alike U.vm) (h : cm_c u adr M k c x) : cm_c U adr M k c x := by
  cases x with
  | inr o => exact h
  | inl a =>
    obtain ⟨t, a1, a2, a3, a4, a5, a6⟩ := h
    exact ⟨t, a1, a2, a3, arrOfT_moved hvm a4, a5.moved hvm, a6⟩
theorem cm_w_moved {u U : State} {adr : Nat → Nat} {M : cm_M} {ws : va_W} (hvm : u.vm.Alike U.vm) (h : cm_w u adr M ws) : cm_w U adr M ws := ⟨h.1, fun k c q h1 h2 => ⟨(h.2 k c q h1 h2).1, cm_c_moved hvm (h.2 k c q h1 h2).2⟩⟩
/-- a cell of the layout stands in the world -/
theorem cm_cell {s : State} {adr : Nat → Nat} {M : cm_M} {ws : va_W} {k : Nat} {c : Nat × Nat} (h : cm_w s adr M ws) (hc : cm_lay[k]? = some c) : ∃ x, ws[k]? = some (adr k, x) ∧ cm_c s adr M k c x := by
  have hl : k < ws.length := by rw [h.1]; exact (List.getElem?_eq_some_iff.mp hc).1
  have h1 := List.getElem?_eq_getElem hl
  obtain ⟨e, h2⟩ := h.2 k c _ hc h1
  exact ⟨ws[k].2, by rw [h1, ← e], h2⟩
/-- one cell is written -/
theorem cm_w_set {s : State} {adr : Nat → Nat} {M M' : cm_M} {ws : va_W} {q : Nat} {c0 : Nat × Nat} {x : va_E} (h : cm_w s adr M ws) (hq : cm_lay[q]? = some c0) (hx : cm_c s adr M' q c0 x) (hM : ∀ k c y, k ≠ q → cm_c s adr M k c y → cm_c s adr M' k c y) : cm_w s adr M' (ws.set q (adr q, x)) := by
  refine ⟨by rw [List.length_set]; exact h.1, fun k c z h1 h2 => ?_⟩
  have hl : q < ws.length := by rw [h.1]; exact (List.getElem?_eq_some_iff.mp hq).1
  by_cases hk : k = q
  · subst hk
    rw [List.getElem?_set_self hl] at h2
    cases h2
    rw [hq] at h1
    cases h1
    exact ⟨rfl, hx⟩
  · rw [List.getElem?_set_ne (Ne.symm hk)] at h2
    obtain ⟨a, b⟩ := h.2 k c z h1 h2
    exact ⟨a, hM k c _ hk b⟩
theorem cm_c_ne {s : State} {adr : Nat → Nat} {M M' : cm_M} {k : Nat} {c : Nat × Nat} {x : va_E} (h1 : ∀ j, M'.1 k j = M.1 k j) (h2 : ∀ j, M'.2.1 k j = M.2.1 k j) (h3 : ∀ j, M'.2.2 k j = M.2.2 k j) (h : cm_c s adr M k c x) : cm_c s adr M' k c x := by
  have hr : ∀ t j, cm_rd M' t k j = cm_rd M t k j := by
    intro t j
    unfold cm_rd
    split
    · rw [h2]
    · rw [h3]
    · rw [h1]
  cases x with
  | inr o => exact ⟨h.1, h.2.1, h.2.2.1, fun j hj => by rw [hr]; exact h.2.2.2 j hj⟩
  | inl a =>
    obtain ⟨t, a1, a2, a3, a4, a5, a6⟩ := h
    refine ⟨t, a1, a2, a3, a4, a5, ?_⟩
    obtain ⟨a1, a2, arr⟩ := a
    rcases arr with f | f | f | f | f
    · exact ⟨a6.1, fun j hj => by rw [h1]; exact a6.2 j hj⟩
    · exact ⟨a6.1, fun j hj => by rw [h2]; exact a6.2 j hj⟩
    · exact a6
    · exact a6
    · exact ⟨a6.1, fun j hj => by rw [h3]; exact a6.2 j hj⟩
/-- the words that callees take along: what was there before -/
noncomputable def cm_tens (j : Nat) : Int32 := ([1, 10, 100, 1000, 10000] : List Int32).getD j 0
noncomputable def cm_T (adr : Nat → Nat) (A : Nat → Prop) (U : State) (H : Heap) : Prop := va_Z "BarberMinutes" "TENS" "[I" (.ref (adr 1100)) A U H ∧ va_T .int (adr 1100) 5 (fun j => .int (cm_tens j)) A U H ∧ (va_Z "jdk/internal/util/Preconditions" "SIOOBE_FORMATTER" "Ljava/util/function/BiFunction;" .null A U H ∨ va_Z "jdk/internal/util/Preconditions" "SIOOBE_FORMATTER" "Ljava/util/function/BiFunction;" (.ref (adr 1101)) A U H)
noncomputable def cm_N (adr : Nat → Nat) (A : Nat → Prop) (U : State) (H : Heap) : Prop := ev_N (fun j => adr (1000 + j)) A U H ∧ cm_T adr A U H
theorem cm_T_moved {adr : Nat → Nat} {A : Nat → Prop} {u U : State} {H : Heap} (hvm : u.vm.Alike U.vm) (h : cm_T adr A u H) : cm_T adr A U H := ⟨va_Z.moved hvm h.1, va_T.moved hvm h.2.1, h.2.2.imp (va_Z.moved hvm) (va_Z.moved hvm)⟩
theorem cm_T_kept {adr : Nat → Nat} {A : Nat → Prop} {U : State} {H H1 : Heap} (h : cm_T adr A U H) (hq : ∀ a : Nat, a < H.size → ¬ A a → H1[a]? = H[a]?) : cm_T adr A U H1 := ⟨va_Z.kept h.1 hq, va_T.kept h.2.1 hq, h.2.2.imp (fun z => va_Z.kept z hq) (fun z => va_Z.kept z hq)⟩
theorem cm_T_narrow {adr : Nat → Nat} {A B : Nat → Prop} {U : State} {H : Heap} (h : cm_T adr A U H) (hAB : ∀ q, B q → A q) : cm_T adr B U H := ⟨va_Z.narrow h.1 hAB, va_T.narrow h.2.1 hAB, h.2.2.imp (fun z => va_Z.narrow z hAB) (fun z => va_Z.narrow z hAB)⟩
theorem cm_N_same {adr : Nat → Nat} {A : Nat → Prop} {u U : State} {H : Heap} (h : u.vm = U.vm) (hN : cm_N adr A u H) : cm_N adr A U H := ⟨ev_N_same h hN.1, cm_T_moved (by rw [h]; exact Vm.Alike.refl _) hN.2⟩
theorem cm_N_call {adr : Nat → Nat} {A B : Nat → Prop} {s U : State} {H : Heap} {locs : List Loc} (hW : s.WarmedH U.vm) (hU : U.heap = H) (hS : va_S A s.heap H locs) (hAB : ∀ q, B q → A q) (hN : cm_N adr A s s.heap) : cm_N adr B U U.heap :=
  ⟨ev_N_call hW hU hS hAB hN.1, by rw [hU]; exact cm_T_moved hW.alike (cm_T_narrow (cm_T_kept hN.2 hS.2.1) hAB)⟩
/-- the law's script -/
noncomputable abbrev cm_E : Type := Option (Nat × (Nat → Int32))
noncomputable def cm_scr (adr : Nat → Nat) (A : Nat → Prop) (s : State) : cm_E → Prop
  | none => True
  | some q => va_X (adr 1000) q.1 q.2 s s.heap ∧ adr 1000 < s.heap.size ∧ ¬ A (adr 1000)
/-- the fixed facts of a frame -/
noncomputable def cm_X (p : Program) (R : Room) (s : State) (m : MethodId) (args : Array Value) (c : Code) (cc : ByteArray) (nL : Nat) (own : String) (D : va_G) (A : Nat → Prop) (adr : Nat → Nat) (ce sl : Nat) (E : cm_E) : Prop :=
  p.tables.exec = Jvm.exec ∧ c.code = cc ∧ c.maxLocals = nL ∧ s.vm.findClass own = some m.cls ∧ (∀ w ∈ lw_good, w.before args s = true) ∧ va_K D vwCl [] s ∧ (∀ q : Nat, s.heap.size ≤ q → A q) ∧ cm_N adr A s s.heap ∧ ce ≤ R.cells ∧ sl ≤ R.slots ∧ 1 ≤ R.frames ∧ 40 ≤ R.locals ∧ cm_scr adr A s E
noncomputable def cm_l (adr : Nat → Nat) (L : List (Nat × Value)) (nL : Nat) (ls : Array Slot) : Prop := lv_has ls nL (L.map (fun q => (q.1, cm_v adr q.2)))
/-- what holds between a state and the machine -/
noncomputable def cm_R (s : State) (A : Nat → Prop) (D : va_G) (nL : Nat) (adr : Nat → Nat) (L : List (Nat × Value)) (M : cm_M) (ws : va_W) (H : Heap) (locs : List Loc) (ls : Array Slot) : Prop :=
  va_P D vwCl ws H ∧ va_D A ws ∧ va_S A s.heap H locs ∧ cm_w s adr M ws ∧ cm_l adr L nL ls
/-- the goal from a state -/
noncomputable def cm_Go (p : Program) (l : Launch) (e : Env) (R : Room) (s : State) (m : MethodId) (args : Array Value) (below : List Frame) (meth : Method) (c : Code) (Q : State → Prop) (nL : Nat) (D : va_G) (A : Nat → Prop) (adr : Nat → Nat) (ce sl : Nat) (S : cm_S) : Prop :=
  ∀ (ws : va_W) (H : Heap) (locs : List Loc) (ls : Array Slot), cm_R s A D nL adr S.2.1 S.2.2.2 ws H locs ls → W p l e R s m args below meth c H locs ce sl Q (F0 m S.1 ls (S.2.2.1.map (cm_v adr)))
/-- an operation: what stands in the code; what must hold for it to go on -/
noncomputable abbrev cm_O : Type := (ev_P → ev_T → Option (Instr × Nat × List Cond)) × (cm_E → ev_P → ev_T → cm_S → (cm_S → Prop) → Prop)
noncomputable def cm_Snd (o : cm_O) : Prop := ∀ (p : Program) (l : Launch) (e : Env) (R : Room) (s : State) (m : MethodId) (args : Array Value) (below : List Frame) (meth : Method) (c : Code) (cc : ByteArray) (Q : State → Prop) (D : va_G) (A : Nat → Prop) (adr : Nat → Nat) (ce sl : Nat) (E : cm_E) (P : ev_P) (t : ev_T) (S : cm_S) (i : Instr) (n : Nat) (cs : List Cond),
  cm_X p R s m args c cc P.2.2.2.2.1 P.2.2.2.1 D A adr ce sl E → o.1 P t = some (i, n, cs) → decode cc S.1 = .ok (i, n) → (∀ w ∈ cs, w ∈ lw_good) → o.2 E P t S (cm_Go p l e R s m args below meth c Q P.2.2.2.2.1 D A adr ce sl) → cm_Go p l e R s m args below meth c Q P.2.2.2.2.1 D A adr ce sl S
/-- fewer locals told -/
theorem cm_Go_sub {p : Program} {l : Launch} {e : Env} {R : Room} {s : State} {m : MethodId} {args : Array Value} {below : List Frame} {meth : Method} {c : Code} {Q : State → Prop} {nL : Nat} {D : va_G} {A : Nat → Prop} {adr : Nat → Nat} {ce sl pc : Nat} {L L' : List (Nat × Value)} {st : List Value} {M : cm_M} (h : cm_Go p l e R s m args below meth c Q nL D A adr ce sl (pc, L', st, M)) (hL : ∀ q ∈ L', q ∈ L) : cm_Go p l e R s m args below meth c Q nL D A adr ce sl (pc, L, st, M) := by
  intro ws H locs ls ⟨hP, hD, hS, hW, hl⟩
  refine h ws H locs ls ⟨hP, hD, hS, hW, hl.1, hl.2.1, fun q hq => ?_⟩
  obtain ⟨r, hr, rfl⟩ := List.mem_map.mp hq
  exact hl.2.2 _ (List.mem_map.mpr ⟨r, hL r hr, rfl⟩)
noncomputable def cm_look : List (Nat × Value) → Nat → Option Value
  | [], _ => none
  | q :: L, i => if q.1 = i then some q.2 else cm_look L i
theorem cm_look_mem : ∀ {L : List (Nat × Value)} {i : Nat} {a : Value}, cm_look L i = some a → (i, a) ∈ L
  | [], i, a, h => by cases h
  | q :: L, i, a, h => by
    unfold cm_look at h
    split at h
    · rename_i hq
      cases h
      rw [← hq]
      exact List.mem_cons_self
    · exact List.mem_cons_of_mem _ (cm_look_mem h)
theorem cm_l_at {adr : Nat → Nat} {L : List (Nat × Value)} {nL : Nat} {ls : Array Slot} (h : cm_l adr L nL ls) {i : Nat} {v : Value} (hv : cm_look L i = some v) : ls[i]? = some (.val (cm_v adr v)) := h.2.2 _ (List.mem_map.mpr ⟨_, cm_look_mem hv, rfl⟩)
/-- a store: the new value in front; a long's second half is taken away -/
noncomputable def cm_st1 (L : List (Nat × Value)) (i : Nat) (v : Value) : List (Nat × Value) := (i, v) :: L.filter (fun q => !(q.1 == i) && !(q.1 + 1 == i && q.2.category == 2))
noncomputable def cm_st2 (L : List (Nat × Value)) (i : Nat) (v : Value) : List (Nat × Value) := (i, v) :: L.filter (fun q => !(q.1 == i) && (!(q.1 == i + 1) && !(q.1 + 1 == i && q.2.category == 2)))
theorem cm_fl (adr : Nat → Nat) (f : Nat → Nat → Bool) (L : List (Nat × Value)) : (L.map (fun q => (q.1, cm_v adr q.2))).filter (fun q => f q.1 q.2.category) = (L.filter (fun q => f q.1 q.2.category)).map (fun q => (q.1, cm_v adr q.2)) := by
  rw [List.filter_map]
  congr 1
  apply List.filter_congr
  intro q _
  simp only [Function.comp_apply, cm_v_cat]
theorem cm_st1_eq (adr : Nat → Nat) (L : List (Nat × Value)) (i : Nat) (v : Value) : (i, cm_v adr v) :: (L.map (fun q => (q.1, cm_v adr q.2))).filter (fun q => !(q.1 == i) && !(q.1 + 1 == i && q.2.category == 2)) = (cm_st1 L i v).map (fun q => (q.1, cm_v adr q.2)) := by
  unfold cm_st1
  rw [List.map_cons]
  congr 1
  exact cm_fl adr (fun a b => !(a == i) && !(a + 1 == i && b == 2)) L
theorem cm_st2_eq (adr : Nat → Nat) (L : List (Nat × Value)) (i : Nat) (v : Value) : (i, cm_v adr v) :: (L.map (fun q => (q.1, cm_v adr q.2))).filter (fun q => !(q.1 == i) && (!(q.1 == i + 1) && !(q.1 + 1 == i && q.2.category == 2))) = (cm_st2 L i v).map (fun q => (q.1, cm_v adr q.2)) := by
  unfold cm_st2
  rw [List.map_cons]
  congr 1
  exact cm_fl adr (fun a b => !(a == i) && (!(a == i + 1) && !(a + 1 == i && b == 2))) L
noncomputable def cm_adv (S : cm_S) (n : Nat) (st : List Value) : cm_S := (S.1 + n, S.2.1, st, S.2.2.2)
noncomputable def cm_iconst : cm_O := (ev_iconst.1, fun E P t S k => k (cm_adv S 1 (.int (Int32.ofInt t.1) :: S.2.2.1)))
theorem cm_iconst_ok : cm_Snd cm_iconst := by
  intro p l e R s m args below meth c cc Q D A adr ce sl E P t S i n cs X h1 hd hw h2 ws H locs ls hR
  obtain ⟨hx, hb, hml, hown, hts, hK, hA, hN, hcC, hcS, hf, hlc, hscr⟩ := X
  obtain ⟨pc, L, st, M⟩ := S
  have h1 : some ((.iconst t.1 : Instr), (1 : Nat), ([] : List Cond)) = some (i, n, cs) := h1
  cases h1
  exact lv_iconst (v := Int32.ofInt t.1) hx hb hd rfl (h2 ws H locs ls hR)

noncomputable def cm_bipush : cm_O := (ev_bipush.1, fun E P t S k => k (cm_adv S 2 (.int ((Int8.ofInt t.1).toInt32) :: S.2.2.1)))
theorem cm_bipush_ok : cm_Snd cm_bipush := by
  intro p l e R s m args below meth c cc Q D A adr ce sl E P t S i n cs X h1 hd hw h2 ws H locs ls hR
  obtain ⟨hx, hb, hml, hown, hts, hK, hA, hN, hcC, hcS, hf, hlc, hscr⟩ := X
  obtain ⟨pc, L, st, M⟩ := S
  have h1 : some ((.bipush t.1 : Instr), (2 : Nat), ([] : List Cond)) = some (i, n, cs) := h1
  cases h1
  exact lv_bipush (v := (Int8.ofInt t.1).toInt32) hx hb hd rfl (h2 ws H locs ls hR)

noncomputable def cm_sipush : cm_O := (ev_sipush.1, fun E P t S k => k (cm_adv S 3 (.int ((Int16.ofInt t.1).toInt32) :: S.2.2.1)))
theorem cm_sipush_ok : cm_Snd cm_sipush := by
  intro p l e R s m args below meth c cc Q D A adr ce sl E P t S i n cs X h1 hd hw h2 ws H locs ls hR
  obtain ⟨hx, hb, hml, hown, hts, hK, hA, hN, hcC, hcS, hf, hlc, hscr⟩ := X
  obtain ⟨pc, L, st, M⟩ := S
  have h1 : some ((.sipush t.1 : Instr), (3 : Nat), ([] : List Cond)) = some (i, n, cs) := h1
  cases h1
  exact lv_sipush (v := (Int16.ofInt t.1).toInt32) hx hb hd rfl (h2 ws H locs ls hR)

noncomputable def cm_lconst : cm_O := (ev_lconst.1, fun E P t S k => k (cm_adv S 1 (.long (Int64.ofNat t.1.toNat) :: S.2.2.1)))
theorem cm_lconst_ok : cm_Snd cm_lconst := by
  intro p l e R s m args below meth c cc Q D A adr ce sl E P t S i n cs X h1 hd hw h2 ws H locs ls hR
  obtain ⟨hx, hb, hml, hown, hts, hK, hA, hN, hcC, hcS, hf, hlc, hscr⟩ := X
  obtain ⟨pc, L, st, M⟩ := S
  have h1 : (if h : t.1.toNat < 2 then some ((.lconst ⟨t.1.toNat, h⟩ : Instr), (1 : Nat), ([] : List Cond)) else none) = some (i, n, cs) := h1
  split at h1
  · cases h1
    exact lv_lconst (v := Int64.ofNat t.1.toNat) hx hb hd rfl (h2 ws H locs ls hR)
  · cases h1

noncomputable def cm_ld (ty : Nat) (n i : Nat) (S : cm_S) (k : cm_S → Prop) : Prop := match ty, cm_look S.2.1 i with
  | 0, some (.int x) => k (cm_adv S n (.int x :: S.2.2.1))
  | 1, some (.long x) => k (cm_adv S n (.long x :: S.2.2.1))
  | 2, some (.ref x) => k (cm_adv S n (.ref x :: S.2.2.1))
  | _, _ => False
theorem cm_ld_ok {ty n i : Nat} {S : cm_S} {k : cm_S → Prop} (h : cm_ld ty n i S k) : ∃ v, cm_look S.2.1 i = some v ∧ k (cm_adv S n (v :: S.2.2.1)) ∧ (ty = 0 → ∃ x, v = .int x) ∧ (ty = 1 → ∃ x, v = .long x) ∧ (ty = 2 → ∃ x, v = .ref x) := by
  unfold cm_ld at h
  split at h
  · rename_i x hx
    exact ⟨_, hx, h, fun _ => ⟨x, rfl⟩, fun q => (by cases q), fun q => (by cases q)⟩
  · rename_i x hx
    exact ⟨_, hx, h, fun q => (by cases q), fun _ => ⟨x, rfl⟩, fun q => (by cases q)⟩
  · rename_i x hx
    exact ⟨_, hx, h, fun q => (by cases q), fun q => (by cases q), fun _ => ⟨x, rfl⟩⟩
  · exact h.elim
noncomputable def cm_iload : cm_O := (ev_iload.1, fun E P t S k => cm_ld 0 2 t.1.toNat S k)
theorem cm_iload_ok : cm_Snd cm_iload := by
  intro p l e R s m args below meth c cc Q D A adr ce sl E P t S i n cs X h1 hd hw h2 ws H locs ls hR
  obtain ⟨hx, hb, hml, hown, hts, hK, hA, hN, hcC, hcS, hf, hlc, hscr⟩ := X
  obtain ⟨pc, L, st, M⟩ := S
  have h1 : some ((.iload t.1.toNat : Instr), (2 : Nat), ([] : List Cond)) = some (i, n, cs) := h1
  cases h1
  obtain ⟨v, hv, hk, q0, q1, q2⟩ := cm_ld_ok h2
  obtain ⟨x, rfl⟩ := q0 rfl
  exact lv_iload hx hb hd (cm_l_at hR.2.2.2.2 hv) (hk ws H locs ls hR)

noncomputable def cm_iloadn : cm_O := (ev_iloadn.1, fun E P t S k => cm_ld 0 1 t.1.toNat S k)
theorem cm_iloadn_ok : cm_Snd cm_iloadn := by
  intro p l e R s m args below meth c cc Q D A adr ce sl E P t S i n cs X h1 hd hw h2 ws H locs ls hR
  obtain ⟨hx, hb, hml, hown, hts, hK, hA, hN, hcC, hcS, hf, hlc, hscr⟩ := X
  obtain ⟨pc, L, st, M⟩ := S
  have h1 : (if h : t.1.toNat < 4 then some ((.iload_n ⟨t.1.toNat, h⟩ : Instr), (1 : Nat), ([] : List Cond)) else none) = some (i, n, cs) := h1
  split at h1
  rotate_left
  · cases h1
  cases h1
  obtain ⟨v, hv, hk, q0, q1, q2⟩ := cm_ld_ok h2
  obtain ⟨x, rfl⟩ := q0 rfl
  exact lv_iload_n hx hb hd rfl (cm_l_at hR.2.2.2.2 hv) (hk ws H locs ls hR)

noncomputable def cm_lload : cm_O := (ev_lload.1, fun E P t S k => cm_ld 1 2 t.1.toNat S k)
theorem cm_lload_ok : cm_Snd cm_lload := by
  intro p l e R s m args below meth c cc Q D A adr ce sl E P t S i n cs X h1 hd hw h2 ws H locs ls hR
  obtain ⟨hx, hb, hml, hown, hts, hK, hA, hN, hcC, hcS, hf, hlc, hscr⟩ := X
  obtain ⟨pc, L, st, M⟩ := S
  have h1 : some ((.lload t.1.toNat : Instr), (2 : Nat), ([] : List Cond)) = some (i, n, cs) := h1
  cases h1
  obtain ⟨v, hv, hk, q0, q1, q2⟩ := cm_ld_ok h2
  obtain ⟨x, rfl⟩ := q1 rfl
  exact lv_lload hx hb hd (cm_l_at hR.2.2.2.2 hv) (hk ws H locs ls hR)

noncomputable def cm_lloadn : cm_O := (ev_lloadn.1, fun E P t S k => cm_ld 1 1 t.1.toNat S k)
theorem cm_lloadn_ok : cm_Snd cm_lloadn := by
  intro p l e R s m args below meth c cc Q D A adr ce sl E P t S i n cs X h1 hd hw h2 ws H locs ls hR
  obtain ⟨hx, hb, hml, hown, hts, hK, hA, hN, hcC, hcS, hf, hlc, hscr⟩ := X
  obtain ⟨pc, L, st, M⟩ := S
  have h1 : (if h : t.1.toNat < 4 then some ((.lload_n ⟨t.1.toNat, h⟩ : Instr), (1 : Nat), ([] : List Cond)) else none) = some (i, n, cs) := h1
  split at h1
  rotate_left
  · cases h1
  cases h1
  obtain ⟨v, hv, hk, q0, q1, q2⟩ := cm_ld_ok h2
  obtain ⟨x, rfl⟩ := q1 rfl
  exact lv_lload_n hx hb hd rfl (cm_l_at hR.2.2.2.2 hv) (hk ws H locs ls hR)

noncomputable def cm_aload : cm_O := (ev_aload.1, fun E P t S k => cm_ld 2 2 t.1.toNat S k)
theorem cm_aload_ok : cm_Snd cm_aload := by
  intro p l e R s m args below meth c cc Q D A adr ce sl E P t S i n cs X h1 hd hw h2 ws H locs ls hR
  obtain ⟨hx, hb, hml, hown, hts, hK, hA, hN, hcC, hcS, hf, hlc, hscr⟩ := X
  obtain ⟨pc, L, st, M⟩ := S
  have h1 : some ((.aload t.1.toNat : Instr), (2 : Nat), ([] : List Cond)) = some (i, n, cs) := h1
  cases h1
  obtain ⟨v, hv, hk, q0, q1, q2⟩ := cm_ld_ok h2
  obtain ⟨x, rfl⟩ := q2 rfl
  exact lv_aload hx hb hd (cm_l_at hR.2.2.2.2 hv) (hk ws H locs ls hR)

noncomputable def cm_aloadn : cm_O := (ev_aloadn.1, fun E P t S k => cm_ld 2 1 t.1.toNat S k)
theorem cm_aloadn_ok : cm_Snd cm_aloadn := by
  intro p l e R s m args below meth c cc Q D A adr ce sl E P t S i n cs X h1 hd hw h2 ws H locs ls hR
  obtain ⟨hx, hb, hml, hown, hts, hK, hA, hN, hcC, hcS, hf, hlc, hscr⟩ := X
  obtain ⟨pc, L, st, M⟩ := S
  have h1 : (if h : t.1.toNat < 4 then some ((.aload_n ⟨t.1.toNat, h⟩ : Instr), (1 : Nat), ([] : List Cond)) else none) = some (i, n, cs) := h1
  split at h1
  rotate_left
  · cases h1
  cases h1
  obtain ⟨v, hv, hk, q0, q1, q2⟩ := cm_ld_ok h2
  obtain ⟨x, rfl⟩ := q2 rfl
  exact lv_aload_n hx hb hd rfl (cm_l_at hR.2.2.2.2 hv) (hk ws H locs ls hR)

noncomputable def cm_sto (ty : Nat) (n i nL : Nat) (S : cm_S) (k : cm_S → Prop) : Prop := match ty, S.2.2.1 with
  | 0, .int x :: st => i < nL ∧ k (S.1 + n, cm_st1 S.2.1 i (.int x), st, S.2.2.2)
  | 1, .long x :: st => i + 1 < nL ∧ k (S.1 + n, cm_st2 S.2.1 i (.long x), st, S.2.2.2)
  | 2, .ref x :: st => i < nL ∧ k (S.1 + n, cm_st1 S.2.1 i (.ref x), st, S.2.2.2)
  | _, _ => False
noncomputable def cm_istore : cm_O := (ev_istore.1, fun E P t S k => cm_sto 0 2 t.1.toNat P.2.2.2.2.1 S k)
theorem cm_istore_ok : cm_Snd cm_istore := by
  intro p l e R s m args below meth c cc Q D A adr ce sl E P t S i n cs X h1 hd hw h2 ws H locs ls hR
  obtain ⟨hx, hb, hml, hown, hts, hK, hA, hN, hcC, hcS, hf, hlc, hscr⟩ := X
  obtain ⟨pc, L, st, M⟩ := S
  have h1 : some ((.istore t.1.toNat : Instr), (2 : Nat), ([] : List Cond)) = some (i, n, cs) := h1
  cases h1
  obtain ⟨hP, hD, hS, hW, hL⟩ := hR
  cases st with
  | nil => exact h2.elim
  | cons v st' =>
    cases v with
    | int x =>
      exact lv_istore hx hb hd hL h2.1 (cm_st1_eq adr L t.1.toNat (.int x)) (fun ls' hl' => h2.2 ws H locs ls' ⟨hP, hD, hS, hW, hl'⟩)
    | _ => exact h2.elim

noncomputable def cm_istoren : cm_O := (ev_istoren.1, fun E P t S k => cm_sto 0 1 t.1.toNat P.2.2.2.2.1 S k)
theorem cm_istoren_ok : cm_Snd cm_istoren := by
  intro p l e R s m args below meth c cc Q D A adr ce sl E P t S i n cs X h1 hd hw h2 ws H locs ls hR
  obtain ⟨hx, hb, hml, hown, hts, hK, hA, hN, hcC, hcS, hf, hlc, hscr⟩ := X
  obtain ⟨pc, L, st, M⟩ := S
  have h1 : (if h : t.1.toNat < 4 then some ((.istore_n ⟨t.1.toNat, h⟩ : Instr), (1 : Nat), ([] : List Cond)) else none) = some (i, n, cs) := h1
  split at h1
  rotate_left
  · cases h1
  cases h1
  obtain ⟨hP, hD, hS, hW, hL⟩ := hR
  cases st with
  | nil => exact h2.elim
  | cons v st' =>
    cases v with
    | int x =>
      exact lv_istore_n hx hb hd rfl hL h2.1 (cm_st1_eq adr L t.1.toNat (.int x)) (fun ls' hl' => h2.2 ws H locs ls' ⟨hP, hD, hS, hW, hl'⟩)
    | _ => exact h2.elim

noncomputable def cm_lstore : cm_O := (ev_lstore.1, fun E P t S k => cm_sto 1 2 t.1.toNat P.2.2.2.2.1 S k)
theorem cm_lstore_ok : cm_Snd cm_lstore := by
  intro p l e R s m args below meth c cc Q D A adr ce sl E P t S i n cs X h1 hd hw h2 ws H locs ls hR
  obtain ⟨hx, hb, hml, hown, hts, hK, hA, hN, hcC, hcS, hf, hlc, hscr⟩ := X
  obtain ⟨pc, L, st, M⟩ := S
  have h1 : some ((.lstore t.1.toNat : Instr), (2 : Nat), ([] : List Cond)) = some (i, n, cs) := h1
  cases h1
  obtain ⟨hP, hD, hS, hW, hL⟩ := hR
  cases st with
  | nil => exact h2.elim
  | cons v st' =>
    cases v with
    | long x =>
      exact lv_lstore hx hb hd hL h2.1 (cm_st2_eq adr L t.1.toNat (.long x)) (fun ls' hl' => h2.2 ws H locs ls' ⟨hP, hD, hS, hW, hl'⟩)
    | _ => exact h2.elim

noncomputable def cm_lstoren : cm_O := (ev_lstoren.1, fun E P t S k => cm_sto 1 1 t.1.toNat P.2.2.2.2.1 S k)
theorem cm_lstoren_ok : cm_Snd cm_lstoren := by
  intro p l e R s m args below meth c cc Q D A adr ce sl E P t S i n cs X h1 hd hw h2 ws H locs ls hR
  obtain ⟨hx, hb, hml, hown, hts, hK, hA, hN, hcC, hcS, hf, hlc, hscr⟩ := X
  obtain ⟨pc, L, st, M⟩ := S
  have h1 : (if h : t.1.toNat < 4 then some ((.lstore_n ⟨t.1.toNat, h⟩ : Instr), (1 : Nat), ([] : List Cond)) else none) = some (i, n, cs) := h1
  split at h1
  rotate_left
  · cases h1
  cases h1
  obtain ⟨hP, hD, hS, hW, hL⟩ := hR
  cases st with
  | nil => exact h2.elim
  | cons v st' =>
    cases v with
    | long x =>
      exact lv_lstore_n hx hb hd rfl hL h2.1 (cm_st2_eq adr L t.1.toNat (.long x)) (fun ls' hl' => h2.2 ws H locs ls' ⟨hP, hD, hS, hW, hl'⟩)
    | _ => exact h2.elim

noncomputable def cm_astore : cm_O := (ev_astore.1, fun E P t S k => cm_sto 2 2 t.1.toNat P.2.2.2.2.1 S k)
theorem cm_astore_ok : cm_Snd cm_astore := by
  intro p l e R s m args below meth c cc Q D A adr ce sl E P t S i n cs X h1 hd hw h2 ws H locs ls hR
  obtain ⟨hx, hb, hml, hown, hts, hK, hA, hN, hcC, hcS, hf, hlc, hscr⟩ := X
  obtain ⟨pc, L, st, M⟩ := S
  have h1 : some ((.astore t.1.toNat : Instr), (2 : Nat), ([] : List Cond)) = some (i, n, cs) := h1
  cases h1
  obtain ⟨hP, hD, hS, hW, hL⟩ := hR
  cases st with
  | nil => exact h2.elim
  | cons v st' =>
    cases v with
    | ref x =>
      exact lv_astore hx hb hd hL h2.1 (cm_st1_eq adr L t.1.toNat (.ref x)) (fun ls' hl' => h2.2 ws H locs ls' ⟨hP, hD, hS, hW, hl'⟩)
    | _ => exact h2.elim

noncomputable def cm_astoren : cm_O := (ev_astoren.1, fun E P t S k => cm_sto 2 1 t.1.toNat P.2.2.2.2.1 S k)
theorem cm_astoren_ok : cm_Snd cm_astoren := by
  intro p l e R s m args below meth c cc Q D A adr ce sl E P t S i n cs X h1 hd hw h2 ws H locs ls hR
  obtain ⟨hx, hb, hml, hown, hts, hK, hA, hN, hcC, hcS, hf, hlc, hscr⟩ := X
  obtain ⟨pc, L, st, M⟩ := S
  have h1 : (if h : t.1.toNat < 4 then some ((.astore_n ⟨t.1.toNat, h⟩ : Instr), (1 : Nat), ([] : List Cond)) else none) = some (i, n, cs) := h1
  split at h1
  rotate_left
  · cases h1
  cases h1
  obtain ⟨hP, hD, hS, hW, hL⟩ := hR
  cases st with
  | nil => exact h2.elim
  | cons v st' =>
    cases v with
    | ref x =>
      exact lv_astore_n hx hb hd rfl hL h2.1 (cm_st1_eq adr L t.1.toNat (.ref x)) (fun ls' hl' => h2.2 ws H locs ls' ⟨hP, hD, hS, hW, hl'⟩)
    | _ => exact h2.elim

noncomputable def cm_iadd : cm_O := (ev_iadd.1, fun E P t S k => match S.2.2.1 with
  | .int y :: .int x :: st => k (cm_adv S 1 (.int (x + y) :: st))
  | _ => False)
theorem cm_iadd_ok : cm_Snd cm_iadd := by
  intro p l e R s m args below meth c cc Q D A adr ce sl E P t S i n cs X h1 hd hw h2 ws H locs ls hR
  obtain ⟨hx, hb, hml, hown, hts, hK, hA, hN, hcC, hcS, hf, hlc, hscr⟩ := X
  obtain ⟨pc, L, st, M⟩ := S
  have h1 : some ((.iadd : Instr), (1 : Nat), ([] : List Cond)) = some (i, n, cs) := h1
  cases h1
  unfold cm_iadd at h2
  dsimp only at h2
  split at h2
  · exact lv_iadd hx hb hd (h2 ws H locs ls hR)
  · exact h2.elim

noncomputable def cm_isub : cm_O := (ev_isub.1, fun E P t S k => match S.2.2.1 with
  | .int y :: .int x :: st => k (cm_adv S 1 (.int (x - y) :: st))
  | _ => False)
theorem cm_isub_ok : cm_Snd cm_isub := by
  intro p l e R s m args below meth c cc Q D A adr ce sl E P t S i n cs X h1 hd hw h2 ws H locs ls hR
  obtain ⟨hx, hb, hml, hown, hts, hK, hA, hN, hcC, hcS, hf, hlc, hscr⟩ := X
  obtain ⟨pc, L, st, M⟩ := S
  have h1 : some ((.isub : Instr), (1 : Nat), ([] : List Cond)) = some (i, n, cs) := h1
  cases h1
  unfold cm_isub at h2
  dsimp only at h2
  split at h2
  · exact lv_isub hx hb hd (h2 ws H locs ls hR)
  · exact h2.elim

noncomputable def cm_imul : cm_O := (ev_imul.1, fun E P t S k => match S.2.2.1 with
  | .int y :: .int x :: st => k (cm_adv S 1 (.int (x * y) :: st))
  | _ => False)
theorem cm_imul_ok : cm_Snd cm_imul := by
  intro p l e R s m args below meth c cc Q D A adr ce sl E P t S i n cs X h1 hd hw h2 ws H locs ls hR
  obtain ⟨hx, hb, hml, hown, hts, hK, hA, hN, hcC, hcS, hf, hlc, hscr⟩ := X
  obtain ⟨pc, L, st, M⟩ := S
  have h1 : some ((.imul : Instr), (1 : Nat), ([] : List Cond)) = some (i, n, cs) := h1
  cases h1
  unfold cm_imul at h2
  dsimp only at h2
  split at h2
  · exact lv_imul hx hb hd (h2 ws H locs ls hR)
  · exact h2.elim

noncomputable def cm_iand : cm_O := (ev_iand.1, fun E P t S k => match S.2.2.1 with
  | .int y :: .int x :: st => k (cm_adv S 1 (.int (x &&& y) :: st))
  | _ => False)
theorem cm_iand_ok : cm_Snd cm_iand := by
  intro p l e R s m args below meth c cc Q D A adr ce sl E P t S i n cs X h1 hd hw h2 ws H locs ls hR
  obtain ⟨hx, hb, hml, hown, hts, hK, hA, hN, hcC, hcS, hf, hlc, hscr⟩ := X
  obtain ⟨pc, L, st, M⟩ := S
  have h1 : some ((.iand : Instr), (1 : Nat), ([] : List Cond)) = some (i, n, cs) := h1
  cases h1
  unfold cm_iand at h2
  dsimp only at h2
  split at h2
  · exact lv_iand hx hb hd (h2 ws H locs ls hR)
  · exact h2.elim

noncomputable def cm_ior : cm_O := (ev_ior.1, fun E P t S k => match S.2.2.1 with
  | .int y :: .int x :: st => k (cm_adv S 1 (.int (x ||| y) :: st))
  | _ => False)
theorem cm_ior_ok : cm_Snd cm_ior := by
  intro p l e R s m args below meth c cc Q D A adr ce sl E P t S i n cs X h1 hd hw h2 ws H locs ls hR
  obtain ⟨hx, hb, hml, hown, hts, hK, hA, hN, hcC, hcS, hf, hlc, hscr⟩ := X
  obtain ⟨pc, L, st, M⟩ := S
  have h1 : some ((.ior : Instr), (1 : Nat), ([] : List Cond)) = some (i, n, cs) := h1
  cases h1
  unfold cm_ior at h2
  dsimp only at h2
  split at h2
  · exact lv_ior hx hb hd (h2 ws H locs ls hR)
  · exact h2.elim

noncomputable def cm_ixor : cm_O := (ev_ixor.1, fun E P t S k => match S.2.2.1 with
  | .int y :: .int x :: st => k (cm_adv S 1 (.int (x ^^^ y) :: st))
  | _ => False)
theorem cm_ixor_ok : cm_Snd cm_ixor := by
  intro p l e R s m args below meth c cc Q D A adr ce sl E P t S i n cs X h1 hd hw h2 ws H locs ls hR
  obtain ⟨hx, hb, hml, hown, hts, hK, hA, hN, hcC, hcS, hf, hlc, hscr⟩ := X
  obtain ⟨pc, L, st, M⟩ := S
  have h1 : some ((.ixor : Instr), (1 : Nat), ([] : List Cond)) = some (i, n, cs) := h1
  cases h1
  unfold cm_ixor at h2
  dsimp only at h2
  split at h2
  · exact lv_ixor hx hb hd (h2 ws H locs ls hR)
  · exact h2.elim

noncomputable def cm_ishl : cm_O := (ev_ishl.1, fun E P t S k => match S.2.2.1 with
  | .int y :: .int x :: st => k (cm_adv S 1 (.int (x <<< (y &&& 31)) :: st))
  | _ => False)
theorem cm_ishl_ok : cm_Snd cm_ishl := by
  intro p l e R s m args below meth c cc Q D A adr ce sl E P t S i n cs X h1 hd hw h2 ws H locs ls hR
  obtain ⟨hx, hb, hml, hown, hts, hK, hA, hN, hcC, hcS, hf, hlc, hscr⟩ := X
  obtain ⟨pc, L, st, M⟩ := S
  have h1 : some ((.ishl : Instr), (1 : Nat), ([] : List Cond)) = some (i, n, cs) := h1
  cases h1
  unfold cm_ishl at h2
  dsimp only at h2
  split at h2
  · exact lv_ishl hx hb hd (h2 ws H locs ls hR)
  · exact h2.elim

noncomputable def cm_ishr : cm_O := (ev_ishr.1, fun E P t S k => match S.2.2.1 with
  | .int y :: .int x :: st => k (cm_adv S 1 (.int (x >>> (y &&& 31)) :: st))
  | _ => False)
theorem cm_ishr_ok : cm_Snd cm_ishr := by
  intro p l e R s m args below meth c cc Q D A adr ce sl E P t S i n cs X h1 hd hw h2 ws H locs ls hR
  obtain ⟨hx, hb, hml, hown, hts, hK, hA, hN, hcC, hcS, hf, hlc, hscr⟩ := X
  obtain ⟨pc, L, st, M⟩ := S
  have h1 : some ((.ishr : Instr), (1 : Nat), ([] : List Cond)) = some (i, n, cs) := h1
  cases h1
  unfold cm_ishr at h2
  dsimp only at h2
  split at h2
  · exact lv_ishr hx hb hd (h2 ws H locs ls hR)
  · exact h2.elim

noncomputable def cm_iushr : cm_O := (ev_iushr.1, fun E P t S k => match S.2.2.1 with
  | .int y :: .int x :: st => k (cm_adv S 1 (.int ((x.toUInt32 >>> (y.toUInt32 &&& Int32.toUInt32 31)).toInt32) :: st))
  | _ => False)
theorem cm_iushr_ok : cm_Snd cm_iushr := by
  intro p l e R s m args below meth c cc Q D A adr ce sl E P t S i n cs X h1 hd hw h2 ws H locs ls hR
  obtain ⟨hx, hb, hml, hown, hts, hK, hA, hN, hcC, hcS, hf, hlc, hscr⟩ := X
  obtain ⟨pc, L, st, M⟩ := S
  have h1 : some ((.iushr : Instr), (1 : Nat), ([] : List Cond)) = some (i, n, cs) := h1
  cases h1
  unfold cm_iushr at h2
  dsimp only at h2
  split at h2
  · exact lv_iushr hx hb hd rfl (h2 ws H locs ls hR)
  · exact h2.elim

noncomputable def cm_idiv : cm_O := (ev_idiv.1, fun E P t S k => match S.2.2.1 with
  | .int y :: .int x :: st => ¬ y = 0 ∧ k (cm_adv S 1 (.int (x / y) :: st))
  | _ => False)
theorem cm_idiv_ok : cm_Snd cm_idiv := by
  intro p l e R s m args below meth c cc Q D A adr ce sl E P t S i n cs X h1 hd hw h2 ws H locs ls hR
  obtain ⟨hx, hb, hml, hown, hts, hK, hA, hN, hcC, hcS, hf, hlc, hscr⟩ := X
  obtain ⟨pc, L, st, M⟩ := S
  have h1 : some ((.idiv : Instr), (1 : Nat), ([] : List Cond)) = some (i, n, cs) := h1
  cases h1
  unfold cm_idiv at h2
  dsimp only at h2
  split at h2
  · exact lv_idiv hx hb hd h2.1 (h2.2 ws H locs ls hR)
  · exact h2.elim

noncomputable def cm_irem : cm_O := (ev_irem.1, fun E P t S k => match S.2.2.1 with
  | .int y :: .int x :: st => ¬ y = 0 ∧ k (cm_adv S 1 (.int (x - x / y * y) :: st))
  | _ => False)
theorem cm_irem_ok : cm_Snd cm_irem := by
  intro p l e R s m args below meth c cc Q D A adr ce sl E P t S i n cs X h1 hd hw h2 ws H locs ls hR
  obtain ⟨hx, hb, hml, hown, hts, hK, hA, hN, hcC, hcS, hf, hlc, hscr⟩ := X
  obtain ⟨pc, L, st, M⟩ := S
  have h1 : some ((.irem : Instr), (1 : Nat), ([] : List Cond)) = some (i, n, cs) := h1
  cases h1
  unfold cm_irem at h2
  dsimp only at h2
  split at h2
  · exact lv_irem hx hb hd h2.1 (h2.2 ws H locs ls hR)
  · exact h2.elim

noncomputable def cm_ineg : cm_O := (ev_ineg.1, fun E P t S k => match S.2.2.1 with
  | .int x :: st => k (cm_adv S 1 (.int (-x) :: st))
  | _ => False)
theorem cm_ineg_ok : cm_Snd cm_ineg := by
  intro p l e R s m args below meth c cc Q D A adr ce sl E P t S i n cs X h1 hd hw h2 ws H locs ls hR
  obtain ⟨hx, hb, hml, hown, hts, hK, hA, hN, hcC, hcS, hf, hlc, hscr⟩ := X
  obtain ⟨pc, L, st, M⟩ := S
  have h1 : some ((.ineg : Instr), (1 : Nat), ([] : List Cond)) = some (i, n, cs) := h1
  cases h1
  unfold cm_ineg at h2
  dsimp only at h2
  split at h2
  · exact lv_ineg hx hb hd (h2 ws H locs ls hR)
  · exact h2.elim

noncomputable def cm_i2b : cm_O := (ev_i2b.1, fun E P t S k => match S.2.2.1 with
  | .int x :: st => k (cm_adv S 1 (.int (x.toInt8.toInt32) :: st))
  | _ => False)
theorem cm_i2b_ok : cm_Snd cm_i2b := by
  intro p l e R s m args below meth c cc Q D A adr ce sl E P t S i n cs X h1 hd hw h2 ws H locs ls hR
  obtain ⟨hx, hb, hml, hown, hts, hK, hA, hN, hcC, hcS, hf, hlc, hscr⟩ := X
  obtain ⟨pc, L, st, M⟩ := S
  have h1 : some ((.i2b : Instr), (1 : Nat), ([] : List Cond)) = some (i, n, cs) := h1
  cases h1
  unfold cm_i2b at h2
  dsimp only at h2
  split at h2
  · exact lv_i2b hx hb hd rfl (h2 ws H locs ls hR)
  · exact h2.elim

noncomputable def cm_i2c : cm_O := (ev_i2c.1, fun E P t S k => match S.2.2.1 with
  | .int x :: st => k (cm_adv S 1 (.int ((x.toUInt32 % 65536).toInt32) :: st))
  | _ => False)
theorem cm_i2c_ok : cm_Snd cm_i2c := by
  intro p l e R s m args below meth c cc Q D A adr ce sl E P t S i n cs X h1 hd hw h2 ws H locs ls hR
  obtain ⟨hx, hb, hml, hown, hts, hK, hA, hN, hcC, hcS, hf, hlc, hscr⟩ := X
  obtain ⟨pc, L, st, M⟩ := S
  have h1 : some ((.i2c : Instr), (1 : Nat), ([] : List Cond)) = some (i, n, cs) := h1
  cases h1
  unfold cm_i2c at h2
  dsimp only at h2
  split at h2
  · exact lv_i2c hx hb hd rfl (h2 ws H locs ls hR)
  · exact h2.elim

noncomputable def cm_i2l : cm_O := (ev_i2l.1, fun E P t S k => match S.2.2.1 with
  | .int x :: st => k (cm_adv S 1 (.long x.toInt64 :: st))
  | _ => False)
theorem cm_i2l_ok : cm_Snd cm_i2l := by
  intro p l e R s m args below meth c cc Q D A adr ce sl E P t S i n cs X h1 hd hw h2 ws H locs ls hR
  obtain ⟨hx, hb, hml, hown, hts, hK, hA, hN, hcC, hcS, hf, hlc, hscr⟩ := X
  obtain ⟨pc, L, st, M⟩ := S
  have h1 : some ((.i2l : Instr), (1 : Nat), ([] : List Cond)) = some (i, n, cs) := h1
  cases h1
  unfold cm_i2l at h2
  dsimp only at h2
  split at h2
  · exact lv_i2l hx hb hd rfl (h2 ws H locs ls hR)
  · exact h2.elim

noncomputable def cm_lcmp : cm_O := (ev_lcmp.1, fun E P t S k => match S.2.2.1 with
  | .long y :: .long x :: st => k (cm_adv S 1 (.int (lg_cmp x y) :: st))
  | _ => False)
theorem cm_lcmp_ok : cm_Snd cm_lcmp := by
  intro p l e R s m args below meth c cc Q D A adr ce sl E P t S i n cs X h1 hd hw h2 ws H locs ls hR
  obtain ⟨hx, hb, hml, hown, hts, hK, hA, hN, hcC, hcS, hf, hlc, hscr⟩ := X
  obtain ⟨pc, L, st, M⟩ := S
  have h1 : some ((.lcmp : Instr), (1 : Nat), ([] : List Cond)) = some (i, n, cs) := h1
  cases h1
  unfold cm_lcmp at h2
  dsimp only at h2
  split at h2
  · exact W.lcmp hx hb hd (h2 ws H locs ls hR)
  · exact h2.elim

noncomputable def cm_ladd : cm_O := (ev_ladd.1, fun E P t S k => match S.2.2.1 with
  | .long y :: .long x :: st => k (cm_adv S 1 (.long (x + y) :: st))
  | _ => False)
theorem cm_ladd_ok : cm_Snd cm_ladd := by
  intro p l e R s m args below meth c cc Q D A adr ce sl E P t S i n cs X h1 hd hw h2 ws H locs ls hR
  obtain ⟨hx, hb, hml, hown, hts, hK, hA, hN, hcC, hcS, hf, hlc, hscr⟩ := X
  obtain ⟨pc, L, st, M⟩ := S
  have h1 : some ((.ladd : Instr), (1 : Nat), ([] : List Cond)) = some (i, n, cs) := h1
  cases h1
  unfold cm_ladd at h2
  dsimp only at h2
  split at h2
  · exact lv_ladd hx hb hd (h2 ws H locs ls hR)
  · exact h2.elim

noncomputable def cm_lsub : cm_O := (ev_lsub.1, fun E P t S k => match S.2.2.1 with
  | .long y :: .long x :: st => k (cm_adv S 1 (.long (x - y) :: st))
  | _ => False)
theorem cm_lsub_ok : cm_Snd cm_lsub := by
  intro p l e R s m args below meth c cc Q D A adr ce sl E P t S i n cs X h1 hd hw h2 ws H locs ls hR
  obtain ⟨hx, hb, hml, hown, hts, hK, hA, hN, hcC, hcS, hf, hlc, hscr⟩ := X
  obtain ⟨pc, L, st, M⟩ := S
  have h1 : some ((.lsub : Instr), (1 : Nat), ([] : List Cond)) = some (i, n, cs) := h1
  cases h1
  unfold cm_lsub at h2
  dsimp only at h2
  split at h2
  · exact lv_lsub hx hb hd (h2 ws H locs ls hR)
  · exact h2.elim

noncomputable def cm_lmul : cm_O := (ev_lmul.1, fun E P t S k => match S.2.2.1 with
  | .long y :: .long x :: st => k (cm_adv S 1 (.long (x * y) :: st))
  | _ => False)
theorem cm_lmul_ok : cm_Snd cm_lmul := by
  intro p l e R s m args below meth c cc Q D A adr ce sl E P t S i n cs X h1 hd hw h2 ws H locs ls hR
  obtain ⟨hx, hb, hml, hown, hts, hK, hA, hN, hcC, hcS, hf, hlc, hscr⟩ := X
  obtain ⟨pc, L, st, M⟩ := S
  have h1 : some ((.lmul : Instr), (1 : Nat), ([] : List Cond)) = some (i, n, cs) := h1
  cases h1
  unfold cm_lmul at h2
  dsimp only at h2
  split at h2
  · exact lv_lmul hx hb hd (h2 ws H locs ls hR)
  · exact h2.elim

noncomputable def cm_ldiv : cm_O := (ev_ldiv.1, fun E P t S k => match S.2.2.1 with
  | .long y :: .long x :: st => ¬ y = 0 ∧ k (cm_adv S 1 (.long (x / y) :: st))
  | _ => False)
theorem cm_ldiv_ok : cm_Snd cm_ldiv := by
  intro p l e R s m args below meth c cc Q D A adr ce sl E P t S i n cs X h1 hd hw h2 ws H locs ls hR
  obtain ⟨hx, hb, hml, hown, hts, hK, hA, hN, hcC, hcS, hf, hlc, hscr⟩ := X
  obtain ⟨pc, L, st, M⟩ := S
  have h1 : some ((.ldiv : Instr), (1 : Nat), ([] : List Cond)) = some (i, n, cs) := h1
  cases h1
  unfold cm_ldiv at h2
  dsimp only at h2
  split at h2
  · exact lv_ldiv hx hb hd h2.1 (h2.2 ws H locs ls hR)
  · exact h2.elim

noncomputable def cm_lrem : cm_O := (ev_lrem.1, fun E P t S k => match S.2.2.1 with
  | .long y :: .long x :: st => ¬ y = 0 ∧ k (cm_adv S 1 (.long (x - x / y * y) :: st))
  | _ => False)
theorem cm_lrem_ok : cm_Snd cm_lrem := by
  intro p l e R s m args below meth c cc Q D A adr ce sl E P t S i n cs X h1 hd hw h2 ws H locs ls hR
  obtain ⟨hx, hb, hml, hown, hts, hK, hA, hN, hcC, hcS, hf, hlc, hscr⟩ := X
  obtain ⟨pc, L, st, M⟩ := S
  have h1 : some ((.lrem : Instr), (1 : Nat), ([] : List Cond)) = some (i, n, cs) := h1
  cases h1
  unfold cm_lrem at h2
  dsimp only at h2
  split at h2
  · exact lv_lrem hx hb hd h2.1 (h2.2 ws H locs ls hR)
  · exact h2.elim

noncomputable def cm_dup : cm_O := (ev_dup.1, fun E P t S k => match S.2.2.1 with
  | x :: st => x.category = 1 ∧ k (cm_adv S 1 (x :: x :: st))
  | _ => False)
theorem cm_dup_ok : cm_Snd cm_dup := by
  intro p l e R s m args below meth c cc Q D A adr ce sl E P t S i n cs X h1 hd hw h2 ws H locs ls hR
  obtain ⟨hx, hb, hml, hown, hts, hK, hA, hN, hcC, hcS, hf, hlc, hscr⟩ := X
  obtain ⟨pc, L, st, M⟩ := S
  have h1 : some ((.dup : Instr), (1 : Nat), ([] : List Cond)) = some (i, n, cs) := h1
  cases h1
  unfold cm_dup at h2
  dsimp only at h2
  split at h2
  · exact lv_dup hx hb hd (by rw [cm_v_cat]; exact h2.1) (h2.2 ws H locs ls hR)
  · exact h2.elim

noncomputable def cm_pop : cm_O := (ev_pop.1, fun E P t S k => match S.2.2.1 with
  | x :: st => x.category = 1 ∧ k (cm_adv S 1 st)
  | _ => False)
theorem cm_pop_ok : cm_Snd cm_pop := by
  intro p l e R s m args below meth c cc Q D A adr ce sl E P t S i n cs X h1 hd hw h2 ws H locs ls hR
  obtain ⟨hx, hb, hml, hown, hts, hK, hA, hN, hcC, hcS, hf, hlc, hscr⟩ := X
  obtain ⟨pc, L, st, M⟩ := S
  have h1 : some ((.pop : Instr), (1 : Nat), ([] : List Cond)) = some (i, n, cs) := h1
  cases h1
  unfold cm_pop at h2
  dsimp only at h2
  split at h2
  · exact lv_pop hx hb hd (by rw [cm_v_cat]; exact h2.1) (h2.2 ws H locs ls hR)
  · exact h2.elim

noncomputable def cm_pop2 : cm_O := ((fun _ _ => some (.pop2, 1, [])), fun E P t S k => match S.2.2.1 with
  | .long x :: st => k (cm_adv S 1 st)
  | _ => False)
theorem cm_pop2_ok : cm_Snd cm_pop2 := by
  intro p l e R s m args below meth c cc Q D A adr ce sl E P t S i n cs X h1 hd hw h2 ws H locs ls hR
  obtain ⟨hx, hb, hml, hown, hts, hK, hA, hN, hcC, hcS, hf, hlc, hscr⟩ := X
  obtain ⟨pc, L, st, M⟩ := S
  have h1 : some ((.pop2 : Instr), (1 : Nat), ([] : List Cond)) = some (i, n, cs) := h1
  cases h1
  unfold cm_pop2 at h2
  dsimp only at h2
  split at h2
  · exact lv_pop2_2 (va := .long _) hx hb hd rfl (h2 ws H locs ls hR)
  · exact h2.elim

noncomputable def cm_dup2 : cm_O := (ev_dup2.1, fun E P t S k => match S.2.2.1 with
  | x :: y :: st => x.category = 1 ∧ y.category = 1 ∧ k (cm_adv S 1 (x :: y :: x :: y :: st))
  | _ => False)
theorem cm_dup2_ok : cm_Snd cm_dup2 := by
  intro p l e R s m args below meth c cc Q D A adr ce sl E P t S i n cs X h1 hd hw h2 ws H locs ls hR
  obtain ⟨hx, hb, hml, hown, hts, hK, hA, hN, hcC, hcS, hf, hlc, hscr⟩ := X
  obtain ⟨pc, L, st, M⟩ := S
  have h1 : some ((.dup2 : Instr), (1 : Nat), ([] : List Cond)) = some (i, n, cs) := h1
  cases h1
  unfold cm_dup2 at h2
  dsimp only at h2
  split at h2
  · exact lv_dup2_11 hx hb hd (by rw [cm_v_cat]; exact h2.1) (by rw [cm_v_cat]; exact h2.2.1) (h2.2.2 ws H locs ls hR)
  · exact h2.elim

noncomputable def cm_iinc : cm_O := (ev_iinc.1, fun E P t S k => match cm_look S.2.1 t.1.toNat with
  | some (.int x) => t.1.toNat < P.2.2.2.2.1 ∧ k (S.1 + 3, cm_st1 S.2.1 t.1.toNat (.int (x + Int32.ofInt t.2.1)), S.2.2)
  | _ => False)
theorem cm_iinc_ok : cm_Snd cm_iinc := by
  intro p l e R s m args below meth c cc Q D A adr ce sl E P t S i n cs X h1 hd hw h2 ws H locs ls hR
  obtain ⟨hx, hb, hml, hown, hts, hK, hA, hN, hcC, hcS, hf, hlc, hscr⟩ := X
  obtain ⟨pc, L, st, M⟩ := S
  have h1 : some ((.iinc t.1.toNat t.2.1 : Instr), (3 : Nat), ([] : List Cond)) = some (i, n, cs) := h1
  cases h1
  unfold cm_iinc at h2
  dsimp only at h2
  split at h2
  · rename_i x ha
    obtain ⟨hP, hD, hS, hW, hL⟩ := hR
    obtain ⟨q, hq⟩ := List.getElem?_of_mem (List.mem_map.mpr ⟨_, cm_look_mem ha, rfl⟩ : (t.1.toNat, cm_v adr (.int x)) ∈ L.map (fun q => (q.1, cm_v adr q.2)))
    exact lv_iinc hx hb hd hL hq rfl h2.1 (cm_st1_eq adr L t.1.toNat (.int (x + Int32.ofInt t.2.1))) (fun ls' hl' => h2.2 ws H locs ls' ⟨hP, hD, hS, hW, hl'⟩)
  · exact h2.elim

noncomputable def cm_icmp_eq : cm_O := (ev_icmp_eq.1, fun E P t S k => match S.2.2.1 with
  | .int y :: .int x :: st => 0 ≤ (S.1 : Int) + t.1 ∧ (ev_cmp 0 x y = true → k (((S.1 : Int) + t.1).toNat, S.2.1, st, S.2.2.2)) ∧ (ev_cmp 0 x y = false → k (S.1 + 3, S.2.1, st, S.2.2.2))
  | _ => False)
theorem cm_icmp_eq_ok : cm_Snd cm_icmp_eq := by
  intro p l e R s m args below meth c cc Q D A adr ce sl E P t S i n cs X h1 hd hw h2 ws H locs ls hR
  obtain ⟨hx, hb, hml, hown, hts, hK, hA, hN, hcC, hcS, hf, hlc, hscr⟩ := X
  obtain ⟨pc, L, st, M⟩ := S
  have h1 : some ((.if_icmp .eq t.1 : Instr), (3 : Nat), ([] : List Cond)) = some (i, n, cs) := h1
  cases h1
  unfold cm_icmp_eq at h2
  dsimp only at h2
  split at h2
  · obtain ⟨h0, k1, k2⟩ := h2
    exact lv_icmp_eq (tgt := ((pc : Int) + t.1).toNat) hx hb hd (by omega) (fun q => k1 (by simpa [ev_cmp] using q) ws H locs ls hR) (fun q => k2 (by simpa [ev_cmp] using q) ws H locs ls hR)
  · exact h2.elim

noncomputable def cm_if_eq : cm_O := (ev_if_eq.1, fun E P t S k => match S.2.2.1 with
  | .int x :: st => 0 ≤ (S.1 : Int) + t.1 ∧ (ev_cmp 0 x 0 = true → k (((S.1 : Int) + t.1).toNat, S.2.1, st, S.2.2.2)) ∧ (ev_cmp 0 x 0 = false → k (S.1 + 3, S.2.1, st, S.2.2.2))
  | _ => False)
theorem cm_if_eq_ok : cm_Snd cm_if_eq := by
  intro p l e R s m args below meth c cc Q D A adr ce sl E P t S i n cs X h1 hd hw h2 ws H locs ls hR
  obtain ⟨hx, hb, hml, hown, hts, hK, hA, hN, hcC, hcS, hf, hlc, hscr⟩ := X
  obtain ⟨pc, L, st, M⟩ := S
  have h1 : some ((.ifCond .eq t.1 : Instr), (3 : Nat), ([] : List Cond)) = some (i, n, cs) := h1
  cases h1
  unfold cm_if_eq at h2
  dsimp only at h2
  split at h2
  · obtain ⟨h0, k1, k2⟩ := h2
    exact lv_if_eq (tgt := ((pc : Int) + t.1).toNat) hx hb hd (by omega) (fun q => k1 (by simpa [ev_cmp] using q) ws H locs ls hR) (fun q => k2 (by simpa [ev_cmp] using q) ws H locs ls hR)
  · exact h2.elim

noncomputable def cm_icmp_ne : cm_O := (ev_icmp_ne.1, fun E P t S k => match S.2.2.1 with
  | .int y :: .int x :: st => 0 ≤ (S.1 : Int) + t.1 ∧ (ev_cmp 1 x y = true → k (((S.1 : Int) + t.1).toNat, S.2.1, st, S.2.2.2)) ∧ (ev_cmp 1 x y = false → k (S.1 + 3, S.2.1, st, S.2.2.2))
  | _ => False)
theorem cm_icmp_ne_ok : cm_Snd cm_icmp_ne := by
  intro p l e R s m args below meth c cc Q D A adr ce sl E P t S i n cs X h1 hd hw h2 ws H locs ls hR
  obtain ⟨hx, hb, hml, hown, hts, hK, hA, hN, hcC, hcS, hf, hlc, hscr⟩ := X
  obtain ⟨pc, L, st, M⟩ := S
  have h1 : some ((.if_icmp .ne t.1 : Instr), (3 : Nat), ([] : List Cond)) = some (i, n, cs) := h1
  cases h1
  unfold cm_icmp_ne at h2
  dsimp only at h2
  split at h2
  · obtain ⟨h0, k1, k2⟩ := h2
    exact lv_icmp_ne (tgt := ((pc : Int) + t.1).toNat) hx hb hd (by omega) (fun q => k1 (by simpa [ev_cmp] using q) ws H locs ls hR) (fun q => k2 (by simpa [ev_cmp] using q) ws H locs ls hR)
  · exact h2.elim

noncomputable def cm_if_ne : cm_O := (ev_if_ne.1, fun E P t S k => match S.2.2.1 with
  | .int x :: st => 0 ≤ (S.1 : Int) + t.1 ∧ (ev_cmp 1 x 0 = true → k (((S.1 : Int) + t.1).toNat, S.2.1, st, S.2.2.2)) ∧ (ev_cmp 1 x 0 = false → k (S.1 + 3, S.2.1, st, S.2.2.2))
  | _ => False)
theorem cm_if_ne_ok : cm_Snd cm_if_ne := by
  intro p l e R s m args below meth c cc Q D A adr ce sl E P t S i n cs X h1 hd hw h2 ws H locs ls hR
  obtain ⟨hx, hb, hml, hown, hts, hK, hA, hN, hcC, hcS, hf, hlc, hscr⟩ := X
  obtain ⟨pc, L, st, M⟩ := S
  have h1 : some ((.ifCond .ne t.1 : Instr), (3 : Nat), ([] : List Cond)) = some (i, n, cs) := h1
  cases h1
  unfold cm_if_ne at h2
  dsimp only at h2
  split at h2
  · obtain ⟨h0, k1, k2⟩ := h2
    exact lv_if_ne (tgt := ((pc : Int) + t.1).toNat) hx hb hd (by omega) (fun q => k1 (by simpa [ev_cmp] using q) ws H locs ls hR) (fun q => k2 (by simpa [ev_cmp] using q) ws H locs ls hR)
  · exact h2.elim

noncomputable def cm_icmp_lt : cm_O := (ev_icmp_lt.1, fun E P t S k => match S.2.2.1 with
  | .int y :: .int x :: st => 0 ≤ (S.1 : Int) + t.1 ∧ (ev_cmp 2 x y = true → k (((S.1 : Int) + t.1).toNat, S.2.1, st, S.2.2.2)) ∧ (ev_cmp 2 x y = false → k (S.1 + 3, S.2.1, st, S.2.2.2))
  | _ => False)
theorem cm_icmp_lt_ok : cm_Snd cm_icmp_lt := by
  intro p l e R s m args below meth c cc Q D A adr ce sl E P t S i n cs X h1 hd hw h2 ws H locs ls hR
  obtain ⟨hx, hb, hml, hown, hts, hK, hA, hN, hcC, hcS, hf, hlc, hscr⟩ := X
  obtain ⟨pc, L, st, M⟩ := S
  have h1 : some ((.if_icmp .lt t.1 : Instr), (3 : Nat), ([] : List Cond)) = some (i, n, cs) := h1
  cases h1
  unfold cm_icmp_lt at h2
  dsimp only at h2
  split at h2
  · obtain ⟨h0, k1, k2⟩ := h2
    exact lv_icmp_lt (tgt := ((pc : Int) + t.1).toNat) hx hb hd (by omega) (fun q => k1 (by simpa [ev_cmp] using q) ws H locs ls hR) (fun q => k2 (by simpa [ev_cmp] using q) ws H locs ls hR)
  · exact h2.elim

noncomputable def cm_if_lt : cm_O := (ev_if_lt.1, fun E P t S k => match S.2.2.1 with
  | .int x :: st => 0 ≤ (S.1 : Int) + t.1 ∧ (ev_cmp 2 x 0 = true → k (((S.1 : Int) + t.1).toNat, S.2.1, st, S.2.2.2)) ∧ (ev_cmp 2 x 0 = false → k (S.1 + 3, S.2.1, st, S.2.2.2))
  | _ => False)
theorem cm_if_lt_ok : cm_Snd cm_if_lt := by
  intro p l e R s m args below meth c cc Q D A adr ce sl E P t S i n cs X h1 hd hw h2 ws H locs ls hR
  obtain ⟨hx, hb, hml, hown, hts, hK, hA, hN, hcC, hcS, hf, hlc, hscr⟩ := X
  obtain ⟨pc, L, st, M⟩ := S
  have h1 : some ((.ifCond .lt t.1 : Instr), (3 : Nat), ([] : List Cond)) = some (i, n, cs) := h1
  cases h1
  unfold cm_if_lt at h2
  dsimp only at h2
  split at h2
  · obtain ⟨h0, k1, k2⟩ := h2
    exact lv_if_lt (tgt := ((pc : Int) + t.1).toNat) hx hb hd (by omega) (fun q => k1 (by simpa [ev_cmp] using q) ws H locs ls hR) (fun q => k2 (by simpa [ev_cmp] using q) ws H locs ls hR)
  · exact h2.elim

noncomputable def cm_icmp_ge : cm_O := (ev_icmp_ge.1, fun E P t S k => match S.2.2.1 with
  | .int y :: .int x :: st => 0 ≤ (S.1 : Int) + t.1 ∧ (ev_cmp 3 x y = true → k (((S.1 : Int) + t.1).toNat, S.2.1, st, S.2.2.2)) ∧ (ev_cmp 3 x y = false → k (S.1 + 3, S.2.1, st, S.2.2.2))
  | _ => False)
theorem cm_icmp_ge_ok : cm_Snd cm_icmp_ge := by
  intro p l e R s m args below meth c cc Q D A adr ce sl E P t S i n cs X h1 hd hw h2 ws H locs ls hR
  obtain ⟨hx, hb, hml, hown, hts, hK, hA, hN, hcC, hcS, hf, hlc, hscr⟩ := X
  obtain ⟨pc, L, st, M⟩ := S
  have h1 : some ((.if_icmp .ge t.1 : Instr), (3 : Nat), ([] : List Cond)) = some (i, n, cs) := h1
  cases h1
  unfold cm_icmp_ge at h2
  dsimp only at h2
  split at h2
  · obtain ⟨h0, k1, k2⟩ := h2
    exact lv_icmp_ge (tgt := ((pc : Int) + t.1).toNat) hx hb hd (by omega) (fun q => k1 (by simpa [ev_cmp] using q) ws H locs ls hR) (fun q => k2 (by simpa [ev_cmp] using q) ws H locs ls hR)
  · exact h2.elim

noncomputable def cm_if_ge : cm_O := (ev_if_ge.1, fun E P t S k => match S.2.2.1 with
  | .int x :: st => 0 ≤ (S.1 : Int) + t.1 ∧ (ev_cmp 3 x 0 = true → k (((S.1 : Int) + t.1).toNat, S.2.1, st, S.2.2.2)) ∧ (ev_cmp 3 x 0 = false → k (S.1 + 3, S.2.1, st, S.2.2.2))
  | _ => False)
theorem cm_if_ge_ok : cm_Snd cm_if_ge := by
  intro p l e R s m args below meth c cc Q D A adr ce sl E P t S i n cs X h1 hd hw h2 ws H locs ls hR
  obtain ⟨hx, hb, hml, hown, hts, hK, hA, hN, hcC, hcS, hf, hlc, hscr⟩ := X
  obtain ⟨pc, L, st, M⟩ := S
  have h1 : some ((.ifCond .ge t.1 : Instr), (3 : Nat), ([] : List Cond)) = some (i, n, cs) := h1
  cases h1
  unfold cm_if_ge at h2
  dsimp only at h2
  split at h2
  · obtain ⟨h0, k1, k2⟩ := h2
    exact lv_if_ge (tgt := ((pc : Int) + t.1).toNat) hx hb hd (by omega) (fun q => k1 (by simpa [ev_cmp] using q) ws H locs ls hR) (fun q => k2 (by simpa [ev_cmp] using q) ws H locs ls hR)
  · exact h2.elim

noncomputable def cm_icmp_gt : cm_O := (ev_icmp_gt.1, fun E P t S k => match S.2.2.1 with
  | .int y :: .int x :: st => 0 ≤ (S.1 : Int) + t.1 ∧ (ev_cmp 4 x y = true → k (((S.1 : Int) + t.1).toNat, S.2.1, st, S.2.2.2)) ∧ (ev_cmp 4 x y = false → k (S.1 + 3, S.2.1, st, S.2.2.2))
  | _ => False)
theorem cm_icmp_gt_ok : cm_Snd cm_icmp_gt := by
  intro p l e R s m args below meth c cc Q D A adr ce sl E P t S i n cs X h1 hd hw h2 ws H locs ls hR
  obtain ⟨hx, hb, hml, hown, hts, hK, hA, hN, hcC, hcS, hf, hlc, hscr⟩ := X
  obtain ⟨pc, L, st, M⟩ := S
  have h1 : some ((.if_icmp .gt t.1 : Instr), (3 : Nat), ([] : List Cond)) = some (i, n, cs) := h1
  cases h1
  unfold cm_icmp_gt at h2
  dsimp only at h2
  split at h2
  · obtain ⟨h0, k1, k2⟩ := h2
    exact lv_icmp_gt (tgt := ((pc : Int) + t.1).toNat) hx hb hd (by omega) (fun q => k1 (by simpa [ev_cmp] using q) ws H locs ls hR) (fun q => k2 (by simpa [ev_cmp] using q) ws H locs ls hR)
  · exact h2.elim

noncomputable def cm_if_gt : cm_O := (ev_if_gt.1, fun E P t S k => match S.2.2.1 with
  | .int x :: st => 0 ≤ (S.1 : Int) + t.1 ∧ (ev_cmp 4 x 0 = true → k (((S.1 : Int) + t.1).toNat, S.2.1, st, S.2.2.2)) ∧ (ev_cmp 4 x 0 = false → k (S.1 + 3, S.2.1, st, S.2.2.2))
  | _ => False)
theorem cm_if_gt_ok : cm_Snd cm_if_gt := by
  intro p l e R s m args below meth c cc Q D A adr ce sl E P t S i n cs X h1 hd hw h2 ws H locs ls hR
  obtain ⟨hx, hb, hml, hown, hts, hK, hA, hN, hcC, hcS, hf, hlc, hscr⟩ := X
  obtain ⟨pc, L, st, M⟩ := S
  have h1 : some ((.ifCond .gt t.1 : Instr), (3 : Nat), ([] : List Cond)) = some (i, n, cs) := h1
  cases h1
  unfold cm_if_gt at h2
  dsimp only at h2
  split at h2
  · obtain ⟨h0, k1, k2⟩ := h2
    exact lv_if_gt (tgt := ((pc : Int) + t.1).toNat) hx hb hd (by omega) (fun q => k1 (by simpa [ev_cmp] using q) ws H locs ls hR) (fun q => k2 (by simpa [ev_cmp] using q) ws H locs ls hR)
  · exact h2.elim

noncomputable def cm_icmp_le : cm_O := (ev_icmp_le.1, fun E P t S k => match S.2.2.1 with
  | .int y :: .int x :: st => 0 ≤ (S.1 : Int) + t.1 ∧ (ev_cmp 5 x y = true → k (((S.1 : Int) + t.1).toNat, S.2.1, st, S.2.2.2)) ∧ (ev_cmp 5 x y = false → k (S.1 + 3, S.2.1, st, S.2.2.2))
  | _ => False)
theorem cm_icmp_le_ok : cm_Snd cm_icmp_le := by
  intro p l e R s m args below meth c cc Q D A adr ce sl E P t S i n cs X h1 hd hw h2 ws H locs ls hR
  obtain ⟨hx, hb, hml, hown, hts, hK, hA, hN, hcC, hcS, hf, hlc, hscr⟩ := X
  obtain ⟨pc, L, st, M⟩ := S
  have h1 : some ((.if_icmp .le t.1 : Instr), (3 : Nat), ([] : List Cond)) = some (i, n, cs) := h1
  cases h1
  unfold cm_icmp_le at h2
  dsimp only at h2
  split at h2
  · obtain ⟨h0, k1, k2⟩ := h2
    exact lv_icmp_le (tgt := ((pc : Int) + t.1).toNat) hx hb hd (by omega) (fun q => k1 (by simpa [ev_cmp] using q) ws H locs ls hR) (fun q => k2 (by simpa [ev_cmp] using q) ws H locs ls hR)
  · exact h2.elim

noncomputable def cm_if_le : cm_O := (ev_if_le.1, fun E P t S k => match S.2.2.1 with
  | .int x :: st => 0 ≤ (S.1 : Int) + t.1 ∧ (ev_cmp 5 x 0 = true → k (((S.1 : Int) + t.1).toNat, S.2.1, st, S.2.2.2)) ∧ (ev_cmp 5 x 0 = false → k (S.1 + 3, S.2.1, st, S.2.2.2))
  | _ => False)
theorem cm_if_le_ok : cm_Snd cm_if_le := by
  intro p l e R s m args below meth c cc Q D A adr ce sl E P t S i n cs X h1 hd hw h2 ws H locs ls hR
  obtain ⟨hx, hb, hml, hown, hts, hK, hA, hN, hcC, hcS, hf, hlc, hscr⟩ := X
  obtain ⟨pc, L, st, M⟩ := S
  have h1 : some ((.ifCond .le t.1 : Instr), (3 : Nat), ([] : List Cond)) = some (i, n, cs) := h1
  cases h1
  unfold cm_if_le at h2
  dsimp only at h2
  split at h2
  · obtain ⟨h0, k1, k2⟩ := h2
    exact lv_if_le (tgt := ((pc : Int) + t.1).toNat) hx hb hd (by omega) (fun q => k1 (by simpa [ev_cmp] using q) ws H locs ls hR) (fun q => k2 (by simpa [ev_cmp] using q) ws H locs ls hR)
  · exact h2.elim

noncomputable def cm_goto : cm_O := (ev_goto.1, fun E P t S k => 0 ≤ (S.1 : Int) + t.1 ∧ k (((S.1 : Int) + t.1).toNat, S.2))
theorem cm_goto_ok : cm_Snd cm_goto := by
  intro p l e R s m args below meth c cc Q D A adr ce sl E P t S i n cs X h1 hd hw h2 ws H locs ls hR
  obtain ⟨hx, hb, hml, hown, hts, hK, hA, hN, hcC, hcS, hf, hlc, hscr⟩ := X
  obtain ⟨pc, L, st, M⟩ := S
  have h1 : some ((.goto t.1 : Instr), (3 : Nat), ([] : List Cond)) = some (i, n, cs) := h1
  cases h1
  unfold cm_goto at h2
  dsimp only at h2
  exact lv_goto (tgt := ((pc : Int) + t.1).toNat) hx hb hd (by omega) (h2.2 ws H locs ls hR)

noncomputable def cm_sw : cm_O := (ev_sw.1, fun E P t S k => match t.2.2.2, S.2.2.1 with
  | _ :: offs, .int x :: st => t.2.2.1 - t.2.1 + 1 = (offs.length : Int) ∧ 0 ≤ (S.1 : Int) + t.1 ∧ offs.all (fun o => decide (0 ≤ (S.1 : Int) + o)) = true ∧ (x.toInt < t.2.1 ∨ t.2.2.1 < x.toInt → k (((S.1 : Int) + t.1).toNat, S.2.1, st, S.2.2.2)) ∧ (∀ (j : Nat) (o : Int), offs[j]? = some o → x.toInt = t.2.1 + (j : Int) → k (((S.1 : Int) + o).toNat, S.2.1, st, S.2.2.2))
  | _, _ => False)
theorem cm_sw_ok : cm_Snd cm_sw := by
  intro p l e R s m args below meth c cc Q D A adr ce sl E P t S i n cs X h1 hd hw h2 ws H locs ls hR
  obtain ⟨hx, hb, hml, hown, hts, hK, hA, hN, hcC, hcS, hf, hlc, hscr⟩ := X
  obtain ⟨pc, L, st, M⟩ := S
  obtain ⟨dflt, lo, hi, offs0⟩ := t
  cases offs0 with
  | nil => cases h1
  | cons len offs =>
    have h1 : some ((.tableswitch dflt lo hi offs.toArray : Instr), len.toNat, ([] : List Cond)) = some (i, n, cs) := h1
    cases h1
    cases st with
    | nil => exact h2.elim
    | cons v st' =>
      cases v with
      | int x =>
        obtain ⟨hlen, hd0, hall, k1, k2⟩ := h2
        dsimp only at hlen hd0 hall k1 k2
        by_cases hq : x.toInt < lo ∨ hi < x.toInt
        · exact lv_tableOut (tgt := ((pc : Int) + dflt).toNat) hx hb hd hq (by omega) (k1 hq ws H locs ls hR)
        · have q1 : ¬ x.toInt < lo := fun z => hq (Or.inl z)
          have q2 : ¬ hi < x.toInt := fun z => hq (Or.inr z)
          have hj : (x.toInt - lo).toNat < offs.length := by omega
          have ho := List.getElem?_eq_getElem hj
          have h0 := List.all_eq_true.mp hall _ (List.getElem_mem hj)
          simp only [decide_eq_true_eq] at h0
          exact lv_tableIn (off := offs[(x.toInt - lo).toNat]) hx hb hd q1 q2 (by rw [List.getElem?_toArray]; exact ho) (tgt := ((pc : Int) + offs[(x.toInt - lo).toNat]).toNat) (by omega) (k2 _ _ ho (by omega) ws H locs ls hR)
      | _ => exact h2.elim
theorem cm_ty_at {ci : Nat} {r : vw_C} (h : vwCl[ci]? = some r) : ∃ ty, ev_tyl[ci]? = some ty := ⟨_, List.getElem?_eq_getElem (show ci < ev_tyl.length from (List.getElem?_eq_some_iff.mp h).1)⟩
theorem cm_obj {s : State} {adr : Nat → Nat} {M : cm_M} {ws : va_W} {k ci N : Nat} (h : cm_w s adr M ws) (hk : cm_kind k = (ci, N)) (hci : ci < 100) : ∃ fs, ws[k]? = some (adr k, .inr (ci, fs)) ∧ fs.length = N ∧ ∀ j, j < N → fs[j]? = some (cm_v adr (cm_rd M (cm_ft ci j) k j)) := by
  obtain ⟨x, h1, h2⟩ := cm_cell h (cm_kind_at hk (by dsimp only; omega))
  cases x with
  | inl a =>
    obtain ⟨t, a1, a2, -⟩ := h2
    dsimp only at a2
    omega
  | inr o =>
    obtain ⟨c1, fs⟩ := o
    obtain ⟨b1, b2, b3, b4⟩ := h2
    dsimp only at b1 b3 b4
    subst b1
    exact ⟨fs, h1, b3, b4⟩
theorem cm_arr {s : State} {adr : Nat → Nat} {M : cm_M} {ws : va_W} {k t N : Nat} (h : cm_w s adr M ws) (hk : cm_kind k = (100 + t, N)) (ht : t < 4) : ∃ cA arr, ws[k]? = some (adr k, .inl (cA, N, arr)) ∧ ArrOfT s cA (ev_ty t) ∧ va_RA s cA (ev_ty t) ∧ cm_ar adr M k t N arr := by
  obtain ⟨x, h1, h2⟩ := cm_cell h (cm_kind_at hk (by dsimp only; omega))
  cases x with
  | inr o =>
    obtain ⟨b1, b2, -⟩ := h2
    dsimp only at b2
    omega
  | inl a =>
    obtain ⟨cA, n, arr⟩ := a
    obtain ⟨tt, a1, a2, a3, a4, a5, a6⟩ := h2
    dsimp only at a2 a3 a4 a5 a6
    have : tt = t := by omega
    subst this
    subst a3
    exact ⟨cA, arr, h1, a4, a5, a6⟩
theorem cm_in {i : Int32} {n : Nat} (h1 : 0 ≤ i.toInt) (h2 : i.toInt < (n : Int)) : vp_in i n ∧ i.toNatClampNeg < n := by
  have hv : vp_in i n := by rw [vp_in_iff]; exact ⟨h1, h2⟩
  refine ⟨hv, ?_⟩
  unfold vp_in at hv
  exact Nat.lt_of_not_le (fun q => hv (Or.inr q))
/-- a value that a field may hold -/
noncomputable def cm_fit (ci j : Nat) (v : Value) : Prop := match v with
  | .int x => cm_ft ci j = 0 ∧ (cm_isB ci j = true → x = 0 ∨ x = 1)
  | .long _ => cm_ft ci j = 2
  | .ref _ => cm_ft ci j = 3
  | .null => cm_ft ci j = 3
  | _ => False
noncomputable def cm_wf (M : cm_M) (c j : Nat) (v : Value) : cm_M := match v with
  | .int x => cm_wi M c j x
  | .long x => cm_wl M c j x
  | .ref q => cm_wr M c j (some q)
  | .null => cm_wr M c j none
  | _ => M
/-- all fields of our classes are ints, truth values, longs or references -/
noncomputable def cm_tyok (ty : FieldType) : Bool := match ty with
  | .int => true
  | .boolean => true
  | .long => true
  | .object _ => true
  | .array _ => true
  | _ => false
theorem cm_tys : ∀ (ci : Nat) (r : vw_C) (ty : Nat → FieldType), vwCl[ci]? = some r → ev_tyl[ci]? = some ty → ∀ k, k < r.2.2 → cm_tyok (ty k) = true
  | 0, r, ty, h1, h2 => by cases h1; cases h2; decide
  | 1, r, ty, h1, h2 => by cases h1; cases h2; decide
  | 2, r, ty, h1, h2 => by cases h1; cases h2; decide
  | 3, r, ty, h1, h2 => by cases h1; cases h2; decide
  | 4, r, ty, h1, h2 => by cases h1; cases h2; decide
  | 5, r, ty, h1, h2 => by cases h1; cases h2; decide
  | 6, r, ty, h1, h2 => by cases h1; cases h2; decide
  | 7, r, ty, h1, h2 => by cases h1; cases h2; decide
  | 8, r, ty, h1, h2 => by cases h1; cases h2; decide
  | 9, r, ty, h1, h2 => by cases h1; cases h2; decide
  | n + 10, r, ty, h1, h2 => by cases h1
theorem cm_fit_ok {ci j : Nat} {ty : Nat → FieldType} (hty : ev_tyl[ci]? = some ty) (hok : cm_tyok (ty j) = true) {v : Value} (h : cm_fit ci j v) (adr : Nat → Nat) : narrow (ty j) (cm_v adr v) = cm_v adr v ∧ fits (ty j) (cm_v adr v) = true := by
  unfold cm_fit at h
  split at h
  · rename_i x
    obtain ⟨h1, h2⟩ := h
    simp only [cm_ft, hty] at h1
    simp only [cm_isB, hty] at h2
    cases hz : ty j <;> rw [hz] at hok h1 h2 <;> simp [cm_tyok] at hok h1 h2
    · exact ⟨rfl, rfl⟩
    · rcases h2 with rfl | rfl
      · exact (by decide : narrow .boolean (.int 0) = .int 0 ∧ fits .boolean (.int 0) = true)
      · exact (by decide : narrow .boolean (.int 1) = .int 1 ∧ fits .boolean (.int 1) = true)
  · simp only [cm_ft, hty] at h
    cases hz : ty j <;> rw [hz] at hok h <;> simp [cm_tyok] at hok h
    exact ⟨rfl, rfl⟩
  · simp only [cm_ft, hty] at h
    cases hz : ty j <;> rw [hz] at hok h <;> simp [cm_tyok] at hok h
    · exact ⟨rfl, rfl⟩
    · exact ⟨rfl, rfl⟩
  · simp only [cm_ft, hty] at h
    cases hz : ty j <;> rw [hz] at hok h <;> simp [cm_tyok] at hok h
    · exact ⟨rfl, rfl⟩
    · exact ⟨rfl, rfl⟩
  · exact h.elim
theorem cm_wf_rd {ci c j : Nat} {M : cm_M} {v : Value} (h : cm_fit ci j v) (j' : Nat) : cm_rd (cm_wf M c j v) (cm_ft ci j') c j' = if j' = j then v else cm_rd M (cm_ft ci j') c j' := by
  by_cases hj : j' = j
  · subst hj
    rw [if_pos rfl]
    unfold cm_fit at h
    split at h
    · rw [h.1]; simp [cm_rd, cm_wf, cm_wi]
    · rw [h]; simp [cm_rd, cm_wf, cm_wl]
    · rw [h]; simp [cm_rd, cm_wf, cm_wr, cm_rq]
    · rw [h]; simp [cm_rd, cm_wf, cm_wr, cm_rq]
    · exact h.elim
  · rw [if_neg hj]
    unfold cm_wf
    split <;> (unfold cm_rd; split <;> simp [cm_wi, cm_wl, cm_wr, hj])
theorem cm_wf_ne {s : State} {adr : Nat → Nat} {M : cm_M} {c j : Nat} {v : Value} : ∀ k q y, k ≠ c → cm_c s adr M k q y → cm_c s adr (cm_wf M c j v) k q y := by
  intro k q y hk h
  refine cm_c_ne (fun i => ?_) (fun i => ?_) (fun i => ?_) h <;> (unfold cm_wf; split <;> simp [cm_wi, cm_wl, cm_wr, hk])
theorem cm_nfs : ∀ q ∈ cm_lay, q.1 < 10 → (vwCl[q.1]?).map (fun r => r.2.2) = some q.2 := by decide +kernel
theorem cm_nf {c ci j : Nat} {r : vw_C} (hr : vwCl[ci]? = some r) (h1 : (cm_kind c).1 = ci) (h2 : j < (cm_kind c).2) : j < r.2.2 := by
  have hci : ci < 10 := (List.getElem?_eq_some_iff.mp hr).1
  have h3 := cm_nfs _ (List.mem_of_getElem? (cm_kind_at (c := c) rfl (by omega))) (by omega)
  rw [h1, hr] at h3
  have h4 : r.2.2 = (cm_kind c).2 := Option.some.inj h3
  omega
noncomputable def cm_get : cm_O := (ev_get.1, fun E P t S k => match S.2.2.1 with
  | .ref c :: st => (cm_kind c).1 = t.1.toNat ∧ t.2.1.toNat < (cm_kind c).2 ∧ k (cm_adv S 3 (cm_rd S.2.2.2 (cm_ft t.1.toNat t.2.1.toNat) c t.2.1.toNat :: st))
  | _ => False)
theorem cm_get_ok : cm_Snd cm_get := by
  intro p l e R s m args below meth c cc Q D A adr ce sl E P t S i n cs X h1 hd hw h2 ws H locs ls hR
  obtain ⟨hx, hb, hml, hown, hts, hK, hA, hN, hcC, hcS, hf, hlc, hscr⟩ := X
  obtain ⟨pc, L, st, M⟩ := S
  obtain ⟨t1, t2, t3, t4⟩ := t
  unfold cm_get ev_get at h1
  unfold cm_get at h2
  dsimp only at h1 h2
  cases hr : vwCl[t1.toNat]? with
  | none => simp [hr] at h1
  | some r =>
    rw [hr] at h1
    dsimp only at h1
    cases h1
    obtain ⟨hP, hD, hS, hW, hL⟩ := id hR
    have hci : t1.toNat < 10 := (List.getElem?_eq_some_iff.mp hr).1
    obtain ⟨ty, hty⟩ := cm_ty_at hr
    obtain ⟨k1, k2, k3, -⟩ := ev_cls _ r ty hr hty
    split at h2
    rotate_left
    · exact h2.elim
    rename_i c st'
    obtain ⟨hc1, hc2, hk⟩ := h2
    obtain ⟨fs, e1, e2, e3⟩ := cm_obj hW (show cm_kind c = (t1.toNat, (cm_kind c).2) from by rw [← hc1]) (by omega)
    exact va_get hx hb hts k1 hown hK hP _ e1 hr t2.toNat (cm_nf hr hc1 hc2) (hts _ (hw _ (List.mem_singleton.mpr rfl))) (fun _ h => h) (e3 _ hc2) hd (hk ws H locs ls hR)

noncomputable def cm_fin (ci j : Nat) : Bool := match vwCl[ci]? with
  | some r => (r.2.1 j).2.2.2
  | none => true
noncomputable def cm_put : cm_O := (ev_put.1, fun E P t S k => match S.2.2.1 with
  | v :: .ref c :: st => (cm_kind c).1 = t.1.toNat ∧ t.2.1.toNat < (cm_kind c).2 ∧ cm_fin t.1.toNat t.2.1.toNat = false ∧ cm_fit t.1.toNat t.2.1.toNat v ∧ k (S.1 + 3, S.2.1, st, cm_wf S.2.2.2 c t.2.1.toNat v)
  | _ => False)
theorem cm_put_ok : cm_Snd cm_put := by
  intro p l e R s m args below meth c cc Q D A adr ce sl E P t S i n cs X h1 hd hw h2 ws H locs ls hR
  obtain ⟨hx, hb, hml, hown, hts, hK, hA, hN, hcC, hcS, hf, hlc, hscr⟩ := X
  obtain ⟨pc, L, st, M⟩ := S
  obtain ⟨t1, t2, t3, t4⟩ := t
  unfold cm_put ev_put at h1
  unfold cm_put at h2
  dsimp only at h1 h2
  cases hr : vwCl[t1.toNat]? with
  | none => simp [hr] at h1
  | some r =>
    rw [hr] at h1
    dsimp only at h1
    cases h1
    obtain ⟨hP, hD, hS, hW, hL⟩ := id hR
    have hci : t1.toNat < 10 := (List.getElem?_eq_some_iff.mp hr).1
    obtain ⟨ty, hty⟩ := cm_ty_at hr
    obtain ⟨k1, k2, k3, -⟩ := ev_cls _ r ty hr hty
    split at h2
    rotate_left
    · exact h2.elim
    rename_i v c st'
    obtain ⟨hc1, hc2, hfin, hft, hk⟩ := h2
    obtain ⟨fs, e1, e2, e3⟩ := cm_obj hW (show cm_kind c = (t1.toNat, (cm_kind c).2) from by rw [← hc1]) (by omega)
    have hn := cm_nf hr hc1 hc2
    obtain ⟨hn1, hn2⟩ := cm_fit_ok hty (cm_tys _ r ty hr hty _ hn) hft adr
    simp only [cm_fin, hr] at hfin
    refine va_put hx hb hts k1 ty k2 k3 hown hK hP hD hS _ e1 hr t2.toNat hn (hts _ (hw _ (List.mem_singleton.mpr rfl))) (fun _ h => h) hfin (k2 _ hn) hn1 hn2 (by rw [e2]; exact hc2) hd (fun H1 locs1 hP1 hD1 hS1 => hk _ H1 locs1 ls ⟨hP1, hD1, hS1, cm_w_set hW (cm_kind_at (q := (t1.toNat, (cm_kind c).2)) (by rw [← hc1]) (by dsimp only; omega)) ⟨rfl, by dsimp only; omega, by dsimp only; rw [List.length_set]; exact e2, fun j hj => ?_⟩ cm_wf_ne, hL⟩)
    dsimp only at hj ⊢
    rw [cm_wf_rd hft]
    by_cases hjk : j = t2.toNat
    · subst hjk
      rw [if_pos rfl]
      exact List.getElem?_set_self (by rw [e2]; exact hj)
    · rw [if_neg hjk, List.getElem?_set_ne (Ne.symm hjk)]
      exact e3 j hj

noncomputable def cm_iaload : cm_O := (ev_iaload.1, fun E P t S k => match S.2.2.1 with
  | .int i :: .ref c :: st => (cm_kind c).1 = 100 + 0 ∧ 0 ≤ i.toInt ∧ i.toInt < ((cm_kind c).2 : Int) ∧ k (cm_adv S 1 (.int (S.2.2.2.1 c i.toNatClampNeg) :: st))
  | _ => False)
theorem cm_iaload_ok : cm_Snd cm_iaload := by
  intro p l e R s m args below meth c cc Q D A adr ce sl E P t S i n cs X h1 hd hw h2 ws H locs ls hR
  obtain ⟨hx, hb, hml, hown, hts, hK, hA, hN, hcC, hcS, hf, hlc, hscr⟩ := X
  obtain ⟨pc, L, st, M⟩ := S
  have h1 : some ((.iaload : Instr), (1 : Nat), ([] : List Cond)) = some (i, n, cs) := h1
  cases h1
  unfold cm_iaload at h2
  dsimp only at h2
  split at h2
  rotate_left
  · exact h2.elim
  rename_i i c st'
  obtain ⟨hc1, hi1, hi2, hk⟩ := h2
  obtain ⟨hP, hD, hS, hW, hL⟩ := id hR
  obtain ⟨cA, arr, e1, e2, e3, e4⟩ := cm_arr (t := 0) hW (show cm_kind c = (100 + 0, (cm_kind c).2) from by rw [← hc1]) (by decide)
  obtain ⟨hv, hj⟩ := cm_in hi1 hi2
  rcases arr with f | f | f | f | f
  · refine va_iald hx hb (ev_K1 hK e2 e3) hP _ 0 e1 rfl hv hd ?_
    rw [e4.2 _ hj]
    exact hk ws H locs ls hR
  · first | exact e4.elim | (have := e4.1; omega)
  · first | exact e4.elim | (have := e4.1; omega)
  · first | exact e4.elim | (have := e4.1; omega)
  · first | exact e4.elim | (have := e4.1; omega)

noncomputable def cm_baload : cm_O := (ev_baload.1, fun E P t S k => match S.2.2.1 with
  | .int i :: .ref c :: st => (cm_kind c).1 = 100 + 1 ∧ 0 ≤ i.toInt ∧ i.toInt < ((cm_kind c).2 : Int) ∧ k (cm_adv S 1 (.int (S.2.2.2.1 c i.toNatClampNeg) :: st))
  | _ => False)
theorem cm_baload_ok : cm_Snd cm_baload := by
  intro p l e R s m args below meth c cc Q D A adr ce sl E P t S i n cs X h1 hd hw h2 ws H locs ls hR
  obtain ⟨hx, hb, hml, hown, hts, hK, hA, hN, hcC, hcS, hf, hlc, hscr⟩ := X
  obtain ⟨pc, L, st, M⟩ := S
  have h1 : some ((.baload : Instr), (1 : Nat), ([] : List Cond)) = some (i, n, cs) := h1
  cases h1
  unfold cm_baload at h2
  dsimp only at h2
  split at h2
  rotate_left
  · exact h2.elim
  rename_i i c st'
  obtain ⟨hc1, hi1, hi2, hk⟩ := h2
  obtain ⟨hP, hD, hS, hW, hL⟩ := id hR
  obtain ⟨cA, arr, e1, e2, e3, e4⟩ := cm_arr (t := 1) hW (show cm_kind c = (100 + 1, (cm_kind c).2) from by rw [← hc1]) (by decide)
  obtain ⟨hv, hj⟩ := cm_in hi1 hi2
  rcases arr with f | f | f | f | f
  · refine va_bald hx hb (ev_K1 hK e2 e3) hP _ 0 e1 rfl hv hd ?_
    rw [e4.2 _ hj]
    exact hk ws H locs ls hR
  · first | exact e4.elim | (have := e4.1; omega)
  · first | exact e4.elim | (have := e4.1; omega)
  · first | exact e4.elim | (have := e4.1; omega)
  · first | exact e4.elim | (have := e4.1; omega)

noncomputable def cm_laload : cm_O := (ev_laload.1, fun E P t S k => match S.2.2.1 with
  | .int i :: .ref c :: st => (cm_kind c).1 = 100 + 2 ∧ 0 ≤ i.toInt ∧ i.toInt < ((cm_kind c).2 : Int) ∧ k (cm_adv S 1 (.long (S.2.2.2.2.1 c i.toNatClampNeg) :: st))
  | _ => False)
theorem cm_laload_ok : cm_Snd cm_laload := by
  intro p l e R s m args below meth c cc Q D A adr ce sl E P t S i n cs X h1 hd hw h2 ws H locs ls hR
  obtain ⟨hx, hb, hml, hown, hts, hK, hA, hN, hcC, hcS, hf, hlc, hscr⟩ := X
  obtain ⟨pc, L, st, M⟩ := S
  have h1 : some ((.laload : Instr), (1 : Nat), ([] : List Cond)) = some (i, n, cs) := h1
  cases h1
  unfold cm_laload at h2
  dsimp only at h2
  split at h2
  rotate_left
  · exact h2.elim
  rename_i i c st'
  obtain ⟨hc1, hi1, hi2, hk⟩ := h2
  obtain ⟨hP, hD, hS, hW, hL⟩ := id hR
  obtain ⟨cA, arr, e1, e2, e3, e4⟩ := cm_arr (t := 2) hW (show cm_kind c = (100 + 2, (cm_kind c).2) from by rw [← hc1]) (by decide)
  obtain ⟨hv, hj⟩ := cm_in hi1 hi2
  rcases arr with f | f | f | f | f
  · first | exact e4.elim | (have := e4.1; omega)
  · refine va_lald hx hb (ev_K1 hK e2 e3) hP _ 0 e1 rfl hv hd ?_
    rw [e4.2 _ hj]
    exact hk ws H locs ls hR
  · first | exact e4.elim | (have := e4.1; omega)
  · first | exact e4.elim | (have := e4.1; omega)
  · first | exact e4.elim | (have := e4.1; omega)

noncomputable def cm_aaload : cm_O := (ev_aaload.1, fun E P t S k => match S.2.2.1 with
  | .int i :: .ref c :: st => (cm_kind c).1 = 100 + 3 ∧ 0 ≤ i.toInt ∧ i.toInt < ((cm_kind c).2 : Int) ∧ k (cm_adv S 1 (cm_rq (S.2.2.2.2.2 c i.toNatClampNeg) :: st))
  | _ => False)
theorem cm_aaload_ok : cm_Snd cm_aaload := by
  intro p l e R s m args below meth c cc Q D A adr ce sl E P t S i n cs X h1 hd hw h2 ws H locs ls hR
  obtain ⟨hx, hb, hml, hown, hts, hK, hA, hN, hcC, hcS, hf, hlc, hscr⟩ := X
  obtain ⟨pc, L, st, M⟩ := S
  have h1 : some ((.aaload : Instr), (1 : Nat), ([] : List Cond)) = some (i, n, cs) := h1
  cases h1
  unfold cm_aaload at h2
  dsimp only at h2
  split at h2
  rotate_left
  · exact h2.elim
  rename_i i c st'
  obtain ⟨hc1, hi1, hi2, hk⟩ := h2
  obtain ⟨hP, hD, hS, hW, hL⟩ := id hR
  obtain ⟨cA, arr, e1, e2, e3, e4⟩ := cm_arr (t := 3) hW (show cm_kind c = (100 + 3, (cm_kind c).2) from by rw [← hc1]) (by decide)
  obtain ⟨hv, hj⟩ := cm_in hi1 hi2
  rcases arr with f | f | f | f | f
  · first | exact e4.elim | (have := e4.1; omega)
  · first | exact e4.elim | (have := e4.1; omega)
  · first | exact e4.elim | (have := e4.1; omega)
  · first | exact e4.elim | (have := e4.1; omega)
  · refine va_aldq hx hb (ev_K1 hK e2 e3) hP _ 0 e1 rfl hv hd ?_
    rw [e4.2 _ hj]
    have := hk ws H locs ls hR
    cases hz : M.2.2 c i.toNatClampNeg with
    | none => rw [hz] at this; exact this
    | some q => rw [hz] at this; exact this

theorem cm_wi_ne {s : State} {adr : Nat → Nat} {M : cm_M} {c j : Nat} {x : Int32} : ∀ k q y, k ≠ c → cm_c s adr M k q y → cm_c s adr (cm_wi M c j x) k q y := fun k q y hk h => cm_c_ne (M := M) (fun i => by simp [cm_wi, hk]) (fun i => rfl) (fun i => rfl) h
theorem cm_wl_ne {s : State} {adr : Nat → Nat} {M : cm_M} {c j : Nat} {x : Int64} : ∀ k q y, k ≠ c → cm_c s adr M k q y → cm_c s adr (cm_wl M c j x) k q y := fun k q y hk h => cm_c_ne (M := M) (fun i => rfl) (fun i => by simp [cm_wl, hk]) (fun i => rfl) h
theorem cm_cp_ne {s : State} {adr : Nat → Nat} {M : cm_M} {a sp d dp n : Nat} : ∀ k q y, k ≠ d → cm_c s adr M k q y → cm_c s adr (cm_cp M a sp d dp n) k q y := fun k q y hk h => cm_c_ne (M := M) (fun i => by simp [cm_cp, hk]) (fun i => rfl) (fun i => rfl) h
noncomputable def cm_iastore : cm_O := (ev_iastore.1, fun E P t S k => match S.2.2.1 with
  | .int x :: .int i :: .ref c :: st => (cm_kind c).1 = 100 + 0 ∧ 0 ≤ i.toInt ∧ i.toInt < ((cm_kind c).2 : Int) ∧ k (S.1 + 1, S.2.1, st, cm_wi S.2.2.2 c i.toNatClampNeg x)
  | _ => False)
theorem cm_iastore_ok : cm_Snd cm_iastore := by
  intro p l e R s m args below meth c cc Q D A adr ce sl E P t S i n cs X h1 hd hw h2 ws H locs ls hR
  obtain ⟨hx, hb, hml, hown, hts, hK, hA, hN, hcC, hcS, hf, hlc, hscr⟩ := X
  obtain ⟨pc, L, st, M⟩ := S
  have h1 : some ((.iastore : Instr), (1 : Nat), ([] : List Cond)) = some (i, n, cs) := h1
  cases h1
  unfold cm_iastore at h2
  dsimp only at h2
  split at h2
  rotate_left
  · exact h2.elim
  rename_i x i c st'
  obtain ⟨hc1, hi1, hi2, hk⟩ := h2
  obtain ⟨hP, hD, hS, hW, hL⟩ := id hR
  obtain ⟨cA, arr, e1, e2, e3, e4⟩ := cm_arr (t := 0) hW (show cm_kind c = (100 + 0, (cm_kind c).2) from by rw [← hc1]) (by decide)
  obtain ⟨hv, hj⟩ := cm_in hi1 hi2
  rcases arr with f | f | f | f | f
  · refine va_iast hx hb (ev_K1 hK e2 e3) hP hD hS _ 0 e1 rfl hv hd (fun H1 locs1 hP1 hD1 hS1 => hk _ H1 locs1 ls ⟨hP1, hD1, hS1, cm_w_set hW (cm_kind_at (q := (100 + 0, (cm_kind c).2)) (by rw [← hc1]) (by dsimp only; omega)) ⟨0, by decide, rfl, rfl, e2, e3, by decide, fun j hj => ?_⟩ cm_wi_ne, hL⟩)
    dsimp only [upd, cm_wi, cm_wl]
    by_cases hji : j = i.toNatClampNeg
    · simp [hji]
    · simp only [hji, and_false, if_false]
      exact e4.2 j hj
  · first | exact e4.elim | (have := e4.1; omega)
  · first | exact e4.elim | (have := e4.1; omega)
  · first | exact e4.elim | (have := e4.1; omega)
  · first | exact e4.elim | (have := e4.1; omega)

noncomputable def cm_bastore : cm_O := (ev_bastore.1, fun E P t S k => match S.2.2.1 with
  | .int x :: .int i :: .ref c :: st => (cm_kind c).1 = 100 + 1 ∧ 0 ≤ i.toInt ∧ i.toInt < ((cm_kind c).2 : Int) ∧ k (S.1 + 1, S.2.1, st, cm_wi S.2.2.2 c i.toNatClampNeg (vp_nar .byte x))
  | _ => False)
theorem cm_bastore_ok : cm_Snd cm_bastore := by
  intro p l e R s m args below meth c cc Q D A adr ce sl E P t S i n cs X h1 hd hw h2 ws H locs ls hR
  obtain ⟨hx, hb, hml, hown, hts, hK, hA, hN, hcC, hcS, hf, hlc, hscr⟩ := X
  obtain ⟨pc, L, st, M⟩ := S
  have h1 : some ((.bastore : Instr), (1 : Nat), ([] : List Cond)) = some (i, n, cs) := h1
  cases h1
  unfold cm_bastore at h2
  dsimp only at h2
  split at h2
  rotate_left
  · exact h2.elim
  rename_i x i c st'
  obtain ⟨hc1, hi1, hi2, hk⟩ := h2
  obtain ⟨hP, hD, hS, hW, hL⟩ := id hR
  obtain ⟨cA, arr, e1, e2, e3, e4⟩ := cm_arr (t := 1) hW (show cm_kind c = (100 + 1, (cm_kind c).2) from by rw [← hc1]) (by decide)
  obtain ⟨hv, hj⟩ := cm_in hi1 hi2
  rcases arr with f | f | f | f | f
  · refine va_bast hx hb (ev_K1 hK e2 e3) hP hD hS _ 0 e1 rfl hv hd (fun H1 locs1 hP1 hD1 hS1 => hk _ H1 locs1 ls ⟨hP1, hD1, hS1, cm_w_set hW (cm_kind_at (q := (100 + 1, (cm_kind c).2)) (by rw [← hc1]) (by dsimp only; omega)) ⟨1, by decide, rfl, rfl, e2, e3, by decide, fun j hj => ?_⟩ cm_wi_ne, hL⟩)
    dsimp only [upd, cm_wi, cm_wl]
    by_cases hji : j = i.toNatClampNeg
    · simp [hji]
    · simp only [hji, and_false, if_false]
      exact e4.2 j hj
  · first | exact e4.elim | (have := e4.1; omega)
  · first | exact e4.elim | (have := e4.1; omega)
  · first | exact e4.elim | (have := e4.1; omega)
  · first | exact e4.elim | (have := e4.1; omega)

noncomputable def cm_lastore : cm_O := ((fun _ _ => some (.lastore, 1, [])), fun E P t S k => match S.2.2.1 with
  | .long x :: .int i :: .ref c :: st => (cm_kind c).1 = 100 + 2 ∧ 0 ≤ i.toInt ∧ i.toInt < ((cm_kind c).2 : Int) ∧ k (S.1 + 1, S.2.1, st, cm_wl S.2.2.2 c i.toNatClampNeg x)
  | _ => False)
theorem cm_lastore_ok : cm_Snd cm_lastore := by
  intro p l e R s m args below meth c cc Q D A adr ce sl E P t S i n cs X h1 hd hw h2 ws H locs ls hR
  obtain ⟨hx, hb, hml, hown, hts, hK, hA, hN, hcC, hcS, hf, hlc, hscr⟩ := X
  obtain ⟨pc, L, st, M⟩ := S
  have h1 : some ((.lastore : Instr), (1 : Nat), ([] : List Cond)) = some (i, n, cs) := h1
  cases h1
  unfold cm_lastore at h2
  dsimp only at h2
  split at h2
  rotate_left
  · exact h2.elim
  rename_i x i c st'
  obtain ⟨hc1, hi1, hi2, hk⟩ := h2
  obtain ⟨hP, hD, hS, hW, hL⟩ := id hR
  obtain ⟨cA, arr, e1, e2, e3, e4⟩ := cm_arr (t := 2) hW (show cm_kind c = (100 + 2, (cm_kind c).2) from by rw [← hc1]) (by decide)
  obtain ⟨hv, hj⟩ := cm_in hi1 hi2
  rcases arr with f | f | f | f | f
  · first | exact e4.elim | (have := e4.1; omega)
  · refine va_last hx hb (ev_K1 hK e2 e3) hP hD hS _ 0 e1 rfl hv hd (fun H1 locs1 hP1 hD1 hS1 => hk _ H1 locs1 ls ⟨hP1, hD1, hS1, cm_w_set hW (cm_kind_at (q := (100 + 2, (cm_kind c).2)) (by rw [← hc1]) (by dsimp only; omega)) ⟨2, by decide, rfl, rfl, e2, e3, by decide, fun j hj => ?_⟩ cm_wl_ne, hL⟩)
    dsimp only [vp_updL, cm_wi, cm_wl]
    by_cases hji : j = i.toNatClampNeg
    · simp [hji]
    · simp only [hji, and_false, if_false]
      exact e4.2 j hj
  · first | exact e4.elim | (have := e4.1; omega)
  · first | exact e4.elim | (have := e4.1; omega)
  · first | exact e4.elim | (have := e4.1; omega)

noncomputable def cm_alen : cm_O := (ev_alen.1, fun E P t S k => match S.2.2.1 with
  | .ref c :: st => if c = 1000 then (match E with
    | some q => k (cm_adv S 1 (.int (Int32.ofNat q.1) :: st))
    | none => False) else (100 ≤ (cm_kind c).1 ∧ (cm_kind c).1 < 104 ∧ k (cm_adv S 1 (.int (Int32.ofNat (cm_kind c).2) :: st)))
  | _ => False)
theorem cm_alen_ok : cm_Snd cm_alen := by
  intro p l e R s m args below meth c cc Q D A adr ce sl E P t S i n cs X h1 hd hw h2 ws H locs ls hR
  obtain ⟨hx, hb, hml, hown, hts, hK, hA, hN, hcC, hcS, hf, hlc, hscr⟩ := X
  obtain ⟨pc, L, st, M⟩ := S
  have h1 : some ((.arraylength : Instr), (1 : Nat), ([] : List Cond)) = some (i, n, cs) := h1
  cases h1
  unfold cm_alen at h2
  dsimp only at h2
  split at h2
  rotate_left
  · exact h2.elim
  rename_i c st'
  split at h2
  · rename_i hc
    subst hc
    split at h2
    · rename_i q
      exact va_slen hx hb hscr.1 hscr.2.1 hscr.2.2 hR.2.2.1 hd (h2 ws H locs ls hR)
    · exact h2.elim
  · obtain ⟨hc1, hc2, hk⟩ := h2
    obtain ⟨hP, hD, hS, hW, hL⟩ := id hR
    obtain ⟨cA, arr, e1, e2, e3, e4⟩ := cm_arr (t := (cm_kind c).1 - 100) hW (show cm_kind c = (100 + ((cm_kind c).1 - 100), (cm_kind c).2) from Prod.ext (by dsimp only; omega) rfl) (by omega)
    exact va_alen hx hb (ev_K1 hK e2 e3) hP _ 0 e1 rfl rfl hd (hk ws H locs ls hR)

noncomputable def cm_sald : cm_O := (ev_sald.1, fun E P t S k => match E, S.2.2.1 with
  | some q, .int i :: .ref c :: st => c = 1000 ∧ 0 ≤ i.toInt ∧ i.toInt < (q.1 : Int) ∧ k (cm_adv S 1 (.int (q.2 i.toNatClampNeg) :: st))
  | _, _ => False)
theorem cm_sald_ok : cm_Snd cm_sald := by
  intro p l e R s m args below meth c cc Q D A adr ce sl E P t S i n cs X h1 hd hw h2 ws H locs ls hR
  obtain ⟨hx, hb, hml, hown, hts, hK, hA, hN, hcC, hcS, hf, hlc, hscr⟩ := X
  obtain ⟨pc, L, st, M⟩ := S
  have h1 : some ((.iaload : Instr), (1 : Nat), ([] : List Cond)) = some (i, n, cs) := h1
  cases h1
  unfold cm_sald at h2
  dsimp only at h2
  split at h2
  rotate_left
  · exact h2.elim
  rename_i q i c st'
  obtain ⟨rfl, hi1, hi2, hk⟩ := h2
  exact va_sld hx hb hscr.1 hscr.2.1 hscr.2.2 hR.2.2.1 (cm_in hi1 hi2).1 hd (hk ws H locs ls hR)
noncomputable def cm_ldc : cm_O := (ev_ldc.1, fun E P t S k => k (cm_adv S 2 (.int (Int32.ofInt t.1) :: S.2.2.1)))
theorem cm_ldc_ok : cm_Snd cm_ldc := by
  intro p l e R s m args below meth c cc Q D A adr ce sl E P t S i n cs X h1 hd hw h2 ws H locs ls hR
  obtain ⟨hx, hb, hml, hown, hts, hK, hA, hN, hcC, hcS, hf, hlc, hscr⟩ := X
  obtain ⟨pc, L, st, M⟩ := S
  have h1 : some ((.ldc t.2.1.toNat : Instr), (2 : Nat), ([.constant P.2.2.2.1 t.2.1.toNat (Int32.ofInt t.1)] : List Cond)) = some (i, n, cs) := h1
  cases h1
  exact W.ldc hx hb hown (hts _ (hw _ (List.mem_singleton.mpr rfl))) (g := F0 m pc ls (st.map (cm_v adr))) rfl hd (h2 ws H locs ls hR)

noncomputable def cm_ldcw : cm_O := (ev_ldcw.1, fun E P t S k => k (cm_adv S 3 (.int (Int32.ofInt t.1) :: S.2.2.1)))
theorem cm_ldcw_ok : cm_Snd cm_ldcw := by
  intro p l e R s m args below meth c cc Q D A adr ce sl E P t S i n cs X h1 hd hw h2 ws H locs ls hR
  obtain ⟨hx, hb, hml, hown, hts, hK, hA, hN, hcC, hcS, hf, hlc, hscr⟩ := X
  obtain ⟨pc, L, st, M⟩ := S
  have h1 : some ((.ldc_w t.2.1.toNat : Instr), (3 : Nat), ([.constant P.2.2.2.1 t.2.1.toNat (Int32.ofInt t.1)] : List Cond)) = some (i, n, cs) := h1
  cases h1
  exact lv_ldcw hx hb hown (hts _ (hw _ (List.mem_singleton.mpr rfl))) hd (h2 ws H locs ls hR)

noncomputable def cm_ldc2 : cm_O := (ev_ldc2.1, fun E P t S k => k (cm_adv S 3 (.long (Int64.ofInt t.1) :: S.2.2.1)))
theorem cm_ldc2_ok : cm_Snd cm_ldc2 := by
  intro p l e R s m args below meth c cc Q D A adr ce sl E P t S i n cs X h1 hd hw h2 ws H locs ls hR
  obtain ⟨hx, hb, hml, hown, hts, hK, hA, hN, hcC, hcS, hf, hlc, hscr⟩ := X
  obtain ⟨pc, L, st, M⟩ := S
  have h1 : some ((.ldc2_w t.2.1.toNat : Instr), (3 : Nat), ([.constantLong P.2.2.2.1 t.2.1.toNat (Int64.ofInt t.1)] : List Cond)) = some (i, n, cs) := h1
  cases h1
  exact W.ldc2 hx hb hown (hts _ (hw _ (List.mem_singleton.mpr rfl))) (g := F0 m pc ls (st.map (cm_v adr))) rfl hd (h2 ws H locs ls hR)

noncomputable def cm_ldcS : cm_O := (ev_ldcS.1, fun E P t S k => k (cm_adv S 2 (.ref (1001 + 2 * t.1.toNat) :: S.2.2.1)))
theorem cm_ldcS_ok : cm_Snd cm_ldcS := by
  intro p l e R s m args below meth c cc Q D A adr ce sl E P t S i n cs X h1 hd hw h2 ws H locs ls hR
  obtain ⟨hx, hb, hml, hown, hts, hK, hA, hN, hcC, hcS, hf, hlc, hscr⟩ := X
  obtain ⟨pc, L, st, M⟩ := S
  unfold cm_ldcS ev_ldcS at h1
  dsimp only at h1
  split at h1
  · rename_i r hr
    split at h1
    · rename_i ho
      cases h1
      have hz := hN.1.2.1 _ r hr
      rw [ho] at hz
      have e : 1000 + (1 + 2 * t.1.toNat) = 1001 + 2 * t.1.toNat := by omega
      dsimp only at hz
      rw [e] at hz
      exact va_ldcS hx hb hown hz hd (h2 ws H locs ls hR)
    · cases h1
  · cases h1

theorem cm_str {adr : Nat → Nat} {A : Nat → Prop} {s : State} {c : Nat} (hN : cm_N adr A s s.heap) (h1 : 1001 ≤ c) (h2 : c < 1081) : ∃ r, ev_strs[(c - 1001) / 2]? = some r ∧ (c % 2 = 1 → va_OF "java/lang/String" "coder" "B" (.int 0) (adr c) A s s.heap ∧ va_OF "java/lang/String" "value" "[B" (.ref (adr (c + 1))) (adr c) A s s.heap ∧ va_O "java/lang/String" (adr c) A s s.heap) ∧ (c % 2 = 0 → va_T .byte (adr c) r.2.2.2.length (fun j => .int (r.2.2.2.getD j 0)) A s s.heap) := by
  have hl : (c - 1001) / 2 < ev_strs.length := by
    have : ev_strs.length = 40 := rfl
    omega
  refine ⟨_, List.getElem?_eq_getElem hl, fun h => ?_, fun h => ?_⟩
  · obtain ⟨a1, a2, a3, a4⟩ := hN.1.2.2.1 _ _ (List.getElem?_eq_getElem hl)
    dsimp only at a1 a2 a3
    rw [show 1000 + (1 + 2 * ((c - 1001) / 2)) = c by omega] at a1 a2 a3
    rw [show 1000 + (2 + 2 * ((c - 1001) / 2)) = c + 1 by omega] at a3
    exact ⟨a2, a3, a1⟩
  · obtain ⟨a1, a2, a3, a4⟩ := hN.1.2.2.1 _ _ (List.getElem?_eq_getElem hl)
    dsimp only at a4
    rw [show 1000 + (2 + 2 * ((c - 1001) / 2)) = c by omega] at a4
    exact a4
noncomputable def cm_getV : cm_O := (ev_getV.1, fun E P t S k => match S.2.2.1 with
  | .ref c :: st => 1001 ≤ c ∧ c < 1081 ∧ c % 2 = 1 ∧ k (cm_adv S 3 (.ref (c + 1) :: st))
  | _ => False)
theorem cm_getV_ok : cm_Snd cm_getV := by
  intro p l e R s m args below meth c cc Q D A adr ce sl E P t S i n cs X h1 hd hw h2 ws H locs ls hR
  obtain ⟨hx, hb, hml, hown, hts, hK, hA, hN, hcC, hcS, hf, hlc, hscr⟩ := X
  obtain ⟨pc, L, st, M⟩ := S
  have h1 : some ((.getfield t.1.toNat : Instr), (3 : Nat), ([.fieldLink P.2.2.2.1 t.1.toNat "java/lang/String" "value" "[B"] : List Cond)) = some (i, n, cs) := h1
  cases h1
  unfold cm_getV at h2
  dsimp only at h2
  split at h2
  rotate_left
  · exact h2.elim
  rename_i c st'
  obtain ⟨q1, q2, q3, hk⟩ := h2
  obtain ⟨r, -, a1, -⟩ := cm_str hN q1 q2
  exact vk_getf hx hb (a1 q3).2.1 hR.2.2.1 hown (hts _ (hw _ (List.mem_singleton.mpr rfl))) (fun _ h => h) hd (hk ws H locs ls hR)

noncomputable def cm_getC : cm_O := (ev_getC.1, fun E P t S k => match S.2.2.1 with
  | .ref c :: st => 1001 ≤ c ∧ c < 1081 ∧ c % 2 = 1 ∧ k (cm_adv S 3 (.int 0 :: st))
  | _ => False)
theorem cm_getC_ok : cm_Snd cm_getC := by
  intro p l e R s m args below meth c cc Q D A adr ce sl E P t S i n cs X h1 hd hw h2 ws H locs ls hR
  obtain ⟨hx, hb, hml, hown, hts, hK, hA, hN, hcC, hcS, hf, hlc, hscr⟩ := X
  obtain ⟨pc, L, st, M⟩ := S
  have h1 : some ((.getfield t.1.toNat : Instr), (3 : Nat), ([.fieldLink P.2.2.2.1 t.1.toNat "java/lang/String" "coder" "B"] : List Cond)) = some (i, n, cs) := h1
  cases h1
  unfold cm_getC at h2
  dsimp only at h2
  split at h2
  rotate_left
  · exact h2.elim
  rename_i c st'
  obtain ⟨q1, q2, q3, hk⟩ := h2
  obtain ⟨r, -, a1, -⟩ := cm_str hN q1 q2
  exact vk_getf hx hb (a1 q3).1 hR.2.2.1 hown (hts _ (hw _ (List.mem_singleton.mpr rfl))) (fun _ h => h) hd (hk ws H locs ls hR)

noncomputable def cm_gets : cm_O := (ev_gets.1, fun E P t S k => k (cm_adv S 3 (.int 1 :: S.2.2.1)))
theorem cm_gets_ok : cm_Snd cm_gets := by
  intro p l e R s m args below meth c cc Q D A adr ce sl E P t S i n cs X h1 hd hw h2 ws H locs ls hR
  obtain ⟨hx, hb, hml, hown, hts, hK, hA, hN, hcC, hcS, hf, hlc, hscr⟩ := X
  obtain ⟨pc, L, st, M⟩ := S
  have h1 : some ((.getstatic t.1.toNat : Instr), (3 : Nat), ([.fieldLink P.2.2.2.1 t.1.toNat "java/lang/String" "COMPACT_STRINGS" "Z"] : List Cond)) = some (i, n, cs) := h1
  cases h1
  exact va_gets hx hb hN.1.2.2.2.1 hR.2.2.1 hown (hts _ (hw _ (List.mem_singleton.mpr rfl))) (fun _ h => h) hd (h2 ws H locs ls hR)

noncomputable def cm_getsF : cm_O := (ev_getsF.1, fun E P t S k => k (cm_adv S 3 (.null :: S.2.2.1)) ∧ k (cm_adv S 3 (.ref 1101 :: S.2.2.1)))
theorem cm_getsF_ok : cm_Snd cm_getsF := by
  intro p l e R s m args below meth c cc Q D A adr ce sl E P t S i n cs X h1 hd hw h2 ws H locs ls hR
  obtain ⟨hx, hb, hml, hown, hts, hK, hA, hN, hcC, hcS, hf, hlc, hscr⟩ := X
  obtain ⟨pc, L, st, M⟩ := S
  have h1 : some ((.getstatic t.1.toNat : Instr), (3 : Nat), ([.fieldLink P.2.2.2.1 t.1.toNat "jdk/internal/util/Preconditions" "SIOOBE_FORMATTER" "Ljava/util/function/BiFunction;"] : List Cond)) = some (i, n, cs) := h1
  cases h1
  rcases hN.2.2.2 with hz | hz
  · exact va_gets hx hb hz hR.2.2.1 hown (hts _ (hw _ (List.mem_singleton.mpr rfl))) (fun _ h => h) hd (h2.1 ws H locs ls hR)
  · exact va_gets hx hb hz hR.2.2.1 hown (hts _ (hw _ (List.mem_singleton.mpr rfl))) (fun _ h => h) hd (h2.2 ws H locs ls hR)

noncomputable def cm_alenS : cm_O := (ev_alenS.1, fun E P t S k => match S.2.2.1 with
  | .ref c :: st => (match ev_strs[(c - 1001) / 2]? with
    | some r => 1001 ≤ c ∧ c < 1081 ∧ c % 2 = 0 ∧ k (cm_adv S 1 (.int (Int32.ofNat r.2.2.2.length) :: st))
    | none => False)
  | _ => False)
theorem cm_alenS_ok : cm_Snd cm_alenS := by
  intro p l e R s m args below meth c cc Q D A adr ce sl E P t S i n cs X h1 hd hw h2 ws H locs ls hR
  obtain ⟨hx, hb, hml, hown, hts, hK, hA, hN, hcC, hcS, hf, hlc, hscr⟩ := X
  obtain ⟨pc, L, st, M⟩ := S
  have h1 : some ((.arraylength : Instr), (1 : Nat), ([] : List Cond)) = some (i, n, cs) := h1
  cases h1
  unfold cm_alenS at h2
  dsimp only at h2
  split at h2
  rotate_left
  · exact h2.elim
  rename_i c st'
  split at h2
  · rename_i r hr
    obtain ⟨q1, q2, q3, hk⟩ := h2
    obtain ⟨r', hr', -, a1⟩ := cm_str hN q1 q2
    rw [hr] at hr'
    cases hr'
    exact va_tlen hx hb (a1 q3) hR.2.2.1 rfl hd (hk ws H locs ls hR)
  · exact h2.elim

noncomputable def cm_baloadS : cm_O := (ev_baloadS.1, fun E P t S k => match S.2.2.1 with
  | .int i :: .ref c :: st => (match ev_strs[(c - 1001) / 2]? with
    | some r => 1001 ≤ c ∧ c < 1081 ∧ c % 2 = 0 ∧ 0 ≤ i.toInt ∧ i.toInt < (r.2.2.2.length : Int) ∧ k (cm_adv S 1 (.int (r.2.2.2.getD i.toNatClampNeg 0) :: st))
    | none => False)
  | _ => False)
theorem cm_baloadS_ok : cm_Snd cm_baloadS := by
  intro p l e R s m args below meth c cc Q D A adr ce sl E P t S i n cs X h1 hd hw h2 ws H locs ls hR
  obtain ⟨hx, hb, hml, hown, hts, hK, hA, hN, hcC, hcS, hf, hlc, hscr⟩ := X
  obtain ⟨pc, L, st, M⟩ := S
  have h1 : some ((.baload : Instr), (1 : Nat), ([] : List Cond)) = some (i, n, cs) := h1
  cases h1
  unfold cm_baloadS at h2
  dsimp only at h2
  split at h2
  rotate_left
  · exact h2.elim
  rename_i i c st'
  split at h2
  · rename_i r hr
    obtain ⟨q1, q2, q3, q4, q5, hk⟩ := h2
    obtain ⟨r', hr', -, a1⟩ := cm_str hN q1 q2
    rw [hr] at hr'
    cases hr'
    exact va_tb hx hb (a1 q3) hR.2.2.1 (by rw [vp_in_iff]; exact ⟨q4, q5⟩) rfl hd (hk ws H locs ls hR)
  · exact h2.elim

set_option maxRecDepth 1000000 in
theorem cm_tl : Cond.fieldLinkNest "BarberMinutes$Agenda" 18 "BarberMinutes" "TENS" "[I" "BarberMinutes" ∈ lw_nest := List.mem_filter.mpr ⟨List.mem_of_getElem? (i := 899) (by decide +kernel), rfl⟩
noncomputable def cm_getT : cm_O := ((fun P _ => if P.2.2.2.1 = "BarberMinutes$Agenda" then some (.getstatic 18, 3, []) else none), fun E P t S k => k (cm_adv S 3 (.ref 1100 :: S.2.2.1)))
theorem cm_getT_ok : cm_Snd cm_getT := by
  intro p l e R s m args below meth c cc Q D A adr ce sl E P t S i n cs X h1 hd hw h2 ws H locs ls hR
  obtain ⟨hx, hb, hml, hown, hts, hK, hA, hN, hcC, hcS, hf, hlc, hscr⟩ := X
  obtain ⟨pc, L, st, M⟩ := S
  have h1 : (if P.2.2.2.1 = "BarberMinutes$Agenda" then some ((.getstatic 18 : Instr), (3 : Nat), ([] : List Cond)) else none) = some (i, n, cs) := h1
  split at h1
  · rename_i ho
    cases h1
    rw [ho] at hown
    exact va_getsN hx hb hN.2.1 hR.2.2.1 hown (va_Nw.use rfl (hN.1.1.1 _ cm_tl)) (fun _ h => h) hd (h2 ws H locs ls hR)
  · cases h1

noncomputable def cm_tald : cm_O := ((fun _ _ => some (.iaload, 1, [])), fun E P t S k => match S.2.2.1 with
  | .int i :: .ref c :: st => c = 1100 ∧ 0 ≤ i.toInt ∧ i.toInt < 5 ∧ k (cm_adv S 1 (.int (cm_tens i.toNatClampNeg) :: st))
  | _ => False)
theorem cm_tald_ok : cm_Snd cm_tald := by
  intro p l e R s m args below meth c cc Q D A adr ce sl E P t S i n cs X h1 hd hw h2 ws H locs ls hR
  obtain ⟨hx, hb, hml, hown, hts, hK, hA, hN, hcC, hcS, hf, hlc, hscr⟩ := X
  obtain ⟨pc, L, st, M⟩ := S
  have h1 : some ((.iaload : Instr), (1 : Nat), ([] : List Cond)) = some (i, n, cs) := h1
  cases h1
  unfold cm_tald at h2
  dsimp only at h2
  split at h2
  rotate_left
  · exact h2.elim
  rename_i i c st'
  obtain ⟨rfl, q4, q5, hk⟩ := h2
  exact va_ti hx hb hN.2.2.1 hR.2.2.1 (by rw [vp_in_iff]; exact ⟨q4, q5⟩) rfl hd (hk ws H locs ls hR)

noncomputable def cm_alenT : cm_O := ((fun _ _ => some (.arraylength, 1, [])), fun E P t S k => match S.2.2.1 with
  | .ref c :: st => c = 1100 ∧ k (cm_adv S 1 (.int 5 :: st))
  | _ => False)
theorem cm_alenT_ok : cm_Snd cm_alenT := by
  intro p l e R s m args below meth c cc Q D A adr ce sl E P t S i n cs X h1 hd hw h2 ws H locs ls hR
  obtain ⟨hx, hb, hml, hown, hts, hK, hA, hN, hcC, hcS, hf, hlc, hscr⟩ := X
  obtain ⟨pc, L, st, M⟩ := S
  have h1 : some ((.arraylength : Instr), (1 : Nat), ([] : List Cond)) = some (i, n, cs) := h1
  cases h1
  unfold cm_alenT at h2
  dsimp only at h2
  split at h2
  rotate_left
  · exact h2.elim
  rename_i c st'
  obtain ⟨rfl, hk⟩ := h2
  exact va_tlen hx hb hN.2.2.1 hR.2.2.1 rfl hd (hk ws H locs ls hR)

noncomputable def cm_cs (st : List Value) : Nat := (st.map fun v => v.category).sum
noncomputable def cm_mmin : cm_O := (ev_mmin.1, fun E P t S k => match S.2.2.1 with
  | .int y :: .int x :: st => cm_cs st ≤ 8 ∧ k (cm_adv S 3 (.int (if y < x then y else x) :: st))
  | _ => False)
theorem cm_mmin_ok : cm_Snd cm_mmin := by
  intro p l e R s m args below meth c cc Q D A adr ce sl E P t S i n cs X h1 hd hw h2 ws H locs ls hR
  obtain ⟨hx, hb, hml, hown, hts, hK, hA, hN, hcC, hcS, hf, hlc, hscr⟩ := X
  obtain ⟨pc, L, st, M⟩ := S
  have h1 : some ((.invokestatic t.1.toNat : Instr), (3 : Nat), ([.methodLink P.2.2.2.1 t.1.toNat Lib.Math.min.name, .static Lib.Math.min.name, .initialized "java/lang/Math", .code Lib.Math.min.name Lib.Math.min.code 2 (some .int)] : List Cond)) = some (i, n, cs) := h1
  cases h1
  unfold cm_mmin at h2
  dsimp only at h2
  split at h2
  rotate_left
  · exact h2.elim
  rename_i y x st'
  obtain ⟨q1, hk⟩ := h2
  have hsum : (((st'.map (cm_v adr)).map fun v => v.category).sum) ≤ 8 := by rw [cm_v_cats]; exact q1
  exact va_mmin hx hb (hml.trans hR.2.2.2.2.1.symm) hown (hts _ (hw _ (by simp))) (hts _ (hw _ (by simp))) (hts _ (hw _ (by simp))) (hts _ (hw _ (by simp))) hf (by omega) hcC hcS hd (hk ws H locs ls hR)

noncomputable def cm_mmax : cm_O := ((fun P t => some (.invokestatic t.1.toNat, 3, [.methodLink P.2.2.2.1 t.1.toNat Lib.Math.max.name, .static Lib.Math.max.name, .initialized "java/lang/Math", .code Lib.Math.max.name Lib.Math.max.code 2 (some .int)])), fun E P t S k => match S.2.2.1 with
  | .int y :: .int x :: st => cm_cs st ≤ 8 ∧ k (cm_adv S 3 (.int (if x < y then y else x) :: st))
  | _ => False)
theorem cm_mmax_ok : cm_Snd cm_mmax := by
  intro p l e R s m args below meth c cc Q D A adr ce sl E P t S i n cs X h1 hd hw h2 ws H locs ls hR
  obtain ⟨hx, hb, hml, hown, hts, hK, hA, hN, hcC, hcS, hf, hlc, hscr⟩ := X
  obtain ⟨pc, L, st, M⟩ := S
  have h1 : some ((.invokestatic t.1.toNat : Instr), (3 : Nat), ([.methodLink P.2.2.2.1 t.1.toNat Lib.Math.max.name, .static Lib.Math.max.name, .initialized "java/lang/Math", .code Lib.Math.max.name Lib.Math.max.code 2 (some .int)] : List Cond)) = some (i, n, cs) := h1
  cases h1
  unfold cm_mmax at h2
  dsimp only at h2
  split at h2
  rotate_left
  · exact h2.elim
  rename_i y x st'
  obtain ⟨q1, hk⟩ := h2
  have hsum : (((st'.map (cm_v adr)).map fun v => v.category).sum) ≤ 8 := by rw [cm_v_cats]; exact q1
  exact va_mmax hx hb (hml.trans hR.2.2.2.2.1.symm) hown (hts _ (hw _ (by simp))) (hts _ (hw _ (by simp))) (hts _ (hw _ (by simp))) (hts _ (hw _ (by simp))) hf (by omega) hcC hcS hd (hk ws H locs ls hR)

noncomputable def cm_mabs : cm_O := ((fun P t => some (.invokestatic t.1.toNat, 3, [.methodLink P.2.2.2.1 t.1.toNat Lib.Math.abs.name, .static Lib.Math.abs.name, .initialized "java/lang/Math", .code Lib.Math.abs.name Lib.Math.abs.code 1 (some .int)])), fun E P t S k => match S.2.2.1 with
  | .int x :: st => cm_cs st ≤ 8 ∧ k (cm_adv S 3 (.int (if 0 ≤ x then x else 0 - x) :: st))
  | _ => False)
theorem cm_mabs_ok : cm_Snd cm_mabs := by
  intro p l e R s m args below meth c cc Q D A adr ce sl E P t S i n cs X h1 hd hw h2 ws H locs ls hR
  obtain ⟨hx, hb, hml, hown, hts, hK, hA, hN, hcC, hcS, hf, hlc, hscr⟩ := X
  obtain ⟨pc, L, st, M⟩ := S
  have h1 : some ((.invokestatic t.1.toNat : Instr), (3 : Nat), ([.methodLink P.2.2.2.1 t.1.toNat Lib.Math.abs.name, .static Lib.Math.abs.name, .initialized "java/lang/Math", .code Lib.Math.abs.name Lib.Math.abs.code 1 (some .int)] : List Cond)) = some (i, n, cs) := h1
  cases h1
  unfold cm_mabs at h2
  dsimp only at h2
  split at h2
  rotate_left
  · exact h2.elim
  rename_i x st'
  obtain ⟨q1, hk⟩ := h2
  have hsum : (((st'.map (cm_v adr)).map fun v => v.category).sum) ≤ 8 := by rw [cm_v_cats]; exact q1
  exact va_mabs hx hb (hml.trans hR.2.2.2.2.1.symm) hown (hts _ (hw _ (by simp))) (hts _ (hw _ (by simp))) (hts _ (hw _ (by simp))) (hts _ (hw _ (by simp))) hf (by omega) hcC hcS hd (hk ws H locs ls hR)

noncomputable def cm_copyi : cm_O := ((fun P t => some (.invokestatic t.1.toNat, 3, [.methodLink P.2.2.2.1 t.1.toNat arraycopyName, .native arraycopyName, .static arraycopyName, .initialized "java/lang/System"])), fun E P t S k => match S.2.2.1 with
  | .int n :: .int dp :: .ref d :: .int sp :: .ref c :: st => cm_cs st ≤ 8 ∧ (cm_kind c).1 = 100 ∧ (cm_kind d).1 = 100 ∧ 0 ≤ sp.toInt ∧ 0 ≤ dp.toInt ∧ 0 ≤ n.toInt ∧ sp.toInt + n.toInt ≤ ((cm_kind c).2 : Int) ∧ dp.toInt + n.toInt ≤ ((cm_kind d).2 : Int) ∧ k (S.1 + 3, S.2.1, st, cm_cp S.2.2.2 c sp.toNatClampNeg d dp.toNatClampNeg n.toNatClampNeg)
  | _ => False)
theorem cm_copyi_ok : cm_Snd cm_copyi := by
  intro p l e R s m args below meth c cc Q D A adr ce sl E P t S i n cs X h1 hd hw h2 ws H locs ls hR
  obtain ⟨hx, hb, hml, hown, hts, hK, hA, hN, hcC, hcS, hf, hlc, hscr⟩ := X
  obtain ⟨pc, L, st, M⟩ := S
  have h1 : some ((.invokestatic t.1.toNat : Instr), (3 : Nat), ([.methodLink P.2.2.2.1 t.1.toNat arraycopyName, .native arraycopyName, .static arraycopyName, .initialized "java/lang/System"] : List Cond)) = some (i, n, cs) := h1
  cases h1
  unfold cm_copyi at h2
  dsimp only at h2
  split at h2
  rotate_left
  · exact h2.elim
  rename_i n dp d sp c st'
  obtain ⟨q1, k1, k2, z1, z2, z3, z4, z5, hk⟩ := h2
  obtain ⟨hP, hD, hS, hW, hL⟩ := id hR
  have hsum : (((st'.map (cm_v adr)).map fun v => v.category).sum) ≤ 8 := by rw [cm_v_cats]; exact q1
  obtain ⟨cA, arr, e1, e2, e3, e4⟩ := cm_arr (t := 0) hW (show cm_kind c = (100 + 0, (cm_kind c).2) from Prod.ext k1 rfl) (by decide)
  obtain ⟨dA, brr, d1, d2, d3, d4⟩ := cm_arr (t := 0) hW (show cm_kind d = (100 + 0, (cm_kind d).2) from Prod.ext k2 rfl) (by decide)
  have nn : ∀ z : Int32, 0 ≤ z.toInt → z.toInt = (z.toNatClampNeg : Int) := by
    intro z hz
    show z.toInt = ((z.toInt.toNat : Nat) : Int)
    omega
  have y1 := nn sp z1
  have y2 := nn dp z2
  have y3 := nn n z3
  have hK2 : va_K D vwCl [(cA, .int), (dA, .int)] s := ⟨hK.1, fun j q hq => by
    have hz : j < 2 := (List.getElem?_eq_some_iff.mp hq).1
    have : j = 0 ∨ j = 1 := by omega
    rcases this with rfl | rfl
    · cases hq; exact ⟨e2, e3⟩
    · cases hq; exact ⟨d2, d3⟩⟩
  cases arr with
  | inr z => rcases z with z | z | z | z <;> first | exact e4.elim | (have := e4.1; omega)
  | inl f =>
    cases brr with
    | inr z => rcases z with z | z | z | z <;> first | exact d4.elim | (have := d4.1; omega)
    | inl g =>
      refine va_copyi hx hb (hml.trans hL.1.symm) hown (hts _ (hw _ (by simp))) (hts _ (hw _ (by simp))) (hts _ (hw _ (by simp))) (hts _ (hw _ (by simp))) hK2 hP hD hS c d 0 1 e1 d1 rfl rfl rfl (ev_nn z1) (ev_nn z2) (ev_nn z3) (by omega) (by omega) (fun _ _ => rfl) hf ?_ hd (fun H1 locs1 hP1 hD1 hS1 => hk _ H1 locs1 ls ⟨hP1, hD1, hS1, cm_w_set hW (cm_kind_at (q := (100 + 0, (cm_kind d).2)) (Prod.ext k2 rfl) (by dsimp only; omega)) ⟨0, by decide, rfl, rfl, d2, d3, by decide, fun j hj => ?_⟩ cm_cp_ne, hL⟩)
      · have : nativeFrameWords "java/lang/System" "arraycopy" 5 ≤ 20 := by decide +kernel
        omega
      · dsimp only [va_cpy, cm_cp] at hj ⊢
        by_cases hq : dp.toNatClampNeg ≤ j ∧ j < dp.toNatClampNeg + n.toNatClampNeg
        · rw [if_pos hq, if_pos ⟨rfl, hq⟩]
          exact e4.2 _ (by omega)
        · rw [if_neg hq, if_neg (fun z => hq z.2)]
          exact d4.2 _ hj
noncomputable def cm_no : cm_O := (fun _ _ => none, fun _ _ _ _ _ => False)
theorem cm_no_ok : cm_Snd cm_no := fun p l e R s m args below meth c cc Q D A adr ce sl E P t S i n cs X h1 => by cases h1
noncomputable def cm_ops : List cm_O := [cm_iconst, cm_bipush, cm_sipush, cm_lconst, cm_iload, cm_iloadn, cm_lload, cm_lloadn, cm_aload, cm_aloadn, cm_istore, cm_istoren, cm_lstore, cm_lstoren, cm_astore, cm_astoren, cm_iadd, cm_isub, cm_imul, cm_iand, cm_ior, cm_ixor, cm_ishl, cm_ishr, cm_iushr, cm_idiv, cm_irem, cm_ineg, cm_i2b, cm_i2l, cm_lcmp, cm_dup, cm_pop, cm_dup2, cm_iinc, cm_icmp_eq, cm_icmp_ne, cm_icmp_lt, cm_icmp_ge, cm_icmp_gt, cm_icmp_le, cm_if_eq, cm_if_ne, cm_if_lt, cm_if_ge, cm_if_gt, cm_if_le, cm_goto, cm_sw, cm_get, cm_put, cm_no, cm_iaload, cm_baload, cm_laload, cm_aaload, cm_iastore, cm_bastore, cm_no, cm_no, cm_no, cm_no, cm_no, cm_no, cm_alen, cm_sald, cm_no, cm_mmin, cm_ldc, cm_ldcS, cm_getV, cm_getC, cm_gets, cm_alenS, cm_baloadS, cm_i2c, cm_ladd, cm_lsub, cm_lmul, cm_ldiv, cm_lrem, cm_ldc2, cm_getsF, cm_ldcw, cm_mmax, cm_mabs, cm_copyi, cm_getT, cm_tald, cm_alenT, cm_lastore, cm_pop2]
theorem cm_c1 {o : cm_O} {l : List cm_O} (h : cm_Snd o) (h2 : ∀ o ∈ l, cm_Snd o) : ∀ o' ∈ o :: l, cm_Snd o' := List.forall_mem_cons.mpr ⟨h, h2⟩
theorem cm_ops_ok : ∀ o ∈ cm_ops, cm_Snd o := cm_c1 cm_iconst_ok (cm_c1 cm_bipush_ok (cm_c1 cm_sipush_ok (cm_c1 cm_lconst_ok (cm_c1 cm_iload_ok (cm_c1 cm_iloadn_ok (cm_c1 cm_lload_ok (cm_c1 cm_lloadn_ok (cm_c1 cm_aload_ok (cm_c1 cm_aloadn_ok (cm_c1 cm_istore_ok (cm_c1 cm_istoren_ok (cm_c1 cm_lstore_ok (cm_c1 cm_lstoren_ok (cm_c1 cm_astore_ok (cm_c1 cm_astoren_ok (cm_c1 cm_iadd_ok (cm_c1 cm_isub_ok (cm_c1 cm_imul_ok (cm_c1 cm_iand_ok (cm_c1 cm_ior_ok (cm_c1 cm_ixor_ok (cm_c1 cm_ishl_ok (cm_c1 cm_ishr_ok (cm_c1 cm_iushr_ok (cm_c1 cm_idiv_ok (cm_c1 cm_irem_ok (cm_c1 cm_ineg_ok (cm_c1 cm_i2b_ok (cm_c1 cm_i2l_ok (cm_c1 cm_lcmp_ok (cm_c1 cm_dup_ok (cm_c1 cm_pop_ok (cm_c1 cm_dup2_ok (cm_c1 cm_iinc_ok (cm_c1 cm_icmp_eq_ok (cm_c1 cm_icmp_ne_ok (cm_c1 cm_icmp_lt_ok (cm_c1 cm_icmp_ge_ok (cm_c1 cm_icmp_gt_ok (cm_c1 cm_icmp_le_ok (cm_c1 cm_if_eq_ok (cm_c1 cm_if_ne_ok (cm_c1 cm_if_lt_ok (cm_c1 cm_if_ge_ok (cm_c1 cm_if_gt_ok (cm_c1 cm_if_le_ok (cm_c1 cm_goto_ok (cm_c1 cm_sw_ok (cm_c1 cm_get_ok (cm_c1 cm_put_ok (cm_c1 cm_no_ok (cm_c1 cm_iaload_ok (cm_c1 cm_baload_ok (cm_c1 cm_laload_ok (cm_c1 cm_aaload_ok (cm_c1 cm_iastore_ok (cm_c1 cm_bastore_ok (cm_c1 cm_no_ok (cm_c1 cm_no_ok (cm_c1 cm_no_ok (cm_c1 cm_no_ok (cm_c1 cm_no_ok (cm_c1 cm_no_ok (cm_c1 cm_alen_ok (cm_c1 cm_sald_ok (cm_c1 cm_no_ok (cm_c1 cm_mmin_ok (cm_c1 cm_ldc_ok (cm_c1 cm_ldcS_ok (cm_c1 cm_getV_ok (cm_c1 cm_getC_ok (cm_c1 cm_gets_ok (cm_c1 cm_alenS_ok (cm_c1 cm_baloadS_ok (cm_c1 cm_i2c_ok (cm_c1 cm_ladd_ok (cm_c1 cm_lsub_ok (cm_c1 cm_lmul_ok (cm_c1 cm_ldiv_ok (cm_c1 cm_lrem_ok (cm_c1 cm_ldc2_ok (cm_c1 cm_getsF_ok (cm_c1 cm_ldcw_ok (cm_c1 cm_mmax_ok (cm_c1 cm_mabs_ok (cm_c1 cm_copyi_ok (cm_c1 cm_getT_ok (cm_c1 cm_tald_ok (cm_c1 cm_alenT_ok (cm_c1 cm_lastore_ok (cm_c1 cm_pop2_ok (fun _ h => absurd h List.not_mem_nil))))))))))))))))))))))))))))))))))))))))))))))))))))))))))))))))))))))))))))))))))))))))))))
/-- what an instruction's row says -/
noncomputable def cm_rowI (ms : List ev_MI) (P : ev_P) (r : ev_Row) : Option (Instr × Nat × List Cond) :=
  match r.1 with
  | 200 => (match ms[r.2.1.toNat]? with
    | some mi => some (.invokevirtual r.2.2.1.toNat, 3, [.methodLink P.2.2.2.1 r.2.2.1.toNat mi.1, .instanceMethod mi.1, .selects mi.1.cls mi.1 mi.1, .initialized mi.1.cls])
    | none => none)
  | 201 => (match ms[r.2.1.toNat]? with
    | some mi => some (.invokestatic r.2.2.1.toNat, 3, [.methodLink P.2.2.2.1 r.2.2.1.toNat mi.1, .static mi.1, .initialized mi.1.cls])
    | none => none)
  | 210 => some (.ireturn, 1, [])
  | 211 => some (.lreturn, 1, [])
  | 212 => some (.areturn, 1, [])
  | 213 => some (.return_, 1, [])
  | k => (match cm_ops[k]? with
    | some o => o.1 P r.2
    | none => none)
noncomputable def cm_RowOK (ms : List ev_MI) (P : ev_P) (cc : ByteArray) (q : Nat × ev_Row) : Prop := ∃ i n cs, cm_rowI ms P q.2 = some (i, n, cs) ∧ decode cc q.1 = .ok (i, n) ∧ ∀ w ∈ cs, w ∈ lw_good
noncomputable def cm_P (mi : ev_MI) : ev_P := (0, 0, false, mi.1.cls, mi.2.2.1, 0)
/-- a method is right: its code, its rows -/
noncomputable def cm_MOK (ms : List ev_MI) (mi : ev_MI) : Prop :=
  plainName mi.1.cls = true ∧ Cond.code mi.1 mi.2.1 mi.2.2.1 mi.2.2.2.1 ∈ lw_good ∧ mi.2.2.1 ≤ 21 ∧ (mi.1.cls ≠ "java/lang/invoke/MethodHandle" ∧ mi.1.cls ≠ "java/lang/invoke/VarHandle") ∧ ∀ q ∈ mi.2.2.2.2.2.2, cm_RowOK ms (cm_P mi) mi.2.1 q
noncomputable def cm_args : Nat → List Value → List (Nat × Value)
  | _, [] => []
  | i, a :: as => (i, a) :: cm_args (i + a.category) as
noncomputable def cm_take (recv : Bool) (n : Nat) (st : List Value) : Option (List Value × List Value) :=
  if recv = true then (match st.drop n with
    | x :: rest => if (st.take n).length = n then some (x :: (st.take n).reverse, rest) else none
    | [] => none)
  else (if (st.take n).length = n then some ((st.take n).reverse, st.drop n) else none)
/-- the receiver is of the class -/
noncomputable def cm_recv (cls : String) : List Value → Prop
  | .ref c :: _ => (1001 ≤ c ∧ c < 1081 ∧ c % 2 = 1 ∧ cls = "java/lang/String") ∨ (vwCl[(cm_kind c).1]?).map (fun q => q.1) = some cls
  | _ => False
noncomputable abbrev cm_K : Type := Option Value → cm_M → Prop
/-- calls: method, arguments, memory, what is wanted of its answer and of the memory behind it -/
noncomputable abbrev cm_C : Type := Nat → List Value → cm_M → cm_K → Prop
noncomputable def cm_inv (ms : List ev_MI) (C : cm_C) (r : ev_Row) (S : cm_S) (k : cm_S → Prop) : Prop :=
  match ms[r.2.1.toNat]? with
  | some mi => (match cm_take (!(r.1 == 201)) r.2.2.2.1.toNat S.2.2.1 with
    | some (as, rest) => cm_cs rest ≤ 8 ∧ ev_nar1 mi.1 r.2.2.2.1.toNat = true ∧ (r.1 = 200 → cm_recv mi.1.cls as) ∧ C r.2.1.toNat as S.2.2.2 (fun v M' => k (S.1 + 3, S.2.1, v.toList ++ rest, M'))
    | none => False)
  | none => False
/-- stops, with the locals that are told there -/
noncomputable def cm_pick (L : List (Nat × Value)) : List Nat → Option (List (Nat × Value))
  | [] => some []
  | i :: r => match cm_look L i, cm_pick L r with
    | some v, some l => some ((i, v) :: l)
    | _, _ => none
noncomputable def cm_stop (stops : List (Nat × List Nat)) (J : cm_S → Prop) (k : cm_S → Prop) (S : cm_S) : Prop := match ev_at stops S.1 with
  | none => k S
  | some live => (match cm_pick S.2.1 live with
    | some L => J (S.1, L, S.2.2)
    | none => False)
/-- what must hold for a run to be good: Z at an instruction that returns, J at a stop -/
noncomputable def cm_wp (ms : List ev_MI) (C : cm_C) (E : cm_E) (P : ev_P) (rows : List (Nat × ev_Row)) (stops : List (Nat × List Nat)) (J : cm_S → Prop) (Z : Nat → cm_S → Prop) : Nat → cm_S → Prop
  | 0, _ => False
  | n + 1, S => match ev_at rows S.1 with
    | none => False
    | some r =>
      if 210 ≤ r.1 then Z r.1 S
      else if 200 ≤ r.1 then cm_inv ms C r S (cm_stop stops J (cm_wp ms C E P rows stops J Z n))
      else (match cm_ops[r.1]? with
        | some o => o.2 E P r.2 S (cm_stop stops J (cm_wp ms C E P rows stops J Z n))
        | none => False)
/-- a method's end: its answer -/
noncomputable def cm_ret (ret : Option FieldType) (Post : cm_K) (op : Nat) (S : cm_S) : Prop := match op, ret, S.2.2.1 with
  | 210, some .int, [.int x] => Post (some (.int x)) S.2.2.2
  | 210, some .boolean, [.int x] => (x = 0 ∨ x = 1) ∧ Post (some (.int x)) S.2.2.2
  | 210, some .char, [.int x] => 0 ≤ x.toInt ∧ x.toInt < 65536 ∧ Post (some (.int x)) S.2.2.2
  | 210, some .byte, [.int x] => x = 0 ∧ Post (some (.int x)) S.2.2.2
  | 211, some .long, [.long x] => Post (some (.long x)) S.2.2.2
  | 212, some (.object _), [.ref x] => Post (some (.ref x)) S.2.2.2
  | 213, none, [] => Post none S.2.2.2
  | _, _, _ => False
noncomputable def cm_rm (d : Nat) : Room := { frames := d + 1, cells := 0, slots := 0, locals := 40 * (d + 1) }
noncomputable def cm_Q (D : va_G) (adr : Nat → Nat) (A : Nat → Prop) (Post : cm_K) : Array Value → State → Outcome → State → Prop := fun _ st oc t =>
  (∃ (v : Option Value) (M' : cm_M) (ws' : va_W), Post v M' ∧ oc = .returned (v.map (cm_v adr)) ∧ va_P D vwCl ws' t.heap ∧ va_D A ws' ∧ cm_w t adr M' ws') ∧ va_F A st t
noncomputable def cm_Pb (D : va_G) (adr : Nat → Nat) (ws : va_W) (sz : Nat) (M : cm_M) (U : State) : Prop := U.heap.size = sz ∧ va_P D vwCl ws U.heap ∧ va_K D vwCl [] U ∧ va_D (fun _ => True) ws ∧ cm_w U adr M ws ∧ cm_N adr (va_A ws sz) U U.heap
noncomputable def cm_Met (l : Launch) (mi : ev_MI) (d : Nat) (D : va_G) (adr : Nat → Nat) (ws : va_W) (sz : Nat) (as : List Value) (M : cm_M) (Post : cm_K) : Prop :=
  Met l mi.1 (Cond.code mi.1 mi.2.1 mi.2.2.1 mi.2.2.2.1 :: lw_good) (cm_rm d) (va_Pc (as.map (cm_v adr)) (cm_Pb D adr ws sz M)) (cm_Q D adr (va_A ws sz) Post) 0 0 (va_A ws sz)
/-- a call is good, at a depth -/
noncomputable def cm_Call0 (ms : List ev_MI) (d : Nat) : cm_C := fun k as M Post => ∃ mi d' P0, ms[k]? = some mi ∧ d' + 1 ≤ d ∧ (∀ v M', P0 v M' → Post v M') ∧ ∀ (l : Launch) (D : va_G) (adr : Nat → Nat) (ws : va_W) (sz : Nat), cm_Met l mi d' D adr ws sz as M P0
theorem cm_Call_up0 {ms : List ev_MI} {d e k : Nat} {as : List Value} {M : cm_M} {Post Post' : cm_K} (h : cm_Call0 ms d k as M Post) (hd : d ≤ e) (hp : ∀ v M', Post v M' → Post' v M') : cm_Call0 ms e k as M Post' := by
  obtain ⟨mi, d', P0, h1, h2, h3, h4⟩ := h
  exact ⟨mi, d', P0, h1, by omega, fun v M' q => hp v M' (h3 v M' q), h4⟩
noncomputable def cm_Mon (o : cm_O) : Prop := ∀ (E : cm_E) (P : ev_P) (t : ev_T) (S : cm_S) (k1 k2 : cm_S → Prop), o.2 E P t S k1 → (∀ S, k1 S → k2 S) → o.2 E P t S k2
theorem cm_no_im : cm_Mon cm_no := fun E P t S k1 k2 h hk => h.elim
theorem cm_iconst_im : cm_Mon cm_iconst := by
  intro E P t S k1 k2 h hk
  obtain ⟨pc, L, st, M⟩ := S
  unfold cm_iconst at h ⊢
  dsimp only at h ⊢
  first | exact h.elim | exact hk _ h | exact ⟨h.1, hk _ h.2⟩ | exact ⟨h.1, h.2.1, hk _ h.2.2⟩ | exact ⟨h.1, h.2.1, h.2.2.1, hk _ h.2.2.2⟩ | exact ⟨h.1, h.2.1, h.2.2.1, h.2.2.2.1, hk _ h.2.2.2.2⟩ | exact ⟨h.1, h.2.1, h.2.2.1, h.2.2.2.1, h.2.2.2.2.1, hk _ h.2.2.2.2.2⟩ | exact ⟨h.1, h.2.1, h.2.2.1, h.2.2.2.1, h.2.2.2.2.1, h.2.2.2.2.2.1, h.2.2.2.2.2.2.1, h.2.2.2.2.2.2.2.1, hk _ h.2.2.2.2.2.2.2.2⟩ | exact ⟨h.1, fun q => hk _ (h.2.1 q), fun q => hk _ (h.2.2 q)⟩ | exact ⟨h.1, h.2.1, h.2.2.1, fun q => hk _ (h.2.2.2.1 q), fun j o q1 q2 => hk _ (h.2.2.2.2 j o q1 q2)⟩ | exact ⟨hk _ h.1, hk _ h.2⟩

theorem cm_bipush_im : cm_Mon cm_bipush := by
  intro E P t S k1 k2 h hk
  obtain ⟨pc, L, st, M⟩ := S
  unfold cm_bipush at h ⊢
  dsimp only at h ⊢
  first | exact h.elim | exact hk _ h | exact ⟨h.1, hk _ h.2⟩ | exact ⟨h.1, h.2.1, hk _ h.2.2⟩ | exact ⟨h.1, h.2.1, h.2.2.1, hk _ h.2.2.2⟩ | exact ⟨h.1, h.2.1, h.2.2.1, h.2.2.2.1, hk _ h.2.2.2.2⟩ | exact ⟨h.1, h.2.1, h.2.2.1, h.2.2.2.1, h.2.2.2.2.1, hk _ h.2.2.2.2.2⟩ | exact ⟨h.1, h.2.1, h.2.2.1, h.2.2.2.1, h.2.2.2.2.1, h.2.2.2.2.2.1, h.2.2.2.2.2.2.1, h.2.2.2.2.2.2.2.1, hk _ h.2.2.2.2.2.2.2.2⟩ | exact ⟨h.1, fun q => hk _ (h.2.1 q), fun q => hk _ (h.2.2 q)⟩ | exact ⟨h.1, h.2.1, h.2.2.1, fun q => hk _ (h.2.2.2.1 q), fun j o q1 q2 => hk _ (h.2.2.2.2 j o q1 q2)⟩ | exact ⟨hk _ h.1, hk _ h.2⟩

theorem cm_sipush_im : cm_Mon cm_sipush := by
  intro E P t S k1 k2 h hk
  obtain ⟨pc, L, st, M⟩ := S
  unfold cm_sipush at h ⊢
  dsimp only at h ⊢
  first | exact h.elim | exact hk _ h | exact ⟨h.1, hk _ h.2⟩ | exact ⟨h.1, h.2.1, hk _ h.2.2⟩ | exact ⟨h.1, h.2.1, h.2.2.1, hk _ h.2.2.2⟩ | exact ⟨h.1, h.2.1, h.2.2.1, h.2.2.2.1, hk _ h.2.2.2.2⟩ | exact ⟨h.1, h.2.1, h.2.2.1, h.2.2.2.1, h.2.2.2.2.1, hk _ h.2.2.2.2.2⟩ | exact ⟨h.1, h.2.1, h.2.2.1, h.2.2.2.1, h.2.2.2.2.1, h.2.2.2.2.2.1, h.2.2.2.2.2.2.1, h.2.2.2.2.2.2.2.1, hk _ h.2.2.2.2.2.2.2.2⟩ | exact ⟨h.1, fun q => hk _ (h.2.1 q), fun q => hk _ (h.2.2 q)⟩ | exact ⟨h.1, h.2.1, h.2.2.1, fun q => hk _ (h.2.2.2.1 q), fun j o q1 q2 => hk _ (h.2.2.2.2 j o q1 q2)⟩ | exact ⟨hk _ h.1, hk _ h.2⟩

theorem cm_lconst_im : cm_Mon cm_lconst := by
  intro E P t S k1 k2 h hk
  obtain ⟨pc, L, st, M⟩ := S
  unfold cm_lconst at h ⊢
  dsimp only at h ⊢
  first | exact h.elim | exact hk _ h | exact ⟨h.1, hk _ h.2⟩ | exact ⟨h.1, h.2.1, hk _ h.2.2⟩ | exact ⟨h.1, h.2.1, h.2.2.1, hk _ h.2.2.2⟩ | exact ⟨h.1, h.2.1, h.2.2.1, h.2.2.2.1, hk _ h.2.2.2.2⟩ | exact ⟨h.1, h.2.1, h.2.2.1, h.2.2.2.1, h.2.2.2.2.1, hk _ h.2.2.2.2.2⟩ | exact ⟨h.1, h.2.1, h.2.2.1, h.2.2.2.1, h.2.2.2.2.1, h.2.2.2.2.2.1, h.2.2.2.2.2.2.1, h.2.2.2.2.2.2.2.1, hk _ h.2.2.2.2.2.2.2.2⟩ | exact ⟨h.1, fun q => hk _ (h.2.1 q), fun q => hk _ (h.2.2 q)⟩ | exact ⟨h.1, h.2.1, h.2.2.1, fun q => hk _ (h.2.2.2.1 q), fun j o q1 q2 => hk _ (h.2.2.2.2 j o q1 q2)⟩ | exact ⟨hk _ h.1, hk _ h.2⟩

theorem cm_iload_im : cm_Mon cm_iload := by
  intro E P t S k1 k2 h hk
  obtain ⟨pc, L, st, M⟩ := S
  unfold cm_iload cm_ld at h ⊢
  dsimp only at h ⊢
  split at h <;> first | exact h.elim | exact hk _ h

theorem cm_iloadn_im : cm_Mon cm_iloadn := by
  intro E P t S k1 k2 h hk
  obtain ⟨pc, L, st, M⟩ := S
  unfold cm_iloadn cm_ld at h ⊢
  dsimp only at h ⊢
  split at h <;> first | exact h.elim | exact hk _ h

theorem cm_lload_im : cm_Mon cm_lload := by
  intro E P t S k1 k2 h hk
  obtain ⟨pc, L, st, M⟩ := S
  unfold cm_lload cm_ld at h ⊢
  dsimp only at h ⊢
  split at h <;> first | exact h.elim | exact hk _ h

theorem cm_lloadn_im : cm_Mon cm_lloadn := by
  intro E P t S k1 k2 h hk
  obtain ⟨pc, L, st, M⟩ := S
  unfold cm_lloadn cm_ld at h ⊢
  dsimp only at h ⊢
  split at h <;> first | exact h.elim | exact hk _ h

theorem cm_aload_im : cm_Mon cm_aload := by
  intro E P t S k1 k2 h hk
  obtain ⟨pc, L, st, M⟩ := S
  unfold cm_aload cm_ld at h ⊢
  dsimp only at h ⊢
  split at h <;> first | exact h.elim | exact hk _ h

theorem cm_aloadn_im : cm_Mon cm_aloadn := by
  intro E P t S k1 k2 h hk
  obtain ⟨pc, L, st, M⟩ := S
  unfold cm_aloadn cm_ld at h ⊢
  dsimp only at h ⊢
  split at h <;> first | exact h.elim | exact hk _ h

theorem cm_istore_im : cm_Mon cm_istore := by
  intro E P t S k1 k2 h hk
  obtain ⟨pc, L, st, M⟩ := S
  unfold cm_istore cm_sto at h ⊢
  dsimp only at h ⊢
  split at h <;> (first | exact h.elim | exact hk _ h | exact ⟨h.1, hk _ h.2⟩ | exact ⟨h.1, h.2.1, hk _ h.2.2⟩ | exact ⟨h.1, h.2.1, h.2.2.1, hk _ h.2.2.2⟩ | exact ⟨h.1, h.2.1, h.2.2.1, h.2.2.2.1, hk _ h.2.2.2.2⟩ | exact ⟨h.1, h.2.1, h.2.2.1, h.2.2.2.1, h.2.2.2.2.1, hk _ h.2.2.2.2.2⟩ | exact ⟨h.1, h.2.1, h.2.2.1, h.2.2.2.1, h.2.2.2.2.1, h.2.2.2.2.2.1, h.2.2.2.2.2.2.1, h.2.2.2.2.2.2.2.1, hk _ h.2.2.2.2.2.2.2.2⟩ | exact ⟨h.1, fun q => hk _ (h.2.1 q), fun q => hk _ (h.2.2 q)⟩ | exact ⟨h.1, h.2.1, h.2.2.1, fun q => hk _ (h.2.2.2.1 q), fun j o q1 q2 => hk _ (h.2.2.2.2 j o q1 q2)⟩ | exact ⟨hk _ h.1, hk _ h.2⟩)

theorem cm_istoren_im : cm_Mon cm_istoren := by
  intro E P t S k1 k2 h hk
  obtain ⟨pc, L, st, M⟩ := S
  unfold cm_istoren cm_sto at h ⊢
  dsimp only at h ⊢
  split at h <;> (first | exact h.elim | exact hk _ h | exact ⟨h.1, hk _ h.2⟩ | exact ⟨h.1, h.2.1, hk _ h.2.2⟩ | exact ⟨h.1, h.2.1, h.2.2.1, hk _ h.2.2.2⟩ | exact ⟨h.1, h.2.1, h.2.2.1, h.2.2.2.1, hk _ h.2.2.2.2⟩ | exact ⟨h.1, h.2.1, h.2.2.1, h.2.2.2.1, h.2.2.2.2.1, hk _ h.2.2.2.2.2⟩ | exact ⟨h.1, h.2.1, h.2.2.1, h.2.2.2.1, h.2.2.2.2.1, h.2.2.2.2.2.1, h.2.2.2.2.2.2.1, h.2.2.2.2.2.2.2.1, hk _ h.2.2.2.2.2.2.2.2⟩ | exact ⟨h.1, fun q => hk _ (h.2.1 q), fun q => hk _ (h.2.2 q)⟩ | exact ⟨h.1, h.2.1, h.2.2.1, fun q => hk _ (h.2.2.2.1 q), fun j o q1 q2 => hk _ (h.2.2.2.2 j o q1 q2)⟩ | exact ⟨hk _ h.1, hk _ h.2⟩)

theorem cm_lstore_im : cm_Mon cm_lstore := by
  intro E P t S k1 k2 h hk
  obtain ⟨pc, L, st, M⟩ := S
  unfold cm_lstore cm_sto at h ⊢
  dsimp only at h ⊢
  split at h <;> (first | exact h.elim | exact hk _ h | exact ⟨h.1, hk _ h.2⟩ | exact ⟨h.1, h.2.1, hk _ h.2.2⟩ | exact ⟨h.1, h.2.1, h.2.2.1, hk _ h.2.2.2⟩ | exact ⟨h.1, h.2.1, h.2.2.1, h.2.2.2.1, hk _ h.2.2.2.2⟩ | exact ⟨h.1, h.2.1, h.2.2.1, h.2.2.2.1, h.2.2.2.2.1, hk _ h.2.2.2.2.2⟩ | exact ⟨h.1, h.2.1, h.2.2.1, h.2.2.2.1, h.2.2.2.2.1, h.2.2.2.2.2.1, h.2.2.2.2.2.2.1, h.2.2.2.2.2.2.2.1, hk _ h.2.2.2.2.2.2.2.2⟩ | exact ⟨h.1, fun q => hk _ (h.2.1 q), fun q => hk _ (h.2.2 q)⟩ | exact ⟨h.1, h.2.1, h.2.2.1, fun q => hk _ (h.2.2.2.1 q), fun j o q1 q2 => hk _ (h.2.2.2.2 j o q1 q2)⟩ | exact ⟨hk _ h.1, hk _ h.2⟩)

theorem cm_lstoren_im : cm_Mon cm_lstoren := by
  intro E P t S k1 k2 h hk
  obtain ⟨pc, L, st, M⟩ := S
  unfold cm_lstoren cm_sto at h ⊢
  dsimp only at h ⊢
  split at h <;> (first | exact h.elim | exact hk _ h | exact ⟨h.1, hk _ h.2⟩ | exact ⟨h.1, h.2.1, hk _ h.2.2⟩ | exact ⟨h.1, h.2.1, h.2.2.1, hk _ h.2.2.2⟩ | exact ⟨h.1, h.2.1, h.2.2.1, h.2.2.2.1, hk _ h.2.2.2.2⟩ | exact ⟨h.1, h.2.1, h.2.2.1, h.2.2.2.1, h.2.2.2.2.1, hk _ h.2.2.2.2.2⟩ | exact ⟨h.1, h.2.1, h.2.2.1, h.2.2.2.1, h.2.2.2.2.1, h.2.2.2.2.2.1, h.2.2.2.2.2.2.1, h.2.2.2.2.2.2.2.1, hk _ h.2.2.2.2.2.2.2.2⟩ | exact ⟨h.1, fun q => hk _ (h.2.1 q), fun q => hk _ (h.2.2 q)⟩ | exact ⟨h.1, h.2.1, h.2.2.1, fun q => hk _ (h.2.2.2.1 q), fun j o q1 q2 => hk _ (h.2.2.2.2 j o q1 q2)⟩ | exact ⟨hk _ h.1, hk _ h.2⟩)

theorem cm_astore_im : cm_Mon cm_astore := by
  intro E P t S k1 k2 h hk
  obtain ⟨pc, L, st, M⟩ := S
  unfold cm_astore cm_sto at h ⊢
  dsimp only at h ⊢
  split at h <;> (first | exact h.elim | exact hk _ h | exact ⟨h.1, hk _ h.2⟩ | exact ⟨h.1, h.2.1, hk _ h.2.2⟩ | exact ⟨h.1, h.2.1, h.2.2.1, hk _ h.2.2.2⟩ | exact ⟨h.1, h.2.1, h.2.2.1, h.2.2.2.1, hk _ h.2.2.2.2⟩ | exact ⟨h.1, h.2.1, h.2.2.1, h.2.2.2.1, h.2.2.2.2.1, hk _ h.2.2.2.2.2⟩ | exact ⟨h.1, h.2.1, h.2.2.1, h.2.2.2.1, h.2.2.2.2.1, h.2.2.2.2.2.1, h.2.2.2.2.2.2.1, h.2.2.2.2.2.2.2.1, hk _ h.2.2.2.2.2.2.2.2⟩ | exact ⟨h.1, fun q => hk _ (h.2.1 q), fun q => hk _ (h.2.2 q)⟩ | exact ⟨h.1, h.2.1, h.2.2.1, fun q => hk _ (h.2.2.2.1 q), fun j o q1 q2 => hk _ (h.2.2.2.2 j o q1 q2)⟩ | exact ⟨hk _ h.1, hk _ h.2⟩)

theorem cm_astoren_im : cm_Mon cm_astoren := by
  intro E P t S k1 k2 h hk
  obtain ⟨pc, L, st, M⟩ := S
  unfold cm_astoren cm_sto at h ⊢
  dsimp only at h ⊢
  split at h <;> (first | exact h.elim | exact hk _ h | exact ⟨h.1, hk _ h.2⟩ | exact ⟨h.1, h.2.1, hk _ h.2.2⟩ | exact ⟨h.1, h.2.1, h.2.2.1, hk _ h.2.2.2⟩ | exact ⟨h.1, h.2.1, h.2.2.1, h.2.2.2.1, hk _ h.2.2.2.2⟩ | exact ⟨h.1, h.2.1, h.2.2.1, h.2.2.2.1, h.2.2.2.2.1, hk _ h.2.2.2.2.2⟩ | exact ⟨h.1, h.2.1, h.2.2.1, h.2.2.2.1, h.2.2.2.2.1, h.2.2.2.2.2.1, h.2.2.2.2.2.2.1, h.2.2.2.2.2.2.2.1, hk _ h.2.2.2.2.2.2.2.2⟩ | exact ⟨h.1, fun q => hk _ (h.2.1 q), fun q => hk _ (h.2.2 q)⟩ | exact ⟨h.1, h.2.1, h.2.2.1, fun q => hk _ (h.2.2.2.1 q), fun j o q1 q2 => hk _ (h.2.2.2.2 j o q1 q2)⟩ | exact ⟨hk _ h.1, hk _ h.2⟩)

theorem cm_iadd_im : cm_Mon cm_iadd := by
  intro E P t S k1 k2 h hk
  obtain ⟨pc, L, st, M⟩ := S
  unfold cm_iadd at h ⊢
  dsimp only at h ⊢
  split at h <;> (first | exact h.elim | exact hk _ h | exact ⟨h.1, hk _ h.2⟩ | exact ⟨h.1, h.2.1, hk _ h.2.2⟩ | exact ⟨h.1, h.2.1, h.2.2.1, hk _ h.2.2.2⟩ | exact ⟨h.1, h.2.1, h.2.2.1, h.2.2.2.1, hk _ h.2.2.2.2⟩ | exact ⟨h.1, h.2.1, h.2.2.1, h.2.2.2.1, h.2.2.2.2.1, hk _ h.2.2.2.2.2⟩ | exact ⟨h.1, h.2.1, h.2.2.1, h.2.2.2.1, h.2.2.2.2.1, h.2.2.2.2.2.1, h.2.2.2.2.2.2.1, h.2.2.2.2.2.2.2.1, hk _ h.2.2.2.2.2.2.2.2⟩ | exact ⟨h.1, fun q => hk _ (h.2.1 q), fun q => hk _ (h.2.2 q)⟩ | exact ⟨h.1, h.2.1, h.2.2.1, fun q => hk _ (h.2.2.2.1 q), fun j o q1 q2 => hk _ (h.2.2.2.2 j o q1 q2)⟩ | exact ⟨hk _ h.1, hk _ h.2⟩)

theorem cm_isub_im : cm_Mon cm_isub := by
  intro E P t S k1 k2 h hk
  obtain ⟨pc, L, st, M⟩ := S
  unfold cm_isub at h ⊢
  dsimp only at h ⊢
  split at h <;> (first | exact h.elim | exact hk _ h | exact ⟨h.1, hk _ h.2⟩ | exact ⟨h.1, h.2.1, hk _ h.2.2⟩ | exact ⟨h.1, h.2.1, h.2.2.1, hk _ h.2.2.2⟩ | exact ⟨h.1, h.2.1, h.2.2.1, h.2.2.2.1, hk _ h.2.2.2.2⟩ | exact ⟨h.1, h.2.1, h.2.2.1, h.2.2.2.1, h.2.2.2.2.1, hk _ h.2.2.2.2.2⟩ | exact ⟨h.1, h.2.1, h.2.2.1, h.2.2.2.1, h.2.2.2.2.1, h.2.2.2.2.2.1, h.2.2.2.2.2.2.1, h.2.2.2.2.2.2.2.1, hk _ h.2.2.2.2.2.2.2.2⟩ | exact ⟨h.1, fun q => hk _ (h.2.1 q), fun q => hk _ (h.2.2 q)⟩ | exact ⟨h.1, h.2.1, h.2.2.1, fun q => hk _ (h.2.2.2.1 q), fun j o q1 q2 => hk _ (h.2.2.2.2 j o q1 q2)⟩ | exact ⟨hk _ h.1, hk _ h.2⟩)

theorem cm_imul_im : cm_Mon cm_imul := by
  intro E P t S k1 k2 h hk
  obtain ⟨pc, L, st, M⟩ := S
  unfold cm_imul at h ⊢
  dsimp only at h ⊢
  split at h <;> (first | exact h.elim | exact hk _ h | exact ⟨h.1, hk _ h.2⟩ | exact ⟨h.1, h.2.1, hk _ h.2.2⟩ | exact ⟨h.1, h.2.1, h.2.2.1, hk _ h.2.2.2⟩ | exact ⟨h.1, h.2.1, h.2.2.1, h.2.2.2.1, hk _ h.2.2.2.2⟩ | exact ⟨h.1, h.2.1, h.2.2.1, h.2.2.2.1, h.2.2.2.2.1, hk _ h.2.2.2.2.2⟩ | exact ⟨h.1, h.2.1, h.2.2.1, h.2.2.2.1, h.2.2.2.2.1, h.2.2.2.2.2.1, h.2.2.2.2.2.2.1, h.2.2.2.2.2.2.2.1, hk _ h.2.2.2.2.2.2.2.2⟩ | exact ⟨h.1, fun q => hk _ (h.2.1 q), fun q => hk _ (h.2.2 q)⟩ | exact ⟨h.1, h.2.1, h.2.2.1, fun q => hk _ (h.2.2.2.1 q), fun j o q1 q2 => hk _ (h.2.2.2.2 j o q1 q2)⟩ | exact ⟨hk _ h.1, hk _ h.2⟩)

theorem cm_iand_im : cm_Mon cm_iand := by
  intro E P t S k1 k2 h hk
  obtain ⟨pc, L, st, M⟩ := S
  unfold cm_iand at h ⊢
  dsimp only at h ⊢
  split at h <;> (first | exact h.elim | exact hk _ h | exact ⟨h.1, hk _ h.2⟩ | exact ⟨h.1, h.2.1, hk _ h.2.2⟩ | exact ⟨h.1, h.2.1, h.2.2.1, hk _ h.2.2.2⟩ | exact ⟨h.1, h.2.1, h.2.2.1, h.2.2.2.1, hk _ h.2.2.2.2⟩ | exact ⟨h.1, h.2.1, h.2.2.1, h.2.2.2.1, h.2.2.2.2.1, hk _ h.2.2.2.2.2⟩ | exact ⟨h.1, h.2.1, h.2.2.1, h.2.2.2.1, h.2.2.2.2.1, h.2.2.2.2.2.1, h.2.2.2.2.2.2.1, h.2.2.2.2.2.2.2.1, hk _ h.2.2.2.2.2.2.2.2⟩ | exact ⟨h.1, fun q => hk _ (h.2.1 q), fun q => hk _ (h.2.2 q)⟩ | exact ⟨h.1, h.2.1, h.2.2.1, fun q => hk _ (h.2.2.2.1 q), fun j o q1 q2 => hk _ (h.2.2.2.2 j o q1 q2)⟩ | exact ⟨hk _ h.1, hk _ h.2⟩)

theorem cm_ior_im : cm_Mon cm_ior := by
  intro E P t S k1 k2 h hk
  obtain ⟨pc, L, st, M⟩ := S
  unfold cm_ior at h ⊢
  dsimp only at h ⊢
  split at h <;> (first | exact h.elim | exact hk _ h | exact ⟨h.1, hk _ h.2⟩ | exact ⟨h.1, h.2.1, hk _ h.2.2⟩ | exact ⟨h.1, h.2.1, h.2.2.1, hk _ h.2.2.2⟩ | exact ⟨h.1, h.2.1, h.2.2.1, h.2.2.2.1, hk _ h.2.2.2.2⟩ | exact ⟨h.1, h.2.1, h.2.2.1, h.2.2.2.1, h.2.2.2.2.1, hk _ h.2.2.2.2.2⟩ | exact ⟨h.1, h.2.1, h.2.2.1, h.2.2.2.1, h.2.2.2.2.1, h.2.2.2.2.2.1, h.2.2.2.2.2.2.1, h.2.2.2.2.2.2.2.1, hk _ h.2.2.2.2.2.2.2.2⟩ | exact ⟨h.1, fun q => hk _ (h.2.1 q), fun q => hk _ (h.2.2 q)⟩ | exact ⟨h.1, h.2.1, h.2.2.1, fun q => hk _ (h.2.2.2.1 q), fun j o q1 q2 => hk _ (h.2.2.2.2 j o q1 q2)⟩ | exact ⟨hk _ h.1, hk _ h.2⟩)

theorem cm_ixor_im : cm_Mon cm_ixor := by
  intro E P t S k1 k2 h hk
  obtain ⟨pc, L, st, M⟩ := S
  unfold cm_ixor at h ⊢
  dsimp only at h ⊢
  split at h <;> (first | exact h.elim | exact hk _ h | exact ⟨h.1, hk _ h.2⟩ | exact ⟨h.1, h.2.1, hk _ h.2.2⟩ | exact ⟨h.1, h.2.1, h.2.2.1, hk _ h.2.2.2⟩ | exact ⟨h.1, h.2.1, h.2.2.1, h.2.2.2.1, hk _ h.2.2.2.2⟩ | exact ⟨h.1, h.2.1, h.2.2.1, h.2.2.2.1, h.2.2.2.2.1, hk _ h.2.2.2.2.2⟩ | exact ⟨h.1, h.2.1, h.2.2.1, h.2.2.2.1, h.2.2.2.2.1, h.2.2.2.2.2.1, h.2.2.2.2.2.2.1, h.2.2.2.2.2.2.2.1, hk _ h.2.2.2.2.2.2.2.2⟩ | exact ⟨h.1, fun q => hk _ (h.2.1 q), fun q => hk _ (h.2.2 q)⟩ | exact ⟨h.1, h.2.1, h.2.2.1, fun q => hk _ (h.2.2.2.1 q), fun j o q1 q2 => hk _ (h.2.2.2.2 j o q1 q2)⟩ | exact ⟨hk _ h.1, hk _ h.2⟩)

theorem cm_ishl_im : cm_Mon cm_ishl := by
  intro E P t S k1 k2 h hk
  obtain ⟨pc, L, st, M⟩ := S
  unfold cm_ishl at h ⊢
  dsimp only at h ⊢
  split at h <;> (first | exact h.elim | exact hk _ h | exact ⟨h.1, hk _ h.2⟩ | exact ⟨h.1, h.2.1, hk _ h.2.2⟩ | exact ⟨h.1, h.2.1, h.2.2.1, hk _ h.2.2.2⟩ | exact ⟨h.1, h.2.1, h.2.2.1, h.2.2.2.1, hk _ h.2.2.2.2⟩ | exact ⟨h.1, h.2.1, h.2.2.1, h.2.2.2.1, h.2.2.2.2.1, hk _ h.2.2.2.2.2⟩ | exact ⟨h.1, h.2.1, h.2.2.1, h.2.2.2.1, h.2.2.2.2.1, h.2.2.2.2.2.1, h.2.2.2.2.2.2.1, h.2.2.2.2.2.2.2.1, hk _ h.2.2.2.2.2.2.2.2⟩ | exact ⟨h.1, fun q => hk _ (h.2.1 q), fun q => hk _ (h.2.2 q)⟩ | exact ⟨h.1, h.2.1, h.2.2.1, fun q => hk _ (h.2.2.2.1 q), fun j o q1 q2 => hk _ (h.2.2.2.2 j o q1 q2)⟩ | exact ⟨hk _ h.1, hk _ h.2⟩)

theorem cm_ishr_im : cm_Mon cm_ishr := by
  intro E P t S k1 k2 h hk
  obtain ⟨pc, L, st, M⟩ := S
  unfold cm_ishr at h ⊢
  dsimp only at h ⊢
  split at h <;> (first | exact h.elim | exact hk _ h | exact ⟨h.1, hk _ h.2⟩ | exact ⟨h.1, h.2.1, hk _ h.2.2⟩ | exact ⟨h.1, h.2.1, h.2.2.1, hk _ h.2.2.2⟩ | exact ⟨h.1, h.2.1, h.2.2.1, h.2.2.2.1, hk _ h.2.2.2.2⟩ | exact ⟨h.1, h.2.1, h.2.2.1, h.2.2.2.1, h.2.2.2.2.1, hk _ h.2.2.2.2.2⟩ | exact ⟨h.1, h.2.1, h.2.2.1, h.2.2.2.1, h.2.2.2.2.1, h.2.2.2.2.2.1, h.2.2.2.2.2.2.1, h.2.2.2.2.2.2.2.1, hk _ h.2.2.2.2.2.2.2.2⟩ | exact ⟨h.1, fun q => hk _ (h.2.1 q), fun q => hk _ (h.2.2 q)⟩ | exact ⟨h.1, h.2.1, h.2.2.1, fun q => hk _ (h.2.2.2.1 q), fun j o q1 q2 => hk _ (h.2.2.2.2 j o q1 q2)⟩ | exact ⟨hk _ h.1, hk _ h.2⟩)

theorem cm_iushr_im : cm_Mon cm_iushr := by
  intro E P t S k1 k2 h hk
  obtain ⟨pc, L, st, M⟩ := S
  unfold cm_iushr at h ⊢
  dsimp only at h ⊢
  split at h <;> (first | exact h.elim | exact hk _ h | exact ⟨h.1, hk _ h.2⟩ | exact ⟨h.1, h.2.1, hk _ h.2.2⟩ | exact ⟨h.1, h.2.1, h.2.2.1, hk _ h.2.2.2⟩ | exact ⟨h.1, h.2.1, h.2.2.1, h.2.2.2.1, hk _ h.2.2.2.2⟩ | exact ⟨h.1, h.2.1, h.2.2.1, h.2.2.2.1, h.2.2.2.2.1, hk _ h.2.2.2.2.2⟩ | exact ⟨h.1, h.2.1, h.2.2.1, h.2.2.2.1, h.2.2.2.2.1, h.2.2.2.2.2.1, h.2.2.2.2.2.2.1, h.2.2.2.2.2.2.2.1, hk _ h.2.2.2.2.2.2.2.2⟩ | exact ⟨h.1, fun q => hk _ (h.2.1 q), fun q => hk _ (h.2.2 q)⟩ | exact ⟨h.1, h.2.1, h.2.2.1, fun q => hk _ (h.2.2.2.1 q), fun j o q1 q2 => hk _ (h.2.2.2.2 j o q1 q2)⟩ | exact ⟨hk _ h.1, hk _ h.2⟩)

theorem cm_idiv_im : cm_Mon cm_idiv := by
  intro E P t S k1 k2 h hk
  obtain ⟨pc, L, st, M⟩ := S
  unfold cm_idiv at h ⊢
  dsimp only at h ⊢
  split at h <;> (first | exact h.elim | exact hk _ h | exact ⟨h.1, hk _ h.2⟩ | exact ⟨h.1, h.2.1, hk _ h.2.2⟩ | exact ⟨h.1, h.2.1, h.2.2.1, hk _ h.2.2.2⟩ | exact ⟨h.1, h.2.1, h.2.2.1, h.2.2.2.1, hk _ h.2.2.2.2⟩ | exact ⟨h.1, h.2.1, h.2.2.1, h.2.2.2.1, h.2.2.2.2.1, hk _ h.2.2.2.2.2⟩ | exact ⟨h.1, h.2.1, h.2.2.1, h.2.2.2.1, h.2.2.2.2.1, h.2.2.2.2.2.1, h.2.2.2.2.2.2.1, h.2.2.2.2.2.2.2.1, hk _ h.2.2.2.2.2.2.2.2⟩ | exact ⟨h.1, fun q => hk _ (h.2.1 q), fun q => hk _ (h.2.2 q)⟩ | exact ⟨h.1, h.2.1, h.2.2.1, fun q => hk _ (h.2.2.2.1 q), fun j o q1 q2 => hk _ (h.2.2.2.2 j o q1 q2)⟩ | exact ⟨hk _ h.1, hk _ h.2⟩)

theorem cm_irem_im : cm_Mon cm_irem := by
  intro E P t S k1 k2 h hk
  obtain ⟨pc, L, st, M⟩ := S
  unfold cm_irem at h ⊢
  dsimp only at h ⊢
  split at h <;> (first | exact h.elim | exact hk _ h | exact ⟨h.1, hk _ h.2⟩ | exact ⟨h.1, h.2.1, hk _ h.2.2⟩ | exact ⟨h.1, h.2.1, h.2.2.1, hk _ h.2.2.2⟩ | exact ⟨h.1, h.2.1, h.2.2.1, h.2.2.2.1, hk _ h.2.2.2.2⟩ | exact ⟨h.1, h.2.1, h.2.2.1, h.2.2.2.1, h.2.2.2.2.1, hk _ h.2.2.2.2.2⟩ | exact ⟨h.1, h.2.1, h.2.2.1, h.2.2.2.1, h.2.2.2.2.1, h.2.2.2.2.2.1, h.2.2.2.2.2.2.1, h.2.2.2.2.2.2.2.1, hk _ h.2.2.2.2.2.2.2.2⟩ | exact ⟨h.1, fun q => hk _ (h.2.1 q), fun q => hk _ (h.2.2 q)⟩ | exact ⟨h.1, h.2.1, h.2.2.1, fun q => hk _ (h.2.2.2.1 q), fun j o q1 q2 => hk _ (h.2.2.2.2 j o q1 q2)⟩ | exact ⟨hk _ h.1, hk _ h.2⟩)

theorem cm_ineg_im : cm_Mon cm_ineg := by
  intro E P t S k1 k2 h hk
  obtain ⟨pc, L, st, M⟩ := S
  unfold cm_ineg at h ⊢
  dsimp only at h ⊢
  split at h <;> (first | exact h.elim | exact hk _ h | exact ⟨h.1, hk _ h.2⟩ | exact ⟨h.1, h.2.1, hk _ h.2.2⟩ | exact ⟨h.1, h.2.1, h.2.2.1, hk _ h.2.2.2⟩ | exact ⟨h.1, h.2.1, h.2.2.1, h.2.2.2.1, hk _ h.2.2.2.2⟩ | exact ⟨h.1, h.2.1, h.2.2.1, h.2.2.2.1, h.2.2.2.2.1, hk _ h.2.2.2.2.2⟩ | exact ⟨h.1, h.2.1, h.2.2.1, h.2.2.2.1, h.2.2.2.2.1, h.2.2.2.2.2.1, h.2.2.2.2.2.2.1, h.2.2.2.2.2.2.2.1, hk _ h.2.2.2.2.2.2.2.2⟩ | exact ⟨h.1, fun q => hk _ (h.2.1 q), fun q => hk _ (h.2.2 q)⟩ | exact ⟨h.1, h.2.1, h.2.2.1, fun q => hk _ (h.2.2.2.1 q), fun j o q1 q2 => hk _ (h.2.2.2.2 j o q1 q2)⟩ | exact ⟨hk _ h.1, hk _ h.2⟩)

theorem cm_i2b_im : cm_Mon cm_i2b := by
  intro E P t S k1 k2 h hk
  obtain ⟨pc, L, st, M⟩ := S
  unfold cm_i2b at h ⊢
  dsimp only at h ⊢
  split at h <;> (first | exact h.elim | exact hk _ h | exact ⟨h.1, hk _ h.2⟩ | exact ⟨h.1, h.2.1, hk _ h.2.2⟩ | exact ⟨h.1, h.2.1, h.2.2.1, hk _ h.2.2.2⟩ | exact ⟨h.1, h.2.1, h.2.2.1, h.2.2.2.1, hk _ h.2.2.2.2⟩ | exact ⟨h.1, h.2.1, h.2.2.1, h.2.2.2.1, h.2.2.2.2.1, hk _ h.2.2.2.2.2⟩ | exact ⟨h.1, h.2.1, h.2.2.1, h.2.2.2.1, h.2.2.2.2.1, h.2.2.2.2.2.1, h.2.2.2.2.2.2.1, h.2.2.2.2.2.2.2.1, hk _ h.2.2.2.2.2.2.2.2⟩ | exact ⟨h.1, fun q => hk _ (h.2.1 q), fun q => hk _ (h.2.2 q)⟩ | exact ⟨h.1, h.2.1, h.2.2.1, fun q => hk _ (h.2.2.2.1 q), fun j o q1 q2 => hk _ (h.2.2.2.2 j o q1 q2)⟩ | exact ⟨hk _ h.1, hk _ h.2⟩)

theorem cm_i2l_im : cm_Mon cm_i2l := by
  intro E P t S k1 k2 h hk
  obtain ⟨pc, L, st, M⟩ := S
  unfold cm_i2l at h ⊢
  dsimp only at h ⊢
  split at h <;> (first | exact h.elim | exact hk _ h | exact ⟨h.1, hk _ h.2⟩ | exact ⟨h.1, h.2.1, hk _ h.2.2⟩ | exact ⟨h.1, h.2.1, h.2.2.1, hk _ h.2.2.2⟩ | exact ⟨h.1, h.2.1, h.2.2.1, h.2.2.2.1, hk _ h.2.2.2.2⟩ | exact ⟨h.1, h.2.1, h.2.2.1, h.2.2.2.1, h.2.2.2.2.1, hk _ h.2.2.2.2.2⟩ | exact ⟨h.1, h.2.1, h.2.2.1, h.2.2.2.1, h.2.2.2.2.1, h.2.2.2.2.2.1, h.2.2.2.2.2.2.1, h.2.2.2.2.2.2.2.1, hk _ h.2.2.2.2.2.2.2.2⟩ | exact ⟨h.1, fun q => hk _ (h.2.1 q), fun q => hk _ (h.2.2 q)⟩ | exact ⟨h.1, h.2.1, h.2.2.1, fun q => hk _ (h.2.2.2.1 q), fun j o q1 q2 => hk _ (h.2.2.2.2 j o q1 q2)⟩ | exact ⟨hk _ h.1, hk _ h.2⟩)

theorem cm_lcmp_im : cm_Mon cm_lcmp := by
  intro E P t S k1 k2 h hk
  obtain ⟨pc, L, st, M⟩ := S
  unfold cm_lcmp at h ⊢
  dsimp only at h ⊢
  split at h <;> (first | exact h.elim | exact hk _ h | exact ⟨h.1, hk _ h.2⟩ | exact ⟨h.1, h.2.1, hk _ h.2.2⟩ | exact ⟨h.1, h.2.1, h.2.2.1, hk _ h.2.2.2⟩ | exact ⟨h.1, h.2.1, h.2.2.1, h.2.2.2.1, hk _ h.2.2.2.2⟩ | exact ⟨h.1, h.2.1, h.2.2.1, h.2.2.2.1, h.2.2.2.2.1, hk _ h.2.2.2.2.2⟩ | exact ⟨h.1, h.2.1, h.2.2.1, h.2.2.2.1, h.2.2.2.2.1, h.2.2.2.2.2.1, h.2.2.2.2.2.2.1, h.2.2.2.2.2.2.2.1, hk _ h.2.2.2.2.2.2.2.2⟩ | exact ⟨h.1, fun q => hk _ (h.2.1 q), fun q => hk _ (h.2.2 q)⟩ | exact ⟨h.1, h.2.1, h.2.2.1, fun q => hk _ (h.2.2.2.1 q), fun j o q1 q2 => hk _ (h.2.2.2.2 j o q1 q2)⟩ | exact ⟨hk _ h.1, hk _ h.2⟩)

theorem cm_dup_im : cm_Mon cm_dup := by
  intro E P t S k1 k2 h hk
  obtain ⟨pc, L, st, M⟩ := S
  unfold cm_dup at h ⊢
  dsimp only at h ⊢
  split at h <;> (first | exact h.elim | exact hk _ h | exact ⟨h.1, hk _ h.2⟩ | exact ⟨h.1, h.2.1, hk _ h.2.2⟩ | exact ⟨h.1, h.2.1, h.2.2.1, hk _ h.2.2.2⟩ | exact ⟨h.1, h.2.1, h.2.2.1, h.2.2.2.1, hk _ h.2.2.2.2⟩ | exact ⟨h.1, h.2.1, h.2.2.1, h.2.2.2.1, h.2.2.2.2.1, hk _ h.2.2.2.2.2⟩ | exact ⟨h.1, h.2.1, h.2.2.1, h.2.2.2.1, h.2.2.2.2.1, h.2.2.2.2.2.1, h.2.2.2.2.2.2.1, h.2.2.2.2.2.2.2.1, hk _ h.2.2.2.2.2.2.2.2⟩ | exact ⟨h.1, fun q => hk _ (h.2.1 q), fun q => hk _ (h.2.2 q)⟩ | exact ⟨h.1, h.2.1, h.2.2.1, fun q => hk _ (h.2.2.2.1 q), fun j o q1 q2 => hk _ (h.2.2.2.2 j o q1 q2)⟩ | exact ⟨hk _ h.1, hk _ h.2⟩)

theorem cm_pop_im : cm_Mon cm_pop := by
  intro E P t S k1 k2 h hk
  obtain ⟨pc, L, st, M⟩ := S
  unfold cm_pop at h ⊢
  dsimp only at h ⊢
  split at h <;> (first | exact h.elim | exact hk _ h | exact ⟨h.1, hk _ h.2⟩ | exact ⟨h.1, h.2.1, hk _ h.2.2⟩ | exact ⟨h.1, h.2.1, h.2.2.1, hk _ h.2.2.2⟩ | exact ⟨h.1, h.2.1, h.2.2.1, h.2.2.2.1, hk _ h.2.2.2.2⟩ | exact ⟨h.1, h.2.1, h.2.2.1, h.2.2.2.1, h.2.2.2.2.1, hk _ h.2.2.2.2.2⟩ | exact ⟨h.1, h.2.1, h.2.2.1, h.2.2.2.1, h.2.2.2.2.1, h.2.2.2.2.2.1, h.2.2.2.2.2.2.1, h.2.2.2.2.2.2.2.1, hk _ h.2.2.2.2.2.2.2.2⟩ | exact ⟨h.1, fun q => hk _ (h.2.1 q), fun q => hk _ (h.2.2 q)⟩ | exact ⟨h.1, h.2.1, h.2.2.1, fun q => hk _ (h.2.2.2.1 q), fun j o q1 q2 => hk _ (h.2.2.2.2 j o q1 q2)⟩ | exact ⟨hk _ h.1, hk _ h.2⟩)

theorem cm_dup2_im : cm_Mon cm_dup2 := by
  intro E P t S k1 k2 h hk
  obtain ⟨pc, L, st, M⟩ := S
  unfold cm_dup2 at h ⊢
  dsimp only at h ⊢
  split at h <;> (first | exact h.elim | exact hk _ h | exact ⟨h.1, hk _ h.2⟩ | exact ⟨h.1, h.2.1, hk _ h.2.2⟩ | exact ⟨h.1, h.2.1, h.2.2.1, hk _ h.2.2.2⟩ | exact ⟨h.1, h.2.1, h.2.2.1, h.2.2.2.1, hk _ h.2.2.2.2⟩ | exact ⟨h.1, h.2.1, h.2.2.1, h.2.2.2.1, h.2.2.2.2.1, hk _ h.2.2.2.2.2⟩ | exact ⟨h.1, h.2.1, h.2.2.1, h.2.2.2.1, h.2.2.2.2.1, h.2.2.2.2.2.1, h.2.2.2.2.2.2.1, h.2.2.2.2.2.2.2.1, hk _ h.2.2.2.2.2.2.2.2⟩ | exact ⟨h.1, fun q => hk _ (h.2.1 q), fun q => hk _ (h.2.2 q)⟩ | exact ⟨h.1, h.2.1, h.2.2.1, fun q => hk _ (h.2.2.2.1 q), fun j o q1 q2 => hk _ (h.2.2.2.2 j o q1 q2)⟩ | exact ⟨hk _ h.1, hk _ h.2⟩)

theorem cm_iinc_im : cm_Mon cm_iinc := by
  intro E P t S k1 k2 h hk
  obtain ⟨pc, L, st, M⟩ := S
  unfold cm_iinc at h ⊢
  dsimp only at h ⊢
  split at h <;> first | exact h.elim | exact ⟨h.1, hk _ h.2⟩

theorem cm_icmp_eq_im : cm_Mon cm_icmp_eq := by
  intro E P t S k1 k2 h hk
  obtain ⟨pc, L, st, M⟩ := S
  unfold cm_icmp_eq at h ⊢
  dsimp only at h ⊢
  split at h <;> (first | exact h.elim | exact hk _ h | exact ⟨h.1, hk _ h.2⟩ | exact ⟨h.1, h.2.1, hk _ h.2.2⟩ | exact ⟨h.1, h.2.1, h.2.2.1, hk _ h.2.2.2⟩ | exact ⟨h.1, h.2.1, h.2.2.1, h.2.2.2.1, hk _ h.2.2.2.2⟩ | exact ⟨h.1, h.2.1, h.2.2.1, h.2.2.2.1, h.2.2.2.2.1, hk _ h.2.2.2.2.2⟩ | exact ⟨h.1, h.2.1, h.2.2.1, h.2.2.2.1, h.2.2.2.2.1, h.2.2.2.2.2.1, h.2.2.2.2.2.2.1, h.2.2.2.2.2.2.2.1, hk _ h.2.2.2.2.2.2.2.2⟩ | exact ⟨h.1, fun q => hk _ (h.2.1 q), fun q => hk _ (h.2.2 q)⟩ | exact ⟨h.1, h.2.1, h.2.2.1, fun q => hk _ (h.2.2.2.1 q), fun j o q1 q2 => hk _ (h.2.2.2.2 j o q1 q2)⟩ | exact ⟨hk _ h.1, hk _ h.2⟩)

theorem cm_icmp_ne_im : cm_Mon cm_icmp_ne := by
  intro E P t S k1 k2 h hk
  obtain ⟨pc, L, st, M⟩ := S
  unfold cm_icmp_ne at h ⊢
  dsimp only at h ⊢
  split at h <;> (first | exact h.elim | exact hk _ h | exact ⟨h.1, hk _ h.2⟩ | exact ⟨h.1, h.2.1, hk _ h.2.2⟩ | exact ⟨h.1, h.2.1, h.2.2.1, hk _ h.2.2.2⟩ | exact ⟨h.1, h.2.1, h.2.2.1, h.2.2.2.1, hk _ h.2.2.2.2⟩ | exact ⟨h.1, h.2.1, h.2.2.1, h.2.2.2.1, h.2.2.2.2.1, hk _ h.2.2.2.2.2⟩ | exact ⟨h.1, h.2.1, h.2.2.1, h.2.2.2.1, h.2.2.2.2.1, h.2.2.2.2.2.1, h.2.2.2.2.2.2.1, h.2.2.2.2.2.2.2.1, hk _ h.2.2.2.2.2.2.2.2⟩ | exact ⟨h.1, fun q => hk _ (h.2.1 q), fun q => hk _ (h.2.2 q)⟩ | exact ⟨h.1, h.2.1, h.2.2.1, fun q => hk _ (h.2.2.2.1 q), fun j o q1 q2 => hk _ (h.2.2.2.2 j o q1 q2)⟩ | exact ⟨hk _ h.1, hk _ h.2⟩)

theorem cm_icmp_lt_im : cm_Mon cm_icmp_lt := by
  intro E P t S k1 k2 h hk
  obtain ⟨pc, L, st, M⟩ := S
  unfold cm_icmp_lt at h ⊢
  dsimp only at h ⊢
  split at h <;> (first | exact h.elim | exact hk _ h | exact ⟨h.1, hk _ h.2⟩ | exact ⟨h.1, h.2.1, hk _ h.2.2⟩ | exact ⟨h.1, h.2.1, h.2.2.1, hk _ h.2.2.2⟩ | exact ⟨h.1, h.2.1, h.2.2.1, h.2.2.2.1, hk _ h.2.2.2.2⟩ | exact ⟨h.1, h.2.1, h.2.2.1, h.2.2.2.1, h.2.2.2.2.1, hk _ h.2.2.2.2.2⟩ | exact ⟨h.1, h.2.1, h.2.2.1, h.2.2.2.1, h.2.2.2.2.1, h.2.2.2.2.2.1, h.2.2.2.2.2.2.1, h.2.2.2.2.2.2.2.1, hk _ h.2.2.2.2.2.2.2.2⟩ | exact ⟨h.1, fun q => hk _ (h.2.1 q), fun q => hk _ (h.2.2 q)⟩ | exact ⟨h.1, h.2.1, h.2.2.1, fun q => hk _ (h.2.2.2.1 q), fun j o q1 q2 => hk _ (h.2.2.2.2 j o q1 q2)⟩ | exact ⟨hk _ h.1, hk _ h.2⟩)

theorem cm_icmp_ge_im : cm_Mon cm_icmp_ge := by
  intro E P t S k1 k2 h hk
  obtain ⟨pc, L, st, M⟩ := S
  unfold cm_icmp_ge at h ⊢
  dsimp only at h ⊢
  split at h <;> (first | exact h.elim | exact hk _ h | exact ⟨h.1, hk _ h.2⟩ | exact ⟨h.1, h.2.1, hk _ h.2.2⟩ | exact ⟨h.1, h.2.1, h.2.2.1, hk _ h.2.2.2⟩ | exact ⟨h.1, h.2.1, h.2.2.1, h.2.2.2.1, hk _ h.2.2.2.2⟩ | exact ⟨h.1, h.2.1, h.2.2.1, h.2.2.2.1, h.2.2.2.2.1, hk _ h.2.2.2.2.2⟩ | exact ⟨h.1, h.2.1, h.2.2.1, h.2.2.2.1, h.2.2.2.2.1, h.2.2.2.2.2.1, h.2.2.2.2.2.2.1, h.2.2.2.2.2.2.2.1, hk _ h.2.2.2.2.2.2.2.2⟩ | exact ⟨h.1, fun q => hk _ (h.2.1 q), fun q => hk _ (h.2.2 q)⟩ | exact ⟨h.1, h.2.1, h.2.2.1, fun q => hk _ (h.2.2.2.1 q), fun j o q1 q2 => hk _ (h.2.2.2.2 j o q1 q2)⟩ | exact ⟨hk _ h.1, hk _ h.2⟩)

theorem cm_icmp_gt_im : cm_Mon cm_icmp_gt := by
  intro E P t S k1 k2 h hk
  obtain ⟨pc, L, st, M⟩ := S
  unfold cm_icmp_gt at h ⊢
  dsimp only at h ⊢
  split at h <;> (first | exact h.elim | exact hk _ h | exact ⟨h.1, hk _ h.2⟩ | exact ⟨h.1, h.2.1, hk _ h.2.2⟩ | exact ⟨h.1, h.2.1, h.2.2.1, hk _ h.2.2.2⟩ | exact ⟨h.1, h.2.1, h.2.2.1, h.2.2.2.1, hk _ h.2.2.2.2⟩ | exact ⟨h.1, h.2.1, h.2.2.1, h.2.2.2.1, h.2.2.2.2.1, hk _ h.2.2.2.2.2⟩ | exact ⟨h.1, h.2.1, h.2.2.1, h.2.2.2.1, h.2.2.2.2.1, h.2.2.2.2.2.1, h.2.2.2.2.2.2.1, h.2.2.2.2.2.2.2.1, hk _ h.2.2.2.2.2.2.2.2⟩ | exact ⟨h.1, fun q => hk _ (h.2.1 q), fun q => hk _ (h.2.2 q)⟩ | exact ⟨h.1, h.2.1, h.2.2.1, fun q => hk _ (h.2.2.2.1 q), fun j o q1 q2 => hk _ (h.2.2.2.2 j o q1 q2)⟩ | exact ⟨hk _ h.1, hk _ h.2⟩)

theorem cm_icmp_le_im : cm_Mon cm_icmp_le := by
  intro E P t S k1 k2 h hk
  obtain ⟨pc, L, st, M⟩ := S
  unfold cm_icmp_le at h ⊢
  dsimp only at h ⊢
  split at h <;> (first | exact h.elim | exact hk _ h | exact ⟨h.1, hk _ h.2⟩ | exact ⟨h.1, h.2.1, hk _ h.2.2⟩ | exact ⟨h.1, h.2.1, h.2.2.1, hk _ h.2.2.2⟩ | exact ⟨h.1, h.2.1, h.2.2.1, h.2.2.2.1, hk _ h.2.2.2.2⟩ | exact ⟨h.1, h.2.1, h.2.2.1, h.2.2.2.1, h.2.2.2.2.1, hk _ h.2.2.2.2.2⟩ | exact ⟨h.1, h.2.1, h.2.2.1, h.2.2.2.1, h.2.2.2.2.1, h.2.2.2.2.2.1, h.2.2.2.2.2.2.1, h.2.2.2.2.2.2.2.1, hk _ h.2.2.2.2.2.2.2.2⟩ | exact ⟨h.1, fun q => hk _ (h.2.1 q), fun q => hk _ (h.2.2 q)⟩ | exact ⟨h.1, h.2.1, h.2.2.1, fun q => hk _ (h.2.2.2.1 q), fun j o q1 q2 => hk _ (h.2.2.2.2 j o q1 q2)⟩ | exact ⟨hk _ h.1, hk _ h.2⟩)

theorem cm_if_eq_im : cm_Mon cm_if_eq := by
  intro E P t S k1 k2 h hk
  obtain ⟨pc, L, st, M⟩ := S
  unfold cm_if_eq at h ⊢
  dsimp only at h ⊢
  split at h <;> (first | exact h.elim | exact hk _ h | exact ⟨h.1, hk _ h.2⟩ | exact ⟨h.1, h.2.1, hk _ h.2.2⟩ | exact ⟨h.1, h.2.1, h.2.2.1, hk _ h.2.2.2⟩ | exact ⟨h.1, h.2.1, h.2.2.1, h.2.2.2.1, hk _ h.2.2.2.2⟩ | exact ⟨h.1, h.2.1, h.2.2.1, h.2.2.2.1, h.2.2.2.2.1, hk _ h.2.2.2.2.2⟩ | exact ⟨h.1, h.2.1, h.2.2.1, h.2.2.2.1, h.2.2.2.2.1, h.2.2.2.2.2.1, h.2.2.2.2.2.2.1, h.2.2.2.2.2.2.2.1, hk _ h.2.2.2.2.2.2.2.2⟩ | exact ⟨h.1, fun q => hk _ (h.2.1 q), fun q => hk _ (h.2.2 q)⟩ | exact ⟨h.1, h.2.1, h.2.2.1, fun q => hk _ (h.2.2.2.1 q), fun j o q1 q2 => hk _ (h.2.2.2.2 j o q1 q2)⟩ | exact ⟨hk _ h.1, hk _ h.2⟩)

theorem cm_if_ne_im : cm_Mon cm_if_ne := by
  intro E P t S k1 k2 h hk
  obtain ⟨pc, L, st, M⟩ := S
  unfold cm_if_ne at h ⊢
  dsimp only at h ⊢
  split at h <;> (first | exact h.elim | exact hk _ h | exact ⟨h.1, hk _ h.2⟩ | exact ⟨h.1, h.2.1, hk _ h.2.2⟩ | exact ⟨h.1, h.2.1, h.2.2.1, hk _ h.2.2.2⟩ | exact ⟨h.1, h.2.1, h.2.2.1, h.2.2.2.1, hk _ h.2.2.2.2⟩ | exact ⟨h.1, h.2.1, h.2.2.1, h.2.2.2.1, h.2.2.2.2.1, hk _ h.2.2.2.2.2⟩ | exact ⟨h.1, h.2.1, h.2.2.1, h.2.2.2.1, h.2.2.2.2.1, h.2.2.2.2.2.1, h.2.2.2.2.2.2.1, h.2.2.2.2.2.2.2.1, hk _ h.2.2.2.2.2.2.2.2⟩ | exact ⟨h.1, fun q => hk _ (h.2.1 q), fun q => hk _ (h.2.2 q)⟩ | exact ⟨h.1, h.2.1, h.2.2.1, fun q => hk _ (h.2.2.2.1 q), fun j o q1 q2 => hk _ (h.2.2.2.2 j o q1 q2)⟩ | exact ⟨hk _ h.1, hk _ h.2⟩)

theorem cm_if_lt_im : cm_Mon cm_if_lt := by
  intro E P t S k1 k2 h hk
  obtain ⟨pc, L, st, M⟩ := S
  unfold cm_if_lt at h ⊢
  dsimp only at h ⊢
  split at h <;> (first | exact h.elim | exact hk _ h | exact ⟨h.1, hk _ h.2⟩ | exact ⟨h.1, h.2.1, hk _ h.2.2⟩ | exact ⟨h.1, h.2.1, h.2.2.1, hk _ h.2.2.2⟩ | exact ⟨h.1, h.2.1, h.2.2.1, h.2.2.2.1, hk _ h.2.2.2.2⟩ | exact ⟨h.1, h.2.1, h.2.2.1, h.2.2.2.1, h.2.2.2.2.1, hk _ h.2.2.2.2.2⟩ | exact ⟨h.1, h.2.1, h.2.2.1, h.2.2.2.1, h.2.2.2.2.1, h.2.2.2.2.2.1, h.2.2.2.2.2.2.1, h.2.2.2.2.2.2.2.1, hk _ h.2.2.2.2.2.2.2.2⟩ | exact ⟨h.1, fun q => hk _ (h.2.1 q), fun q => hk _ (h.2.2 q)⟩ | exact ⟨h.1, h.2.1, h.2.2.1, fun q => hk _ (h.2.2.2.1 q), fun j o q1 q2 => hk _ (h.2.2.2.2 j o q1 q2)⟩ | exact ⟨hk _ h.1, hk _ h.2⟩)

theorem cm_if_ge_im : cm_Mon cm_if_ge := by
  intro E P t S k1 k2 h hk
  obtain ⟨pc, L, st, M⟩ := S
  unfold cm_if_ge at h ⊢
  dsimp only at h ⊢
  split at h <;> (first | exact h.elim | exact hk _ h | exact ⟨h.1, hk _ h.2⟩ | exact ⟨h.1, h.2.1, hk _ h.2.2⟩ | exact ⟨h.1, h.2.1, h.2.2.1, hk _ h.2.2.2⟩ | exact ⟨h.1, h.2.1, h.2.2.1, h.2.2.2.1, hk _ h.2.2.2.2⟩ | exact ⟨h.1, h.2.1, h.2.2.1, h.2.2.2.1, h.2.2.2.2.1, hk _ h.2.2.2.2.2⟩ | exact ⟨h.1, h.2.1, h.2.2.1, h.2.2.2.1, h.2.2.2.2.1, h.2.2.2.2.2.1, h.2.2.2.2.2.2.1, h.2.2.2.2.2.2.2.1, hk _ h.2.2.2.2.2.2.2.2⟩ | exact ⟨h.1, fun q => hk _ (h.2.1 q), fun q => hk _ (h.2.2 q)⟩ | exact ⟨h.1, h.2.1, h.2.2.1, fun q => hk _ (h.2.2.2.1 q), fun j o q1 q2 => hk _ (h.2.2.2.2 j o q1 q2)⟩ | exact ⟨hk _ h.1, hk _ h.2⟩)

theorem cm_if_gt_im : cm_Mon cm_if_gt := by
  intro E P t S k1 k2 h hk
  obtain ⟨pc, L, st, M⟩ := S
  unfold cm_if_gt at h ⊢
  dsimp only at h ⊢
  split at h <;> (first | exact h.elim | exact hk _ h | exact ⟨h.1, hk _ h.2⟩ | exact ⟨h.1, h.2.1, hk _ h.2.2⟩ | exact ⟨h.1, h.2.1, h.2.2.1, hk _ h.2.2.2⟩ | exact ⟨h.1, h.2.1, h.2.2.1, h.2.2.2.1, hk _ h.2.2.2.2⟩ | exact ⟨h.1, h.2.1, h.2.2.1, h.2.2.2.1, h.2.2.2.2.1, hk _ h.2.2.2.2.2⟩ | exact ⟨h.1, h.2.1, h.2.2.1, h.2.2.2.1, h.2.2.2.2.1, h.2.2.2.2.2.1, h.2.2.2.2.2.2.1, h.2.2.2.2.2.2.2.1, hk _ h.2.2.2.2.2.2.2.2⟩ | exact ⟨h.1, fun q => hk _ (h.2.1 q), fun q => hk _ (h.2.2 q)⟩ | exact ⟨h.1, h.2.1, h.2.2.1, fun q => hk _ (h.2.2.2.1 q), fun j o q1 q2 => hk _ (h.2.2.2.2 j o q1 q2)⟩ | exact ⟨hk _ h.1, hk _ h.2⟩)

theorem cm_if_le_im : cm_Mon cm_if_le := by
  intro E P t S k1 k2 h hk
  obtain ⟨pc, L, st, M⟩ := S
  unfold cm_if_le at h ⊢
  dsimp only at h ⊢
  split at h <;> (first | exact h.elim | exact hk _ h | exact ⟨h.1, hk _ h.2⟩ | exact ⟨h.1, h.2.1, hk _ h.2.2⟩ | exact ⟨h.1, h.2.1, h.2.2.1, hk _ h.2.2.2⟩ | exact ⟨h.1, h.2.1, h.2.2.1, h.2.2.2.1, hk _ h.2.2.2.2⟩ | exact ⟨h.1, h.2.1, h.2.2.1, h.2.2.2.1, h.2.2.2.2.1, hk _ h.2.2.2.2.2⟩ | exact ⟨h.1, h.2.1, h.2.2.1, h.2.2.2.1, h.2.2.2.2.1, h.2.2.2.2.2.1, h.2.2.2.2.2.2.1, h.2.2.2.2.2.2.2.1, hk _ h.2.2.2.2.2.2.2.2⟩ | exact ⟨h.1, fun q => hk _ (h.2.1 q), fun q => hk _ (h.2.2 q)⟩ | exact ⟨h.1, h.2.1, h.2.2.1, fun q => hk _ (h.2.2.2.1 q), fun j o q1 q2 => hk _ (h.2.2.2.2 j o q1 q2)⟩ | exact ⟨hk _ h.1, hk _ h.2⟩)

theorem cm_goto_im : cm_Mon cm_goto := by
  intro E P t S k1 k2 h hk
  obtain ⟨pc, L, st, M⟩ := S
  unfold cm_goto at h ⊢
  dsimp only at h ⊢
  first | exact h.elim | exact hk _ h | exact ⟨h.1, hk _ h.2⟩ | exact ⟨h.1, h.2.1, hk _ h.2.2⟩ | exact ⟨h.1, h.2.1, h.2.2.1, hk _ h.2.2.2⟩ | exact ⟨h.1, h.2.1, h.2.2.1, h.2.2.2.1, hk _ h.2.2.2.2⟩ | exact ⟨h.1, h.2.1, h.2.2.1, h.2.2.2.1, h.2.2.2.2.1, hk _ h.2.2.2.2.2⟩ | exact ⟨h.1, h.2.1, h.2.2.1, h.2.2.2.1, h.2.2.2.2.1, h.2.2.2.2.2.1, h.2.2.2.2.2.2.1, h.2.2.2.2.2.2.2.1, hk _ h.2.2.2.2.2.2.2.2⟩ | exact ⟨h.1, fun q => hk _ (h.2.1 q), fun q => hk _ (h.2.2 q)⟩ | exact ⟨h.1, h.2.1, h.2.2.1, fun q => hk _ (h.2.2.2.1 q), fun j o q1 q2 => hk _ (h.2.2.2.2 j o q1 q2)⟩ | exact ⟨hk _ h.1, hk _ h.2⟩

theorem cm_sw_im : cm_Mon cm_sw := by
  intro E P t S k1 k2 h hk
  obtain ⟨pc, L, st, M⟩ := S
  unfold cm_sw at h ⊢
  dsimp only at h ⊢
  split at h
  · exact ⟨h.1, h.2.1, h.2.2.1, fun q => hk _ (h.2.2.2.1 q), fun j o q1 q2 => hk _ (h.2.2.2.2 j o q1 q2)⟩
  · exact h.elim

theorem cm_get_im : cm_Mon cm_get := by
  intro E P t S k1 k2 h hk
  obtain ⟨pc, L, st, M⟩ := S
  unfold cm_get at h ⊢
  dsimp only at h ⊢
  split at h <;> (first | exact h.elim | exact hk _ h | exact ⟨h.1, hk _ h.2⟩ | exact ⟨h.1, h.2.1, hk _ h.2.2⟩ | exact ⟨h.1, h.2.1, h.2.2.1, hk _ h.2.2.2⟩ | exact ⟨h.1, h.2.1, h.2.2.1, h.2.2.2.1, hk _ h.2.2.2.2⟩ | exact ⟨h.1, h.2.1, h.2.2.1, h.2.2.2.1, h.2.2.2.2.1, hk _ h.2.2.2.2.2⟩ | exact ⟨h.1, h.2.1, h.2.2.1, h.2.2.2.1, h.2.2.2.2.1, h.2.2.2.2.2.1, h.2.2.2.2.2.2.1, h.2.2.2.2.2.2.2.1, hk _ h.2.2.2.2.2.2.2.2⟩ | exact ⟨h.1, fun q => hk _ (h.2.1 q), fun q => hk _ (h.2.2 q)⟩ | exact ⟨h.1, h.2.1, h.2.2.1, fun q => hk _ (h.2.2.2.1 q), fun j o q1 q2 => hk _ (h.2.2.2.2 j o q1 q2)⟩ | exact ⟨hk _ h.1, hk _ h.2⟩)

theorem cm_put_im : cm_Mon cm_put := by
  intro E P t S k1 k2 h hk
  obtain ⟨pc, L, st, M⟩ := S
  unfold cm_put at h ⊢
  dsimp only at h ⊢
  split at h <;> (first | exact h.elim | exact hk _ h | exact ⟨h.1, hk _ h.2⟩ | exact ⟨h.1, h.2.1, hk _ h.2.2⟩ | exact ⟨h.1, h.2.1, h.2.2.1, hk _ h.2.2.2⟩ | exact ⟨h.1, h.2.1, h.2.2.1, h.2.2.2.1, hk _ h.2.2.2.2⟩ | exact ⟨h.1, h.2.1, h.2.2.1, h.2.2.2.1, h.2.2.2.2.1, hk _ h.2.2.2.2.2⟩ | exact ⟨h.1, h.2.1, h.2.2.1, h.2.2.2.1, h.2.2.2.2.1, h.2.2.2.2.2.1, h.2.2.2.2.2.2.1, h.2.2.2.2.2.2.2.1, hk _ h.2.2.2.2.2.2.2.2⟩ | exact ⟨h.1, fun q => hk _ (h.2.1 q), fun q => hk _ (h.2.2 q)⟩ | exact ⟨h.1, h.2.1, h.2.2.1, fun q => hk _ (h.2.2.2.1 q), fun j o q1 q2 => hk _ (h.2.2.2.2 j o q1 q2)⟩ | exact ⟨hk _ h.1, hk _ h.2⟩)

theorem cm_iaload_im : cm_Mon cm_iaload := by
  intro E P t S k1 k2 h hk
  obtain ⟨pc, L, st, M⟩ := S
  unfold cm_iaload at h ⊢
  dsimp only at h ⊢
  split at h <;> (first | exact h.elim | exact hk _ h | exact ⟨h.1, hk _ h.2⟩ | exact ⟨h.1, h.2.1, hk _ h.2.2⟩ | exact ⟨h.1, h.2.1, h.2.2.1, hk _ h.2.2.2⟩ | exact ⟨h.1, h.2.1, h.2.2.1, h.2.2.2.1, hk _ h.2.2.2.2⟩ | exact ⟨h.1, h.2.1, h.2.2.1, h.2.2.2.1, h.2.2.2.2.1, hk _ h.2.2.2.2.2⟩ | exact ⟨h.1, h.2.1, h.2.2.1, h.2.2.2.1, h.2.2.2.2.1, h.2.2.2.2.2.1, h.2.2.2.2.2.2.1, h.2.2.2.2.2.2.2.1, hk _ h.2.2.2.2.2.2.2.2⟩ | exact ⟨h.1, fun q => hk _ (h.2.1 q), fun q => hk _ (h.2.2 q)⟩ | exact ⟨h.1, h.2.1, h.2.2.1, fun q => hk _ (h.2.2.2.1 q), fun j o q1 q2 => hk _ (h.2.2.2.2 j o q1 q2)⟩ | exact ⟨hk _ h.1, hk _ h.2⟩)

theorem cm_baload_im : cm_Mon cm_baload := by
  intro E P t S k1 k2 h hk
  obtain ⟨pc, L, st, M⟩ := S
  unfold cm_baload at h ⊢
  dsimp only at h ⊢
  split at h <;> (first | exact h.elim | exact hk _ h | exact ⟨h.1, hk _ h.2⟩ | exact ⟨h.1, h.2.1, hk _ h.2.2⟩ | exact ⟨h.1, h.2.1, h.2.2.1, hk _ h.2.2.2⟩ | exact ⟨h.1, h.2.1, h.2.2.1, h.2.2.2.1, hk _ h.2.2.2.2⟩ | exact ⟨h.1, h.2.1, h.2.2.1, h.2.2.2.1, h.2.2.2.2.1, hk _ h.2.2.2.2.2⟩ | exact ⟨h.1, h.2.1, h.2.2.1, h.2.2.2.1, h.2.2.2.2.1, h.2.2.2.2.2.1, h.2.2.2.2.2.2.1, h.2.2.2.2.2.2.2.1, hk _ h.2.2.2.2.2.2.2.2⟩ | exact ⟨h.1, fun q => hk _ (h.2.1 q), fun q => hk _ (h.2.2 q)⟩ | exact ⟨h.1, h.2.1, h.2.2.1, fun q => hk _ (h.2.2.2.1 q), fun j o q1 q2 => hk _ (h.2.2.2.2 j o q1 q2)⟩ | exact ⟨hk _ h.1, hk _ h.2⟩)

theorem cm_laload_im : cm_Mon cm_laload := by
  intro E P t S k1 k2 h hk
  obtain ⟨pc, L, st, M⟩ := S
  unfold cm_laload at h ⊢
  dsimp only at h ⊢
  split at h <;> (first | exact h.elim | exact hk _ h | exact ⟨h.1, hk _ h.2⟩ | exact ⟨h.1, h.2.1, hk _ h.2.2⟩ | exact ⟨h.1, h.2.1, h.2.2.1, hk _ h.2.2.2⟩ | exact ⟨h.1, h.2.1, h.2.2.1, h.2.2.2.1, hk _ h.2.2.2.2⟩ | exact ⟨h.1, h.2.1, h.2.2.1, h.2.2.2.1, h.2.2.2.2.1, hk _ h.2.2.2.2.2⟩ | exact ⟨h.1, h.2.1, h.2.2.1, h.2.2.2.1, h.2.2.2.2.1, h.2.2.2.2.2.1, h.2.2.2.2.2.2.1, h.2.2.2.2.2.2.2.1, hk _ h.2.2.2.2.2.2.2.2⟩ | exact ⟨h.1, fun q => hk _ (h.2.1 q), fun q => hk _ (h.2.2 q)⟩ | exact ⟨h.1, h.2.1, h.2.2.1, fun q => hk _ (h.2.2.2.1 q), fun j o q1 q2 => hk _ (h.2.2.2.2 j o q1 q2)⟩ | exact ⟨hk _ h.1, hk _ h.2⟩)

theorem cm_aaload_im : cm_Mon cm_aaload := by
  intro E P t S k1 k2 h hk
  obtain ⟨pc, L, st, M⟩ := S
  unfold cm_aaload at h ⊢
  dsimp only at h ⊢
  split at h <;> (first | exact h.elim | exact hk _ h | exact ⟨h.1, hk _ h.2⟩ | exact ⟨h.1, h.2.1, hk _ h.2.2⟩ | exact ⟨h.1, h.2.1, h.2.2.1, hk _ h.2.2.2⟩ | exact ⟨h.1, h.2.1, h.2.2.1, h.2.2.2.1, hk _ h.2.2.2.2⟩ | exact ⟨h.1, h.2.1, h.2.2.1, h.2.2.2.1, h.2.2.2.2.1, hk _ h.2.2.2.2.2⟩ | exact ⟨h.1, h.2.1, h.2.2.1, h.2.2.2.1, h.2.2.2.2.1, h.2.2.2.2.2.1, h.2.2.2.2.2.2.1, h.2.2.2.2.2.2.2.1, hk _ h.2.2.2.2.2.2.2.2⟩ | exact ⟨h.1, fun q => hk _ (h.2.1 q), fun q => hk _ (h.2.2 q)⟩ | exact ⟨h.1, h.2.1, h.2.2.1, fun q => hk _ (h.2.2.2.1 q), fun j o q1 q2 => hk _ (h.2.2.2.2 j o q1 q2)⟩ | exact ⟨hk _ h.1, hk _ h.2⟩)

theorem cm_iastore_im : cm_Mon cm_iastore := by
  intro E P t S k1 k2 h hk
  obtain ⟨pc, L, st, M⟩ := S
  unfold cm_iastore at h ⊢
  dsimp only at h ⊢
  split at h <;> (first | exact h.elim | exact hk _ h | exact ⟨h.1, hk _ h.2⟩ | exact ⟨h.1, h.2.1, hk _ h.2.2⟩ | exact ⟨h.1, h.2.1, h.2.2.1, hk _ h.2.2.2⟩ | exact ⟨h.1, h.2.1, h.2.2.1, h.2.2.2.1, hk _ h.2.2.2.2⟩ | exact ⟨h.1, h.2.1, h.2.2.1, h.2.2.2.1, h.2.2.2.2.1, hk _ h.2.2.2.2.2⟩ | exact ⟨h.1, h.2.1, h.2.2.1, h.2.2.2.1, h.2.2.2.2.1, h.2.2.2.2.2.1, h.2.2.2.2.2.2.1, h.2.2.2.2.2.2.2.1, hk _ h.2.2.2.2.2.2.2.2⟩ | exact ⟨h.1, fun q => hk _ (h.2.1 q), fun q => hk _ (h.2.2 q)⟩ | exact ⟨h.1, h.2.1, h.2.2.1, fun q => hk _ (h.2.2.2.1 q), fun j o q1 q2 => hk _ (h.2.2.2.2 j o q1 q2)⟩ | exact ⟨hk _ h.1, hk _ h.2⟩)

theorem cm_bastore_im : cm_Mon cm_bastore := by
  intro E P t S k1 k2 h hk
  obtain ⟨pc, L, st, M⟩ := S
  unfold cm_bastore at h ⊢
  dsimp only at h ⊢
  split at h <;> (first | exact h.elim | exact hk _ h | exact ⟨h.1, hk _ h.2⟩ | exact ⟨h.1, h.2.1, hk _ h.2.2⟩ | exact ⟨h.1, h.2.1, h.2.2.1, hk _ h.2.2.2⟩ | exact ⟨h.1, h.2.1, h.2.2.1, h.2.2.2.1, hk _ h.2.2.2.2⟩ | exact ⟨h.1, h.2.1, h.2.2.1, h.2.2.2.1, h.2.2.2.2.1, hk _ h.2.2.2.2.2⟩ | exact ⟨h.1, h.2.1, h.2.2.1, h.2.2.2.1, h.2.2.2.2.1, h.2.2.2.2.2.1, h.2.2.2.2.2.2.1, h.2.2.2.2.2.2.2.1, hk _ h.2.2.2.2.2.2.2.2⟩ | exact ⟨h.1, fun q => hk _ (h.2.1 q), fun q => hk _ (h.2.2 q)⟩ | exact ⟨h.1, h.2.1, h.2.2.1, fun q => hk _ (h.2.2.2.1 q), fun j o q1 q2 => hk _ (h.2.2.2.2 j o q1 q2)⟩ | exact ⟨hk _ h.1, hk _ h.2⟩)

theorem cm_alen_im : cm_Mon cm_alen := by
  intro E P t S k1 k2 h hk
  obtain ⟨pc, L, st, M⟩ := S
  unfold cm_alen at h ⊢
  dsimp only at h ⊢
  split at h
  · rename_i c st'
    by_cases hc : c = 1000
    · rw [if_pos hc] at h ⊢
      cases E with
      | none => exact h.elim
      | some q => exact hk _ h
    · rw [if_neg hc] at h ⊢
      exact ⟨h.1, h.2.1, hk _ h.2.2⟩
  · exact h.elim

theorem cm_sald_im : cm_Mon cm_sald := by
  intro E P t S k1 k2 h hk
  obtain ⟨pc, L, st, M⟩ := S
  unfold cm_sald at h ⊢
  dsimp only at h ⊢
  split at h
  · exact ⟨h.1, h.2.1, h.2.2.1, hk _ h.2.2.2⟩
  · exact h.elim

theorem cm_mmin_im : cm_Mon cm_mmin := by
  intro E P t S k1 k2 h hk
  obtain ⟨pc, L, st, M⟩ := S
  unfold cm_mmin at h ⊢
  dsimp only at h ⊢
  split at h <;> (first | exact h.elim | exact hk _ h | exact ⟨h.1, hk _ h.2⟩ | exact ⟨h.1, h.2.1, hk _ h.2.2⟩ | exact ⟨h.1, h.2.1, h.2.2.1, hk _ h.2.2.2⟩ | exact ⟨h.1, h.2.1, h.2.2.1, h.2.2.2.1, hk _ h.2.2.2.2⟩ | exact ⟨h.1, h.2.1, h.2.2.1, h.2.2.2.1, h.2.2.2.2.1, hk _ h.2.2.2.2.2⟩ | exact ⟨h.1, h.2.1, h.2.2.1, h.2.2.2.1, h.2.2.2.2.1, h.2.2.2.2.2.1, h.2.2.2.2.2.2.1, h.2.2.2.2.2.2.2.1, hk _ h.2.2.2.2.2.2.2.2⟩ | exact ⟨h.1, fun q => hk _ (h.2.1 q), fun q => hk _ (h.2.2 q)⟩ | exact ⟨h.1, h.2.1, h.2.2.1, fun q => hk _ (h.2.2.2.1 q), fun j o q1 q2 => hk _ (h.2.2.2.2 j o q1 q2)⟩ | exact ⟨hk _ h.1, hk _ h.2⟩)

theorem cm_ldc_im : cm_Mon cm_ldc := by
  intro E P t S k1 k2 h hk
  obtain ⟨pc, L, st, M⟩ := S
  unfold cm_ldc at h ⊢
  dsimp only at h ⊢
  first | exact h.elim | exact hk _ h | exact ⟨h.1, hk _ h.2⟩ | exact ⟨h.1, h.2.1, hk _ h.2.2⟩ | exact ⟨h.1, h.2.1, h.2.2.1, hk _ h.2.2.2⟩ | exact ⟨h.1, h.2.1, h.2.2.1, h.2.2.2.1, hk _ h.2.2.2.2⟩ | exact ⟨h.1, h.2.1, h.2.2.1, h.2.2.2.1, h.2.2.2.2.1, hk _ h.2.2.2.2.2⟩ | exact ⟨h.1, h.2.1, h.2.2.1, h.2.2.2.1, h.2.2.2.2.1, h.2.2.2.2.2.1, h.2.2.2.2.2.2.1, h.2.2.2.2.2.2.2.1, hk _ h.2.2.2.2.2.2.2.2⟩ | exact ⟨h.1, fun q => hk _ (h.2.1 q), fun q => hk _ (h.2.2 q)⟩ | exact ⟨h.1, h.2.1, h.2.2.1, fun q => hk _ (h.2.2.2.1 q), fun j o q1 q2 => hk _ (h.2.2.2.2 j o q1 q2)⟩ | exact ⟨hk _ h.1, hk _ h.2⟩

theorem cm_ldcS_im : cm_Mon cm_ldcS := by
  intro E P t S k1 k2 h hk
  obtain ⟨pc, L, st, M⟩ := S
  unfold cm_ldcS at h ⊢
  dsimp only at h ⊢
  first | exact h.elim | exact hk _ h | exact ⟨h.1, hk _ h.2⟩ | exact ⟨h.1, h.2.1, hk _ h.2.2⟩ | exact ⟨h.1, h.2.1, h.2.2.1, hk _ h.2.2.2⟩ | exact ⟨h.1, h.2.1, h.2.2.1, h.2.2.2.1, hk _ h.2.2.2.2⟩ | exact ⟨h.1, h.2.1, h.2.2.1, h.2.2.2.1, h.2.2.2.2.1, hk _ h.2.2.2.2.2⟩ | exact ⟨h.1, h.2.1, h.2.2.1, h.2.2.2.1, h.2.2.2.2.1, h.2.2.2.2.2.1, h.2.2.2.2.2.2.1, h.2.2.2.2.2.2.2.1, hk _ h.2.2.2.2.2.2.2.2⟩ | exact ⟨h.1, fun q => hk _ (h.2.1 q), fun q => hk _ (h.2.2 q)⟩ | exact ⟨h.1, h.2.1, h.2.2.1, fun q => hk _ (h.2.2.2.1 q), fun j o q1 q2 => hk _ (h.2.2.2.2 j o q1 q2)⟩ | exact ⟨hk _ h.1, hk _ h.2⟩

theorem cm_getV_im : cm_Mon cm_getV := by
  intro E P t S k1 k2 h hk
  obtain ⟨pc, L, st, M⟩ := S
  unfold cm_getV at h ⊢
  dsimp only at h ⊢
  split at h <;> (first | exact h.elim | exact hk _ h | exact ⟨h.1, hk _ h.2⟩ | exact ⟨h.1, h.2.1, hk _ h.2.2⟩ | exact ⟨h.1, h.2.1, h.2.2.1, hk _ h.2.2.2⟩ | exact ⟨h.1, h.2.1, h.2.2.1, h.2.2.2.1, hk _ h.2.2.2.2⟩ | exact ⟨h.1, h.2.1, h.2.2.1, h.2.2.2.1, h.2.2.2.2.1, hk _ h.2.2.2.2.2⟩ | exact ⟨h.1, h.2.1, h.2.2.1, h.2.2.2.1, h.2.2.2.2.1, h.2.2.2.2.2.1, h.2.2.2.2.2.2.1, h.2.2.2.2.2.2.2.1, hk _ h.2.2.2.2.2.2.2.2⟩ | exact ⟨h.1, fun q => hk _ (h.2.1 q), fun q => hk _ (h.2.2 q)⟩ | exact ⟨h.1, h.2.1, h.2.2.1, fun q => hk _ (h.2.2.2.1 q), fun j o q1 q2 => hk _ (h.2.2.2.2 j o q1 q2)⟩ | exact ⟨hk _ h.1, hk _ h.2⟩)

theorem cm_getC_im : cm_Mon cm_getC := by
  intro E P t S k1 k2 h hk
  obtain ⟨pc, L, st, M⟩ := S
  unfold cm_getC at h ⊢
  dsimp only at h ⊢
  split at h <;> (first | exact h.elim | exact hk _ h | exact ⟨h.1, hk _ h.2⟩ | exact ⟨h.1, h.2.1, hk _ h.2.2⟩ | exact ⟨h.1, h.2.1, h.2.2.1, hk _ h.2.2.2⟩ | exact ⟨h.1, h.2.1, h.2.2.1, h.2.2.2.1, hk _ h.2.2.2.2⟩ | exact ⟨h.1, h.2.1, h.2.2.1, h.2.2.2.1, h.2.2.2.2.1, hk _ h.2.2.2.2.2⟩ | exact ⟨h.1, h.2.1, h.2.2.1, h.2.2.2.1, h.2.2.2.2.1, h.2.2.2.2.2.1, h.2.2.2.2.2.2.1, h.2.2.2.2.2.2.2.1, hk _ h.2.2.2.2.2.2.2.2⟩ | exact ⟨h.1, fun q => hk _ (h.2.1 q), fun q => hk _ (h.2.2 q)⟩ | exact ⟨h.1, h.2.1, h.2.2.1, fun q => hk _ (h.2.2.2.1 q), fun j o q1 q2 => hk _ (h.2.2.2.2 j o q1 q2)⟩ | exact ⟨hk _ h.1, hk _ h.2⟩)

theorem cm_gets_im : cm_Mon cm_gets := by
  intro E P t S k1 k2 h hk
  obtain ⟨pc, L, st, M⟩ := S
  unfold cm_gets at h ⊢
  dsimp only at h ⊢
  first | exact h.elim | exact hk _ h | exact ⟨h.1, hk _ h.2⟩ | exact ⟨h.1, h.2.1, hk _ h.2.2⟩ | exact ⟨h.1, h.2.1, h.2.2.1, hk _ h.2.2.2⟩ | exact ⟨h.1, h.2.1, h.2.2.1, h.2.2.2.1, hk _ h.2.2.2.2⟩ | exact ⟨h.1, h.2.1, h.2.2.1, h.2.2.2.1, h.2.2.2.2.1, hk _ h.2.2.2.2.2⟩ | exact ⟨h.1, h.2.1, h.2.2.1, h.2.2.2.1, h.2.2.2.2.1, h.2.2.2.2.2.1, h.2.2.2.2.2.2.1, h.2.2.2.2.2.2.2.1, hk _ h.2.2.2.2.2.2.2.2⟩ | exact ⟨h.1, fun q => hk _ (h.2.1 q), fun q => hk _ (h.2.2 q)⟩ | exact ⟨h.1, h.2.1, h.2.2.1, fun q => hk _ (h.2.2.2.1 q), fun j o q1 q2 => hk _ (h.2.2.2.2 j o q1 q2)⟩ | exact ⟨hk _ h.1, hk _ h.2⟩

theorem cm_alenS_im : cm_Mon cm_alenS := by
  intro E P t S k1 k2 h hk
  obtain ⟨pc, L, st, M⟩ := S
  unfold cm_alenS at h ⊢
  dsimp only at h ⊢
  split at h
  · split at h
    · rename_i hz
      first | (first | exact h.elim | exact hk _ h | exact ⟨h.1, hk _ h.2⟩ | exact ⟨h.1, h.2.1, hk _ h.2.2⟩ | exact ⟨h.1, h.2.1, h.2.2.1, hk _ h.2.2.2⟩ | exact ⟨h.1, h.2.1, h.2.2.1, h.2.2.2.1, hk _ h.2.2.2.2⟩ | exact ⟨h.1, h.2.1, h.2.2.1, h.2.2.2.1, h.2.2.2.2.1, hk _ h.2.2.2.2.2⟩ | exact ⟨h.1, h.2.1, h.2.2.1, h.2.2.2.1, h.2.2.2.2.1, h.2.2.2.2.2.1, h.2.2.2.2.2.2.1, h.2.2.2.2.2.2.2.1, hk _ h.2.2.2.2.2.2.2.2⟩ | exact ⟨h.1, fun q => hk _ (h.2.1 q), fun q => hk _ (h.2.2 q)⟩ | exact ⟨h.1, h.2.1, h.2.2.1, fun q => hk _ (h.2.2.2.1 q), fun j o q1 q2 => hk _ (h.2.2.2.2 j o q1 q2)⟩ | exact ⟨hk _ h.1, hk _ h.2⟩) | (dsimp only; rw [hz]; first | exact h.elim | exact hk _ h | exact ⟨h.1, hk _ h.2⟩ | exact ⟨h.1, h.2.1, hk _ h.2.2⟩ | exact ⟨h.1, h.2.1, h.2.2.1, hk _ h.2.2.2⟩ | exact ⟨h.1, h.2.1, h.2.2.1, h.2.2.2.1, hk _ h.2.2.2.2⟩ | exact ⟨h.1, h.2.1, h.2.2.1, h.2.2.2.1, h.2.2.2.2.1, hk _ h.2.2.2.2.2⟩ | exact ⟨h.1, h.2.1, h.2.2.1, h.2.2.2.1, h.2.2.2.2.1, h.2.2.2.2.2.1, h.2.2.2.2.2.2.1, h.2.2.2.2.2.2.2.1, hk _ h.2.2.2.2.2.2.2.2⟩ | exact ⟨h.1, fun q => hk _ (h.2.1 q), fun q => hk _ (h.2.2 q)⟩ | exact ⟨h.1, h.2.1, h.2.2.1, fun q => hk _ (h.2.2.2.1 q), fun j o q1 q2 => hk _ (h.2.2.2.2 j o q1 q2)⟩ | exact ⟨hk _ h.1, hk _ h.2⟩)
    · exact h.elim
  · exact h.elim

theorem cm_baloadS_im : cm_Mon cm_baloadS := by
  intro E P t S k1 k2 h hk
  obtain ⟨pc, L, st, M⟩ := S
  unfold cm_baloadS at h ⊢
  dsimp only at h ⊢
  split at h
  · split at h
    · rename_i hz
      first | (first | exact h.elim | exact hk _ h | exact ⟨h.1, hk _ h.2⟩ | exact ⟨h.1, h.2.1, hk _ h.2.2⟩ | exact ⟨h.1, h.2.1, h.2.2.1, hk _ h.2.2.2⟩ | exact ⟨h.1, h.2.1, h.2.2.1, h.2.2.2.1, hk _ h.2.2.2.2⟩ | exact ⟨h.1, h.2.1, h.2.2.1, h.2.2.2.1, h.2.2.2.2.1, hk _ h.2.2.2.2.2⟩ | exact ⟨h.1, h.2.1, h.2.2.1, h.2.2.2.1, h.2.2.2.2.1, h.2.2.2.2.2.1, h.2.2.2.2.2.2.1, h.2.2.2.2.2.2.2.1, hk _ h.2.2.2.2.2.2.2.2⟩ | exact ⟨h.1, fun q => hk _ (h.2.1 q), fun q => hk _ (h.2.2 q)⟩ | exact ⟨h.1, h.2.1, h.2.2.1, fun q => hk _ (h.2.2.2.1 q), fun j o q1 q2 => hk _ (h.2.2.2.2 j o q1 q2)⟩ | exact ⟨hk _ h.1, hk _ h.2⟩) | (dsimp only; rw [hz]; first | exact h.elim | exact hk _ h | exact ⟨h.1, hk _ h.2⟩ | exact ⟨h.1, h.2.1, hk _ h.2.2⟩ | exact ⟨h.1, h.2.1, h.2.2.1, hk _ h.2.2.2⟩ | exact ⟨h.1, h.2.1, h.2.2.1, h.2.2.2.1, hk _ h.2.2.2.2⟩ | exact ⟨h.1, h.2.1, h.2.2.1, h.2.2.2.1, h.2.2.2.2.1, hk _ h.2.2.2.2.2⟩ | exact ⟨h.1, h.2.1, h.2.2.1, h.2.2.2.1, h.2.2.2.2.1, h.2.2.2.2.2.1, h.2.2.2.2.2.2.1, h.2.2.2.2.2.2.2.1, hk _ h.2.2.2.2.2.2.2.2⟩ | exact ⟨h.1, fun q => hk _ (h.2.1 q), fun q => hk _ (h.2.2 q)⟩ | exact ⟨h.1, h.2.1, h.2.2.1, fun q => hk _ (h.2.2.2.1 q), fun j o q1 q2 => hk _ (h.2.2.2.2 j o q1 q2)⟩ | exact ⟨hk _ h.1, hk _ h.2⟩)
    · exact h.elim
  · exact h.elim

theorem cm_i2c_im : cm_Mon cm_i2c := by
  intro E P t S k1 k2 h hk
  obtain ⟨pc, L, st, M⟩ := S
  unfold cm_i2c at h ⊢
  dsimp only at h ⊢
  split at h <;> (first | exact h.elim | exact hk _ h | exact ⟨h.1, hk _ h.2⟩ | exact ⟨h.1, h.2.1, hk _ h.2.2⟩ | exact ⟨h.1, h.2.1, h.2.2.1, hk _ h.2.2.2⟩ | exact ⟨h.1, h.2.1, h.2.2.1, h.2.2.2.1, hk _ h.2.2.2.2⟩ | exact ⟨h.1, h.2.1, h.2.2.1, h.2.2.2.1, h.2.2.2.2.1, hk _ h.2.2.2.2.2⟩ | exact ⟨h.1, h.2.1, h.2.2.1, h.2.2.2.1, h.2.2.2.2.1, h.2.2.2.2.2.1, h.2.2.2.2.2.2.1, h.2.2.2.2.2.2.2.1, hk _ h.2.2.2.2.2.2.2.2⟩ | exact ⟨h.1, fun q => hk _ (h.2.1 q), fun q => hk _ (h.2.2 q)⟩ | exact ⟨h.1, h.2.1, h.2.2.1, fun q => hk _ (h.2.2.2.1 q), fun j o q1 q2 => hk _ (h.2.2.2.2 j o q1 q2)⟩ | exact ⟨hk _ h.1, hk _ h.2⟩)

theorem cm_ladd_im : cm_Mon cm_ladd := by
  intro E P t S k1 k2 h hk
  obtain ⟨pc, L, st, M⟩ := S
  unfold cm_ladd at h ⊢
  dsimp only at h ⊢
  split at h <;> (first | exact h.elim | exact hk _ h | exact ⟨h.1, hk _ h.2⟩ | exact ⟨h.1, h.2.1, hk _ h.2.2⟩ | exact ⟨h.1, h.2.1, h.2.2.1, hk _ h.2.2.2⟩ | exact ⟨h.1, h.2.1, h.2.2.1, h.2.2.2.1, hk _ h.2.2.2.2⟩ | exact ⟨h.1, h.2.1, h.2.2.1, h.2.2.2.1, h.2.2.2.2.1, hk _ h.2.2.2.2.2⟩ | exact ⟨h.1, h.2.1, h.2.2.1, h.2.2.2.1, h.2.2.2.2.1, h.2.2.2.2.2.1, h.2.2.2.2.2.2.1, h.2.2.2.2.2.2.2.1, hk _ h.2.2.2.2.2.2.2.2⟩ | exact ⟨h.1, fun q => hk _ (h.2.1 q), fun q => hk _ (h.2.2 q)⟩ | exact ⟨h.1, h.2.1, h.2.2.1, fun q => hk _ (h.2.2.2.1 q), fun j o q1 q2 => hk _ (h.2.2.2.2 j o q1 q2)⟩ | exact ⟨hk _ h.1, hk _ h.2⟩)

theorem cm_lsub_im : cm_Mon cm_lsub := by
  intro E P t S k1 k2 h hk
  obtain ⟨pc, L, st, M⟩ := S
  unfold cm_lsub at h ⊢
  dsimp only at h ⊢
  split at h <;> (first | exact h.elim | exact hk _ h | exact ⟨h.1, hk _ h.2⟩ | exact ⟨h.1, h.2.1, hk _ h.2.2⟩ | exact ⟨h.1, h.2.1, h.2.2.1, hk _ h.2.2.2⟩ | exact ⟨h.1, h.2.1, h.2.2.1, h.2.2.2.1, hk _ h.2.2.2.2⟩ | exact ⟨h.1, h.2.1, h.2.2.1, h.2.2.2.1, h.2.2.2.2.1, hk _ h.2.2.2.2.2⟩ | exact ⟨h.1, h.2.1, h.2.2.1, h.2.2.2.1, h.2.2.2.2.1, h.2.2.2.2.2.1, h.2.2.2.2.2.2.1, h.2.2.2.2.2.2.2.1, hk _ h.2.2.2.2.2.2.2.2⟩ | exact ⟨h.1, fun q => hk _ (h.2.1 q), fun q => hk _ (h.2.2 q)⟩ | exact ⟨h.1, h.2.1, h.2.2.1, fun q => hk _ (h.2.2.2.1 q), fun j o q1 q2 => hk _ (h.2.2.2.2 j o q1 q2)⟩ | exact ⟨hk _ h.1, hk _ h.2⟩)

theorem cm_lmul_im : cm_Mon cm_lmul := by
  intro E P t S k1 k2 h hk
  obtain ⟨pc, L, st, M⟩ := S
  unfold cm_lmul at h ⊢
  dsimp only at h ⊢
  split at h <;> (first | exact h.elim | exact hk _ h | exact ⟨h.1, hk _ h.2⟩ | exact ⟨h.1, h.2.1, hk _ h.2.2⟩ | exact ⟨h.1, h.2.1, h.2.2.1, hk _ h.2.2.2⟩ | exact ⟨h.1, h.2.1, h.2.2.1, h.2.2.2.1, hk _ h.2.2.2.2⟩ | exact ⟨h.1, h.2.1, h.2.2.1, h.2.2.2.1, h.2.2.2.2.1, hk _ h.2.2.2.2.2⟩ | exact ⟨h.1, h.2.1, h.2.2.1, h.2.2.2.1, h.2.2.2.2.1, h.2.2.2.2.2.1, h.2.2.2.2.2.2.1, h.2.2.2.2.2.2.2.1, hk _ h.2.2.2.2.2.2.2.2⟩ | exact ⟨h.1, fun q => hk _ (h.2.1 q), fun q => hk _ (h.2.2 q)⟩ | exact ⟨h.1, h.2.1, h.2.2.1, fun q => hk _ (h.2.2.2.1 q), fun j o q1 q2 => hk _ (h.2.2.2.2 j o q1 q2)⟩ | exact ⟨hk _ h.1, hk _ h.2⟩)

theorem cm_ldiv_im : cm_Mon cm_ldiv := by
  intro E P t S k1 k2 h hk
  obtain ⟨pc, L, st, M⟩ := S
  unfold cm_ldiv at h ⊢
  dsimp only at h ⊢
  split at h <;> (first | exact h.elim | exact hk _ h | exact ⟨h.1, hk _ h.2⟩ | exact ⟨h.1, h.2.1, hk _ h.2.2⟩ | exact ⟨h.1, h.2.1, h.2.2.1, hk _ h.2.2.2⟩ | exact ⟨h.1, h.2.1, h.2.2.1, h.2.2.2.1, hk _ h.2.2.2.2⟩ | exact ⟨h.1, h.2.1, h.2.2.1, h.2.2.2.1, h.2.2.2.2.1, hk _ h.2.2.2.2.2⟩ | exact ⟨h.1, h.2.1, h.2.2.1, h.2.2.2.1, h.2.2.2.2.1, h.2.2.2.2.2.1, h.2.2.2.2.2.2.1, h.2.2.2.2.2.2.2.1, hk _ h.2.2.2.2.2.2.2.2⟩ | exact ⟨h.1, fun q => hk _ (h.2.1 q), fun q => hk _ (h.2.2 q)⟩ | exact ⟨h.1, h.2.1, h.2.2.1, fun q => hk _ (h.2.2.2.1 q), fun j o q1 q2 => hk _ (h.2.2.2.2 j o q1 q2)⟩ | exact ⟨hk _ h.1, hk _ h.2⟩)

theorem cm_lrem_im : cm_Mon cm_lrem := by
  intro E P t S k1 k2 h hk
  obtain ⟨pc, L, st, M⟩ := S
  unfold cm_lrem at h ⊢
  dsimp only at h ⊢
  split at h <;> (first | exact h.elim | exact hk _ h | exact ⟨h.1, hk _ h.2⟩ | exact ⟨h.1, h.2.1, hk _ h.2.2⟩ | exact ⟨h.1, h.2.1, h.2.2.1, hk _ h.2.2.2⟩ | exact ⟨h.1, h.2.1, h.2.2.1, h.2.2.2.1, hk _ h.2.2.2.2⟩ | exact ⟨h.1, h.2.1, h.2.2.1, h.2.2.2.1, h.2.2.2.2.1, hk _ h.2.2.2.2.2⟩ | exact ⟨h.1, h.2.1, h.2.2.1, h.2.2.2.1, h.2.2.2.2.1, h.2.2.2.2.2.1, h.2.2.2.2.2.2.1, h.2.2.2.2.2.2.2.1, hk _ h.2.2.2.2.2.2.2.2⟩ | exact ⟨h.1, fun q => hk _ (h.2.1 q), fun q => hk _ (h.2.2 q)⟩ | exact ⟨h.1, h.2.1, h.2.2.1, fun q => hk _ (h.2.2.2.1 q), fun j o q1 q2 => hk _ (h.2.2.2.2 j o q1 q2)⟩ | exact ⟨hk _ h.1, hk _ h.2⟩)

theorem cm_ldc2_im : cm_Mon cm_ldc2 := by
  intro E P t S k1 k2 h hk
  obtain ⟨pc, L, st, M⟩ := S
  unfold cm_ldc2 at h ⊢
  dsimp only at h ⊢
  first | exact h.elim | exact hk _ h | exact ⟨h.1, hk _ h.2⟩ | exact ⟨h.1, h.2.1, hk _ h.2.2⟩ | exact ⟨h.1, h.2.1, h.2.2.1, hk _ h.2.2.2⟩ | exact ⟨h.1, h.2.1, h.2.2.1, h.2.2.2.1, hk _ h.2.2.2.2⟩ | exact ⟨h.1, h.2.1, h.2.2.1, h.2.2.2.1, h.2.2.2.2.1, hk _ h.2.2.2.2.2⟩ | exact ⟨h.1, h.2.1, h.2.2.1, h.2.2.2.1, h.2.2.2.2.1, h.2.2.2.2.2.1, h.2.2.2.2.2.2.1, h.2.2.2.2.2.2.2.1, hk _ h.2.2.2.2.2.2.2.2⟩ | exact ⟨h.1, fun q => hk _ (h.2.1 q), fun q => hk _ (h.2.2 q)⟩ | exact ⟨h.1, h.2.1, h.2.2.1, fun q => hk _ (h.2.2.2.1 q), fun j o q1 q2 => hk _ (h.2.2.2.2 j o q1 q2)⟩ | exact ⟨hk _ h.1, hk _ h.2⟩

theorem cm_getsF_im : cm_Mon cm_getsF := by
  intro E P t S k1 k2 h hk
  obtain ⟨pc, L, st, M⟩ := S
  unfold cm_getsF at h ⊢
  dsimp only at h ⊢
  first | exact h.elim | exact hk _ h | exact ⟨h.1, hk _ h.2⟩ | exact ⟨h.1, h.2.1, hk _ h.2.2⟩ | exact ⟨h.1, h.2.1, h.2.2.1, hk _ h.2.2.2⟩ | exact ⟨h.1, h.2.1, h.2.2.1, h.2.2.2.1, hk _ h.2.2.2.2⟩ | exact ⟨h.1, h.2.1, h.2.2.1, h.2.2.2.1, h.2.2.2.2.1, hk _ h.2.2.2.2.2⟩ | exact ⟨h.1, h.2.1, h.2.2.1, h.2.2.2.1, h.2.2.2.2.1, h.2.2.2.2.2.1, h.2.2.2.2.2.2.1, h.2.2.2.2.2.2.2.1, hk _ h.2.2.2.2.2.2.2.2⟩ | exact ⟨h.1, fun q => hk _ (h.2.1 q), fun q => hk _ (h.2.2 q)⟩ | exact ⟨h.1, h.2.1, h.2.2.1, fun q => hk _ (h.2.2.2.1 q), fun j o q1 q2 => hk _ (h.2.2.2.2 j o q1 q2)⟩ | exact ⟨hk _ h.1, hk _ h.2⟩

theorem cm_ldcw_im : cm_Mon cm_ldcw := by
  intro E P t S k1 k2 h hk
  obtain ⟨pc, L, st, M⟩ := S
  unfold cm_ldcw at h ⊢
  dsimp only at h ⊢
  first | exact h.elim | exact hk _ h | exact ⟨h.1, hk _ h.2⟩ | exact ⟨h.1, h.2.1, hk _ h.2.2⟩ | exact ⟨h.1, h.2.1, h.2.2.1, hk _ h.2.2.2⟩ | exact ⟨h.1, h.2.1, h.2.2.1, h.2.2.2.1, hk _ h.2.2.2.2⟩ | exact ⟨h.1, h.2.1, h.2.2.1, h.2.2.2.1, h.2.2.2.2.1, hk _ h.2.2.2.2.2⟩ | exact ⟨h.1, h.2.1, h.2.2.1, h.2.2.2.1, h.2.2.2.2.1, h.2.2.2.2.2.1, h.2.2.2.2.2.2.1, h.2.2.2.2.2.2.2.1, hk _ h.2.2.2.2.2.2.2.2⟩ | exact ⟨h.1, fun q => hk _ (h.2.1 q), fun q => hk _ (h.2.2 q)⟩ | exact ⟨h.1, h.2.1, h.2.2.1, fun q => hk _ (h.2.2.2.1 q), fun j o q1 q2 => hk _ (h.2.2.2.2 j o q1 q2)⟩ | exact ⟨hk _ h.1, hk _ h.2⟩

theorem cm_mmax_im : cm_Mon cm_mmax := by
  intro E P t S k1 k2 h hk
  obtain ⟨pc, L, st, M⟩ := S
  unfold cm_mmax at h ⊢
  dsimp only at h ⊢
  split at h <;> (first | exact h.elim | exact hk _ h | exact ⟨h.1, hk _ h.2⟩ | exact ⟨h.1, h.2.1, hk _ h.2.2⟩ | exact ⟨h.1, h.2.1, h.2.2.1, hk _ h.2.2.2⟩ | exact ⟨h.1, h.2.1, h.2.2.1, h.2.2.2.1, hk _ h.2.2.2.2⟩ | exact ⟨h.1, h.2.1, h.2.2.1, h.2.2.2.1, h.2.2.2.2.1, hk _ h.2.2.2.2.2⟩ | exact ⟨h.1, h.2.1, h.2.2.1, h.2.2.2.1, h.2.2.2.2.1, h.2.2.2.2.2.1, h.2.2.2.2.2.2.1, h.2.2.2.2.2.2.2.1, hk _ h.2.2.2.2.2.2.2.2⟩ | exact ⟨h.1, fun q => hk _ (h.2.1 q), fun q => hk _ (h.2.2 q)⟩ | exact ⟨h.1, h.2.1, h.2.2.1, fun q => hk _ (h.2.2.2.1 q), fun j o q1 q2 => hk _ (h.2.2.2.2 j o q1 q2)⟩ | exact ⟨hk _ h.1, hk _ h.2⟩)

theorem cm_mabs_im : cm_Mon cm_mabs := by
  intro E P t S k1 k2 h hk
  obtain ⟨pc, L, st, M⟩ := S
  unfold cm_mabs at h ⊢
  dsimp only at h ⊢
  split at h <;> (first | exact h.elim | exact hk _ h | exact ⟨h.1, hk _ h.2⟩ | exact ⟨h.1, h.2.1, hk _ h.2.2⟩ | exact ⟨h.1, h.2.1, h.2.2.1, hk _ h.2.2.2⟩ | exact ⟨h.1, h.2.1, h.2.2.1, h.2.2.2.1, hk _ h.2.2.2.2⟩ | exact ⟨h.1, h.2.1, h.2.2.1, h.2.2.2.1, h.2.2.2.2.1, hk _ h.2.2.2.2.2⟩ | exact ⟨h.1, h.2.1, h.2.2.1, h.2.2.2.1, h.2.2.2.2.1, h.2.2.2.2.2.1, h.2.2.2.2.2.2.1, h.2.2.2.2.2.2.2.1, hk _ h.2.2.2.2.2.2.2.2⟩ | exact ⟨h.1, fun q => hk _ (h.2.1 q), fun q => hk _ (h.2.2 q)⟩ | exact ⟨h.1, h.2.1, h.2.2.1, fun q => hk _ (h.2.2.2.1 q), fun j o q1 q2 => hk _ (h.2.2.2.2 j o q1 q2)⟩ | exact ⟨hk _ h.1, hk _ h.2⟩)

theorem cm_copyi_im : cm_Mon cm_copyi := by
  intro E P t S k1 k2 h hk
  obtain ⟨pc, L, st, M⟩ := S
  unfold cm_copyi at h ⊢
  dsimp only at h ⊢
  split at h <;> (first | exact h.elim | exact hk _ h | exact ⟨h.1, hk _ h.2⟩ | exact ⟨h.1, h.2.1, hk _ h.2.2⟩ | exact ⟨h.1, h.2.1, h.2.2.1, hk _ h.2.2.2⟩ | exact ⟨h.1, h.2.1, h.2.2.1, h.2.2.2.1, hk _ h.2.2.2.2⟩ | exact ⟨h.1, h.2.1, h.2.2.1, h.2.2.2.1, h.2.2.2.2.1, hk _ h.2.2.2.2.2⟩ | exact ⟨h.1, h.2.1, h.2.2.1, h.2.2.2.1, h.2.2.2.2.1, h.2.2.2.2.2.1, h.2.2.2.2.2.2.1, h.2.2.2.2.2.2.2.1, hk _ h.2.2.2.2.2.2.2.2⟩ | exact ⟨h.1, fun q => hk _ (h.2.1 q), fun q => hk _ (h.2.2 q)⟩ | exact ⟨h.1, h.2.1, h.2.2.1, fun q => hk _ (h.2.2.2.1 q), fun j o q1 q2 => hk _ (h.2.2.2.2 j o q1 q2)⟩ | exact ⟨hk _ h.1, hk _ h.2⟩)

theorem cm_getT_im : cm_Mon cm_getT := by
  intro E P t S k1 k2 h hk
  obtain ⟨pc, L, st, M⟩ := S
  unfold cm_getT at h ⊢
  dsimp only at h ⊢
  first | exact h.elim | exact hk _ h | exact ⟨h.1, hk _ h.2⟩ | exact ⟨h.1, h.2.1, hk _ h.2.2⟩ | exact ⟨h.1, h.2.1, h.2.2.1, hk _ h.2.2.2⟩ | exact ⟨h.1, h.2.1, h.2.2.1, h.2.2.2.1, hk _ h.2.2.2.2⟩ | exact ⟨h.1, h.2.1, h.2.2.1, h.2.2.2.1, h.2.2.2.2.1, hk _ h.2.2.2.2.2⟩ | exact ⟨h.1, h.2.1, h.2.2.1, h.2.2.2.1, h.2.2.2.2.1, h.2.2.2.2.2.1, h.2.2.2.2.2.2.1, h.2.2.2.2.2.2.2.1, hk _ h.2.2.2.2.2.2.2.2⟩ | exact ⟨h.1, fun q => hk _ (h.2.1 q), fun q => hk _ (h.2.2 q)⟩ | exact ⟨h.1, h.2.1, h.2.2.1, fun q => hk _ (h.2.2.2.1 q), fun j o q1 q2 => hk _ (h.2.2.2.2 j o q1 q2)⟩ | exact ⟨hk _ h.1, hk _ h.2⟩

theorem cm_tald_im : cm_Mon cm_tald := by
  intro E P t S k1 k2 h hk
  obtain ⟨pc, L, st, M⟩ := S
  unfold cm_tald at h ⊢
  dsimp only at h ⊢
  split at h <;> (first | exact h.elim | exact hk _ h | exact ⟨h.1, hk _ h.2⟩ | exact ⟨h.1, h.2.1, hk _ h.2.2⟩ | exact ⟨h.1, h.2.1, h.2.2.1, hk _ h.2.2.2⟩ | exact ⟨h.1, h.2.1, h.2.2.1, h.2.2.2.1, hk _ h.2.2.2.2⟩ | exact ⟨h.1, h.2.1, h.2.2.1, h.2.2.2.1, h.2.2.2.2.1, hk _ h.2.2.2.2.2⟩ | exact ⟨h.1, h.2.1, h.2.2.1, h.2.2.2.1, h.2.2.2.2.1, h.2.2.2.2.2.1, h.2.2.2.2.2.2.1, h.2.2.2.2.2.2.2.1, hk _ h.2.2.2.2.2.2.2.2⟩ | exact ⟨h.1, fun q => hk _ (h.2.1 q), fun q => hk _ (h.2.2 q)⟩ | exact ⟨h.1, h.2.1, h.2.2.1, fun q => hk _ (h.2.2.2.1 q), fun j o q1 q2 => hk _ (h.2.2.2.2 j o q1 q2)⟩ | exact ⟨hk _ h.1, hk _ h.2⟩)

theorem cm_alenT_im : cm_Mon cm_alenT := by
  intro E P t S k1 k2 h hk
  obtain ⟨pc, L, st, M⟩ := S
  unfold cm_alenT at h ⊢
  dsimp only at h ⊢
  split at h <;> (first | exact h.elim | exact hk _ h | exact ⟨h.1, hk _ h.2⟩ | exact ⟨h.1, h.2.1, hk _ h.2.2⟩ | exact ⟨h.1, h.2.1, h.2.2.1, hk _ h.2.2.2⟩ | exact ⟨h.1, h.2.1, h.2.2.1, h.2.2.2.1, hk _ h.2.2.2.2⟩ | exact ⟨h.1, h.2.1, h.2.2.1, h.2.2.2.1, h.2.2.2.2.1, hk _ h.2.2.2.2.2⟩ | exact ⟨h.1, h.2.1, h.2.2.1, h.2.2.2.1, h.2.2.2.2.1, h.2.2.2.2.2.1, h.2.2.2.2.2.2.1, h.2.2.2.2.2.2.2.1, hk _ h.2.2.2.2.2.2.2.2⟩ | exact ⟨h.1, fun q => hk _ (h.2.1 q), fun q => hk _ (h.2.2 q)⟩ | exact ⟨h.1, h.2.1, h.2.2.1, fun q => hk _ (h.2.2.2.1 q), fun j o q1 q2 => hk _ (h.2.2.2.2 j o q1 q2)⟩ | exact ⟨hk _ h.1, hk _ h.2⟩)

theorem cm_lastore_im : cm_Mon cm_lastore := by
  intro E P t S k1 k2 h hk
  obtain ⟨pc, L, st, M⟩ := S
  unfold cm_lastore at h ⊢
  dsimp only at h ⊢
  split at h <;> (first | exact h.elim | exact hk _ h | exact ⟨h.1, hk _ h.2⟩ | exact ⟨h.1, h.2.1, hk _ h.2.2⟩ | exact ⟨h.1, h.2.1, h.2.2.1, hk _ h.2.2.2⟩ | exact ⟨h.1, h.2.1, h.2.2.1, h.2.2.2.1, hk _ h.2.2.2.2⟩ | exact ⟨h.1, h.2.1, h.2.2.1, h.2.2.2.1, h.2.2.2.2.1, hk _ h.2.2.2.2.2⟩ | exact ⟨h.1, h.2.1, h.2.2.1, h.2.2.2.1, h.2.2.2.2.1, h.2.2.2.2.2.1, h.2.2.2.2.2.2.1, h.2.2.2.2.2.2.2.1, hk _ h.2.2.2.2.2.2.2.2⟩ | exact ⟨h.1, fun q => hk _ (h.2.1 q), fun q => hk _ (h.2.2 q)⟩ | exact ⟨h.1, h.2.1, h.2.2.1, fun q => hk _ (h.2.2.2.1 q), fun j o q1 q2 => hk _ (h.2.2.2.2 j o q1 q2)⟩ | exact ⟨hk _ h.1, hk _ h.2⟩)

theorem cm_pop2_im : cm_Mon cm_pop2 := by
  intro E P t S k1 k2 h hk
  obtain ⟨pc, L, st, M⟩ := S
  unfold cm_pop2 at h ⊢
  dsimp only at h ⊢
  split at h <;> (first | exact h.elim | exact hk _ h | exact ⟨h.1, hk _ h.2⟩ | exact ⟨h.1, h.2.1, hk _ h.2.2⟩ | exact ⟨h.1, h.2.1, h.2.2.1, hk _ h.2.2.2⟩ | exact ⟨h.1, h.2.1, h.2.2.1, h.2.2.2.1, hk _ h.2.2.2.2⟩ | exact ⟨h.1, h.2.1, h.2.2.1, h.2.2.2.1, h.2.2.2.2.1, hk _ h.2.2.2.2.2⟩ | exact ⟨h.1, h.2.1, h.2.2.1, h.2.2.2.1, h.2.2.2.2.1, h.2.2.2.2.2.1, h.2.2.2.2.2.2.1, h.2.2.2.2.2.2.2.1, hk _ h.2.2.2.2.2.2.2.2⟩ | exact ⟨h.1, fun q => hk _ (h.2.1 q), fun q => hk _ (h.2.2 q)⟩ | exact ⟨h.1, h.2.1, h.2.2.1, fun q => hk _ (h.2.2.2.1 q), fun j o q1 q2 => hk _ (h.2.2.2.2 j o q1 q2)⟩ | exact ⟨hk _ h.1, hk _ h.2⟩)

theorem cm_d1 {o : cm_O} {l : List cm_O} (h : cm_Mon o) (h2 : ∀ o ∈ l, cm_Mon o) : ∀ o' ∈ o :: l, cm_Mon o' := List.forall_mem_cons.mpr ⟨h, h2⟩
theorem cm_ops_im : ∀ o ∈ cm_ops, cm_Mon o := cm_d1 cm_iconst_im (cm_d1 cm_bipush_im (cm_d1 cm_sipush_im (cm_d1 cm_lconst_im (cm_d1 cm_iload_im (cm_d1 cm_iloadn_im (cm_d1 cm_lload_im (cm_d1 cm_lloadn_im (cm_d1 cm_aload_im (cm_d1 cm_aloadn_im (cm_d1 cm_istore_im (cm_d1 cm_istoren_im (cm_d1 cm_lstore_im (cm_d1 cm_lstoren_im (cm_d1 cm_astore_im (cm_d1 cm_astoren_im (cm_d1 cm_iadd_im (cm_d1 cm_isub_im (cm_d1 cm_imul_im (cm_d1 cm_iand_im (cm_d1 cm_ior_im (cm_d1 cm_ixor_im (cm_d1 cm_ishl_im (cm_d1 cm_ishr_im (cm_d1 cm_iushr_im (cm_d1 cm_idiv_im (cm_d1 cm_irem_im (cm_d1 cm_ineg_im (cm_d1 cm_i2b_im (cm_d1 cm_i2l_im (cm_d1 cm_lcmp_im (cm_d1 cm_dup_im (cm_d1 cm_pop_im (cm_d1 cm_dup2_im (cm_d1 cm_iinc_im (cm_d1 cm_icmp_eq_im (cm_d1 cm_icmp_ne_im (cm_d1 cm_icmp_lt_im (cm_d1 cm_icmp_ge_im (cm_d1 cm_icmp_gt_im (cm_d1 cm_icmp_le_im (cm_d1 cm_if_eq_im (cm_d1 cm_if_ne_im (cm_d1 cm_if_lt_im (cm_d1 cm_if_ge_im (cm_d1 cm_if_gt_im (cm_d1 cm_if_le_im (cm_d1 cm_goto_im (cm_d1 cm_sw_im (cm_d1 cm_get_im (cm_d1 cm_put_im (cm_d1 cm_no_im (cm_d1 cm_iaload_im (cm_d1 cm_baload_im (cm_d1 cm_laload_im (cm_d1 cm_aaload_im (cm_d1 cm_iastore_im (cm_d1 cm_bastore_im (cm_d1 cm_no_im (cm_d1 cm_no_im (cm_d1 cm_no_im (cm_d1 cm_no_im (cm_d1 cm_no_im (cm_d1 cm_no_im (cm_d1 cm_alen_im (cm_d1 cm_sald_im (cm_d1 cm_no_im (cm_d1 cm_mmin_im (cm_d1 cm_ldc_im (cm_d1 cm_ldcS_im (cm_d1 cm_getV_im (cm_d1 cm_getC_im (cm_d1 cm_gets_im (cm_d1 cm_alenS_im (cm_d1 cm_baloadS_im (cm_d1 cm_i2c_im (cm_d1 cm_ladd_im (cm_d1 cm_lsub_im (cm_d1 cm_lmul_im (cm_d1 cm_ldiv_im (cm_d1 cm_lrem_im (cm_d1 cm_ldc2_im (cm_d1 cm_getsF_im (cm_d1 cm_ldcw_im (cm_d1 cm_mmax_im (cm_d1 cm_mabs_im (cm_d1 cm_copyi_im (cm_d1 cm_getT_im (cm_d1 cm_tald_im (cm_d1 cm_alenT_im (cm_d1 cm_lastore_im (cm_d1 cm_pop2_im (fun _ h => absurd h List.not_mem_nil))))))))))))))))))))))))))))))))))))))))))))))))))))))))))))))))))))))))))))))))))))))))))))
/-- what the smaller list tells is told by the larger one; the smaller list tells each but once -/
noncomputable def cm_le (L' L : List (Nat × Value)) : Prop := (∀ q ∈ L', cm_look L' q.1 = some q.2) ∧ ∀ i v, cm_look L' i = some v → cm_look L i = some v
theorem cm_look_fl {p : Nat × Value → Bool} : ∀ {L : List (Nat × Value)} {j : Nat} {u : Value}, cm_look L j = some u → p (j, u) = true → cm_look (L.filter p) j = some u
  | [], j, u, h, _ => by cases h
  | q :: L, j, u, h, hp => by
    obtain ⟨a, b⟩ := q
    unfold cm_look at h
    by_cases ha : a = j
    · rw [if_pos ha] at h
      cases h
      subst ha
      rw [List.filter_cons_of_pos hp]
      unfold cm_look
      rw [if_pos rfl]
    · rw [if_neg ha] at h
      have ih := cm_look_fl h hp
      by_cases hq : p (a, b) = true
      · rw [List.filter_cons_of_pos hq]
        unfold cm_look
        rw [if_neg ha]
        exact ih
      · rw [List.filter_cons_of_neg hq]
        exact ih
theorem cm_le_st {p : Nat × Value → Bool} {L' L : List (Nat × Value)} {i : Nat} {v : Value} (hp : ∀ q, p q = true → q.1 ≠ i) (h : cm_le L' L) : cm_le ((i, v) :: L'.filter p) ((i, v) :: L.filter p) := by
  have key : ∀ j u, (j, u) ∈ L'.filter p → cm_look (L'.filter p) j = some u ∧ cm_look (L.filter p) j = some u ∧ j ≠ i := by
    intro j u hm
    obtain ⟨m1, m2⟩ := List.mem_filter.mp hm
    have l1 := h.1 _ m1
    exact ⟨cm_look_fl l1 m2, cm_look_fl (h.2 _ _ l1) m2, hp _ m2⟩
  refine ⟨fun q hq => ?_, fun j u hl => ?_⟩
  · rcases List.mem_cons.mp hq with rfl | hq
    · unfold cm_look
      rw [if_pos rfl]
    · obtain ⟨a, b⟩ := q
      obtain ⟨k1, -, k3⟩ := key a b hq
      unfold cm_look
      rw [if_neg (fun e => k3 e.symm)]
      exact k1
  · unfold cm_look at hl ⊢
    by_cases hj : i = j
    · rw [if_pos hj] at hl ⊢
      exact hl
    · rw [if_neg hj] at hl ⊢
      exact (key j u (cm_look_mem hl)).2.1
theorem cm_le_1 {L' L : List (Nat × Value)} (i : Nat) (v : Value) (h : cm_le L' L) : cm_le (cm_st1 L' i v) (cm_st1 L i v) := cm_le_st (fun q hq => by
  simp only [Bool.and_eq_true, Bool.not_eq_true', beq_eq_false_iff_ne] at hq
  exact hq.1) h
theorem cm_le_2 {L' L : List (Nat × Value)} (i : Nat) (v : Value) (h : cm_le L' L) : cm_le (cm_st2 L' i v) (cm_st2 L i v) := cm_le_st (fun q hq => by
  simp only [Bool.and_eq_true, Bool.not_eq_true', beq_eq_false_iff_ne] at hq
  exact hq.1) h
theorem cm_le_tr {A B C : List (Nat × Value)} (h1 : cm_le A B) (h2 : ∀ i v, cm_look B i = some v → cm_look C i = some v) : cm_le A C := ⟨h1.1, fun i v h => h2 i v (h1.2 i v h)⟩
noncomputable def cm_Lo (o : cm_O) : Prop := ∀ (E : cm_E) (P : ev_P) (t : ev_T) (pc : Nat) (L' L : List (Nat × Value)) (st : List Value) (M : cm_M) (k' k : cm_S → Prop), cm_le L' L → (∀ (pc2 : Nat) (A B : List (Nat × Value)) (st2 : List Value) (M2 : cm_M), cm_le A B → k' (pc2, A, st2, M2) → k (pc2, B, st2, M2)) → o.2 E P t (pc, L', st, M) k' → o.2 E P t (pc, L, st, M) k
theorem cl_no : cm_Lo cm_no := fun E P t pc L' L st M k' k hL hk h => h.elim
theorem cl_ld {ty n i pc : Nat} {L' L : List (Nat × Value)} {st : List Value} {M : cm_M} {k' k : cm_S → Prop} (hL : cm_le L' L) (hk : ∀ (pc2 : Nat) (A B : List (Nat × Value)) (st2 : List Value) (M2 : cm_M), cm_le A B → k' (pc2, A, st2, M2) → k (pc2, B, st2, M2)) (h : cm_ld ty n i (pc, L', st, M) k') : cm_ld ty n i (pc, L, st, M) k := by
  unfold cm_ld at h
  split at h
  · rename_i x hx
    unfold cm_ld
    dsimp only at hx ⊢
    rw [hL.2 _ _ hx]
    exact hk _ _ _ _ _ hL h
  · rename_i x hx
    unfold cm_ld
    dsimp only at hx ⊢
    rw [hL.2 _ _ hx]
    exact hk _ _ _ _ _ hL h
  · rename_i x hx
    unfold cm_ld
    dsimp only at hx ⊢
    rw [hL.2 _ _ hx]
    exact hk _ _ _ _ _ hL h
  · exact h.elim
theorem cl_sto {ty n i nL pc : Nat} {L' L : List (Nat × Value)} {st : List Value} {M : cm_M} {k' k : cm_S → Prop} (hL : cm_le L' L) (hk : ∀ (pc2 : Nat) (A B : List (Nat × Value)) (st2 : List Value) (M2 : cm_M), cm_le A B → k' (pc2, A, st2, M2) → k (pc2, B, st2, M2)) (h : cm_sto ty n i nL (pc, L', st, M) k') : cm_sto ty n i nL (pc, L, st, M) k := by
  unfold cm_sto at h
  dsimp only at h
  split at h
  · exact ⟨h.1, hk _ _ _ _ _ (cm_le_1 _ _ hL) h.2⟩
  · exact ⟨h.1, hk _ _ _ _ _ (cm_le_2 _ _ hL) h.2⟩
  · exact ⟨h.1, hk _ _ _ _ _ (cm_le_1 _ _ hL) h.2⟩
  · exact h.elim
theorem cl_iconst : cm_Lo cm_iconst := by
  intro E P t pc L' L st M k' k hL hk h
  unfold cm_iconst at h ⊢
  dsimp only at h ⊢
  first | exact h.elim | exact hk _ _ _ _ _ hL h | exact ⟨h.1, hk _ _ _ _ _ hL h.2⟩ | exact ⟨h.1, h.2.1, hk _ _ _ _ _ hL h.2.2⟩ | exact ⟨h.1, h.2.1, h.2.2.1, hk _ _ _ _ _ hL h.2.2.2⟩ | exact ⟨h.1, h.2.1, h.2.2.1, h.2.2.2.1, hk _ _ _ _ _ hL h.2.2.2.2⟩ | exact ⟨h.1, h.2.1, h.2.2.1, h.2.2.2.1, h.2.2.2.2.1, hk _ _ _ _ _ hL h.2.2.2.2.2⟩ | exact ⟨h.1, h.2.1, h.2.2.1, h.2.2.2.1, h.2.2.2.2.1, h.2.2.2.2.2.1, hk _ _ _ _ _ hL h.2.2.2.2.2.2⟩ | exact ⟨h.1, h.2.1, h.2.2.1, h.2.2.2.1, h.2.2.2.2.1, h.2.2.2.2.2.1, h.2.2.2.2.2.2.1, hk _ _ _ _ _ hL h.2.2.2.2.2.2.2⟩ | exact ⟨h.1, h.2.1, h.2.2.1, h.2.2.2.1, h.2.2.2.2.1, h.2.2.2.2.2.1, h.2.2.2.2.2.2.1, h.2.2.2.2.2.2.2.1, hk _ _ _ _ _ hL h.2.2.2.2.2.2.2.2⟩ | exact ⟨h.1, h.2.1, h.2.2.1, h.2.2.2.1, h.2.2.2.2.1, h.2.2.2.2.2.1, h.2.2.2.2.2.2.1, h.2.2.2.2.2.2.2.1, h.2.2.2.2.2.2.2.2.1, hk _ _ _ _ _ hL h.2.2.2.2.2.2.2.2.2⟩
theorem cl_bipush : cm_Lo cm_bipush := by
  intro E P t pc L' L st M k' k hL hk h
  unfold cm_bipush at h ⊢
  dsimp only at h ⊢
  first | exact h.elim | exact hk _ _ _ _ _ hL h | exact ⟨h.1, hk _ _ _ _ _ hL h.2⟩ | exact ⟨h.1, h.2.1, hk _ _ _ _ _ hL h.2.2⟩ | exact ⟨h.1, h.2.1, h.2.2.1, hk _ _ _ _ _ hL h.2.2.2⟩ | exact ⟨h.1, h.2.1, h.2.2.1, h.2.2.2.1, hk _ _ _ _ _ hL h.2.2.2.2⟩ | exact ⟨h.1, h.2.1, h.2.2.1, h.2.2.2.1, h.2.2.2.2.1, hk _ _ _ _ _ hL h.2.2.2.2.2⟩ | exact ⟨h.1, h.2.1, h.2.2.1, h.2.2.2.1, h.2.2.2.2.1, h.2.2.2.2.2.1, hk _ _ _ _ _ hL h.2.2.2.2.2.2⟩ | exact ⟨h.1, h.2.1, h.2.2.1, h.2.2.2.1, h.2.2.2.2.1, h.2.2.2.2.2.1, h.2.2.2.2.2.2.1, hk _ _ _ _ _ hL h.2.2.2.2.2.2.2⟩ | exact ⟨h.1, h.2.1, h.2.2.1, h.2.2.2.1, h.2.2.2.2.1, h.2.2.2.2.2.1, h.2.2.2.2.2.2.1, h.2.2.2.2.2.2.2.1, hk _ _ _ _ _ hL h.2.2.2.2.2.2.2.2⟩ | exact ⟨h.1, h.2.1, h.2.2.1, h.2.2.2.1, h.2.2.2.2.1, h.2.2.2.2.2.1, h.2.2.2.2.2.2.1, h.2.2.2.2.2.2.2.1, h.2.2.2.2.2.2.2.2.1, hk _ _ _ _ _ hL h.2.2.2.2.2.2.2.2.2⟩
theorem cl_sipush : cm_Lo cm_sipush := by
  intro E P t pc L' L st M k' k hL hk h
  unfold cm_sipush at h ⊢
  dsimp only at h ⊢
  first | exact h.elim | exact hk _ _ _ _ _ hL h | exact ⟨h.1, hk _ _ _ _ _ hL h.2⟩ | exact ⟨h.1, h.2.1, hk _ _ _ _ _ hL h.2.2⟩ | exact ⟨h.1, h.2.1, h.2.2.1, hk _ _ _ _ _ hL h.2.2.2⟩ | exact ⟨h.1, h.2.1, h.2.2.1, h.2.2.2.1, hk _ _ _ _ _ hL h.2.2.2.2⟩ | exact ⟨h.1, h.2.1, h.2.2.1, h.2.2.2.1, h.2.2.2.2.1, hk _ _ _ _ _ hL h.2.2.2.2.2⟩ | exact ⟨h.1, h.2.1, h.2.2.1, h.2.2.2.1, h.2.2.2.2.1, h.2.2.2.2.2.1, hk _ _ _ _ _ hL h.2.2.2.2.2.2⟩ | exact ⟨h.1, h.2.1, h.2.2.1, h.2.2.2.1, h.2.2.2.2.1, h.2.2.2.2.2.1, h.2.2.2.2.2.2.1, hk _ _ _ _ _ hL h.2.2.2.2.2.2.2⟩ | exact ⟨h.1, h.2.1, h.2.2.1, h.2.2.2.1, h.2.2.2.2.1, h.2.2.2.2.2.1, h.2.2.2.2.2.2.1, h.2.2.2.2.2.2.2.1, hk _ _ _ _ _ hL h.2.2.2.2.2.2.2.2⟩ | exact ⟨h.1, h.2.1, h.2.2.1, h.2.2.2.1, h.2.2.2.2.1, h.2.2.2.2.2.1, h.2.2.2.2.2.2.1, h.2.2.2.2.2.2.2.1, h.2.2.2.2.2.2.2.2.1, hk _ _ _ _ _ hL h.2.2.2.2.2.2.2.2.2⟩
theorem cl_lconst : cm_Lo cm_lconst := by
  intro E P t pc L' L st M k' k hL hk h
  unfold cm_lconst at h ⊢
  dsimp only at h ⊢
  first | exact h.elim | exact hk _ _ _ _ _ hL h | exact ⟨h.1, hk _ _ _ _ _ hL h.2⟩ | exact ⟨h.1, h.2.1, hk _ _ _ _ _ hL h.2.2⟩ | exact ⟨h.1, h.2.1, h.2.2.1, hk _ _ _ _ _ hL h.2.2.2⟩ | exact ⟨h.1, h.2.1, h.2.2.1, h.2.2.2.1, hk _ _ _ _ _ hL h.2.2.2.2⟩ | exact ⟨h.1, h.2.1, h.2.2.1, h.2.2.2.1, h.2.2.2.2.1, hk _ _ _ _ _ hL h.2.2.2.2.2⟩ | exact ⟨h.1, h.2.1, h.2.2.1, h.2.2.2.1, h.2.2.2.2.1, h.2.2.2.2.2.1, hk _ _ _ _ _ hL h.2.2.2.2.2.2⟩ | exact ⟨h.1, h.2.1, h.2.2.1, h.2.2.2.1, h.2.2.2.2.1, h.2.2.2.2.2.1, h.2.2.2.2.2.2.1, hk _ _ _ _ _ hL h.2.2.2.2.2.2.2⟩ | exact ⟨h.1, h.2.1, h.2.2.1, h.2.2.2.1, h.2.2.2.2.1, h.2.2.2.2.2.1, h.2.2.2.2.2.2.1, h.2.2.2.2.2.2.2.1, hk _ _ _ _ _ hL h.2.2.2.2.2.2.2.2⟩ | exact ⟨h.1, h.2.1, h.2.2.1, h.2.2.2.1, h.2.2.2.2.1, h.2.2.2.2.2.1, h.2.2.2.2.2.2.1, h.2.2.2.2.2.2.2.1, h.2.2.2.2.2.2.2.2.1, hk _ _ _ _ _ hL h.2.2.2.2.2.2.2.2.2⟩
theorem cl_iload : cm_Lo cm_iload := fun E P t pc L' L st M k' k hL hk h => cl_ld hL hk h
theorem cl_iloadn : cm_Lo cm_iloadn := fun E P t pc L' L st M k' k hL hk h => cl_ld hL hk h
theorem cl_lload : cm_Lo cm_lload := fun E P t pc L' L st M k' k hL hk h => cl_ld hL hk h
theorem cl_lloadn : cm_Lo cm_lloadn := fun E P t pc L' L st M k' k hL hk h => cl_ld hL hk h
theorem cl_aload : cm_Lo cm_aload := fun E P t pc L' L st M k' k hL hk h => cl_ld hL hk h
theorem cl_aloadn : cm_Lo cm_aloadn := fun E P t pc L' L st M k' k hL hk h => cl_ld hL hk h
theorem cl_istore : cm_Lo cm_istore := fun E P t pc L' L st M k' k hL hk h => cl_sto hL hk h
theorem cl_istoren : cm_Lo cm_istoren := fun E P t pc L' L st M k' k hL hk h => cl_sto hL hk h
theorem cl_lstore : cm_Lo cm_lstore := fun E P t pc L' L st M k' k hL hk h => cl_sto hL hk h
theorem cl_lstoren : cm_Lo cm_lstoren := fun E P t pc L' L st M k' k hL hk h => cl_sto hL hk h
theorem cl_astore : cm_Lo cm_astore := fun E P t pc L' L st M k' k hL hk h => cl_sto hL hk h
theorem cl_astoren : cm_Lo cm_astoren := fun E P t pc L' L st M k' k hL hk h => cl_sto hL hk h
theorem cl_iadd : cm_Lo cm_iadd := by
  intro E P t pc L' L st M k' k hL hk h
  unfold cm_iadd at h ⊢
  dsimp only at h ⊢
  split at h <;> (first | exact h.elim | exact hk _ _ _ _ _ hL h | exact ⟨h.1, hk _ _ _ _ _ hL h.2⟩ | exact ⟨h.1, h.2.1, hk _ _ _ _ _ hL h.2.2⟩ | exact ⟨h.1, h.2.1, h.2.2.1, hk _ _ _ _ _ hL h.2.2.2⟩ | exact ⟨h.1, h.2.1, h.2.2.1, h.2.2.2.1, hk _ _ _ _ _ hL h.2.2.2.2⟩ | exact ⟨h.1, h.2.1, h.2.2.1, h.2.2.2.1, h.2.2.2.2.1, hk _ _ _ _ _ hL h.2.2.2.2.2⟩ | exact ⟨h.1, h.2.1, h.2.2.1, h.2.2.2.1, h.2.2.2.2.1, h.2.2.2.2.2.1, hk _ _ _ _ _ hL h.2.2.2.2.2.2⟩ | exact ⟨h.1, h.2.1, h.2.2.1, h.2.2.2.1, h.2.2.2.2.1, h.2.2.2.2.2.1, h.2.2.2.2.2.2.1, hk _ _ _ _ _ hL h.2.2.2.2.2.2.2⟩ | exact ⟨h.1, h.2.1, h.2.2.1, h.2.2.2.1, h.2.2.2.2.1, h.2.2.2.2.2.1, h.2.2.2.2.2.2.1, h.2.2.2.2.2.2.2.1, hk _ _ _ _ _ hL h.2.2.2.2.2.2.2.2⟩ | exact ⟨h.1, h.2.1, h.2.2.1, h.2.2.2.1, h.2.2.2.2.1, h.2.2.2.2.2.1, h.2.2.2.2.2.2.1, h.2.2.2.2.2.2.2.1, h.2.2.2.2.2.2.2.2.1, hk _ _ _ _ _ hL h.2.2.2.2.2.2.2.2.2⟩)
theorem cl_isub : cm_Lo cm_isub := by
  intro E P t pc L' L st M k' k hL hk h
  unfold cm_isub at h ⊢
  dsimp only at h ⊢
  split at h <;> (first | exact h.elim | exact hk _ _ _ _ _ hL h | exact ⟨h.1, hk _ _ _ _ _ hL h.2⟩ | exact ⟨h.1, h.2.1, hk _ _ _ _ _ hL h.2.2⟩ | exact ⟨h.1, h.2.1, h.2.2.1, hk _ _ _ _ _ hL h.2.2.2⟩ | exact ⟨h.1, h.2.1, h.2.2.1, h.2.2.2.1, hk _ _ _ _ _ hL h.2.2.2.2⟩ | exact ⟨h.1, h.2.1, h.2.2.1, h.2.2.2.1, h.2.2.2.2.1, hk _ _ _ _ _ hL h.2.2.2.2.2⟩ | exact ⟨h.1, h.2.1, h.2.2.1, h.2.2.2.1, h.2.2.2.2.1, h.2.2.2.2.2.1, hk _ _ _ _ _ hL h.2.2.2.2.2.2⟩ | exact ⟨h.1, h.2.1, h.2.2.1, h.2.2.2.1, h.2.2.2.2.1, h.2.2.2.2.2.1, h.2.2.2.2.2.2.1, hk _ _ _ _ _ hL h.2.2.2.2.2.2.2⟩ | exact ⟨h.1, h.2.1, h.2.2.1, h.2.2.2.1, h.2.2.2.2.1, h.2.2.2.2.2.1, h.2.2.2.2.2.2.1, h.2.2.2.2.2.2.2.1, hk _ _ _ _ _ hL h.2.2.2.2.2.2.2.2⟩ | exact ⟨h.1, h.2.1, h.2.2.1, h.2.2.2.1, h.2.2.2.2.1, h.2.2.2.2.2.1, h.2.2.2.2.2.2.1, h.2.2.2.2.2.2.2.1, h.2.2.2.2.2.2.2.2.1, hk _ _ _ _ _ hL h.2.2.2.2.2.2.2.2.2⟩)
theorem cl_imul : cm_Lo cm_imul := by
  intro E P t pc L' L st M k' k hL hk h
  unfold cm_imul at h ⊢
  dsimp only at h ⊢
  split at h <;> (first | exact h.elim | exact hk _ _ _ _ _ hL h | exact ⟨h.1, hk _ _ _ _ _ hL h.2⟩ | exact ⟨h.1, h.2.1, hk _ _ _ _ _ hL h.2.2⟩ | exact ⟨h.1, h.2.1, h.2.2.1, hk _ _ _ _ _ hL h.2.2.2⟩ | exact ⟨h.1, h.2.1, h.2.2.1, h.2.2.2.1, hk _ _ _ _ _ hL h.2.2.2.2⟩ | exact ⟨h.1, h.2.1, h.2.2.1, h.2.2.2.1, h.2.2.2.2.1, hk _ _ _ _ _ hL h.2.2.2.2.2⟩ | exact ⟨h.1, h.2.1, h.2.2.1, h.2.2.2.1, h.2.2.2.2.1, h.2.2.2.2.2.1, hk _ _ _ _ _ hL h.2.2.2.2.2.2⟩ | exact ⟨h.1, h.2.1, h.2.2.1, h.2.2.2.1, h.2.2.2.2.1, h.2.2.2.2.2.1, h.2.2.2.2.2.2.1, hk _ _ _ _ _ hL h.2.2.2.2.2.2.2⟩ | exact ⟨h.1, h.2.1, h.2.2.1, h.2.2.2.1, h.2.2.2.2.1, h.2.2.2.2.2.1, h.2.2.2.2.2.2.1, h.2.2.2.2.2.2.2.1, hk _ _ _ _ _ hL h.2.2.2.2.2.2.2.2⟩ | exact ⟨h.1, h.2.1, h.2.2.1, h.2.2.2.1, h.2.2.2.2.1, h.2.2.2.2.2.1, h.2.2.2.2.2.2.1, h.2.2.2.2.2.2.2.1, h.2.2.2.2.2.2.2.2.1, hk _ _ _ _ _ hL h.2.2.2.2.2.2.2.2.2⟩)
theorem cl_iand : cm_Lo cm_iand := by
  intro E P t pc L' L st M k' k hL hk h
  unfold cm_iand at h ⊢
  dsimp only at h ⊢
  split at h <;> (first | exact h.elim | exact hk _ _ _ _ _ hL h | exact ⟨h.1, hk _ _ _ _ _ hL h.2⟩ | exact ⟨h.1, h.2.1, hk _ _ _ _ _ hL h.2.2⟩ | exact ⟨h.1, h.2.1, h.2.2.1, hk _ _ _ _ _ hL h.2.2.2⟩ | exact ⟨h.1, h.2.1, h.2.2.1, h.2.2.2.1, hk _ _ _ _ _ hL h.2.2.2.2⟩ | exact ⟨h.1, h.2.1, h.2.2.1, h.2.2.2.1, h.2.2.2.2.1, hk _ _ _ _ _ hL h.2.2.2.2.2⟩ | exact ⟨h.1, h.2.1, h.2.2.1, h.2.2.2.1, h.2.2.2.2.1, h.2.2.2.2.2.1, hk _ _ _ _ _ hL h.2.2.2.2.2.2⟩ | exact ⟨h.1, h.2.1, h.2.2.1, h.2.2.2.1, h.2.2.2.2.1, h.2.2.2.2.2.1, h.2.2.2.2.2.2.1, hk _ _ _ _ _ hL h.2.2.2.2.2.2.2⟩ | exact ⟨h.1, h.2.1, h.2.2.1, h.2.2.2.1, h.2.2.2.2.1, h.2.2.2.2.2.1, h.2.2.2.2.2.2.1, h.2.2.2.2.2.2.2.1, hk _ _ _ _ _ hL h.2.2.2.2.2.2.2.2⟩ | exact ⟨h.1, h.2.1, h.2.2.1, h.2.2.2.1, h.2.2.2.2.1, h.2.2.2.2.2.1, h.2.2.2.2.2.2.1, h.2.2.2.2.2.2.2.1, h.2.2.2.2.2.2.2.2.1, hk _ _ _ _ _ hL h.2.2.2.2.2.2.2.2.2⟩)
theorem cl_ior : cm_Lo cm_ior := by
  intro E P t pc L' L st M k' k hL hk h
  unfold cm_ior at h ⊢
  dsimp only at h ⊢
  split at h <;> (first | exact h.elim | exact hk _ _ _ _ _ hL h | exact ⟨h.1, hk _ _ _ _ _ hL h.2⟩ | exact ⟨h.1, h.2.1, hk _ _ _ _ _ hL h.2.2⟩ | exact ⟨h.1, h.2.1, h.2.2.1, hk _ _ _ _ _ hL h.2.2.2⟩ | exact ⟨h.1, h.2.1, h.2.2.1, h.2.2.2.1, hk _ _ _ _ _ hL h.2.2.2.2⟩ | exact ⟨h.1, h.2.1, h.2.2.1, h.2.2.2.1, h.2.2.2.2.1, hk _ _ _ _ _ hL h.2.2.2.2.2⟩ | exact ⟨h.1, h.2.1, h.2.2.1, h.2.2.2.1, h.2.2.2.2.1, h.2.2.2.2.2.1, hk _ _ _ _ _ hL h.2.2.2.2.2.2⟩ | exact ⟨h.1, h.2.1, h.2.2.1, h.2.2.2.1, h.2.2.2.2.1, h.2.2.2.2.2.1, h.2.2.2.2.2.2.1, hk _ _ _ _ _ hL h.2.2.2.2.2.2.2⟩ | exact ⟨h.1, h.2.1, h.2.2.1, h.2.2.2.1, h.2.2.2.2.1, h.2.2.2.2.2.1, h.2.2.2.2.2.2.1, h.2.2.2.2.2.2.2.1, hk _ _ _ _ _ hL h.2.2.2.2.2.2.2.2⟩ | exact ⟨h.1, h.2.1, h.2.2.1, h.2.2.2.1, h.2.2.2.2.1, h.2.2.2.2.2.1, h.2.2.2.2.2.2.1, h.2.2.2.2.2.2.2.1, h.2.2.2.2.2.2.2.2.1, hk _ _ _ _ _ hL h.2.2.2.2.2.2.2.2.2⟩)
theorem cl_ixor : cm_Lo cm_ixor := by
  intro E P t pc L' L st M k' k hL hk h
  unfold cm_ixor at h ⊢
  dsimp only at h ⊢
  split at h <;> (first | exact h.elim | exact hk _ _ _ _ _ hL h | exact ⟨h.1, hk _ _ _ _ _ hL h.2⟩ | exact ⟨h.1, h.2.1, hk _ _ _ _ _ hL h.2.2⟩ | exact ⟨h.1, h.2.1, h.2.2.1, hk _ _ _ _ _ hL h.2.2.2⟩ | exact ⟨h.1, h.2.1, h.2.2.1, h.2.2.2.1, hk _ _ _ _ _ hL h.2.2.2.2⟩ | exact ⟨h.1, h.2.1, h.2.2.1, h.2.2.2.1, h.2.2.2.2.1, hk _ _ _ _ _ hL h.2.2.2.2.2⟩ | exact ⟨h.1, h.2.1, h.2.2.1, h.2.2.2.1, h.2.2.2.2.1, h.2.2.2.2.2.1, hk _ _ _ _ _ hL h.2.2.2.2.2.2⟩ | exact ⟨h.1, h.2.1, h.2.2.1, h.2.2.2.1, h.2.2.2.2.1, h.2.2.2.2.2.1, h.2.2.2.2.2.2.1, hk _ _ _ _ _ hL h.2.2.2.2.2.2.2⟩ | exact ⟨h.1, h.2.1, h.2.2.1, h.2.2.2.1, h.2.2.2.2.1, h.2.2.2.2.2.1, h.2.2.2.2.2.2.1, h.2.2.2.2.2.2.2.1, hk _ _ _ _ _ hL h.2.2.2.2.2.2.2.2⟩ | exact ⟨h.1, h.2.1, h.2.2.1, h.2.2.2.1, h.2.2.2.2.1, h.2.2.2.2.2.1, h.2.2.2.2.2.2.1, h.2.2.2.2.2.2.2.1, h.2.2.2.2.2.2.2.2.1, hk _ _ _ _ _ hL h.2.2.2.2.2.2.2.2.2⟩)
theorem cl_ishl : cm_Lo cm_ishl := by
  intro E P t pc L' L st M k' k hL hk h
  unfold cm_ishl at h ⊢
  dsimp only at h ⊢
  split at h <;> (first | exact h.elim | exact hk _ _ _ _ _ hL h | exact ⟨h.1, hk _ _ _ _ _ hL h.2⟩ | exact ⟨h.1, h.2.1, hk _ _ _ _ _ hL h.2.2⟩ | exact ⟨h.1, h.2.1, h.2.2.1, hk _ _ _ _ _ hL h.2.2.2⟩ | exact ⟨h.1, h.2.1, h.2.2.1, h.2.2.2.1, hk _ _ _ _ _ hL h.2.2.2.2⟩ | exact ⟨h.1, h.2.1, h.2.2.1, h.2.2.2.1, h.2.2.2.2.1, hk _ _ _ _ _ hL h.2.2.2.2.2⟩ | exact ⟨h.1, h.2.1, h.2.2.1, h.2.2.2.1, h.2.2.2.2.1, h.2.2.2.2.2.1, hk _ _ _ _ _ hL h.2.2.2.2.2.2⟩ | exact ⟨h.1, h.2.1, h.2.2.1, h.2.2.2.1, h.2.2.2.2.1, h.2.2.2.2.2.1, h.2.2.2.2.2.2.1, hk _ _ _ _ _ hL h.2.2.2.2.2.2.2⟩ | exact ⟨h.1, h.2.1, h.2.2.1, h.2.2.2.1, h.2.2.2.2.1, h.2.2.2.2.2.1, h.2.2.2.2.2.2.1, h.2.2.2.2.2.2.2.1, hk _ _ _ _ _ hL h.2.2.2.2.2.2.2.2⟩ | exact ⟨h.1, h.2.1, h.2.2.1, h.2.2.2.1, h.2.2.2.2.1, h.2.2.2.2.2.1, h.2.2.2.2.2.2.1, h.2.2.2.2.2.2.2.1, h.2.2.2.2.2.2.2.2.1, hk _ _ _ _ _ hL h.2.2.2.2.2.2.2.2.2⟩)
theorem cl_ishr : cm_Lo cm_ishr := by
  intro E P t pc L' L st M k' k hL hk h
  unfold cm_ishr at h ⊢
  dsimp only at h ⊢
  split at h <;> (first | exact h.elim | exact hk _ _ _ _ _ hL h | exact ⟨h.1, hk _ _ _ _ _ hL h.2⟩ | exact ⟨h.1, h.2.1, hk _ _ _ _ _ hL h.2.2⟩ | exact ⟨h.1, h.2.1, h.2.2.1, hk _ _ _ _ _ hL h.2.2.2⟩ | exact ⟨h.1, h.2.1, h.2.2.1, h.2.2.2.1, hk _ _ _ _ _ hL h.2.2.2.2⟩ | exact ⟨h.1, h.2.1, h.2.2.1, h.2.2.2.1, h.2.2.2.2.1, hk _ _ _ _ _ hL h.2.2.2.2.2⟩ | exact ⟨h.1, h.2.1, h.2.2.1, h.2.2.2.1, h.2.2.2.2.1, h.2.2.2.2.2.1, hk _ _ _ _ _ hL h.2.2.2.2.2.2⟩ | exact ⟨h.1, h.2.1, h.2.2.1, h.2.2.2.1, h.2.2.2.2.1, h.2.2.2.2.2.1, h.2.2.2.2.2.2.1, hk _ _ _ _ _ hL h.2.2.2.2.2.2.2⟩ | exact ⟨h.1, h.2.1, h.2.2.1, h.2.2.2.1, h.2.2.2.2.1, h.2.2.2.2.2.1, h.2.2.2.2.2.2.1, h.2.2.2.2.2.2.2.1, hk _ _ _ _ _ hL h.2.2.2.2.2.2.2.2⟩ | exact ⟨h.1, h.2.1, h.2.2.1, h.2.2.2.1, h.2.2.2.2.1, h.2.2.2.2.2.1, h.2.2.2.2.2.2.1, h.2.2.2.2.2.2.2.1, h.2.2.2.2.2.2.2.2.1, hk _ _ _ _ _ hL h.2.2.2.2.2.2.2.2.2⟩)
theorem cl_iushr : cm_Lo cm_iushr := by
  intro E P t pc L' L st M k' k hL hk h
  unfold cm_iushr at h ⊢
  dsimp only at h ⊢
  split at h <;> (first | exact h.elim | exact hk _ _ _ _ _ hL h | exact ⟨h.1, hk _ _ _ _ _ hL h.2⟩ | exact ⟨h.1, h.2.1, hk _ _ _ _ _ hL h.2.2⟩ | exact ⟨h.1, h.2.1, h.2.2.1, hk _ _ _ _ _ hL h.2.2.2⟩ | exact ⟨h.1, h.2.1, h.2.2.1, h.2.2.2.1, hk _ _ _ _ _ hL h.2.2.2.2⟩ | exact ⟨h.1, h.2.1, h.2.2.1, h.2.2.2.1, h.2.2.2.2.1, hk _ _ _ _ _ hL h.2.2.2.2.2⟩ | exact ⟨h.1, h.2.1, h.2.2.1, h.2.2.2.1, h.2.2.2.2.1, h.2.2.2.2.2.1, hk _ _ _ _ _ hL h.2.2.2.2.2.2⟩ | exact ⟨h.1, h.2.1, h.2.2.1, h.2.2.2.1, h.2.2.2.2.1, h.2.2.2.2.2.1, h.2.2.2.2.2.2.1, hk _ _ _ _ _ hL h.2.2.2.2.2.2.2⟩ | exact ⟨h.1, h.2.1, h.2.2.1, h.2.2.2.1, h.2.2.2.2.1, h.2.2.2.2.2.1, h.2.2.2.2.2.2.1, h.2.2.2.2.2.2.2.1, hk _ _ _ _ _ hL h.2.2.2.2.2.2.2.2⟩ | exact ⟨h.1, h.2.1, h.2.2.1, h.2.2.2.1, h.2.2.2.2.1, h.2.2.2.2.2.1, h.2.2.2.2.2.2.1, h.2.2.2.2.2.2.2.1, h.2.2.2.2.2.2.2.2.1, hk _ _ _ _ _ hL h.2.2.2.2.2.2.2.2.2⟩)
theorem cl_idiv : cm_Lo cm_idiv := by
  intro E P t pc L' L st M k' k hL hk h
  unfold cm_idiv at h ⊢
  dsimp only at h ⊢
  split at h <;> (first | exact h.elim | exact hk _ _ _ _ _ hL h | exact ⟨h.1, hk _ _ _ _ _ hL h.2⟩ | exact ⟨h.1, h.2.1, hk _ _ _ _ _ hL h.2.2⟩ | exact ⟨h.1, h.2.1, h.2.2.1, hk _ _ _ _ _ hL h.2.2.2⟩ | exact ⟨h.1, h.2.1, h.2.2.1, h.2.2.2.1, hk _ _ _ _ _ hL h.2.2.2.2⟩ | exact ⟨h.1, h.2.1, h.2.2.1, h.2.2.2.1, h.2.2.2.2.1, hk _ _ _ _ _ hL h.2.2.2.2.2⟩ | exact ⟨h.1, h.2.1, h.2.2.1, h.2.2.2.1, h.2.2.2.2.1, h.2.2.2.2.2.1, hk _ _ _ _ _ hL h.2.2.2.2.2.2⟩ | exact ⟨h.1, h.2.1, h.2.2.1, h.2.2.2.1, h.2.2.2.2.1, h.2.2.2.2.2.1, h.2.2.2.2.2.2.1, hk _ _ _ _ _ hL h.2.2.2.2.2.2.2⟩ | exact ⟨h.1, h.2.1, h.2.2.1, h.2.2.2.1, h.2.2.2.2.1, h.2.2.2.2.2.1, h.2.2.2.2.2.2.1, h.2.2.2.2.2.2.2.1, hk _ _ _ _ _ hL h.2.2.2.2.2.2.2.2⟩ | exact ⟨h.1, h.2.1, h.2.2.1, h.2.2.2.1, h.2.2.2.2.1, h.2.2.2.2.2.1, h.2.2.2.2.2.2.1, h.2.2.2.2.2.2.2.1, h.2.2.2.2.2.2.2.2.1, hk _ _ _ _ _ hL h.2.2.2.2.2.2.2.2.2⟩)
theorem cl_irem : cm_Lo cm_irem := by
  intro E P t pc L' L st M k' k hL hk h
  unfold cm_irem at h ⊢
  dsimp only at h ⊢
  split at h <;> (first | exact h.elim | exact hk _ _ _ _ _ hL h | exact ⟨h.1, hk _ _ _ _ _ hL h.2⟩ | exact ⟨h.1, h.2.1, hk _ _ _ _ _ hL h.2.2⟩ | exact ⟨h.1, h.2.1, h.2.2.1, hk _ _ _ _ _ hL h.2.2.2⟩ | exact ⟨h.1, h.2.1, h.2.2.1, h.2.2.2.1, hk _ _ _ _ _ hL h.2.2.2.2⟩ | exact ⟨h.1, h.2.1, h.2.2.1, h.2.2.2.1, h.2.2.2.2.1, hk _ _ _ _ _ hL h.2.2.2.2.2⟩ | exact ⟨h.1, h.2.1, h.2.2.1, h.2.2.2.1, h.2.2.2.2.1, h.2.2.2.2.2.1, hk _ _ _ _ _ hL h.2.2.2.2.2.2⟩ | exact ⟨h.1, h.2.1, h.2.2.1, h.2.2.2.1, h.2.2.2.2.1, h.2.2.2.2.2.1, h.2.2.2.2.2.2.1, hk _ _ _ _ _ hL h.2.2.2.2.2.2.2⟩ | exact ⟨h.1, h.2.1, h.2.2.1, h.2.2.2.1, h.2.2.2.2.1, h.2.2.2.2.2.1, h.2.2.2.2.2.2.1, h.2.2.2.2.2.2.2.1, hk _ _ _ _ _ hL h.2.2.2.2.2.2.2.2⟩ | exact ⟨h.1, h.2.1, h.2.2.1, h.2.2.2.1, h.2.2.2.2.1, h.2.2.2.2.2.1, h.2.2.2.2.2.2.1, h.2.2.2.2.2.2.2.1, h.2.2.2.2.2.2.2.2.1, hk _ _ _ _ _ hL h.2.2.2.2.2.2.2.2.2⟩)
theorem cl_ineg : cm_Lo cm_ineg := by
  intro E P t pc L' L st M k' k hL hk h
  unfold cm_ineg at h ⊢
  dsimp only at h ⊢
  split at h <;> (first | exact h.elim | exact hk _ _ _ _ _ hL h | exact ⟨h.1, hk _ _ _ _ _ hL h.2⟩ | exact ⟨h.1, h.2.1, hk _ _ _ _ _ hL h.2.2⟩ | exact ⟨h.1, h.2.1, h.2.2.1, hk _ _ _ _ _ hL h.2.2.2⟩ | exact ⟨h.1, h.2.1, h.2.2.1, h.2.2.2.1, hk _ _ _ _ _ hL h.2.2.2.2⟩ | exact ⟨h.1, h.2.1, h.2.2.1, h.2.2.2.1, h.2.2.2.2.1, hk _ _ _ _ _ hL h.2.2.2.2.2⟩ | exact ⟨h.1, h.2.1, h.2.2.1, h.2.2.2.1, h.2.2.2.2.1, h.2.2.2.2.2.1, hk _ _ _ _ _ hL h.2.2.2.2.2.2⟩ | exact ⟨h.1, h.2.1, h.2.2.1, h.2.2.2.1, h.2.2.2.2.1, h.2.2.2.2.2.1, h.2.2.2.2.2.2.1, hk _ _ _ _ _ hL h.2.2.2.2.2.2.2⟩ | exact ⟨h.1, h.2.1, h.2.2.1, h.2.2.2.1, h.2.2.2.2.1, h.2.2.2.2.2.1, h.2.2.2.2.2.2.1, h.2.2.2.2.2.2.2.1, hk _ _ _ _ _ hL h.2.2.2.2.2.2.2.2⟩ | exact ⟨h.1, h.2.1, h.2.2.1, h.2.2.2.1, h.2.2.2.2.1, h.2.2.2.2.2.1, h.2.2.2.2.2.2.1, h.2.2.2.2.2.2.2.1, h.2.2.2.2.2.2.2.2.1, hk _ _ _ _ _ hL h.2.2.2.2.2.2.2.2.2⟩)
theorem cl_i2b : cm_Lo cm_i2b := by
  intro E P t pc L' L st M k' k hL hk h
  unfold cm_i2b at h ⊢
  dsimp only at h ⊢
  split at h <;> (first | exact h.elim | exact hk _ _ _ _ _ hL h | exact ⟨h.1, hk _ _ _ _ _ hL h.2⟩ | exact ⟨h.1, h.2.1, hk _ _ _ _ _ hL h.2.2⟩ | exact ⟨h.1, h.2.1, h.2.2.1, hk _ _ _ _ _ hL h.2.2.2⟩ | exact ⟨h.1, h.2.1, h.2.2.1, h.2.2.2.1, hk _ _ _ _ _ hL h.2.2.2.2⟩ | exact ⟨h.1, h.2.1, h.2.2.1, h.2.2.2.1, h.2.2.2.2.1, hk _ _ _ _ _ hL h.2.2.2.2.2⟩ | exact ⟨h.1, h.2.1, h.2.2.1, h.2.2.2.1, h.2.2.2.2.1, h.2.2.2.2.2.1, hk _ _ _ _ _ hL h.2.2.2.2.2.2⟩ | exact ⟨h.1, h.2.1, h.2.2.1, h.2.2.2.1, h.2.2.2.2.1, h.2.2.2.2.2.1, h.2.2.2.2.2.2.1, hk _ _ _ _ _ hL h.2.2.2.2.2.2.2⟩ | exact ⟨h.1, h.2.1, h.2.2.1, h.2.2.2.1, h.2.2.2.2.1, h.2.2.2.2.2.1, h.2.2.2.2.2.2.1, h.2.2.2.2.2.2.2.1, hk _ _ _ _ _ hL h.2.2.2.2.2.2.2.2⟩ | exact ⟨h.1, h.2.1, h.2.2.1, h.2.2.2.1, h.2.2.2.2.1, h.2.2.2.2.2.1, h.2.2.2.2.2.2.1, h.2.2.2.2.2.2.2.1, h.2.2.2.2.2.2.2.2.1, hk _ _ _ _ _ hL h.2.2.2.2.2.2.2.2.2⟩)
theorem cl_i2l : cm_Lo cm_i2l := by
  intro E P t pc L' L st M k' k hL hk h
  unfold cm_i2l at h ⊢
  dsimp only at h ⊢
  split at h <;> (first | exact h.elim | exact hk _ _ _ _ _ hL h | exact ⟨h.1, hk _ _ _ _ _ hL h.2⟩ | exact ⟨h.1, h.2.1, hk _ _ _ _ _ hL h.2.2⟩ | exact ⟨h.1, h.2.1, h.2.2.1, hk _ _ _ _ _ hL h.2.2.2⟩ | exact ⟨h.1, h.2.1, h.2.2.1, h.2.2.2.1, hk _ _ _ _ _ hL h.2.2.2.2⟩ | exact ⟨h.1, h.2.1, h.2.2.1, h.2.2.2.1, h.2.2.2.2.1, hk _ _ _ _ _ hL h.2.2.2.2.2⟩ | exact ⟨h.1, h.2.1, h.2.2.1, h.2.2.2.1, h.2.2.2.2.1, h.2.2.2.2.2.1, hk _ _ _ _ _ hL h.2.2.2.2.2.2⟩ | exact ⟨h.1, h.2.1, h.2.2.1, h.2.2.2.1, h.2.2.2.2.1, h.2.2.2.2.2.1, h.2.2.2.2.2.2.1, hk _ _ _ _ _ hL h.2.2.2.2.2.2.2⟩ | exact ⟨h.1, h.2.1, h.2.2.1, h.2.2.2.1, h.2.2.2.2.1, h.2.2.2.2.2.1, h.2.2.2.2.2.2.1, h.2.2.2.2.2.2.2.1, hk _ _ _ _ _ hL h.2.2.2.2.2.2.2.2⟩ | exact ⟨h.1, h.2.1, h.2.2.1, h.2.2.2.1, h.2.2.2.2.1, h.2.2.2.2.2.1, h.2.2.2.2.2.2.1, h.2.2.2.2.2.2.2.1, h.2.2.2.2.2.2.2.2.1, hk _ _ _ _ _ hL h.2.2.2.2.2.2.2.2.2⟩)
theorem cl_lcmp : cm_Lo cm_lcmp := by
  intro E P t pc L' L st M k' k hL hk h
  unfold cm_lcmp at h ⊢
  dsimp only at h ⊢
  split at h <;> (first | exact h.elim | exact hk _ _ _ _ _ hL h | exact ⟨h.1, hk _ _ _ _ _ hL h.2⟩ | exact ⟨h.1, h.2.1, hk _ _ _ _ _ hL h.2.2⟩ | exact ⟨h.1, h.2.1, h.2.2.1, hk _ _ _ _ _ hL h.2.2.2⟩ | exact ⟨h.1, h.2.1, h.2.2.1, h.2.2.2.1, hk _ _ _ _ _ hL h.2.2.2.2⟩ | exact ⟨h.1, h.2.1, h.2.2.1, h.2.2.2.1, h.2.2.2.2.1, hk _ _ _ _ _ hL h.2.2.2.2.2⟩ | exact ⟨h.1, h.2.1, h.2.2.1, h.2.2.2.1, h.2.2.2.2.1, h.2.2.2.2.2.1, hk _ _ _ _ _ hL h.2.2.2.2.2.2⟩ | exact ⟨h.1, h.2.1, h.2.2.1, h.2.2.2.1, h.2.2.2.2.1, h.2.2.2.2.2.1, h.2.2.2.2.2.2.1, hk _ _ _ _ _ hL h.2.2.2.2.2.2.2⟩ | exact ⟨h.1, h.2.1, h.2.2.1, h.2.2.2.1, h.2.2.2.2.1, h.2.2.2.2.2.1, h.2.2.2.2.2.2.1, h.2.2.2.2.2.2.2.1, hk _ _ _ _ _ hL h.2.2.2.2.2.2.2.2⟩ | exact ⟨h.1, h.2.1, h.2.2.1, h.2.2.2.1, h.2.2.2.2.1, h.2.2.2.2.2.1, h.2.2.2.2.2.2.1, h.2.2.2.2.2.2.2.1, h.2.2.2.2.2.2.2.2.1, hk _ _ _ _ _ hL h.2.2.2.2.2.2.2.2.2⟩)
theorem cl_dup : cm_Lo cm_dup := by
  intro E P t pc L' L st M k' k hL hk h
  unfold cm_dup at h ⊢
  dsimp only at h ⊢
  split at h <;> (first | exact h.elim | exact hk _ _ _ _ _ hL h | exact ⟨h.1, hk _ _ _ _ _ hL h.2⟩ | exact ⟨h.1, h.2.1, hk _ _ _ _ _ hL h.2.2⟩ | exact ⟨h.1, h.2.1, h.2.2.1, hk _ _ _ _ _ hL h.2.2.2⟩ | exact ⟨h.1, h.2.1, h.2.2.1, h.2.2.2.1, hk _ _ _ _ _ hL h.2.2.2.2⟩ | exact ⟨h.1, h.2.1, h.2.2.1, h.2.2.2.1, h.2.2.2.2.1, hk _ _ _ _ _ hL h.2.2.2.2.2⟩ | exact ⟨h.1, h.2.1, h.2.2.1, h.2.2.2.1, h.2.2.2.2.1, h.2.2.2.2.2.1, hk _ _ _ _ _ hL h.2.2.2.2.2.2⟩ | exact ⟨h.1, h.2.1, h.2.2.1, h.2.2.2.1, h.2.2.2.2.1, h.2.2.2.2.2.1, h.2.2.2.2.2.2.1, hk _ _ _ _ _ hL h.2.2.2.2.2.2.2⟩ | exact ⟨h.1, h.2.1, h.2.2.1, h.2.2.2.1, h.2.2.2.2.1, h.2.2.2.2.2.1, h.2.2.2.2.2.2.1, h.2.2.2.2.2.2.2.1, hk _ _ _ _ _ hL h.2.2.2.2.2.2.2.2⟩ | exact ⟨h.1, h.2.1, h.2.2.1, h.2.2.2.1, h.2.2.2.2.1, h.2.2.2.2.2.1, h.2.2.2.2.2.2.1, h.2.2.2.2.2.2.2.1, h.2.2.2.2.2.2.2.2.1, hk _ _ _ _ _ hL h.2.2.2.2.2.2.2.2.2⟩)
theorem cl_pop : cm_Lo cm_pop := by
  intro E P t pc L' L st M k' k hL hk h
  unfold cm_pop at h ⊢
  dsimp only at h ⊢
  split at h <;> (first | exact h.elim | exact hk _ _ _ _ _ hL h | exact ⟨h.1, hk _ _ _ _ _ hL h.2⟩ | exact ⟨h.1, h.2.1, hk _ _ _ _ _ hL h.2.2⟩ | exact ⟨h.1, h.2.1, h.2.2.1, hk _ _ _ _ _ hL h.2.2.2⟩ | exact ⟨h.1, h.2.1, h.2.2.1, h.2.2.2.1, hk _ _ _ _ _ hL h.2.2.2.2⟩ | exact ⟨h.1, h.2.1, h.2.2.1, h.2.2.2.1, h.2.2.2.2.1, hk _ _ _ _ _ hL h.2.2.2.2.2⟩ | exact ⟨h.1, h.2.1, h.2.2.1, h.2.2.2.1, h.2.2.2.2.1, h.2.2.2.2.2.1, hk _ _ _ _ _ hL h.2.2.2.2.2.2⟩ | exact ⟨h.1, h.2.1, h.2.2.1, h.2.2.2.1, h.2.2.2.2.1, h.2.2.2.2.2.1, h.2.2.2.2.2.2.1, hk _ _ _ _ _ hL h.2.2.2.2.2.2.2⟩ | exact ⟨h.1, h.2.1, h.2.2.1, h.2.2.2.1, h.2.2.2.2.1, h.2.2.2.2.2.1, h.2.2.2.2.2.2.1, h.2.2.2.2.2.2.2.1, hk _ _ _ _ _ hL h.2.2.2.2.2.2.2.2⟩ | exact ⟨h.1, h.2.1, h.2.2.1, h.2.2.2.1, h.2.2.2.2.1, h.2.2.2.2.2.1, h.2.2.2.2.2.2.1, h.2.2.2.2.2.2.2.1, h.2.2.2.2.2.2.2.2.1, hk _ _ _ _ _ hL h.2.2.2.2.2.2.2.2.2⟩)
theorem cl_dup2 : cm_Lo cm_dup2 := by
  intro E P t pc L' L st M k' k hL hk h
  unfold cm_dup2 at h ⊢
  dsimp only at h ⊢
  split at h <;> (first | exact h.elim | exact hk _ _ _ _ _ hL h | exact ⟨h.1, hk _ _ _ _ _ hL h.2⟩ | exact ⟨h.1, h.2.1, hk _ _ _ _ _ hL h.2.2⟩ | exact ⟨h.1, h.2.1, h.2.2.1, hk _ _ _ _ _ hL h.2.2.2⟩ | exact ⟨h.1, h.2.1, h.2.2.1, h.2.2.2.1, hk _ _ _ _ _ hL h.2.2.2.2⟩ | exact ⟨h.1, h.2.1, h.2.2.1, h.2.2.2.1, h.2.2.2.2.1, hk _ _ _ _ _ hL h.2.2.2.2.2⟩ | exact ⟨h.1, h.2.1, h.2.2.1, h.2.2.2.1, h.2.2.2.2.1, h.2.2.2.2.2.1, hk _ _ _ _ _ hL h.2.2.2.2.2.2⟩ | exact ⟨h.1, h.2.1, h.2.2.1, h.2.2.2.1, h.2.2.2.2.1, h.2.2.2.2.2.1, h.2.2.2.2.2.2.1, hk _ _ _ _ _ hL h.2.2.2.2.2.2.2⟩ | exact ⟨h.1, h.2.1, h.2.2.1, h.2.2.2.1, h.2.2.2.2.1, h.2.2.2.2.2.1, h.2.2.2.2.2.2.1, h.2.2.2.2.2.2.2.1, hk _ _ _ _ _ hL h.2.2.2.2.2.2.2.2⟩ | exact ⟨h.1, h.2.1, h.2.2.1, h.2.2.2.1, h.2.2.2.2.1, h.2.2.2.2.2.1, h.2.2.2.2.2.2.1, h.2.2.2.2.2.2.2.1, h.2.2.2.2.2.2.2.2.1, hk _ _ _ _ _ hL h.2.2.2.2.2.2.2.2.2⟩)
theorem cl_iinc : cm_Lo cm_iinc := by
  intro E P t pc L' L st M k' k hL hk h
  unfold cm_iinc at h ⊢
  dsimp only at h ⊢
  split at h
  · rename_i x hx
    rw [hL.2 _ _ hx]
    exact ⟨h.1, hk _ _ _ _ _ (cm_le_1 _ _ hL) h.2⟩
  · exact h.elim
theorem cl_icmp_eq : cm_Lo cm_icmp_eq := by
  intro E P t pc L' L st M k' k hL hk h
  unfold cm_icmp_eq at h ⊢
  dsimp only at h ⊢
  split at h
  · exact ⟨h.1, fun z => hk _ _ _ _ _ hL (h.2.1 z), fun z => hk _ _ _ _ _ hL (h.2.2 z)⟩
  · exact h.elim
theorem cl_icmp_ne : cm_Lo cm_icmp_ne := by
  intro E P t pc L' L st M k' k hL hk h
  unfold cm_icmp_ne at h ⊢
  dsimp only at h ⊢
  split at h
  · exact ⟨h.1, fun z => hk _ _ _ _ _ hL (h.2.1 z), fun z => hk _ _ _ _ _ hL (h.2.2 z)⟩
  · exact h.elim
theorem cl_icmp_lt : cm_Lo cm_icmp_lt := by
  intro E P t pc L' L st M k' k hL hk h
  unfold cm_icmp_lt at h ⊢
  dsimp only at h ⊢
  split at h
  · exact ⟨h.1, fun z => hk _ _ _ _ _ hL (h.2.1 z), fun z => hk _ _ _ _ _ hL (h.2.2 z)⟩
  · exact h.elim
theorem cl_icmp_ge : cm_Lo cm_icmp_ge := by
  intro E P t pc L' L st M k' k hL hk h
  unfold cm_icmp_ge at h ⊢
  dsimp only at h ⊢
  split at h
  · exact ⟨h.1, fun z => hk _ _ _ _ _ hL (h.2.1 z), fun z => hk _ _ _ _ _ hL (h.2.2 z)⟩
  · exact h.elim
theorem cl_icmp_gt : cm_Lo cm_icmp_gt := by
  intro E P t pc L' L st M k' k hL hk h
  unfold cm_icmp_gt at h ⊢
  dsimp only at h ⊢
  split at h
  · exact ⟨h.1, fun z => hk _ _ _ _ _ hL (h.2.1 z), fun z => hk _ _ _ _ _ hL (h.2.2 z)⟩
  · exact h.elim
theorem cl_icmp_le : cm_Lo cm_icmp_le := by
  intro E P t pc L' L st M k' k hL hk h
  unfold cm_icmp_le at h ⊢
  dsimp only at h ⊢
  split at h
  · exact ⟨h.1, fun z => hk _ _ _ _ _ hL (h.2.1 z), fun z => hk _ _ _ _ _ hL (h.2.2 z)⟩
  · exact h.elim
theorem cl_if_eq : cm_Lo cm_if_eq := by
  intro E P t pc L' L st M k' k hL hk h
  unfold cm_if_eq at h ⊢
  dsimp only at h ⊢
  split at h
  · exact ⟨h.1, fun z => hk _ _ _ _ _ hL (h.2.1 z), fun z => hk _ _ _ _ _ hL (h.2.2 z)⟩
  · exact h.elim
theorem cl_if_ne : cm_Lo cm_if_ne := by
  intro E P t pc L' L st M k' k hL hk h
  unfold cm_if_ne at h ⊢
  dsimp only at h ⊢
  split at h
  · exact ⟨h.1, fun z => hk _ _ _ _ _ hL (h.2.1 z), fun z => hk _ _ _ _ _ hL (h.2.2 z)⟩
  · exact h.elim
theorem cl_if_lt : cm_Lo cm_if_lt := by
  intro E P t pc L' L st M k' k hL hk h
  unfold cm_if_lt at h ⊢
  dsimp only at h ⊢
  split at h
  · exact ⟨h.1, fun z => hk _ _ _ _ _ hL (h.2.1 z), fun z => hk _ _ _ _ _ hL (h.2.2 z)⟩
  · exact h.elim
theorem cl_if_ge : cm_Lo cm_if_ge := by
  intro E P t pc L' L st M k' k hL hk h
  unfold cm_if_ge at h ⊢
  dsimp only at h ⊢
  split at h
  · exact ⟨h.1, fun z => hk _ _ _ _ _ hL (h.2.1 z), fun z => hk _ _ _ _ _ hL (h.2.2 z)⟩
  · exact h.elim
theorem cl_if_gt : cm_Lo cm_if_gt := by
  intro E P t pc L' L st M k' k hL hk h
  unfold cm_if_gt at h ⊢
  dsimp only at h ⊢
  split at h
  · exact ⟨h.1, fun z => hk _ _ _ _ _ hL (h.2.1 z), fun z => hk _ _ _ _ _ hL (h.2.2 z)⟩
  · exact h.elim
theorem cl_if_le : cm_Lo cm_if_le := by
  intro E P t pc L' L st M k' k hL hk h
  unfold cm_if_le at h ⊢
  dsimp only at h ⊢
  split at h
  · exact ⟨h.1, fun z => hk _ _ _ _ _ hL (h.2.1 z), fun z => hk _ _ _ _ _ hL (h.2.2 z)⟩
  · exact h.elim
theorem cl_goto : cm_Lo cm_goto := by
  intro E P t pc L' L st M k' k hL hk h
  unfold cm_goto at h ⊢
  dsimp only at h ⊢
  first | exact h.elim | exact hk _ _ _ _ _ hL h | exact ⟨h.1, hk _ _ _ _ _ hL h.2⟩ | exact ⟨h.1, h.2.1, hk _ _ _ _ _ hL h.2.2⟩ | exact ⟨h.1, h.2.1, h.2.2.1, hk _ _ _ _ _ hL h.2.2.2⟩ | exact ⟨h.1, h.2.1, h.2.2.1, h.2.2.2.1, hk _ _ _ _ _ hL h.2.2.2.2⟩ | exact ⟨h.1, h.2.1, h.2.2.1, h.2.2.2.1, h.2.2.2.2.1, hk _ _ _ _ _ hL h.2.2.2.2.2⟩ | exact ⟨h.1, h.2.1, h.2.2.1, h.2.2.2.1, h.2.2.2.2.1, h.2.2.2.2.2.1, hk _ _ _ _ _ hL h.2.2.2.2.2.2⟩ | exact ⟨h.1, h.2.1, h.2.2.1, h.2.2.2.1, h.2.2.2.2.1, h.2.2.2.2.2.1, h.2.2.2.2.2.2.1, hk _ _ _ _ _ hL h.2.2.2.2.2.2.2⟩ | exact ⟨h.1, h.2.1, h.2.2.1, h.2.2.2.1, h.2.2.2.2.1, h.2.2.2.2.2.1, h.2.2.2.2.2.2.1, h.2.2.2.2.2.2.2.1, hk _ _ _ _ _ hL h.2.2.2.2.2.2.2.2⟩ | exact ⟨h.1, h.2.1, h.2.2.1, h.2.2.2.1, h.2.2.2.2.1, h.2.2.2.2.2.1, h.2.2.2.2.2.2.1, h.2.2.2.2.2.2.2.1, h.2.2.2.2.2.2.2.2.1, hk _ _ _ _ _ hL h.2.2.2.2.2.2.2.2.2⟩
theorem cl_sw : cm_Lo cm_sw := by
  intro E P t pc L' L st M k' k hL hk h
  unfold cm_sw at h ⊢
  dsimp only at h ⊢
  split at h
  · exact ⟨h.1, h.2.1, h.2.2.1, fun q => hk _ _ _ _ _ hL (h.2.2.2.1 q), fun j o q1 q2 => hk _ _ _ _ _ hL (h.2.2.2.2 j o q1 q2)⟩
  · exact h.elim
theorem cl_get : cm_Lo cm_get := by
  intro E P t pc L' L st M k' k hL hk h
  unfold cm_get at h ⊢
  dsimp only at h ⊢
  split at h <;> (first | exact h.elim | exact hk _ _ _ _ _ hL h | exact ⟨h.1, hk _ _ _ _ _ hL h.2⟩ | exact ⟨h.1, h.2.1, hk _ _ _ _ _ hL h.2.2⟩ | exact ⟨h.1, h.2.1, h.2.2.1, hk _ _ _ _ _ hL h.2.2.2⟩ | exact ⟨h.1, h.2.1, h.2.2.1, h.2.2.2.1, hk _ _ _ _ _ hL h.2.2.2.2⟩ | exact ⟨h.1, h.2.1, h.2.2.1, h.2.2.2.1, h.2.2.2.2.1, hk _ _ _ _ _ hL h.2.2.2.2.2⟩ | exact ⟨h.1, h.2.1, h.2.2.1, h.2.2.2.1, h.2.2.2.2.1, h.2.2.2.2.2.1, hk _ _ _ _ _ hL h.2.2.2.2.2.2⟩ | exact ⟨h.1, h.2.1, h.2.2.1, h.2.2.2.1, h.2.2.2.2.1, h.2.2.2.2.2.1, h.2.2.2.2.2.2.1, hk _ _ _ _ _ hL h.2.2.2.2.2.2.2⟩ | exact ⟨h.1, h.2.1, h.2.2.1, h.2.2.2.1, h.2.2.2.2.1, h.2.2.2.2.2.1, h.2.2.2.2.2.2.1, h.2.2.2.2.2.2.2.1, hk _ _ _ _ _ hL h.2.2.2.2.2.2.2.2⟩ | exact ⟨h.1, h.2.1, h.2.2.1, h.2.2.2.1, h.2.2.2.2.1, h.2.2.2.2.2.1, h.2.2.2.2.2.2.1, h.2.2.2.2.2.2.2.1, h.2.2.2.2.2.2.2.2.1, hk _ _ _ _ _ hL h.2.2.2.2.2.2.2.2.2⟩)
theorem cl_put : cm_Lo cm_put := by
  intro E P t pc L' L st M k' k hL hk h
  unfold cm_put at h ⊢
  dsimp only at h ⊢
  split at h <;> (first | exact h.elim | exact hk _ _ _ _ _ hL h | exact ⟨h.1, hk _ _ _ _ _ hL h.2⟩ | exact ⟨h.1, h.2.1, hk _ _ _ _ _ hL h.2.2⟩ | exact ⟨h.1, h.2.1, h.2.2.1, hk _ _ _ _ _ hL h.2.2.2⟩ | exact ⟨h.1, h.2.1, h.2.2.1, h.2.2.2.1, hk _ _ _ _ _ hL h.2.2.2.2⟩ | exact ⟨h.1, h.2.1, h.2.2.1, h.2.2.2.1, h.2.2.2.2.1, hk _ _ _ _ _ hL h.2.2.2.2.2⟩ | exact ⟨h.1, h.2.1, h.2.2.1, h.2.2.2.1, h.2.2.2.2.1, h.2.2.2.2.2.1, hk _ _ _ _ _ hL h.2.2.2.2.2.2⟩ | exact ⟨h.1, h.2.1, h.2.2.1, h.2.2.2.1, h.2.2.2.2.1, h.2.2.2.2.2.1, h.2.2.2.2.2.2.1, hk _ _ _ _ _ hL h.2.2.2.2.2.2.2⟩ | exact ⟨h.1, h.2.1, h.2.2.1, h.2.2.2.1, h.2.2.2.2.1, h.2.2.2.2.2.1, h.2.2.2.2.2.2.1, h.2.2.2.2.2.2.2.1, hk _ _ _ _ _ hL h.2.2.2.2.2.2.2.2⟩ | exact ⟨h.1, h.2.1, h.2.2.1, h.2.2.2.1, h.2.2.2.2.1, h.2.2.2.2.2.1, h.2.2.2.2.2.2.1, h.2.2.2.2.2.2.2.1, h.2.2.2.2.2.2.2.2.1, hk _ _ _ _ _ hL h.2.2.2.2.2.2.2.2.2⟩)
theorem cl_iaload : cm_Lo cm_iaload := by
  intro E P t pc L' L st M k' k hL hk h
  unfold cm_iaload at h ⊢
  dsimp only at h ⊢
  split at h <;> (first | exact h.elim | exact hk _ _ _ _ _ hL h | exact ⟨h.1, hk _ _ _ _ _ hL h.2⟩ | exact ⟨h.1, h.2.1, hk _ _ _ _ _ hL h.2.2⟩ | exact ⟨h.1, h.2.1, h.2.2.1, hk _ _ _ _ _ hL h.2.2.2⟩ | exact ⟨h.1, h.2.1, h.2.2.1, h.2.2.2.1, hk _ _ _ _ _ hL h.2.2.2.2⟩ | exact ⟨h.1, h.2.1, h.2.2.1, h.2.2.2.1, h.2.2.2.2.1, hk _ _ _ _ _ hL h.2.2.2.2.2⟩ | exact ⟨h.1, h.2.1, h.2.2.1, h.2.2.2.1, h.2.2.2.2.1, h.2.2.2.2.2.1, hk _ _ _ _ _ hL h.2.2.2.2.2.2⟩ | exact ⟨h.1, h.2.1, h.2.2.1, h.2.2.2.1, h.2.2.2.2.1, h.2.2.2.2.2.1, h.2.2.2.2.2.2.1, hk _ _ _ _ _ hL h.2.2.2.2.2.2.2⟩ | exact ⟨h.1, h.2.1, h.2.2.1, h.2.2.2.1, h.2.2.2.2.1, h.2.2.2.2.2.1, h.2.2.2.2.2.2.1, h.2.2.2.2.2.2.2.1, hk _ _ _ _ _ hL h.2.2.2.2.2.2.2.2⟩ | exact ⟨h.1, h.2.1, h.2.2.1, h.2.2.2.1, h.2.2.2.2.1, h.2.2.2.2.2.1, h.2.2.2.2.2.2.1, h.2.2.2.2.2.2.2.1, h.2.2.2.2.2.2.2.2.1, hk _ _ _ _ _ hL h.2.2.2.2.2.2.2.2.2⟩)
theorem cl_baload : cm_Lo cm_baload := by
  intro E P t pc L' L st M k' k hL hk h
  unfold cm_baload at h ⊢
  dsimp only at h ⊢
  split at h <;> (first | exact h.elim | exact hk _ _ _ _ _ hL h | exact ⟨h.1, hk _ _ _ _ _ hL h.2⟩ | exact ⟨h.1, h.2.1, hk _ _ _ _ _ hL h.2.2⟩ | exact ⟨h.1, h.2.1, h.2.2.1, hk _ _ _ _ _ hL h.2.2.2⟩ | exact ⟨h.1, h.2.1, h.2.2.1, h.2.2.2.1, hk _ _ _ _ _ hL h.2.2.2.2⟩ | exact ⟨h.1, h.2.1, h.2.2.1, h.2.2.2.1, h.2.2.2.2.1, hk _ _ _ _ _ hL h.2.2.2.2.2⟩ | exact ⟨h.1, h.2.1, h.2.2.1, h.2.2.2.1, h.2.2.2.2.1, h.2.2.2.2.2.1, hk _ _ _ _ _ hL h.2.2.2.2.2.2⟩ | exact ⟨h.1, h.2.1, h.2.2.1, h.2.2.2.1, h.2.2.2.2.1, h.2.2.2.2.2.1, h.2.2.2.2.2.2.1, hk _ _ _ _ _ hL h.2.2.2.2.2.2.2⟩ | exact ⟨h.1, h.2.1, h.2.2.1, h.2.2.2.1, h.2.2.2.2.1, h.2.2.2.2.2.1, h.2.2.2.2.2.2.1, h.2.2.2.2.2.2.2.1, hk _ _ _ _ _ hL h.2.2.2.2.2.2.2.2⟩ | exact ⟨h.1, h.2.1, h.2.2.1, h.2.2.2.1, h.2.2.2.2.1, h.2.2.2.2.2.1, h.2.2.2.2.2.2.1, h.2.2.2.2.2.2.2.1, h.2.2.2.2.2.2.2.2.1, hk _ _ _ _ _ hL h.2.2.2.2.2.2.2.2.2⟩)
theorem cl_laload : cm_Lo cm_laload := by
  intro E P t pc L' L st M k' k hL hk h
  unfold cm_laload at h ⊢
  dsimp only at h ⊢
  split at h <;> (first | exact h.elim | exact hk _ _ _ _ _ hL h | exact ⟨h.1, hk _ _ _ _ _ hL h.2⟩ | exact ⟨h.1, h.2.1, hk _ _ _ _ _ hL h.2.2⟩ | exact ⟨h.1, h.2.1, h.2.2.1, hk _ _ _ _ _ hL h.2.2.2⟩ | exact ⟨h.1, h.2.1, h.2.2.1, h.2.2.2.1, hk _ _ _ _ _ hL h.2.2.2.2⟩ | exact ⟨h.1, h.2.1, h.2.2.1, h.2.2.2.1, h.2.2.2.2.1, hk _ _ _ _ _ hL h.2.2.2.2.2⟩ | exact ⟨h.1, h.2.1, h.2.2.1, h.2.2.2.1, h.2.2.2.2.1, h.2.2.2.2.2.1, hk _ _ _ _ _ hL h.2.2.2.2.2.2⟩ | exact ⟨h.1, h.2.1, h.2.2.1, h.2.2.2.1, h.2.2.2.2.1, h.2.2.2.2.2.1, h.2.2.2.2.2.2.1, hk _ _ _ _ _ hL h.2.2.2.2.2.2.2⟩ | exact ⟨h.1, h.2.1, h.2.2.1, h.2.2.2.1, h.2.2.2.2.1, h.2.2.2.2.2.1, h.2.2.2.2.2.2.1, h.2.2.2.2.2.2.2.1, hk _ _ _ _ _ hL h.2.2.2.2.2.2.2.2⟩ | exact ⟨h.1, h.2.1, h.2.2.1, h.2.2.2.1, h.2.2.2.2.1, h.2.2.2.2.2.1, h.2.2.2.2.2.2.1, h.2.2.2.2.2.2.2.1, h.2.2.2.2.2.2.2.2.1, hk _ _ _ _ _ hL h.2.2.2.2.2.2.2.2.2⟩)
theorem cl_aaload : cm_Lo cm_aaload := by
  intro E P t pc L' L st M k' k hL hk h
  unfold cm_aaload at h ⊢
  dsimp only at h ⊢
  split at h <;> (first | exact h.elim | exact hk _ _ _ _ _ hL h | exact ⟨h.1, hk _ _ _ _ _ hL h.2⟩ | exact ⟨h.1, h.2.1, hk _ _ _ _ _ hL h.2.2⟩ | exact ⟨h.1, h.2.1, h.2.2.1, hk _ _ _ _ _ hL h.2.2.2⟩ | exact ⟨h.1, h.2.1, h.2.2.1, h.2.2.2.1, hk _ _ _ _ _ hL h.2.2.2.2⟩ | exact ⟨h.1, h.2.1, h.2.2.1, h.2.2.2.1, h.2.2.2.2.1, hk _ _ _ _ _ hL h.2.2.2.2.2⟩ | exact ⟨h.1, h.2.1, h.2.2.1, h.2.2.2.1, h.2.2.2.2.1, h.2.2.2.2.2.1, hk _ _ _ _ _ hL h.2.2.2.2.2.2⟩ | exact ⟨h.1, h.2.1, h.2.2.1, h.2.2.2.1, h.2.2.2.2.1, h.2.2.2.2.2.1, h.2.2.2.2.2.2.1, hk _ _ _ _ _ hL h.2.2.2.2.2.2.2⟩ | exact ⟨h.1, h.2.1, h.2.2.1, h.2.2.2.1, h.2.2.2.2.1, h.2.2.2.2.2.1, h.2.2.2.2.2.2.1, h.2.2.2.2.2.2.2.1, hk _ _ _ _ _ hL h.2.2.2.2.2.2.2.2⟩ | exact ⟨h.1, h.2.1, h.2.2.1, h.2.2.2.1, h.2.2.2.2.1, h.2.2.2.2.2.1, h.2.2.2.2.2.2.1, h.2.2.2.2.2.2.2.1, h.2.2.2.2.2.2.2.2.1, hk _ _ _ _ _ hL h.2.2.2.2.2.2.2.2.2⟩)
theorem cl_iastore : cm_Lo cm_iastore := by
  intro E P t pc L' L st M k' k hL hk h
  unfold cm_iastore at h ⊢
  dsimp only at h ⊢
  split at h <;> (first | exact h.elim | exact hk _ _ _ _ _ hL h | exact ⟨h.1, hk _ _ _ _ _ hL h.2⟩ | exact ⟨h.1, h.2.1, hk _ _ _ _ _ hL h.2.2⟩ | exact ⟨h.1, h.2.1, h.2.2.1, hk _ _ _ _ _ hL h.2.2.2⟩ | exact ⟨h.1, h.2.1, h.2.2.1, h.2.2.2.1, hk _ _ _ _ _ hL h.2.2.2.2⟩ | exact ⟨h.1, h.2.1, h.2.2.1, h.2.2.2.1, h.2.2.2.2.1, hk _ _ _ _ _ hL h.2.2.2.2.2⟩ | exact ⟨h.1, h.2.1, h.2.2.1, h.2.2.2.1, h.2.2.2.2.1, h.2.2.2.2.2.1, hk _ _ _ _ _ hL h.2.2.2.2.2.2⟩ | exact ⟨h.1, h.2.1, h.2.2.1, h.2.2.2.1, h.2.2.2.2.1, h.2.2.2.2.2.1, h.2.2.2.2.2.2.1, hk _ _ _ _ _ hL h.2.2.2.2.2.2.2⟩ | exact ⟨h.1, h.2.1, h.2.2.1, h.2.2.2.1, h.2.2.2.2.1, h.2.2.2.2.2.1, h.2.2.2.2.2.2.1, h.2.2.2.2.2.2.2.1, hk _ _ _ _ _ hL h.2.2.2.2.2.2.2.2⟩ | exact ⟨h.1, h.2.1, h.2.2.1, h.2.2.2.1, h.2.2.2.2.1, h.2.2.2.2.2.1, h.2.2.2.2.2.2.1, h.2.2.2.2.2.2.2.1, h.2.2.2.2.2.2.2.2.1, hk _ _ _ _ _ hL h.2.2.2.2.2.2.2.2.2⟩)
theorem cl_bastore : cm_Lo cm_bastore := by
  intro E P t pc L' L st M k' k hL hk h
  unfold cm_bastore at h ⊢
  dsimp only at h ⊢
  split at h <;> (first | exact h.elim | exact hk _ _ _ _ _ hL h | exact ⟨h.1, hk _ _ _ _ _ hL h.2⟩ | exact ⟨h.1, h.2.1, hk _ _ _ _ _ hL h.2.2⟩ | exact ⟨h.1, h.2.1, h.2.2.1, hk _ _ _ _ _ hL h.2.2.2⟩ | exact ⟨h.1, h.2.1, h.2.2.1, h.2.2.2.1, hk _ _ _ _ _ hL h.2.2.2.2⟩ | exact ⟨h.1, h.2.1, h.2.2.1, h.2.2.2.1, h.2.2.2.2.1, hk _ _ _ _ _ hL h.2.2.2.2.2⟩ | exact ⟨h.1, h.2.1, h.2.2.1, h.2.2.2.1, h.2.2.2.2.1, h.2.2.2.2.2.1, hk _ _ _ _ _ hL h.2.2.2.2.2.2⟩ | exact ⟨h.1, h.2.1, h.2.2.1, h.2.2.2.1, h.2.2.2.2.1, h.2.2.2.2.2.1, h.2.2.2.2.2.2.1, hk _ _ _ _ _ hL h.2.2.2.2.2.2.2⟩ | exact ⟨h.1, h.2.1, h.2.2.1, h.2.2.2.1, h.2.2.2.2.1, h.2.2.2.2.2.1, h.2.2.2.2.2.2.1, h.2.2.2.2.2.2.2.1, hk _ _ _ _ _ hL h.2.2.2.2.2.2.2.2⟩ | exact ⟨h.1, h.2.1, h.2.2.1, h.2.2.2.1, h.2.2.2.2.1, h.2.2.2.2.2.1, h.2.2.2.2.2.2.1, h.2.2.2.2.2.2.2.1, h.2.2.2.2.2.2.2.2.1, hk _ _ _ _ _ hL h.2.2.2.2.2.2.2.2.2⟩)
theorem cl_alen : cm_Lo cm_alen := by
  intro E P t pc L' L st M k' k hL hk h
  unfold cm_alen at h ⊢
  dsimp only at h ⊢
  split at h
  · rename_i c st'
    by_cases hc : c = 1000
    · rw [if_pos hc] at h ⊢
      cases E with
      | none => exact h.elim
      | some q => exact hk _ _ _ _ _ hL h
    · rw [if_neg hc] at h ⊢
      exact ⟨h.1, h.2.1, hk _ _ _ _ _ hL h.2.2⟩
  · exact h.elim
theorem cl_sald : cm_Lo cm_sald := by
  intro E P t pc L' L st M k' k hL hk h
  unfold cm_sald at h ⊢
  dsimp only at h ⊢
  split at h <;> (first | exact h.elim | exact hk _ _ _ _ _ hL h | exact ⟨h.1, hk _ _ _ _ _ hL h.2⟩ | exact ⟨h.1, h.2.1, hk _ _ _ _ _ hL h.2.2⟩ | exact ⟨h.1, h.2.1, h.2.2.1, hk _ _ _ _ _ hL h.2.2.2⟩ | exact ⟨h.1, h.2.1, h.2.2.1, h.2.2.2.1, hk _ _ _ _ _ hL h.2.2.2.2⟩ | exact ⟨h.1, h.2.1, h.2.2.1, h.2.2.2.1, h.2.2.2.2.1, hk _ _ _ _ _ hL h.2.2.2.2.2⟩ | exact ⟨h.1, h.2.1, h.2.2.1, h.2.2.2.1, h.2.2.2.2.1, h.2.2.2.2.2.1, hk _ _ _ _ _ hL h.2.2.2.2.2.2⟩ | exact ⟨h.1, h.2.1, h.2.2.1, h.2.2.2.1, h.2.2.2.2.1, h.2.2.2.2.2.1, h.2.2.2.2.2.2.1, hk _ _ _ _ _ hL h.2.2.2.2.2.2.2⟩ | exact ⟨h.1, h.2.1, h.2.2.1, h.2.2.2.1, h.2.2.2.2.1, h.2.2.2.2.2.1, h.2.2.2.2.2.2.1, h.2.2.2.2.2.2.2.1, hk _ _ _ _ _ hL h.2.2.2.2.2.2.2.2⟩ | exact ⟨h.1, h.2.1, h.2.2.1, h.2.2.2.1, h.2.2.2.2.1, h.2.2.2.2.2.1, h.2.2.2.2.2.2.1, h.2.2.2.2.2.2.2.1, h.2.2.2.2.2.2.2.2.1, hk _ _ _ _ _ hL h.2.2.2.2.2.2.2.2.2⟩)
theorem cl_mmin : cm_Lo cm_mmin := by
  intro E P t pc L' L st M k' k hL hk h
  unfold cm_mmin at h ⊢
  dsimp only at h ⊢
  split at h <;> (first | exact h.elim | exact hk _ _ _ _ _ hL h | exact ⟨h.1, hk _ _ _ _ _ hL h.2⟩ | exact ⟨h.1, h.2.1, hk _ _ _ _ _ hL h.2.2⟩ | exact ⟨h.1, h.2.1, h.2.2.1, hk _ _ _ _ _ hL h.2.2.2⟩ | exact ⟨h.1, h.2.1, h.2.2.1, h.2.2.2.1, hk _ _ _ _ _ hL h.2.2.2.2⟩ | exact ⟨h.1, h.2.1, h.2.2.1, h.2.2.2.1, h.2.2.2.2.1, hk _ _ _ _ _ hL h.2.2.2.2.2⟩ | exact ⟨h.1, h.2.1, h.2.2.1, h.2.2.2.1, h.2.2.2.2.1, h.2.2.2.2.2.1, hk _ _ _ _ _ hL h.2.2.2.2.2.2⟩ | exact ⟨h.1, h.2.1, h.2.2.1, h.2.2.2.1, h.2.2.2.2.1, h.2.2.2.2.2.1, h.2.2.2.2.2.2.1, hk _ _ _ _ _ hL h.2.2.2.2.2.2.2⟩ | exact ⟨h.1, h.2.1, h.2.2.1, h.2.2.2.1, h.2.2.2.2.1, h.2.2.2.2.2.1, h.2.2.2.2.2.2.1, h.2.2.2.2.2.2.2.1, hk _ _ _ _ _ hL h.2.2.2.2.2.2.2.2⟩ | exact ⟨h.1, h.2.1, h.2.2.1, h.2.2.2.1, h.2.2.2.2.1, h.2.2.2.2.2.1, h.2.2.2.2.2.2.1, h.2.2.2.2.2.2.2.1, h.2.2.2.2.2.2.2.2.1, hk _ _ _ _ _ hL h.2.2.2.2.2.2.2.2.2⟩)
theorem cl_ldc : cm_Lo cm_ldc := by
  intro E P t pc L' L st M k' k hL hk h
  unfold cm_ldc at h ⊢
  dsimp only at h ⊢
  first | exact h.elim | exact hk _ _ _ _ _ hL h | exact ⟨h.1, hk _ _ _ _ _ hL h.2⟩ | exact ⟨h.1, h.2.1, hk _ _ _ _ _ hL h.2.2⟩ | exact ⟨h.1, h.2.1, h.2.2.1, hk _ _ _ _ _ hL h.2.2.2⟩ | exact ⟨h.1, h.2.1, h.2.2.1, h.2.2.2.1, hk _ _ _ _ _ hL h.2.2.2.2⟩ | exact ⟨h.1, h.2.1, h.2.2.1, h.2.2.2.1, h.2.2.2.2.1, hk _ _ _ _ _ hL h.2.2.2.2.2⟩ | exact ⟨h.1, h.2.1, h.2.2.1, h.2.2.2.1, h.2.2.2.2.1, h.2.2.2.2.2.1, hk _ _ _ _ _ hL h.2.2.2.2.2.2⟩ | exact ⟨h.1, h.2.1, h.2.2.1, h.2.2.2.1, h.2.2.2.2.1, h.2.2.2.2.2.1, h.2.2.2.2.2.2.1, hk _ _ _ _ _ hL h.2.2.2.2.2.2.2⟩ | exact ⟨h.1, h.2.1, h.2.2.1, h.2.2.2.1, h.2.2.2.2.1, h.2.2.2.2.2.1, h.2.2.2.2.2.2.1, h.2.2.2.2.2.2.2.1, hk _ _ _ _ _ hL h.2.2.2.2.2.2.2.2⟩ | exact ⟨h.1, h.2.1, h.2.2.1, h.2.2.2.1, h.2.2.2.2.1, h.2.2.2.2.2.1, h.2.2.2.2.2.2.1, h.2.2.2.2.2.2.2.1, h.2.2.2.2.2.2.2.2.1, hk _ _ _ _ _ hL h.2.2.2.2.2.2.2.2.2⟩
theorem cl_ldcS : cm_Lo cm_ldcS := by
  intro E P t pc L' L st M k' k hL hk h
  unfold cm_ldcS at h ⊢
  dsimp only at h ⊢
  first | exact h.elim | exact hk _ _ _ _ _ hL h | exact ⟨h.1, hk _ _ _ _ _ hL h.2⟩ | exact ⟨h.1, h.2.1, hk _ _ _ _ _ hL h.2.2⟩ | exact ⟨h.1, h.2.1, h.2.2.1, hk _ _ _ _ _ hL h.2.2.2⟩ | exact ⟨h.1, h.2.1, h.2.2.1, h.2.2.2.1, hk _ _ _ _ _ hL h.2.2.2.2⟩ | exact ⟨h.1, h.2.1, h.2.2.1, h.2.2.2.1, h.2.2.2.2.1, hk _ _ _ _ _ hL h.2.2.2.2.2⟩ | exact ⟨h.1, h.2.1, h.2.2.1, h.2.2.2.1, h.2.2.2.2.1, h.2.2.2.2.2.1, hk _ _ _ _ _ hL h.2.2.2.2.2.2⟩ | exact ⟨h.1, h.2.1, h.2.2.1, h.2.2.2.1, h.2.2.2.2.1, h.2.2.2.2.2.1, h.2.2.2.2.2.2.1, hk _ _ _ _ _ hL h.2.2.2.2.2.2.2⟩ | exact ⟨h.1, h.2.1, h.2.2.1, h.2.2.2.1, h.2.2.2.2.1, h.2.2.2.2.2.1, h.2.2.2.2.2.2.1, h.2.2.2.2.2.2.2.1, hk _ _ _ _ _ hL h.2.2.2.2.2.2.2.2⟩ | exact ⟨h.1, h.2.1, h.2.2.1, h.2.2.2.1, h.2.2.2.2.1, h.2.2.2.2.2.1, h.2.2.2.2.2.2.1, h.2.2.2.2.2.2.2.1, h.2.2.2.2.2.2.2.2.1, hk _ _ _ _ _ hL h.2.2.2.2.2.2.2.2.2⟩
theorem cl_getV : cm_Lo cm_getV := by
  intro E P t pc L' L st M k' k hL hk h
  unfold cm_getV at h ⊢
  dsimp only at h ⊢
  split at h <;> (first | exact h.elim | exact hk _ _ _ _ _ hL h | exact ⟨h.1, hk _ _ _ _ _ hL h.2⟩ | exact ⟨h.1, h.2.1, hk _ _ _ _ _ hL h.2.2⟩ | exact ⟨h.1, h.2.1, h.2.2.1, hk _ _ _ _ _ hL h.2.2.2⟩ | exact ⟨h.1, h.2.1, h.2.2.1, h.2.2.2.1, hk _ _ _ _ _ hL h.2.2.2.2⟩ | exact ⟨h.1, h.2.1, h.2.2.1, h.2.2.2.1, h.2.2.2.2.1, hk _ _ _ _ _ hL h.2.2.2.2.2⟩ | exact ⟨h.1, h.2.1, h.2.2.1, h.2.2.2.1, h.2.2.2.2.1, h.2.2.2.2.2.1, hk _ _ _ _ _ hL h.2.2.2.2.2.2⟩ | exact ⟨h.1, h.2.1, h.2.2.1, h.2.2.2.1, h.2.2.2.2.1, h.2.2.2.2.2.1, h.2.2.2.2.2.2.1, hk _ _ _ _ _ hL h.2.2.2.2.2.2.2⟩ | exact ⟨h.1, h.2.1, h.2.2.1, h.2.2.2.1, h.2.2.2.2.1, h.2.2.2.2.2.1, h.2.2.2.2.2.2.1, h.2.2.2.2.2.2.2.1, hk _ _ _ _ _ hL h.2.2.2.2.2.2.2.2⟩ | exact ⟨h.1, h.2.1, h.2.2.1, h.2.2.2.1, h.2.2.2.2.1, h.2.2.2.2.2.1, h.2.2.2.2.2.2.1, h.2.2.2.2.2.2.2.1, h.2.2.2.2.2.2.2.2.1, hk _ _ _ _ _ hL h.2.2.2.2.2.2.2.2.2⟩)
theorem cl_getC : cm_Lo cm_getC := by
  intro E P t pc L' L st M k' k hL hk h
  unfold cm_getC at h ⊢
  dsimp only at h ⊢
  split at h <;> (first | exact h.elim | exact hk _ _ _ _ _ hL h | exact ⟨h.1, hk _ _ _ _ _ hL h.2⟩ | exact ⟨h.1, h.2.1, hk _ _ _ _ _ hL h.2.2⟩ | exact ⟨h.1, h.2.1, h.2.2.1, hk _ _ _ _ _ hL h.2.2.2⟩ | exact ⟨h.1, h.2.1, h.2.2.1, h.2.2.2.1, hk _ _ _ _ _ hL h.2.2.2.2⟩ | exact ⟨h.1, h.2.1, h.2.2.1, h.2.2.2.1, h.2.2.2.2.1, hk _ _ _ _ _ hL h.2.2.2.2.2⟩ | exact ⟨h.1, h.2.1, h.2.2.1, h.2.2.2.1, h.2.2.2.2.1, h.2.2.2.2.2.1, hk _ _ _ _ _ hL h.2.2.2.2.2.2⟩ | exact ⟨h.1, h.2.1, h.2.2.1, h.2.2.2.1, h.2.2.2.2.1, h.2.2.2.2.2.1, h.2.2.2.2.2.2.1, hk _ _ _ _ _ hL h.2.2.2.2.2.2.2⟩ | exact ⟨h.1, h.2.1, h.2.2.1, h.2.2.2.1, h.2.2.2.2.1, h.2.2.2.2.2.1, h.2.2.2.2.2.2.1, h.2.2.2.2.2.2.2.1, hk _ _ _ _ _ hL h.2.2.2.2.2.2.2.2⟩ | exact ⟨h.1, h.2.1, h.2.2.1, h.2.2.2.1, h.2.2.2.2.1, h.2.2.2.2.2.1, h.2.2.2.2.2.2.1, h.2.2.2.2.2.2.2.1, h.2.2.2.2.2.2.2.2.1, hk _ _ _ _ _ hL h.2.2.2.2.2.2.2.2.2⟩)
theorem cl_gets : cm_Lo cm_gets := by
  intro E P t pc L' L st M k' k hL hk h
  unfold cm_gets at h ⊢
  dsimp only at h ⊢
  first | exact h.elim | exact hk _ _ _ _ _ hL h | exact ⟨h.1, hk _ _ _ _ _ hL h.2⟩ | exact ⟨h.1, h.2.1, hk _ _ _ _ _ hL h.2.2⟩ | exact ⟨h.1, h.2.1, h.2.2.1, hk _ _ _ _ _ hL h.2.2.2⟩ | exact ⟨h.1, h.2.1, h.2.2.1, h.2.2.2.1, hk _ _ _ _ _ hL h.2.2.2.2⟩ | exact ⟨h.1, h.2.1, h.2.2.1, h.2.2.2.1, h.2.2.2.2.1, hk _ _ _ _ _ hL h.2.2.2.2.2⟩ | exact ⟨h.1, h.2.1, h.2.2.1, h.2.2.2.1, h.2.2.2.2.1, h.2.2.2.2.2.1, hk _ _ _ _ _ hL h.2.2.2.2.2.2⟩ | exact ⟨h.1, h.2.1, h.2.2.1, h.2.2.2.1, h.2.2.2.2.1, h.2.2.2.2.2.1, h.2.2.2.2.2.2.1, hk _ _ _ _ _ hL h.2.2.2.2.2.2.2⟩ | exact ⟨h.1, h.2.1, h.2.2.1, h.2.2.2.1, h.2.2.2.2.1, h.2.2.2.2.2.1, h.2.2.2.2.2.2.1, h.2.2.2.2.2.2.2.1, hk _ _ _ _ _ hL h.2.2.2.2.2.2.2.2⟩ | exact ⟨h.1, h.2.1, h.2.2.1, h.2.2.2.1, h.2.2.2.2.1, h.2.2.2.2.2.1, h.2.2.2.2.2.2.1, h.2.2.2.2.2.2.2.1, h.2.2.2.2.2.2.2.2.1, hk _ _ _ _ _ hL h.2.2.2.2.2.2.2.2.2⟩
theorem cl_alenS : cm_Lo cm_alenS := by
  intro E P t pc L' L st M k' k hL hk h
  unfold cm_alenS at h ⊢
  dsimp only at h ⊢
  split at h
  · split at h
    · rename_i hz
      first | (first | exact h.elim | exact hk _ _ _ _ _ hL h | exact ⟨h.1, hk _ _ _ _ _ hL h.2⟩ | exact ⟨h.1, h.2.1, hk _ _ _ _ _ hL h.2.2⟩ | exact ⟨h.1, h.2.1, h.2.2.1, hk _ _ _ _ _ hL h.2.2.2⟩ | exact ⟨h.1, h.2.1, h.2.2.1, h.2.2.2.1, hk _ _ _ _ _ hL h.2.2.2.2⟩ | exact ⟨h.1, h.2.1, h.2.2.1, h.2.2.2.1, h.2.2.2.2.1, hk _ _ _ _ _ hL h.2.2.2.2.2⟩ | exact ⟨h.1, h.2.1, h.2.2.1, h.2.2.2.1, h.2.2.2.2.1, h.2.2.2.2.2.1, hk _ _ _ _ _ hL h.2.2.2.2.2.2⟩ | exact ⟨h.1, h.2.1, h.2.2.1, h.2.2.2.1, h.2.2.2.2.1, h.2.2.2.2.2.1, h.2.2.2.2.2.2.1, hk _ _ _ _ _ hL h.2.2.2.2.2.2.2⟩ | exact ⟨h.1, h.2.1, h.2.2.1, h.2.2.2.1, h.2.2.2.2.1, h.2.2.2.2.2.1, h.2.2.2.2.2.2.1, h.2.2.2.2.2.2.2.1, hk _ _ _ _ _ hL h.2.2.2.2.2.2.2.2⟩ | exact ⟨h.1, h.2.1, h.2.2.1, h.2.2.2.1, h.2.2.2.2.1, h.2.2.2.2.2.1, h.2.2.2.2.2.2.1, h.2.2.2.2.2.2.2.1, h.2.2.2.2.2.2.2.2.1, hk _ _ _ _ _ hL h.2.2.2.2.2.2.2.2.2⟩) | (dsimp only; rw [hz]; first | exact h.elim | exact hk _ _ _ _ _ hL h | exact ⟨h.1, hk _ _ _ _ _ hL h.2⟩ | exact ⟨h.1, h.2.1, hk _ _ _ _ _ hL h.2.2⟩ | exact ⟨h.1, h.2.1, h.2.2.1, hk _ _ _ _ _ hL h.2.2.2⟩ | exact ⟨h.1, h.2.1, h.2.2.1, h.2.2.2.1, hk _ _ _ _ _ hL h.2.2.2.2⟩ | exact ⟨h.1, h.2.1, h.2.2.1, h.2.2.2.1, h.2.2.2.2.1, hk _ _ _ _ _ hL h.2.2.2.2.2⟩ | exact ⟨h.1, h.2.1, h.2.2.1, h.2.2.2.1, h.2.2.2.2.1, h.2.2.2.2.2.1, hk _ _ _ _ _ hL h.2.2.2.2.2.2⟩ | exact ⟨h.1, h.2.1, h.2.2.1, h.2.2.2.1, h.2.2.2.2.1, h.2.2.2.2.2.1, h.2.2.2.2.2.2.1, hk _ _ _ _ _ hL h.2.2.2.2.2.2.2⟩ | exact ⟨h.1, h.2.1, h.2.2.1, h.2.2.2.1, h.2.2.2.2.1, h.2.2.2.2.2.1, h.2.2.2.2.2.2.1, h.2.2.2.2.2.2.2.1, hk _ _ _ _ _ hL h.2.2.2.2.2.2.2.2⟩ | exact ⟨h.1, h.2.1, h.2.2.1, h.2.2.2.1, h.2.2.2.2.1, h.2.2.2.2.2.1, h.2.2.2.2.2.2.1, h.2.2.2.2.2.2.2.1, h.2.2.2.2.2.2.2.2.1, hk _ _ _ _ _ hL h.2.2.2.2.2.2.2.2.2⟩) | (rw [hz]; first | exact h.elim | exact hk _ _ _ _ _ hL h | exact ⟨h.1, hk _ _ _ _ _ hL h.2⟩ | exact ⟨h.1, h.2.1, hk _ _ _ _ _ hL h.2.2⟩ | exact ⟨h.1, h.2.1, h.2.2.1, hk _ _ _ _ _ hL h.2.2.2⟩ | exact ⟨h.1, h.2.1, h.2.2.1, h.2.2.2.1, hk _ _ _ _ _ hL h.2.2.2.2⟩ | exact ⟨h.1, h.2.1, h.2.2.1, h.2.2.2.1, h.2.2.2.2.1, hk _ _ _ _ _ hL h.2.2.2.2.2⟩ | exact ⟨h.1, h.2.1, h.2.2.1, h.2.2.2.1, h.2.2.2.2.1, h.2.2.2.2.2.1, hk _ _ _ _ _ hL h.2.2.2.2.2.2⟩ | exact ⟨h.1, h.2.1, h.2.2.1, h.2.2.2.1, h.2.2.2.2.1, h.2.2.2.2.2.1, h.2.2.2.2.2.2.1, hk _ _ _ _ _ hL h.2.2.2.2.2.2.2⟩ | exact ⟨h.1, h.2.1, h.2.2.1, h.2.2.2.1, h.2.2.2.2.1, h.2.2.2.2.2.1, h.2.2.2.2.2.2.1, h.2.2.2.2.2.2.2.1, hk _ _ _ _ _ hL h.2.2.2.2.2.2.2.2⟩ | exact ⟨h.1, h.2.1, h.2.2.1, h.2.2.2.1, h.2.2.2.2.1, h.2.2.2.2.2.1, h.2.2.2.2.2.2.1, h.2.2.2.2.2.2.2.1, h.2.2.2.2.2.2.2.2.1, hk _ _ _ _ _ hL h.2.2.2.2.2.2.2.2.2⟩)
    · exact h.elim
  · exact h.elim
theorem cl_baloadS : cm_Lo cm_baloadS := by
  intro E P t pc L' L st M k' k hL hk h
  unfold cm_baloadS at h ⊢
  dsimp only at h ⊢
  split at h
  · split at h
    · rename_i hz
      first | (first | exact h.elim | exact hk _ _ _ _ _ hL h | exact ⟨h.1, hk _ _ _ _ _ hL h.2⟩ | exact ⟨h.1, h.2.1, hk _ _ _ _ _ hL h.2.2⟩ | exact ⟨h.1, h.2.1, h.2.2.1, hk _ _ _ _ _ hL h.2.2.2⟩ | exact ⟨h.1, h.2.1, h.2.2.1, h.2.2.2.1, hk _ _ _ _ _ hL h.2.2.2.2⟩ | exact ⟨h.1, h.2.1, h.2.2.1, h.2.2.2.1, h.2.2.2.2.1, hk _ _ _ _ _ hL h.2.2.2.2.2⟩ | exact ⟨h.1, h.2.1, h.2.2.1, h.2.2.2.1, h.2.2.2.2.1, h.2.2.2.2.2.1, hk _ _ _ _ _ hL h.2.2.2.2.2.2⟩ | exact ⟨h.1, h.2.1, h.2.2.1, h.2.2.2.1, h.2.2.2.2.1, h.2.2.2.2.2.1, h.2.2.2.2.2.2.1, hk _ _ _ _ _ hL h.2.2.2.2.2.2.2⟩ | exact ⟨h.1, h.2.1, h.2.2.1, h.2.2.2.1, h.2.2.2.2.1, h.2.2.2.2.2.1, h.2.2.2.2.2.2.1, h.2.2.2.2.2.2.2.1, hk _ _ _ _ _ hL h.2.2.2.2.2.2.2.2⟩ | exact ⟨h.1, h.2.1, h.2.2.1, h.2.2.2.1, h.2.2.2.2.1, h.2.2.2.2.2.1, h.2.2.2.2.2.2.1, h.2.2.2.2.2.2.2.1, h.2.2.2.2.2.2.2.2.1, hk _ _ _ _ _ hL h.2.2.2.2.2.2.2.2.2⟩) | (dsimp only; rw [hz]; first | exact h.elim | exact hk _ _ _ _ _ hL h | exact ⟨h.1, hk _ _ _ _ _ hL h.2⟩ | exact ⟨h.1, h.2.1, hk _ _ _ _ _ hL h.2.2⟩ | exact ⟨h.1, h.2.1, h.2.2.1, hk _ _ _ _ _ hL h.2.2.2⟩ | exact ⟨h.1, h.2.1, h.2.2.1, h.2.2.2.1, hk _ _ _ _ _ hL h.2.2.2.2⟩ | exact ⟨h.1, h.2.1, h.2.2.1, h.2.2.2.1, h.2.2.2.2.1, hk _ _ _ _ _ hL h.2.2.2.2.2⟩ | exact ⟨h.1, h.2.1, h.2.2.1, h.2.2.2.1, h.2.2.2.2.1, h.2.2.2.2.2.1, hk _ _ _ _ _ hL h.2.2.2.2.2.2⟩ | exact ⟨h.1, h.2.1, h.2.2.1, h.2.2.2.1, h.2.2.2.2.1, h.2.2.2.2.2.1, h.2.2.2.2.2.2.1, hk _ _ _ _ _ hL h.2.2.2.2.2.2.2⟩ | exact ⟨h.1, h.2.1, h.2.2.1, h.2.2.2.1, h.2.2.2.2.1, h.2.2.2.2.2.1, h.2.2.2.2.2.2.1, h.2.2.2.2.2.2.2.1, hk _ _ _ _ _ hL h.2.2.2.2.2.2.2.2⟩ | exact ⟨h.1, h.2.1, h.2.2.1, h.2.2.2.1, h.2.2.2.2.1, h.2.2.2.2.2.1, h.2.2.2.2.2.2.1, h.2.2.2.2.2.2.2.1, h.2.2.2.2.2.2.2.2.1, hk _ _ _ _ _ hL h.2.2.2.2.2.2.2.2.2⟩) | (rw [hz]; first | exact h.elim | exact hk _ _ _ _ _ hL h | exact ⟨h.1, hk _ _ _ _ _ hL h.2⟩ | exact ⟨h.1, h.2.1, hk _ _ _ _ _ hL h.2.2⟩ | exact ⟨h.1, h.2.1, h.2.2.1, hk _ _ _ _ _ hL h.2.2.2⟩ | exact ⟨h.1, h.2.1, h.2.2.1, h.2.2.2.1, hk _ _ _ _ _ hL h.2.2.2.2⟩ | exact ⟨h.1, h.2.1, h.2.2.1, h.2.2.2.1, h.2.2.2.2.1, hk _ _ _ _ _ hL h.2.2.2.2.2⟩ | exact ⟨h.1, h.2.1, h.2.2.1, h.2.2.2.1, h.2.2.2.2.1, h.2.2.2.2.2.1, hk _ _ _ _ _ hL h.2.2.2.2.2.2⟩ | exact ⟨h.1, h.2.1, h.2.2.1, h.2.2.2.1, h.2.2.2.2.1, h.2.2.2.2.2.1, h.2.2.2.2.2.2.1, hk _ _ _ _ _ hL h.2.2.2.2.2.2.2⟩ | exact ⟨h.1, h.2.1, h.2.2.1, h.2.2.2.1, h.2.2.2.2.1, h.2.2.2.2.2.1, h.2.2.2.2.2.2.1, h.2.2.2.2.2.2.2.1, hk _ _ _ _ _ hL h.2.2.2.2.2.2.2.2⟩ | exact ⟨h.1, h.2.1, h.2.2.1, h.2.2.2.1, h.2.2.2.2.1, h.2.2.2.2.2.1, h.2.2.2.2.2.2.1, h.2.2.2.2.2.2.2.1, h.2.2.2.2.2.2.2.2.1, hk _ _ _ _ _ hL h.2.2.2.2.2.2.2.2.2⟩)
    · exact h.elim
  · exact h.elim
theorem cl_i2c : cm_Lo cm_i2c := by
  intro E P t pc L' L st M k' k hL hk h
  unfold cm_i2c at h ⊢
  dsimp only at h ⊢
  split at h <;> (first | exact h.elim | exact hk _ _ _ _ _ hL h | exact ⟨h.1, hk _ _ _ _ _ hL h.2⟩ | exact ⟨h.1, h.2.1, hk _ _ _ _ _ hL h.2.2⟩ | exact ⟨h.1, h.2.1, h.2.2.1, hk _ _ _ _ _ hL h.2.2.2⟩ | exact ⟨h.1, h.2.1, h.2.2.1, h.2.2.2.1, hk _ _ _ _ _ hL h.2.2.2.2⟩ | exact ⟨h.1, h.2.1, h.2.2.1, h.2.2.2.1, h.2.2.2.2.1, hk _ _ _ _ _ hL h.2.2.2.2.2⟩ | exact ⟨h.1, h.2.1, h.2.2.1, h.2.2.2.1, h.2.2.2.2.1, h.2.2.2.2.2.1, hk _ _ _ _ _ hL h.2.2.2.2.2.2⟩ | exact ⟨h.1, h.2.1, h.2.2.1, h.2.2.2.1, h.2.2.2.2.1, h.2.2.2.2.2.1, h.2.2.2.2.2.2.1, hk _ _ _ _ _ hL h.2.2.2.2.2.2.2⟩ | exact ⟨h.1, h.2.1, h.2.2.1, h.2.2.2.1, h.2.2.2.2.1, h.2.2.2.2.2.1, h.2.2.2.2.2.2.1, h.2.2.2.2.2.2.2.1, hk _ _ _ _ _ hL h.2.2.2.2.2.2.2.2⟩ | exact ⟨h.1, h.2.1, h.2.2.1, h.2.2.2.1, h.2.2.2.2.1, h.2.2.2.2.2.1, h.2.2.2.2.2.2.1, h.2.2.2.2.2.2.2.1, h.2.2.2.2.2.2.2.2.1, hk _ _ _ _ _ hL h.2.2.2.2.2.2.2.2.2⟩)
theorem cl_ladd : cm_Lo cm_ladd := by
  intro E P t pc L' L st M k' k hL hk h
  unfold cm_ladd at h ⊢
  dsimp only at h ⊢
  split at h <;> (first | exact h.elim | exact hk _ _ _ _ _ hL h | exact ⟨h.1, hk _ _ _ _ _ hL h.2⟩ | exact ⟨h.1, h.2.1, hk _ _ _ _ _ hL h.2.2⟩ | exact ⟨h.1, h.2.1, h.2.2.1, hk _ _ _ _ _ hL h.2.2.2⟩ | exact ⟨h.1, h.2.1, h.2.2.1, h.2.2.2.1, hk _ _ _ _ _ hL h.2.2.2.2⟩ | exact ⟨h.1, h.2.1, h.2.2.1, h.2.2.2.1, h.2.2.2.2.1, hk _ _ _ _ _ hL h.2.2.2.2.2⟩ | exact ⟨h.1, h.2.1, h.2.2.1, h.2.2.2.1, h.2.2.2.2.1, h.2.2.2.2.2.1, hk _ _ _ _ _ hL h.2.2.2.2.2.2⟩ | exact ⟨h.1, h.2.1, h.2.2.1, h.2.2.2.1, h.2.2.2.2.1, h.2.2.2.2.2.1, h.2.2.2.2.2.2.1, hk _ _ _ _ _ hL h.2.2.2.2.2.2.2⟩ | exact ⟨h.1, h.2.1, h.2.2.1, h.2.2.2.1, h.2.2.2.2.1, h.2.2.2.2.2.1, h.2.2.2.2.2.2.1, h.2.2.2.2.2.2.2.1, hk _ _ _ _ _ hL h.2.2.2.2.2.2.2.2⟩ | exact ⟨h.1, h.2.1, h.2.2.1, h.2.2.2.1, h.2.2.2.2.1, h.2.2.2.2.2.1, h.2.2.2.2.2.2.1, h.2.2.2.2.2.2.2.1, h.2.2.2.2.2.2.2.2.1, hk _ _ _ _ _ hL h.2.2.2.2.2.2.2.2.2⟩)
theorem cl_lsub : cm_Lo cm_lsub := by
  intro E P t pc L' L st M k' k hL hk h
  unfold cm_lsub at h ⊢
  dsimp only at h ⊢
  split at h <;> (first | exact h.elim | exact hk _ _ _ _ _ hL h | exact ⟨h.1, hk _ _ _ _ _ hL h.2⟩ | exact ⟨h.1, h.2.1, hk _ _ _ _ _ hL h.2.2⟩ | exact ⟨h.1, h.2.1, h.2.2.1, hk _ _ _ _ _ hL h.2.2.2⟩ | exact ⟨h.1, h.2.1, h.2.2.1, h.2.2.2.1, hk _ _ _ _ _ hL h.2.2.2.2⟩ | exact ⟨h.1, h.2.1, h.2.2.1, h.2.2.2.1, h.2.2.2.2.1, hk _ _ _ _ _ hL h.2.2.2.2.2⟩ | exact ⟨h.1, h.2.1, h.2.2.1, h.2.2.2.1, h.2.2.2.2.1, h.2.2.2.2.2.1, hk _ _ _ _ _ hL h.2.2.2.2.2.2⟩ | exact ⟨h.1, h.2.1, h.2.2.1, h.2.2.2.1, h.2.2.2.2.1, h.2.2.2.2.2.1, h.2.2.2.2.2.2.1, hk _ _ _ _ _ hL h.2.2.2.2.2.2.2⟩ | exact ⟨h.1, h.2.1, h.2.2.1, h.2.2.2.1, h.2.2.2.2.1, h.2.2.2.2.2.1, h.2.2.2.2.2.2.1, h.2.2.2.2.2.2.2.1, hk _ _ _ _ _ hL h.2.2.2.2.2.2.2.2⟩ | exact ⟨h.1, h.2.1, h.2.2.1, h.2.2.2.1, h.2.2.2.2.1, h.2.2.2.2.2.1, h.2.2.2.2.2.2.1, h.2.2.2.2.2.2.2.1, h.2.2.2.2.2.2.2.2.1, hk _ _ _ _ _ hL h.2.2.2.2.2.2.2.2.2⟩)
theorem cl_lmul : cm_Lo cm_lmul := by
  intro E P t pc L' L st M k' k hL hk h
  unfold cm_lmul at h ⊢
  dsimp only at h ⊢
  split at h <;> (first | exact h.elim | exact hk _ _ _ _ _ hL h | exact ⟨h.1, hk _ _ _ _ _ hL h.2⟩ | exact ⟨h.1, h.2.1, hk _ _ _ _ _ hL h.2.2⟩ | exact ⟨h.1, h.2.1, h.2.2.1, hk _ _ _ _ _ hL h.2.2.2⟩ | exact ⟨h.1, h.2.1, h.2.2.1, h.2.2.2.1, hk _ _ _ _ _ hL h.2.2.2.2⟩ | exact ⟨h.1, h.2.1, h.2.2.1, h.2.2.2.1, h.2.2.2.2.1, hk _ _ _ _ _ hL h.2.2.2.2.2⟩ | exact ⟨h.1, h.2.1, h.2.2.1, h.2.2.2.1, h.2.2.2.2.1, h.2.2.2.2.2.1, hk _ _ _ _ _ hL h.2.2.2.2.2.2⟩ | exact ⟨h.1, h.2.1, h.2.2.1, h.2.2.2.1, h.2.2.2.2.1, h.2.2.2.2.2.1, h.2.2.2.2.2.2.1, hk _ _ _ _ _ hL h.2.2.2.2.2.2.2⟩ | exact ⟨h.1, h.2.1, h.2.2.1, h.2.2.2.1, h.2.2.2.2.1, h.2.2.2.2.2.1, h.2.2.2.2.2.2.1, h.2.2.2.2.2.2.2.1, hk _ _ _ _ _ hL h.2.2.2.2.2.2.2.2⟩ | exact ⟨h.1, h.2.1, h.2.2.1, h.2.2.2.1, h.2.2.2.2.1, h.2.2.2.2.2.1, h.2.2.2.2.2.2.1, h.2.2.2.2.2.2.2.1, h.2.2.2.2.2.2.2.2.1, hk _ _ _ _ _ hL h.2.2.2.2.2.2.2.2.2⟩)
theorem cl_ldiv : cm_Lo cm_ldiv := by
  intro E P t pc L' L st M k' k hL hk h
  unfold cm_ldiv at h ⊢
  dsimp only at h ⊢
  split at h <;> (first | exact h.elim | exact hk _ _ _ _ _ hL h | exact ⟨h.1, hk _ _ _ _ _ hL h.2⟩ | exact ⟨h.1, h.2.1, hk _ _ _ _ _ hL h.2.2⟩ | exact ⟨h.1, h.2.1, h.2.2.1, hk _ _ _ _ _ hL h.2.2.2⟩ | exact ⟨h.1, h.2.1, h.2.2.1, h.2.2.2.1, hk _ _ _ _ _ hL h.2.2.2.2⟩ | exact ⟨h.1, h.2.1, h.2.2.1, h.2.2.2.1, h.2.2.2.2.1, hk _ _ _ _ _ hL h.2.2.2.2.2⟩ | exact ⟨h.1, h.2.1, h.2.2.1, h.2.2.2.1, h.2.2.2.2.1, h.2.2.2.2.2.1, hk _ _ _ _ _ hL h.2.2.2.2.2.2⟩ | exact ⟨h.1, h.2.1, h.2.2.1, h.2.2.2.1, h.2.2.2.2.1, h.2.2.2.2.2.1, h.2.2.2.2.2.2.1, hk _ _ _ _ _ hL h.2.2.2.2.2.2.2⟩ | exact ⟨h.1, h.2.1, h.2.2.1, h.2.2.2.1, h.2.2.2.2.1, h.2.2.2.2.2.1, h.2.2.2.2.2.2.1, h.2.2.2.2.2.2.2.1, hk _ _ _ _ _ hL h.2.2.2.2.2.2.2.2⟩ | exact ⟨h.1, h.2.1, h.2.2.1, h.2.2.2.1, h.2.2.2.2.1, h.2.2.2.2.2.1, h.2.2.2.2.2.2.1, h.2.2.2.2.2.2.2.1, h.2.2.2.2.2.2.2.2.1, hk _ _ _ _ _ hL h.2.2.2.2.2.2.2.2.2⟩)
theorem cl_lrem : cm_Lo cm_lrem := by
  intro E P t pc L' L st M k' k hL hk h
  unfold cm_lrem at h ⊢
  dsimp only at h ⊢
  split at h <;> (first | exact h.elim | exact hk _ _ _ _ _ hL h | exact ⟨h.1, hk _ _ _ _ _ hL h.2⟩ | exact ⟨h.1, h.2.1, hk _ _ _ _ _ hL h.2.2⟩ | exact ⟨h.1, h.2.1, h.2.2.1, hk _ _ _ _ _ hL h.2.2.2⟩ | exact ⟨h.1, h.2.1, h.2.2.1, h.2.2.2.1, hk _ _ _ _ _ hL h.2.2.2.2⟩ | exact ⟨h.1, h.2.1, h.2.2.1, h.2.2.2.1, h.2.2.2.2.1, hk _ _ _ _ _ hL h.2.2.2.2.2⟩ | exact ⟨h.1, h.2.1, h.2.2.1, h.2.2.2.1, h.2.2.2.2.1, h.2.2.2.2.2.1, hk _ _ _ _ _ hL h.2.2.2.2.2.2⟩ | exact ⟨h.1, h.2.1, h.2.2.1, h.2.2.2.1, h.2.2.2.2.1, h.2.2.2.2.2.1, h.2.2.2.2.2.2.1, hk _ _ _ _ _ hL h.2.2.2.2.2.2.2⟩ | exact ⟨h.1, h.2.1, h.2.2.1, h.2.2.2.1, h.2.2.2.2.1, h.2.2.2.2.2.1, h.2.2.2.2.2.2.1, h.2.2.2.2.2.2.2.1, hk _ _ _ _ _ hL h.2.2.2.2.2.2.2.2⟩ | exact ⟨h.1, h.2.1, h.2.2.1, h.2.2.2.1, h.2.2.2.2.1, h.2.2.2.2.2.1, h.2.2.2.2.2.2.1, h.2.2.2.2.2.2.2.1, h.2.2.2.2.2.2.2.2.1, hk _ _ _ _ _ hL h.2.2.2.2.2.2.2.2.2⟩)
theorem cl_ldc2 : cm_Lo cm_ldc2 := by
  intro E P t pc L' L st M k' k hL hk h
  unfold cm_ldc2 at h ⊢
  dsimp only at h ⊢
  first | exact h.elim | exact hk _ _ _ _ _ hL h | exact ⟨h.1, hk _ _ _ _ _ hL h.2⟩ | exact ⟨h.1, h.2.1, hk _ _ _ _ _ hL h.2.2⟩ | exact ⟨h.1, h.2.1, h.2.2.1, hk _ _ _ _ _ hL h.2.2.2⟩ | exact ⟨h.1, h.2.1, h.2.2.1, h.2.2.2.1, hk _ _ _ _ _ hL h.2.2.2.2⟩ | exact ⟨h.1, h.2.1, h.2.2.1, h.2.2.2.1, h.2.2.2.2.1, hk _ _ _ _ _ hL h.2.2.2.2.2⟩ | exact ⟨h.1, h.2.1, h.2.2.1, h.2.2.2.1, h.2.2.2.2.1, h.2.2.2.2.2.1, hk _ _ _ _ _ hL h.2.2.2.2.2.2⟩ | exact ⟨h.1, h.2.1, h.2.2.1, h.2.2.2.1, h.2.2.2.2.1, h.2.2.2.2.2.1, h.2.2.2.2.2.2.1, hk _ _ _ _ _ hL h.2.2.2.2.2.2.2⟩ | exact ⟨h.1, h.2.1, h.2.2.1, h.2.2.2.1, h.2.2.2.2.1, h.2.2.2.2.2.1, h.2.2.2.2.2.2.1, h.2.2.2.2.2.2.2.1, hk _ _ _ _ _ hL h.2.2.2.2.2.2.2.2⟩ | exact ⟨h.1, h.2.1, h.2.2.1, h.2.2.2.1, h.2.2.2.2.1, h.2.2.2.2.2.1, h.2.2.2.2.2.2.1, h.2.2.2.2.2.2.2.1, h.2.2.2.2.2.2.2.2.1, hk _ _ _ _ _ hL h.2.2.2.2.2.2.2.2.2⟩
theorem cl_getsF : cm_Lo cm_getsF := by
  intro E P t pc L' L st M k' k hL hk h
  unfold cm_getsF at h ⊢
  dsimp only at h ⊢
  exact ⟨hk _ _ _ _ _ hL h.1, hk _ _ _ _ _ hL h.2⟩
theorem cl_ldcw : cm_Lo cm_ldcw := by
  intro E P t pc L' L st M k' k hL hk h
  unfold cm_ldcw at h ⊢
  dsimp only at h ⊢
  first | exact h.elim | exact hk _ _ _ _ _ hL h | exact ⟨h.1, hk _ _ _ _ _ hL h.2⟩ | exact ⟨h.1, h.2.1, hk _ _ _ _ _ hL h.2.2⟩ | exact ⟨h.1, h.2.1, h.2.2.1, hk _ _ _ _ _ hL h.2.2.2⟩ | exact ⟨h.1, h.2.1, h.2.2.1, h.2.2.2.1, hk _ _ _ _ _ hL h.2.2.2.2⟩ | exact ⟨h.1, h.2.1, h.2.2.1, h.2.2.2.1, h.2.2.2.2.1, hk _ _ _ _ _ hL h.2.2.2.2.2⟩ | exact ⟨h.1, h.2.1, h.2.2.1, h.2.2.2.1, h.2.2.2.2.1, h.2.2.2.2.2.1, hk _ _ _ _ _ hL h.2.2.2.2.2.2⟩ | exact ⟨h.1, h.2.1, h.2.2.1, h.2.2.2.1, h.2.2.2.2.1, h.2.2.2.2.2.1, h.2.2.2.2.2.2.1, hk _ _ _ _ _ hL h.2.2.2.2.2.2.2⟩ | exact ⟨h.1, h.2.1, h.2.2.1, h.2.2.2.1, h.2.2.2.2.1, h.2.2.2.2.2.1, h.2.2.2.2.2.2.1, h.2.2.2.2.2.2.2.1, hk _ _ _ _ _ hL h.2.2.2.2.2.2.2.2⟩ | exact ⟨h.1, h.2.1, h.2.2.1, h.2.2.2.1, h.2.2.2.2.1, h.2.2.2.2.2.1, h.2.2.2.2.2.2.1, h.2.2.2.2.2.2.2.1, h.2.2.2.2.2.2.2.2.1, hk _ _ _ _ _ hL h.2.2.2.2.2.2.2.2.2⟩
theorem cl_mmax : cm_Lo cm_mmax := by
  intro E P t pc L' L st M k' k hL hk h
  unfold cm_mmax at h ⊢
  dsimp only at h ⊢
  split at h <;> (first | exact h.elim | exact hk _ _ _ _ _ hL h | exact ⟨h.1, hk _ _ _ _ _ hL h.2⟩ | exact ⟨h.1, h.2.1, hk _ _ _ _ _ hL h.2.2⟩ | exact ⟨h.1, h.2.1, h.2.2.1, hk _ _ _ _ _ hL h.2.2.2⟩ | exact ⟨h.1, h.2.1, h.2.2.1, h.2.2.2.1, hk _ _ _ _ _ hL h.2.2.2.2⟩ | exact ⟨h.1, h.2.1, h.2.2.1, h.2.2.2.1, h.2.2.2.2.1, hk _ _ _ _ _ hL h.2.2.2.2.2⟩ | exact ⟨h.1, h.2.1, h.2.2.1, h.2.2.2.1, h.2.2.2.2.1, h.2.2.2.2.2.1, hk _ _ _ _ _ hL h.2.2.2.2.2.2⟩ | exact ⟨h.1, h.2.1, h.2.2.1, h.2.2.2.1, h.2.2.2.2.1, h.2.2.2.2.2.1, h.2.2.2.2.2.2.1, hk _ _ _ _ _ hL h.2.2.2.2.2.2.2⟩ | exact ⟨h.1, h.2.1, h.2.2.1, h.2.2.2.1, h.2.2.2.2.1, h.2.2.2.2.2.1, h.2.2.2.2.2.2.1, h.2.2.2.2.2.2.2.1, hk _ _ _ _ _ hL h.2.2.2.2.2.2.2.2⟩ | exact ⟨h.1, h.2.1, h.2.2.1, h.2.2.2.1, h.2.2.2.2.1, h.2.2.2.2.2.1, h.2.2.2.2.2.2.1, h.2.2.2.2.2.2.2.1, h.2.2.2.2.2.2.2.2.1, hk _ _ _ _ _ hL h.2.2.2.2.2.2.2.2.2⟩)
theorem cl_mabs : cm_Lo cm_mabs := by
  intro E P t pc L' L st M k' k hL hk h
  unfold cm_mabs at h ⊢
  dsimp only at h ⊢
  split at h <;> (first | exact h.elim | exact hk _ _ _ _ _ hL h | exact ⟨h.1, hk _ _ _ _ _ hL h.2⟩ | exact ⟨h.1, h.2.1, hk _ _ _ _ _ hL h.2.2⟩ | exact ⟨h.1, h.2.1, h.2.2.1, hk _ _ _ _ _ hL h.2.2.2⟩ | exact ⟨h.1, h.2.1, h.2.2.1, h.2.2.2.1, hk _ _ _ _ _ hL h.2.2.2.2⟩ | exact ⟨h.1, h.2.1, h.2.2.1, h.2.2.2.1, h.2.2.2.2.1, hk _ _ _ _ _ hL h.2.2.2.2.2⟩ | exact ⟨h.1, h.2.1, h.2.2.1, h.2.2.2.1, h.2.2.2.2.1, h.2.2.2.2.2.1, hk _ _ _ _ _ hL h.2.2.2.2.2.2⟩ | exact ⟨h.1, h.2.1, h.2.2.1, h.2.2.2.1, h.2.2.2.2.1, h.2.2.2.2.2.1, h.2.2.2.2.2.2.1, hk _ _ _ _ _ hL h.2.2.2.2.2.2.2⟩ | exact ⟨h.1, h.2.1, h.2.2.1, h.2.2.2.1, h.2.2.2.2.1, h.2.2.2.2.2.1, h.2.2.2.2.2.2.1, h.2.2.2.2.2.2.2.1, hk _ _ _ _ _ hL h.2.2.2.2.2.2.2.2⟩ | exact ⟨h.1, h.2.1, h.2.2.1, h.2.2.2.1, h.2.2.2.2.1, h.2.2.2.2.2.1, h.2.2.2.2.2.2.1, h.2.2.2.2.2.2.2.1, h.2.2.2.2.2.2.2.2.1, hk _ _ _ _ _ hL h.2.2.2.2.2.2.2.2.2⟩)
theorem cl_copyi : cm_Lo cm_copyi := by
  intro E P t pc L' L st M k' k hL hk h
  unfold cm_copyi at h ⊢
  dsimp only at h ⊢
  split at h <;> (first | exact h.elim | exact hk _ _ _ _ _ hL h | exact ⟨h.1, hk _ _ _ _ _ hL h.2⟩ | exact ⟨h.1, h.2.1, hk _ _ _ _ _ hL h.2.2⟩ | exact ⟨h.1, h.2.1, h.2.2.1, hk _ _ _ _ _ hL h.2.2.2⟩ | exact ⟨h.1, h.2.1, h.2.2.1, h.2.2.2.1, hk _ _ _ _ _ hL h.2.2.2.2⟩ | exact ⟨h.1, h.2.1, h.2.2.1, h.2.2.2.1, h.2.2.2.2.1, hk _ _ _ _ _ hL h.2.2.2.2.2⟩ | exact ⟨h.1, h.2.1, h.2.2.1, h.2.2.2.1, h.2.2.2.2.1, h.2.2.2.2.2.1, hk _ _ _ _ _ hL h.2.2.2.2.2.2⟩ | exact ⟨h.1, h.2.1, h.2.2.1, h.2.2.2.1, h.2.2.2.2.1, h.2.2.2.2.2.1, h.2.2.2.2.2.2.1, hk _ _ _ _ _ hL h.2.2.2.2.2.2.2⟩ | exact ⟨h.1, h.2.1, h.2.2.1, h.2.2.2.1, h.2.2.2.2.1, h.2.2.2.2.2.1, h.2.2.2.2.2.2.1, h.2.2.2.2.2.2.2.1, hk _ _ _ _ _ hL h.2.2.2.2.2.2.2.2⟩ | exact ⟨h.1, h.2.1, h.2.2.1, h.2.2.2.1, h.2.2.2.2.1, h.2.2.2.2.2.1, h.2.2.2.2.2.2.1, h.2.2.2.2.2.2.2.1, h.2.2.2.2.2.2.2.2.1, hk _ _ _ _ _ hL h.2.2.2.2.2.2.2.2.2⟩)
theorem cl_getT : cm_Lo cm_getT := by
  intro E P t pc L' L st M k' k hL hk h
  unfold cm_getT at h ⊢
  dsimp only at h ⊢
  first | exact h.elim | exact hk _ _ _ _ _ hL h | exact ⟨h.1, hk _ _ _ _ _ hL h.2⟩ | exact ⟨h.1, h.2.1, hk _ _ _ _ _ hL h.2.2⟩ | exact ⟨h.1, h.2.1, h.2.2.1, hk _ _ _ _ _ hL h.2.2.2⟩ | exact ⟨h.1, h.2.1, h.2.2.1, h.2.2.2.1, hk _ _ _ _ _ hL h.2.2.2.2⟩ | exact ⟨h.1, h.2.1, h.2.2.1, h.2.2.2.1, h.2.2.2.2.1, hk _ _ _ _ _ hL h.2.2.2.2.2⟩ | exact ⟨h.1, h.2.1, h.2.2.1, h.2.2.2.1, h.2.2.2.2.1, h.2.2.2.2.2.1, hk _ _ _ _ _ hL h.2.2.2.2.2.2⟩ | exact ⟨h.1, h.2.1, h.2.2.1, h.2.2.2.1, h.2.2.2.2.1, h.2.2.2.2.2.1, h.2.2.2.2.2.2.1, hk _ _ _ _ _ hL h.2.2.2.2.2.2.2⟩ | exact ⟨h.1, h.2.1, h.2.2.1, h.2.2.2.1, h.2.2.2.2.1, h.2.2.2.2.2.1, h.2.2.2.2.2.2.1, h.2.2.2.2.2.2.2.1, hk _ _ _ _ _ hL h.2.2.2.2.2.2.2.2⟩ | exact ⟨h.1, h.2.1, h.2.2.1, h.2.2.2.1, h.2.2.2.2.1, h.2.2.2.2.2.1, h.2.2.2.2.2.2.1, h.2.2.2.2.2.2.2.1, h.2.2.2.2.2.2.2.2.1, hk _ _ _ _ _ hL h.2.2.2.2.2.2.2.2.2⟩
theorem cl_tald : cm_Lo cm_tald := by
  intro E P t pc L' L st M k' k hL hk h
  unfold cm_tald at h ⊢
  dsimp only at h ⊢
  split at h <;> (first | exact h.elim | exact hk _ _ _ _ _ hL h | exact ⟨h.1, hk _ _ _ _ _ hL h.2⟩ | exact ⟨h.1, h.2.1, hk _ _ _ _ _ hL h.2.2⟩ | exact ⟨h.1, h.2.1, h.2.2.1, hk _ _ _ _ _ hL h.2.2.2⟩ | exact ⟨h.1, h.2.1, h.2.2.1, h.2.2.2.1, hk _ _ _ _ _ hL h.2.2.2.2⟩ | exact ⟨h.1, h.2.1, h.2.2.1, h.2.2.2.1, h.2.2.2.2.1, hk _ _ _ _ _ hL h.2.2.2.2.2⟩ | exact ⟨h.1, h.2.1, h.2.2.1, h.2.2.2.1, h.2.2.2.2.1, h.2.2.2.2.2.1, hk _ _ _ _ _ hL h.2.2.2.2.2.2⟩ | exact ⟨h.1, h.2.1, h.2.2.1, h.2.2.2.1, h.2.2.2.2.1, h.2.2.2.2.2.1, h.2.2.2.2.2.2.1, hk _ _ _ _ _ hL h.2.2.2.2.2.2.2⟩ | exact ⟨h.1, h.2.1, h.2.2.1, h.2.2.2.1, h.2.2.2.2.1, h.2.2.2.2.2.1, h.2.2.2.2.2.2.1, h.2.2.2.2.2.2.2.1, hk _ _ _ _ _ hL h.2.2.2.2.2.2.2.2⟩ | exact ⟨h.1, h.2.1, h.2.2.1, h.2.2.2.1, h.2.2.2.2.1, h.2.2.2.2.2.1, h.2.2.2.2.2.2.1, h.2.2.2.2.2.2.2.1, h.2.2.2.2.2.2.2.2.1, hk _ _ _ _ _ hL h.2.2.2.2.2.2.2.2.2⟩)
theorem cl_alenT : cm_Lo cm_alenT := by
  intro E P t pc L' L st M k' k hL hk h
  unfold cm_alenT at h ⊢
  dsimp only at h ⊢
  split at h <;> (first | exact h.elim | exact hk _ _ _ _ _ hL h | exact ⟨h.1, hk _ _ _ _ _ hL h.2⟩ | exact ⟨h.1, h.2.1, hk _ _ _ _ _ hL h.2.2⟩ | exact ⟨h.1, h.2.1, h.2.2.1, hk _ _ _ _ _ hL h.2.2.2⟩ | exact ⟨h.1, h.2.1, h.2.2.1, h.2.2.2.1, hk _ _ _ _ _ hL h.2.2.2.2⟩ | exact ⟨h.1, h.2.1, h.2.2.1, h.2.2.2.1, h.2.2.2.2.1, hk _ _ _ _ _ hL h.2.2.2.2.2⟩ | exact ⟨h.1, h.2.1, h.2.2.1, h.2.2.2.1, h.2.2.2.2.1, h.2.2.2.2.2.1, hk _ _ _ _ _ hL h.2.2.2.2.2.2⟩ | exact ⟨h.1, h.2.1, h.2.2.1, h.2.2.2.1, h.2.2.2.2.1, h.2.2.2.2.2.1, h.2.2.2.2.2.2.1, hk _ _ _ _ _ hL h.2.2.2.2.2.2.2⟩ | exact ⟨h.1, h.2.1, h.2.2.1, h.2.2.2.1, h.2.2.2.2.1, h.2.2.2.2.2.1, h.2.2.2.2.2.2.1, h.2.2.2.2.2.2.2.1, hk _ _ _ _ _ hL h.2.2.2.2.2.2.2.2⟩ | exact ⟨h.1, h.2.1, h.2.2.1, h.2.2.2.1, h.2.2.2.2.1, h.2.2.2.2.2.1, h.2.2.2.2.2.2.1, h.2.2.2.2.2.2.2.1, h.2.2.2.2.2.2.2.2.1, hk _ _ _ _ _ hL h.2.2.2.2.2.2.2.2.2⟩)
theorem cl_lastore : cm_Lo cm_lastore := by
  intro E P t pc L' L st M k' k hL hk h
  unfold cm_lastore at h ⊢
  dsimp only at h ⊢
  split at h <;> (first | exact h.elim | exact hk _ _ _ _ _ hL h | exact ⟨h.1, hk _ _ _ _ _ hL h.2⟩ | exact ⟨h.1, h.2.1, hk _ _ _ _ _ hL h.2.2⟩ | exact ⟨h.1, h.2.1, h.2.2.1, hk _ _ _ _ _ hL h.2.2.2⟩ | exact ⟨h.1, h.2.1, h.2.2.1, h.2.2.2.1, hk _ _ _ _ _ hL h.2.2.2.2⟩ | exact ⟨h.1, h.2.1, h.2.2.1, h.2.2.2.1, h.2.2.2.2.1, hk _ _ _ _ _ hL h.2.2.2.2.2⟩ | exact ⟨h.1, h.2.1, h.2.2.1, h.2.2.2.1, h.2.2.2.2.1, h.2.2.2.2.2.1, hk _ _ _ _ _ hL h.2.2.2.2.2.2⟩ | exact ⟨h.1, h.2.1, h.2.2.1, h.2.2.2.1, h.2.2.2.2.1, h.2.2.2.2.2.1, h.2.2.2.2.2.2.1, hk _ _ _ _ _ hL h.2.2.2.2.2.2.2⟩ | exact ⟨h.1, h.2.1, h.2.2.1, h.2.2.2.1, h.2.2.2.2.1, h.2.2.2.2.2.1, h.2.2.2.2.2.2.1, h.2.2.2.2.2.2.2.1, hk _ _ _ _ _ hL h.2.2.2.2.2.2.2.2⟩ | exact ⟨h.1, h.2.1, h.2.2.1, h.2.2.2.1, h.2.2.2.2.1, h.2.2.2.2.2.1, h.2.2.2.2.2.2.1, h.2.2.2.2.2.2.2.1, h.2.2.2.2.2.2.2.2.1, hk _ _ _ _ _ hL h.2.2.2.2.2.2.2.2.2⟩)
theorem cl_pop2 : cm_Lo cm_pop2 := by
  intro E P t pc L' L st M k' k hL hk h
  unfold cm_pop2 at h ⊢
  dsimp only at h ⊢
  split at h <;> (first | exact h.elim | exact hk _ _ _ _ _ hL h | exact ⟨h.1, hk _ _ _ _ _ hL h.2⟩ | exact ⟨h.1, h.2.1, hk _ _ _ _ _ hL h.2.2⟩ | exact ⟨h.1, h.2.1, h.2.2.1, hk _ _ _ _ _ hL h.2.2.2⟩ | exact ⟨h.1, h.2.1, h.2.2.1, h.2.2.2.1, hk _ _ _ _ _ hL h.2.2.2.2⟩ | exact ⟨h.1, h.2.1, h.2.2.1, h.2.2.2.1, h.2.2.2.2.1, hk _ _ _ _ _ hL h.2.2.2.2.2⟩ | exact ⟨h.1, h.2.1, h.2.2.1, h.2.2.2.1, h.2.2.2.2.1, h.2.2.2.2.2.1, hk _ _ _ _ _ hL h.2.2.2.2.2.2⟩ | exact ⟨h.1, h.2.1, h.2.2.1, h.2.2.2.1, h.2.2.2.2.1, h.2.2.2.2.2.1, h.2.2.2.2.2.2.1, hk _ _ _ _ _ hL h.2.2.2.2.2.2.2⟩ | exact ⟨h.1, h.2.1, h.2.2.1, h.2.2.2.1, h.2.2.2.2.1, h.2.2.2.2.2.1, h.2.2.2.2.2.2.1, h.2.2.2.2.2.2.2.1, hk _ _ _ _ _ hL h.2.2.2.2.2.2.2.2⟩ | exact ⟨h.1, h.2.1, h.2.2.1, h.2.2.2.1, h.2.2.2.2.1, h.2.2.2.2.2.1, h.2.2.2.2.2.2.1, h.2.2.2.2.2.2.2.1, h.2.2.2.2.2.2.2.2.1, hk _ _ _ _ _ hL h.2.2.2.2.2.2.2.2.2⟩)
theorem cl_1 {o : cm_O} {l : List cm_O} (h : cm_Lo o) (h2 : ∀ o ∈ l, cm_Lo o) : ∀ o' ∈ o :: l, cm_Lo o' := List.forall_mem_cons.mpr ⟨h, h2⟩
theorem cl_ops : ∀ o ∈ cm_ops, cm_Lo o := cl_1 cl_iconst (cl_1 cl_bipush (cl_1 cl_sipush (cl_1 cl_lconst (cl_1 cl_iload (cl_1 cl_iloadn (cl_1 cl_lload (cl_1 cl_lloadn (cl_1 cl_aload (cl_1 cl_aloadn (cl_1 cl_istore (cl_1 cl_istoren (cl_1 cl_lstore (cl_1 cl_lstoren (cl_1 cl_astore (cl_1 cl_astoren (cl_1 cl_iadd (cl_1 cl_isub (cl_1 cl_imul (cl_1 cl_iand (cl_1 cl_ior (cl_1 cl_ixor (cl_1 cl_ishl (cl_1 cl_ishr (cl_1 cl_iushr (cl_1 cl_idiv (cl_1 cl_irem (cl_1 cl_ineg (cl_1 cl_i2b (cl_1 cl_i2l (cl_1 cl_lcmp (cl_1 cl_dup (cl_1 cl_pop (cl_1 cl_dup2 (cl_1 cl_iinc (cl_1 cl_icmp_eq (cl_1 cl_icmp_ne (cl_1 cl_icmp_lt (cl_1 cl_icmp_ge (cl_1 cl_icmp_gt (cl_1 cl_icmp_le (cl_1 cl_if_eq (cl_1 cl_if_ne (cl_1 cl_if_lt (cl_1 cl_if_ge (cl_1 cl_if_gt (cl_1 cl_if_le (cl_1 cl_goto (cl_1 cl_sw (cl_1 cl_get (cl_1 cl_put (cl_1 cl_no (cl_1 cl_iaload (cl_1 cl_baload (cl_1 cl_laload (cl_1 cl_aaload (cl_1 cl_iastore (cl_1 cl_bastore (cl_1 cl_no (cl_1 cl_no (cl_1 cl_no (cl_1 cl_no (cl_1 cl_no (cl_1 cl_no (cl_1 cl_alen (cl_1 cl_sald (cl_1 cl_no (cl_1 cl_mmin (cl_1 cl_ldc (cl_1 cl_ldcS (cl_1 cl_getV (cl_1 cl_getC (cl_1 cl_gets (cl_1 cl_alenS (cl_1 cl_baloadS (cl_1 cl_i2c (cl_1 cl_ladd (cl_1 cl_lsub (cl_1 cl_lmul (cl_1 cl_ldiv (cl_1 cl_lrem (cl_1 cl_ldc2 (cl_1 cl_getsF (cl_1 cl_ldcw (cl_1 cl_mmax (cl_1 cl_mabs (cl_1 cl_copyi (cl_1 cl_getT (cl_1 cl_tald (cl_1 cl_alenT (cl_1 cl_lastore (cl_1 cl_pop2 (fun _ h => absurd h List.not_mem_nil))))))))))))))))))))))))))))))))))))))))))))))))))))))))))))))))))))))))))))))))))))))))))))
theorem cm_take_ok {recv : Bool} {n : Nat} {st as rest : List Value} (h : cm_take recv n st = some (as, rest)) : ∃ xs : List Value, xs.length = n ∧ ((recv = true ∧ ∃ v, as = v :: xs ∧ st = xs.reverse ++ v :: rest) ∨ (recv = false ∧ as = xs ∧ st = xs.reverse ++ rest)) := by
  have hsp : st = st.take n ++ st.drop n := (List.take_append_drop n st).symm
  unfold cm_take at h
  split at h
  · rename_i hr
    split at h
    · rename_i x rest' hd
      split at h
      · rename_i hl
        cases h
        exact ⟨(st.take n).reverse, by rw [List.length_reverse]; exact hl, Or.inl ⟨hr, x, rfl, by rw [List.reverse_reverse, ← hd]; exact hsp⟩⟩
      · cases h
    · cases h
  · rename_i hr
    split at h
    · rename_i hl
      cases h
      exact ⟨(st.take n).reverse, by rw [List.length_reverse]; exact hl, Or.inr ⟨by simpa using hr, rfl, by rw [List.reverse_reverse]; exact hsp⟩⟩
    · cases h
theorem cm_callW {p : Program} {l : Launch} {e : Env} {R : Room} {s : State} {m : MethodId} {args : Array Value} {below : List Frame} {meth : Method} {c : Code} {H : Heap} {locs : List Loc} {ce sl pc : Nat} {ls : Array Slot} {rest st0 : List Value} {a : Array Value} {A A1 : Nat → Prop} {H0 : Heap} {free : Addr → Prop} {Q : State → Prop} {D : va_G} {adr : Nat → Nat} {P0 : cm_K}
    (hr : va_Run p l e R s m args below meth c H locs ce sl 0 0 (F0 m pc ls st0) rest (cm_Q D adr A1 P0 a) free) (hS : va_S A H0 H locs) (hA : ∀ q, A1 q → A q) (hf : ∀ q, free q → A q)
    (kk : ∀ (v : Option Value) (M' : cm_M) (ws' : va_W) (t : State) (H1 : Heap) (locs1 : List Loc), P0 v M' → t.heap = H1 → s.vm.Alike t.vm → va_P D vwCl ws' H1 → va_D A1 ws' → cm_w t adr M' ws' → va_S A H0 H1 locs1 → W p l e R s m args below meth c H1 locs1 ce sl Q (F0 m (pc + 3) ls ((v.map (cm_v adr)).toList ++ rest))) :
    W p l e R s m args below meth c H locs ce sl Q (F0 m pc ls st0) := by
  intro T hT X
  obtain ⟨v, st₀, t, T', L, h0, X', hL, e1, e2, ⟨⟨v', M', ws', hv0, hv, hP, hD, hw⟩, hz, hk⟩, st⟩ := hr T hT X
  cases hv
  rw [h0] at hz hk
  obtain ⟨t2, a1, b1⟩ := kk v' M' ws' t T'.heap (locs ++ L) hv0 e1.symm (by rw [← e2]; exact X'.warmed.alike) (by rw [e1]; exact hP) hD hw
    ⟨Nat.le_trans hS.1 (by rw [e1]; exact hz), fun q h1 h2 => by rw [e1, hk q (Nat.lt_of_lt_of_le h1 hS.1) (fun z => h2 (hA q z))]; exact hS.2.1 q h1 h2, fun q hq => by
      rcases List.mem_append.mp hq with h | h
      · exact hS.2.2 q h
      · exact hf _ (hL q h)⟩ T' rfl X'
  exact ⟨t2, st t2 a1, b1⟩
theorem cm_Pb_blind {D : va_G} {adr : Nat → Nat} {ws : va_W} {sz : Nat} {M : cm_M} {asc : List Value} : FrameBlind (va_Pc asc (cm_Pb D adr ws sz M)) := fun a U gf mk q => by
  obtain ⟨q0, q1, q2, q3, q4, q5, q6⟩ := q
  exact ⟨q0, q1, q2, va_K.moved (u := U) (U := U.calling gf mk a) (Vm.Alike.refl U.vm) q3, q4, cm_w_moved (u := U) (U := U.calling gf mk a) (Vm.Alike.refl U.vm) q5, cm_N_same (u := U) (U := U.calling gf mk a) rfl q6⟩
theorem cm_rowI_op {ms : List ev_MI} {P : ev_P} {r : ev_Row} (h : r.1 < 200) : cm_rowI ms P r = (match cm_ops[r.1]? with
    | some o => o.1 P r.2
    | none => none) := by
  unfold cm_rowI
  split
  · omega
  · omega
  · omega
  · omega
  · omega
  · omega
  · rfl
section CMS
variable {p : Program} {l : Launch} {e : Env} {R : Room} {s : State} {m : MethodId} {args : Array Value} {below : List Frame} {meth : Method} {c : Code} {cc : ByteArray} {Q : State → Prop} {D : va_G} {A : Nat → Prop} {adr : Nat → Nat} {ce sl : Nat} {E : cm_E} {P : ev_P} {ms : List ev_MI} {d : Nat}
set_option maxHeartbeats 4000000 in
theorem cm_inv_ok (hMS : ∀ (k : Nat) (mi : ev_MI), ms[k]? = some mi → cm_MOK ms mi) (hRm : d + 1 ≤ R.frames ∧ 40 * (d + 1) ≤ R.locals) (X : cm_X p R s m args c cc P.2.2.2.2.1 P.2.2.2.1 D A adr ce sl E)
    {q : Nat × ev_Row} (hq : cm_RowOK ms P cc q) (h200 : 200 ≤ q.2.1) (h210 : q.2.1 < 210) {S : cm_S} (hpc : S.1 = q.1) (h : cm_inv ms (cm_Call0 ms d) q.2 S (cm_Go p l e R s m args below meth c Q P.2.2.2.2.1 D A adr ce sl)) : cm_Go p l e R s m args below meth c Q P.2.2.2.2.1 D A adr ce sl S := by
  intro ws H locs ls hR
  obtain ⟨hx, hb, hml, hown, hts, hK, hA, hN, hcC, hcS, hf, hlc, hscr⟩ := X
  obtain ⟨pc, L, st, M⟩ := S
  obtain ⟨qpc, op, t1, t2, t3, t4⟩ := q
  have hpc : pc = qpc := hpc
  subst hpc
  obtain ⟨i, n, cs, hi, hd, hw⟩ := hq
  dsimp only at hi hd h200 h210
  unfold cm_inv at h
  dsimp only at h
  split at h
  rotate_left
  · exact h.elim
  rename_i mi hmi
  obtain ⟨hpl, hcd, hnL, hmh, -⟩ := hMS _ mi hmi
  split at h
  rotate_left
  · exact h.elim
  rename_i as rest htk
  obtain ⟨hc1, hc4, hc5, mi', d', P0, hmi', hdd, hP0, hM⟩ := h
  rw [hmi] at hmi'
  cases hmi'
  obtain ⟨hP, hD, hS, hW, hL⟩ := hR
  have hnp : (parseMethodDescriptor mi.1.desc).map (fun d => d.parameters.length) = some t3.toNat := by simpa [ev_nar1] using hc4
  have hroom : (cm_rm d').frames + 1 ≤ R.frames ∧ 8 + (mi.2.2.1 + 11) + (cm_rm d').locals ≤ R.locals := by
    simp only [cm_rm]
    omega
  have hG : GoodIn lw_good (Cond.code mi.1 mi.2.1 mi.2.2.1 mi.2.2.2.1 :: lw_good) := lw_good_good (fun w h => by
    rcases List.mem_cons.mp h with rfl | h
    · exact hcd
    · exact h)
  have hcap : ce + 0 ≤ R.cells ∧ sl + 0 ≤ R.slots := ⟨hcC, hcS⟩
  have hfree : ∀ q, va_A ws H.size q → A q := by
    intro q h
    rcases h with ⟨k, e, h⟩ | h
    · exact hD.2 k (q, e) h
    · exact hA q (Nat.le_trans hS.1 h)
  obtain ⟨xs, hxl, hor⟩ := cm_take_ok htk
  have hsum : ((rest.map (cm_v adr)).map fun v => v.category).sum ≤ 8 := by rw [cm_v_cats]; exact hc1
  have hkk : ∀ (v : Option Value) (M' : cm_M) (ws' : va_W) (t : State) (H1 : Heap) (locs1 : List Loc), P0 v M' → t.heap = H1 → s.vm.Alike t.vm → va_P D vwCl ws' H1 → va_D (va_A ws H.size) ws' → cm_w t adr M' ws' → va_S A s.heap H1 locs1 → W p l e R s m args below meth c H1 locs1 ce sl Q (F0 m (pc + 3) ls ((v.map (cm_v adr)).toList ++ rest.map (cm_v adr))) := by
    intro v M' ws' t H1 locs1 ho ht hvm hP1 hD1 hw1 hS1
    have := hP0 v M' ho ws' H1 locs1 ls ⟨hP1, hD1.weaken (fun _ _ _ h => hfree _ h), hS1, cm_w_moved hvm.symm hw1, hL⟩
    have e1 : (v.toList ++ rest).map (cm_v adr) = (v.map (cm_v adr)).toList ++ rest.map (cm_v adr) := by
      rw [List.map_append]
      cases v <;> rfl
    rw [← e1]
    exact this
  have hpre : ∀ (asc : List Value), ∀ U : State, U.heap = H → s.WarmedH U.vm → va_Pc asc (cm_Pb D adr ws H.size M) asc.toArray U := fun asc U hU hWm =>
    ⟨rfl, by rw [hU], by rw [hU]; exact hP, va_K.moved hWm.alike hK, hD.weaken (fun _ _ _ _ => trivial), cm_w_moved hWm.alike hW, cm_N_call hWm hU hS hfree hN⟩
  have h4 : op = 200 ∨ op = 201 ∨ 201 < op := by omega
  rcases h4 with rfl | rfl | hbig
  · have hi : some ((.invokevirtual t2.toNat : Instr), (3 : Nat), ([.methodLink P.2.2.2.1 t2.toNat mi.1, .instanceMethod mi.1, .selects mi.1.cls mi.1 mi.1, .initialized mi.1.cls] : List Cond)) = some (i, n, cs) := by
      simpa [cm_rowI, hmi] using hi
    cases hi
    rcases hor with ⟨-, v, rfl, rfl⟩ | ⟨hf0, -⟩
    rotate_left
    · cases hf0
    have hGV : GoodIn lw_good (wsV P.2.2.2.1 t2.toNat mi.1.cls mi.1 (Cond.code mi.1 mi.2.1 mi.2.2.1 mi.2.2.2.1 :: lw_good)) := lw_good_good (fun w h => by
      unfold wsV at h
      rcases List.mem_append.mp h with h | h
      · exact hw w h
      · exact (hG w h).1)
    have hmap : (xs.reverse ++ v :: rest).map (cm_v adr) = (xs.map (cm_v adr)).reverse ++ cm_v adr v :: rest.map (cm_v adr) := by
      rw [List.map_append, List.map_reverse, List.map_cons]
    have h5 := hc5 rfl
    cases v with
    | ref cn =>
      show W p l e R s m args below meth c H locs ce sl Q (F0 m pc ls ((xs.reverse ++ Value.ref cn :: rest).map (cm_v adr)))
      rw [hmap]
      rcases h5 with ⟨h51, h52, h53, h54⟩ | h5
      · obtain ⟨r, -, a1, -⟩ := cm_str hN h51 h52
        obtain ⟨cell, k1, k2, k3, k4⟩ := va_O.kept (a1 h53).2.2 hS.2.1
        exact cm_callW (va_runV (As := xs.map (cm_v adr)) (rest := rest.map (cm_v adr)) ⟨hx, hb, hml, hown, hts⟩ (hM l D adr ws H.size) (cwV t3.toNat hts hGV rfl rfl rfl ⟨rfl, hmh.1, hmh.2, hnp⟩ hroom) ⟨cm_Pb_blind, ⟨cell, k1, k2, by rw [h54]; exact k3⟩, fun U hU hWm => hpre _ U hU hWm⟩ rfl (by rw [List.length_map]; exact hxl) hL.1 rfl (lv_room hsum) hd hcap) hS (fun q h => hfree q h) hfree hkk
      · obtain ⟨r, hr1, hr2⟩ : ∃ r, vwCl[(cm_kind cn).1]? = some r ∧ r.1 = mi.1.cls := by
          cases hz : vwCl[(cm_kind cn).1]? with
          | none => rw [hz] at h5; cases h5
          | some r => rw [hz] at h5; exact ⟨r, rfl, Option.some.inj h5⟩
        have hlt : (cm_kind cn).1 < 10 := (List.getElem?_eq_some_iff.mp hr1).1
        obtain ⟨fs, e1, e2, e3⟩ := cm_obj hW (show cm_kind cn = ((cm_kind cn).1, (cm_kind cn).2) from rfl) (by omega)
        have hrecv := va_recv hK hP hr1 e1
        rw [hr2] at hrecv
        exact cm_callW (va_runV (As := xs.map (cm_v adr)) (rest := rest.map (cm_v adr)) ⟨hx, hb, hml, hown, hts⟩ (hM l D adr ws H.size) (cwV t3.toNat hts hGV rfl rfl rfl ⟨rfl, hmh.1, hmh.2, hnp⟩ hroom) ⟨cm_Pb_blind, hrecv, fun U hU hWm => hpre _ U hU hWm⟩ rfl (by rw [List.length_map]; exact hxl) hL.1 rfl (lv_room hsum) hd hcap) hS (fun q h => hfree q h) hfree hkk
    | _ => exact h5.elim
  · have hi : some ((.invokestatic t2.toNat : Instr), (3 : Nat), ([.methodLink P.2.2.2.1 t2.toNat mi.1, .static mi.1, .initialized mi.1.cls] : List Cond)) = some (i, n, cs) := by
      simpa [cm_rowI, hmi] using hi
    cases hi
    rcases hor with ⟨hf0, -⟩ | ⟨-, rfl, rfl⟩
    · cases hf0
    · have hGS : GoodIn lw_good (va_wsS P.2.2.2.1 t2.toNat mi.1 (Cond.code mi.1 mi.2.1 mi.2.2.1 mi.2.2.2.1 :: lw_good)) := lw_good_good (fun w h => by
        unfold va_wsS at h
        rcases List.mem_append.mp h with h | h
        · exact hw w h
        · exact (hG w h).1)
      have hmap : (as.reverse ++ rest).map (cm_v adr) = (as.map (cm_v adr)).reverse ++ rest.map (cm_v adr) := by
        rw [List.map_append, List.map_reverse]
      show W p l e R s m args below meth c H locs ce sl Q (F0 m pc ls ((as.reverse ++ rest).map (cm_v adr)))
      rw [hmap]
      exact cm_callW (va_runS (As := as.map (cm_v adr)) (rest := rest.map (cm_v adr)) ⟨hx, hb, hml, hown, hts⟩ (hM l D adr ws H.size) (va_cwS t3.toNat hts hGS rfl rfl rfl ⟨hmh.1, hmh.2, hnp⟩ hroom) ⟨cm_Pb_blind, fun U hU hWm => hpre _ U hU hWm⟩ rfl (by rw [List.length_map]; exact hxl) hL.1 rfl (lv_room hsum) hd hcap) hS (fun q h => hfree q h) hfree hkk
  · exfalso
    have : cm_rowI ms P (op, t1, t2, t3, t4) = none := by
      unfold cm_rowI
      split
      · omega
      · omega
      · omega
      · omega
      · omega
      · omega
      · have : cm_ops[op]? = none := by
          apply List.getElem?_eq_none
          have : cm_ops.length = 92 := rfl
          omega
        simp [this]
    rw [this] at hi
    cases hi
theorem cm_pick_mem : ∀ {L L' : List (Nat × Value)} {live : List Nat}, cm_pick L live = some L' → ∀ q ∈ L', q ∈ L
  | L, L', [], h => by cases h; exact fun q hq => nomatch hq
  | L, L', i :: r, h => by
    unfold cm_pick at h
    split at h
    · rename_i v l h1 h2
      cases h
      intro q hq
      rcases List.mem_cons.mp hq with rfl | hq
      · exact cm_look_mem h1
      · exact cm_pick_mem h2 q hq
    · cases h
theorem cm_inv_im {C : cm_C} {r : ev_Row} {S : cm_S} {k1 k2 : cm_S → Prop} (hC : ∀ k as M P1 P2, (∀ v M', P1 v M' → P2 v M') → C k as M P1 → C k as M P2) (h : cm_inv ms C r S k1) (hk : ∀ S, k1 S → k2 S) : cm_inv ms C r S k2 := by
  unfold cm_inv at h ⊢
  split at h
  · split at h
    · exact ⟨h.1, h.2.1, h.2.2.1, hC _ _ _ _ _ (fun v M' q => hk _ q) h.2.2.2⟩
    · exact h
  · exact h
/-- from a good run back to its start -/
theorem cm_wp_ok (hMS : ∀ (k : Nat) (mi : ev_MI), ms[k]? = some mi → cm_MOK ms mi) (hRm : d + 1 ≤ R.frames ∧ 40 * (d + 1) ≤ R.locals) (X : cm_X p R s m args c cc P.2.2.2.2.1 P.2.2.2.1 D A adr ce sl E) {rows : List (Nat × ev_Row)} (hrows : ∀ q ∈ rows, cm_RowOK ms P cc q) {stops : List (Nat × List Nat)} {J : cm_S → Prop} {Z : Nat → cm_S → Prop}
    (hJ : ∀ S, J S → cm_Go p l e R s m args below meth c Q P.2.2.2.2.1 D A adr ce sl S) (hZ : ∀ (r : ev_Row) (S : cm_S), ev_at rows S.1 = some r → 210 ≤ r.1 → Z r.1 S → cm_Go p l e R s m args below meth c Q P.2.2.2.2.1 D A adr ce sl S) : ∀ (n : Nat) (S : cm_S), cm_wp ms (cm_Call0 ms d) E P rows stops J Z n S → cm_Go p l e R s m args below meth c Q P.2.2.2.2.1 D A adr ce sl S
  | 0, S, h => h.elim
  | n + 1, S, h => by
    have hst : ∀ S', cm_stop stops J (cm_wp ms (cm_Call0 ms d) E P rows stops J Z n) S' → cm_Go p l e R s m args below meth c Q P.2.2.2.2.1 D A adr ce sl S' := by
      intro S' h'
      unfold cm_stop at h'
      split at h'
      · exact cm_wp_ok hMS hRm X hrows hJ hZ n S' h'
      · split at h'
        · rename_i L' hL'
          exact cm_Go_sub (L' := L') (hJ _ h') (cm_pick_mem hL')
        · exact h'.elim
    unfold cm_wp at h
    split at h
    · exact h.elim
    · rename_i r hr
      have hq := hrows _ (ev_at_mem hr)
      split at h
      · rename_i h210
        exact hZ r S hr h210 h
      · rename_i h210
        split at h
        · rename_i h200
          exact cm_inv_ok hMS hRm X hq h200 (by dsimp only; omega) rfl (cm_inv_im (fun k as M P1 P2 hp hc => cm_Call_up0 hc (Nat.le_refl _) hp) h hst)
        · split at h
          · rename_i o ho
            obtain ⟨i, k, cs, hi, hd, hw⟩ := hq
            rw [cm_rowI_op (by dsimp only; omega)] at hi
            dsimp only at hi hd
            rw [ho] at hi
            exact cm_ops_ok o (List.mem_of_getElem? ho) p l e R s m args below meth c cc Q D A adr ce sl E P r.2 S i k cs X hi hd hw (cm_ops_im o (List.mem_of_getElem? ho) E P r.2 S _ _ h hst)
          · exact h.elim
end CMS
/-- from this state the method ends as wanted -/
noncomputable def cm_At0 (d : Nat) (mi : ev_MI) (Post : cm_K) (S : cm_S) : Prop := ∀ (p : Program) (l : Launch) (e : Env) (s : State) (m : MethodId) (args : Array Value) (below : List Frame) (meth : Method) (c : Code) (D : va_G) (adr : Nat → Nat) (ws0 : va_W),
  cm_X p (cm_rm d) s m args c mi.2.1 mi.2.2.1 mi.1.cls D (va_A ws0 s.heap.size) adr 0 0 none → meth.sig.returnType = mi.2.2.2.1 → meth.locks = false → cm_Go p l e (cm_rm d) s m args below meth c (MQ below (cm_Q D adr (va_A ws0 s.heap.size) Post) args s 0 0 (va_A ws0 s.heap.size)) mi.2.2.1 D (va_A ws0 s.heap.size) adr 0 0 S
theorem cm_ret_ok {ms : List ev_MI} {d : Nat} {mi : ev_MI} (hM : cm_MOK ms mi) {Post : cm_K} {r : ev_Row} {S : cm_S} (hr : ev_at mi.2.2.2.2.2.2 S.1 = some r) (h : cm_ret mi.2.2.2.1 Post r.1 S) : cm_At0 d mi Post S := by
  intro p l e s m args below meth c D adr ws0 X hrt hlocks ws H locs ls hR
  obtain ⟨hx, hb, hml, hown, hts, hK, hA, hN, hcC, hcS, hf, hlc, hscr⟩ := X
  obtain ⟨hP, hD, hS, hW, hL⟩ := hR
  obtain ⟨pc, L, st, M⟩ := S
  obtain ⟨i, n, cs, hi, hd, -⟩ := hM.2.2.2.2 _ (ev_at_mem hr)
  dsimp only at hi hd
  have qq : ∀ (v : Option Value) (t : State), t.heap = H → s.WarmedH t.vm → Post v M → cm_Q D adr (va_A ws0 s.heap.size) Post args s (.returned (v.map (cm_v adr))) t := by
    intro v t ht hWm hv
    exact ⟨⟨v, M, ws, hv, rfl, by rw [ht]; exact hP, hD, cm_w_moved hWm.alike hW⟩, hS.F ht⟩
  unfold cm_ret at h
  split at h
  · rename_i x e1 e2 e3
    have hi : some ((.ireturn : Instr), (1 : Nat), ([] : List Cond)) = some (i, n, cs) := by simpa [cm_rowI, e1] using hi
    cases hi
    dsimp only at e3 h
    subst e3
    exact W.zret hx hb (hrt.trans e2) rfl (fun t ht hWm => qq (some (.int x)) t ht hWm h) hS.2.2 hd
  · rename_i x e1 e2 e3
    have hi : some ((.ireturn : Instr), (1 : Nat), ([] : List Cond)) = some (i, n, cs) := by simpa [cm_rowI, e1] using hi
    cases hi
    dsimp only at e3 h
    subst e3
    refine W.zret hx hb (hrt.trans e2) ?_ (fun t ht hWm => qq (some (.int x)) t ht hWm h.2) hS.2.2 hd
    rcases h.1 with rfl | rfl <;> decide
  · rename_i x e1 e2 e3
    have hi : some ((.ireturn : Instr), (1 : Nat), ([] : List Cond)) = some (i, n, cs) := by simpa [cm_rowI, e1] using hi
    cases hi
    dsimp only at e3 h
    subst e3
    obtain ⟨h0, h1, h2⟩ := h
    refine W.zret hx hb (hrt.trans e2) ?_ (fun t ht hWm => qq (some (.int x)) t ht hWm h2) hS.2.2 hd
    have e : x = nI x.toInt.toNat := by
      apply Int32.toInt_inj.mp
      rw [nI_toInt (by omega)]
      omega
    rw [e]
    exact (pk_charN (by omega)).1
  · rename_i x e1 e2 e3
    have hi : some ((.ireturn : Instr), (1 : Nat), ([] : List Cond)) = some (i, n, cs) := by simpa [cm_rowI, e1] using hi
    cases hi
    dsimp only at e3 h
    subst e3
    obtain ⟨rfl, h2⟩ := h
    exact W.zret hx hb (hrt.trans e2) (by decide) (fun t ht hWm => qq (some (.int 0)) t ht hWm h2) hS.2.2 hd
  · rename_i x e1 e2 e3
    have hi : some ((.lreturn : Instr), (1 : Nat), ([] : List Cond)) = some (i, n, cs) := by simpa [cm_rowI, e1] using hi
    cases hi
    dsimp only at e3 h
    subst e3
    exact W.lret hx hb (hrt.trans e2) (fun t ht hWm => qq (some (.long x)) t ht hWm h) hS.2.2 hd
  · rename_i nm x e1 e2 e3
    have hi : some ((.areturn : Instr), (1 : Nat), ([] : List Cond)) = some (i, n, cs) := by simpa [cm_rowI, e1] using hi
    cases hi
    dsimp only at e3 h
    subst e3
    exact W.aret hx hb (hrt.trans e2) (Or.inl ⟨_, rfl⟩) (Or.inr ⟨_, rfl⟩) (fun t ht hWm => qq (some (.ref x)) t ht hWm h) hS.2.2 hd
  · rename_i e1 e2 e3
    have hi : some ((.return_ : Instr), (1 : Nat), ([] : List Cond)) = some (i, n, cs) := by simpa [cm_rowI, e1] using hi
    cases hi
    dsimp only at e3 h
    subst e3
    exact W.vret hx hb (hrt.trans e2) (fun t ht hWm => qq none t ht hWm h) hS.2.2 hd
  · exact h.elim
theorem cm_sl_len (adr : Nat → Nat) : ∀ as : List Value, (lg_sl (as.map (cm_v adr))).length = cm_cs as
  | [] => rfl
  | a :: as => by
    have ih := cm_sl_len adr as
    simp only [lg_sl, List.map_cons, List.flatMap_cons, List.length_append, cm_cs, List.sum_cons] at ih ⊢
    rw [ih]
    cases a <;> rfl
theorem cm_args_ok (adr : Nat → Nat) : ∀ (as : List Value) (i : Nat), ∀ q ∈ cm_args i as, (q.1, cm_v adr q.2) ∈ lv_args i (as.map (cm_v adr))
  | [], i, q, hq => nomatch hq
  | a :: as, i, q, hq => by
    unfold cm_args at hq
    rw [List.map_cons]
    unfold lv_args
    rcases List.mem_cons.mp hq with rfl | hq
    · exact List.mem_cons_self
    · refine List.mem_cons_of_mem _ ?_
      have := cm_args_ok adr as _ q hq
      rw [cm_v_cat]
      by_cases h2 : a.category = 2
      · rw [if_pos h2]; rw [h2] at this; exact this
      · have h1 : a.category = 1 := by cases a <;> first | rfl | exact absurd rfl h2
        rw [if_neg h2]; rw [h1] at this; exact this
theorem cm_Call_of0 {ms : List ev_MI} (hMS : ∀ (k : Nat) (mi : ev_MI), ms[k]? = some mi → cm_MOK ms mi) {d k : Nat} {mi : ev_MI} (hk : ms[k]? = some mi) {as : List Value} {M : cm_M} {Post : cm_K} (hcs : cm_cs as ≤ mi.2.2.1) (h : cm_At0 d mi Post (0, cm_args 0 as, [], M)) : cm_Call0 ms (d + 1) k as M Post := by
  refine ⟨mi, d, Post, hk, Nat.le_refl _, fun _ _ q => q, fun l D adr ws sz => ?_⟩
  obtain ⟨hpl, hcd, hnL, hmh, hrows⟩ := hMS k mi hk
  refine Met.ofW (cc := mi.2.1) (maxL := mi.2.2.1) (ret := mi.2.2.2.1) hpl rfl ?_
  intro p e s m args below meth c s₁ B hml hv
  obtain ⟨rfl, hsz, hP, hK, hD0, hW, hN⟩ := hv
  subst hsz
  have hD : va_D (va_A ws s.heap.size) ws := hD0.self (sz := s.heap.size)
  have hts : ∀ w ∈ lw_good, w.before (as.map (cm_v adr)).toArray s = true := fun w hw => atoms_spec (ws := Cond.code mi.1 mi.2.1 mi.2.2.1 mi.2.2.2.1 :: lw_good) B.pre w (List.mem_cons_of_mem _ hw)
  have X : cm_X p (cm_rm d) s m (as.map (cm_v adr)).toArray c mi.2.1 mi.2.2.1 mi.1.cls D (va_A ws s.heap.size) adr 0 0 none :=
    ⟨B.exec, B.bytes, hml, findClass_of_methodNamed B.named, hts, hK, fun q h => Or.inr h, hN, Nat.le_refl _, Nat.le_refl _, by simp [cm_rm], by simp only [cm_rm]; omega, trivial⟩
  have hlen : (lg_sl (as.map (cm_v adr))).length ≤ mi.2.2.1 := by rw [cm_sl_len]; exact hcs
  have hl := lv_entry (as.map (cm_v adr)) (n := mi.2.2.1) hlen
  rw [lg_entry_eq]
  refine h p l e s m _ below meth c D adr ws X B.returns B.notSynchronized ws s.heap [] _ ⟨hP, hD, va_S.rf, hW, hl.1, hl.2.1, fun q hq => ?_⟩
  obtain ⟨r, hr, rfl⟩ := List.mem_map.mp hq
  exact hl.2.2 _ (cm_args_ok adr as 0 r hr)
/-- one step; what must hold behind it -/
noncomputable def cm_F (ms : List ev_MI) (C : cm_C) (E : cm_E) (P : ev_P) (rows : List (Nat × ev_Row)) (Z : Nat → cm_S → Prop) (X : cm_S → Prop) (S : cm_S) : Prop := match ev_at rows S.1 with
  | none => False
  | some r =>
    if 210 ≤ r.1 then Z r.1 S
    else if 200 ≤ r.1 then cm_inv ms C r S X
    else (match cm_ops[r.1]? with
      | some o => o.2 E P r.2 S X
      | none => False)
/-- it comes to an end with Z: the least such -/
noncomputable def cm_lf (ms : List ev_MI) (C : cm_C) (E : cm_E) (P : ev_P) (rows : List (Nat × ev_Row)) (Z : Nat → cm_S → Prop) (S : cm_S) : Prop := ∀ X : cm_S → Prop, (∀ S, cm_F ms C E P rows Z X S → X S) → X S
/-- calls grow with what is wanted -/
noncomputable def cm_CM (C1 C2 : cm_C) : Prop := ∀ (k : Nat) (as : List Value) (M : cm_M) (P1 P2 : cm_K), (∀ v M', P1 v M' → P2 v M') → C1 k as M P1 → C2 k as M P2
section PURE
variable {ms : List ev_MI} {C C1 C2 : cm_C} {E : cm_E} {P : ev_P} {rows : List (Nat × ev_Row)} {Z Z1 Z2 : Nat → cm_S → Prop} {X X1 X2 : cm_S → Prop}
theorem cm_inv_im2 {r : ev_Row} {S : cm_S} (hC : cm_CM C1 C2) (hX : ∀ S, X1 S → X2 S) (h : cm_inv ms C1 r S X1) : cm_inv ms C2 r S X2 := by
  unfold cm_inv at h ⊢
  split at h
  · split at h
    · exact ⟨h.1, h.2.1, h.2.2.1, hC _ _ _ _ _ (fun v M' q => hX _ q) h.2.2.2⟩
    · exact h
  · exact h
theorem cm_F_im {S : cm_S} (hC : cm_CM C1 C2) (hZ : ∀ op S, Z1 op S → Z2 op S) (hX : ∀ S, X1 S → X2 S) (h : cm_F ms C1 E P rows Z1 X1 S) : cm_F ms C2 E P rows Z2 X2 S := by
  unfold cm_F at h ⊢
  split at h
  · exact h
  · split at h
    · rename_i h1
      rw [if_pos h1]
      exact hZ _ _ h
    · rename_i h1
      rw [if_neg h1]
      split at h
      · rename_i h2
        rw [if_pos h2]
        exact cm_inv_im2 hC hX h
      · rename_i h2
        rw [if_neg h2]
        split at h
        · rename_i o ho
          exact cm_ops_im o (List.mem_of_getElem? ho) _ _ _ _ _ _ h hX
        · exact h
theorem cm_lf_F {S : cm_S} (hC : cm_CM C C) (h : cm_F ms C E P rows Z (cm_lf ms C E P rows Z) S) : cm_lf ms C E P rows Z S := fun X hX => hX S (cm_F_im hC (fun _ _ h => h) (fun S h => h X hX) h)
theorem cm_lf_im {S : cm_S} (hC : cm_CM C1 C2) (hC2 : cm_CM C2 C2) (hZ : ∀ op S, Z1 op S → Z2 op S) (h : cm_lf ms C1 E P rows Z1 S) : cm_lf ms C2 E P rows Z2 S :=
  h (cm_lf ms C2 E P rows Z2) (fun S hS => cm_lf_F hC2 (cm_F_im hC hZ (fun _ h => h) hS))
/-- Z doesn't look at the locals -/
noncomputable def cm_ZL (Z : Nat → cm_S → Prop) : Prop := ∀ op pc L L' st M, Z op (pc, L, st, M) → Z op (pc, L', st, M)
theorem cm_lf_le (hC : cm_CM C C) (hZ : cm_ZL Z) {pc : Nat} {L' L : List (Nat × Value)} {st : List Value} {M : cm_M} (hL : cm_le L' L) (h : cm_lf ms C E P rows Z (pc, L', st, M)) : cm_lf ms C E P rows Z (pc, L, st, M) := by
  refine h (fun S => ∀ B, cm_le S.2.1 B → cm_lf ms C E P rows Z (S.1, B, S.2.2)) ?_ L hL
  intro S hS B hB
  obtain ⟨pc, A, st, M⟩ := S
  refine cm_lf_F hC ?_
  unfold cm_F at hS ⊢
  dsimp only at hS hB ⊢
  split at hS
  · exact hS
  · split at hS
    · rename_i h1
      rw [if_pos h1]
      exact hZ _ _ _ _ _ _ hS
    · rename_i h1
      rw [if_neg h1]
      split at hS
      · rename_i h2
        rw [if_pos h2]
        unfold cm_inv at hS ⊢
        dsimp only at hS ⊢
        split at hS
        · split at hS
          · exact ⟨hS.1, hS.2.1, hS.2.2.1, hC _ _ _ _ _ (fun v M' q => q B hB) hS.2.2.2⟩
          · exact hS
        · exact hS
      · rename_i h2
        rw [if_neg h2]
        split at hS
        · rename_i o ho
          exact cl_ops o (List.mem_of_getElem? ho) _ _ _ _ _ _ _ _ _ _ hB (fun pc2 A B st2 M2 hAB q => q B hAB) hS
        · exact hS
/-- runs with stops -/
theorem cm_pick_look : ∀ {L L' : List (Nat × Value)} {live : List Nat}, cm_pick L live = some L' → ∀ q ∈ L', cm_look L q.1 = some q.2
  | L, L', [], h => by
    cases h
    exact fun q hq => nomatch hq
  | L, L', i :: r, h => by
    unfold cm_pick at h
    split at h
    · rename_i v l h1 h2
      cases h
      intro q hq
      rcases List.mem_cons.mp hq with rfl | hq
      · exact h1
      · exact cm_pick_look h2 q hq
    · cases h
theorem cm_look_of {L' : List (Nat × Value)} {i : Nat} : ∀ {L : List (Nat × Value)}, (∀ q ∈ L', cm_look L q.1 = some q.2) → ∀ v, (i, v) ∈ L' → cm_look L' i = some v := by
  intro L h v hm
  induction L' with
  | nil => cases hm
  | cons q L' ih =>
    obtain ⟨a, b⟩ := q
    unfold cm_look
    by_cases ha : a = i
    · rw [if_pos ha]
      have e1 := h _ List.mem_cons_self
      have e2 := h _ hm
      dsimp only at e1 e2
      rw [ha, e2] at e1
      exact e1.symm
    · rw [if_neg ha]
      rcases List.mem_cons.mp hm with e | hm
      · cases e
        exact absurd rfl ha
      · exact ih (fun q hq => h q (List.mem_cons_of_mem _ hq)) hm
theorem cm_le_of {L' L : List (Nat × Value)} (h : ∀ q ∈ L', cm_look L q.1 = some q.2) : cm_le L' L := ⟨fun q hq => cm_look_of h q.2 hq, fun i v hl => h _ (cm_look_mem hl)⟩
theorem cm_wp_lf (hC : cm_CM C C) (hZ : cm_ZL Z) {stops : List (Nat × List Nat)} {J : cm_S → Prop} (hJ : ∀ S, J S → cm_lf ms C E P rows Z S) : ∀ (n : Nat) (S : cm_S), cm_wp ms C E P rows stops J Z n S → cm_lf ms C E P rows Z S
  | 0, S, h => h.elim
  | n + 1, S, h => by
    refine cm_lf_F hC (cm_F_im (X1 := cm_stop stops J (cm_wp ms C E P rows stops J Z n)) hC (fun _ _ h => h) (fun S' h' => ?_) h)
    unfold cm_stop at h'
    split at h'
    · exact cm_wp_lf hC hZ hJ n S' h'
    · split at h'
      · rename_i L' hL'
        obtain ⟨pc, L, st, M⟩ := S'
        exact cm_lf_le hC hZ (cm_le_of (cm_pick_look hL')) (hJ _ h')
      · exact h'.elim
theorem cm_wp_im {stops : List (Nat × List Nat)} {J1 J2 : cm_S → Prop} (hC : cm_CM C1 C2) (hJ : ∀ S, J1 S → J2 S) (hZ : ∀ op S, Z1 op S → Z2 op S) : ∀ (n : Nat) (S : cm_S), cm_wp ms C1 E P rows stops J1 Z1 n S → cm_wp ms C2 E P rows stops J2 Z2 n S
  | 0, S, h => h
  | n + 1, S, h => by
    refine cm_F_im (X1 := cm_stop stops J1 (cm_wp ms C1 E P rows stops J1 Z1 n)) (X2 := cm_stop stops J2 (cm_wp ms C2 E P rows stops J2 Z2 n)) hC hZ (fun S' h' => ?_) h
    unfold cm_stop at h' ⊢
    split at h'
    · exact cm_wp_im hC hJ hZ n S' h'
    · split at h'
      · exact hJ _ h'
      · exact h'
end PURE
theorem cm_ret_im {ret : Option FieldType} {P1 P2 : cm_K} (h : ∀ v M, P1 v M → P2 v M) {op : Nat} {S : cm_S} (hr : cm_ret ret P1 op S) : cm_ret ret P2 op S := by
  unfold cm_ret at hr ⊢
  split at hr
  · exact h _ _ hr
  · exact ⟨hr.1, h _ _ hr.2⟩
  · exact ⟨hr.1, hr.2.1, h _ _ hr.2.2⟩
  · exact ⟨hr.1, h _ _ hr.2⟩
  · exact h _ _ hr
  · exact h _ _ hr
  · exact h _ _ hr
  · exact hr
theorem cm_ret_L {ret : Option FieldType} {Post : cm_K} : cm_ZL (cm_ret ret Post) := fun op pc L L' st M h => h
/-- a call, at a depth -/
noncomputable def cm_Call (ms : List ev_MI) : Nat → cm_C
  | 0 => fun _ _ _ _ => False
  | d + 1 => fun k as M Post => ∃ mi, ms[k]? = some mi ∧ cm_cs as ≤ mi.2.2.1 ∧ cm_lf ms (cm_Call ms d) none (cm_P mi) mi.2.2.2.2.2.2 (cm_ret mi.2.2.2.1 Post) (0, cm_args 0 as, [], M)
theorem cm_Call_M (ms : List ev_MI) : ∀ (d e : Nat), d ≤ e → cm_CM (cm_Call ms d) (cm_Call ms e)
  | 0, e, _ => fun k as M P1 P2 hp h => h.elim
  | d + 1, 0, h => absurd h (by omega)
  | d + 1, e + 1, hde => fun k as M P1 P2 hp h => by
    obtain ⟨mi, h1, h2, h3⟩ := h
    exact ⟨mi, h1, h2, cm_lf_im (cm_Call_M ms d e (by omega)) (cm_Call_M ms e e (Nat.le_refl _)) (fun _ _ q => cm_ret_im hp q) h3⟩
theorem cm_Call_up {ms : List ev_MI} {d e k : Nat} {as : List Value} {M : cm_M} {Post Post' : cm_K} (h : cm_Call ms d k as M Post) (hd : d ≤ e) (hp : ∀ v M', Post v M' → Post' v M') : cm_Call ms e k as M Post' := cm_Call_M ms d e hd k as M Post Post' hp h
/-- from this state the method ends as wanted -/
noncomputable def cm_At (ms : List ev_MI) (d : Nat) (mi : ev_MI) (Post : cm_K) (S : cm_S) : Prop := cm_lf ms (cm_Call ms d) none (cm_P mi) mi.2.2.2.2.2.2 (cm_ret mi.2.2.2.1 Post) S
theorem cm_At_run {ms : List ev_MI} (_ : ∀ (k : Nat) (mi : ev_MI), ms[k]? = some mi → cm_MOK ms mi) {d k : Nat} {mi : ev_MI} (_ : ms[k]? = some mi) {Post : cm_K} {stops : List (Nat × List Nat)} {J : cm_S → Prop} (hJ : ∀ S, J S → cm_At ms d mi Post S) {n : Nat} {S : cm_S} (h : cm_wp ms (cm_Call ms d) none (cm_P mi) mi.2.2.2.2.2.2 stops J (cm_ret mi.2.2.2.1 Post) n S) : cm_At ms d mi Post S :=
  cm_wp_lf (cm_Call_M ms d d (Nat.le_refl _)) cm_ret_L hJ n S h
theorem cm_Call_of {ms : List ev_MI} (_ : ∀ (k : Nat) (mi : ev_MI), ms[k]? = some mi → cm_MOK ms mi) {d k : Nat} {mi : ev_MI} (hk : ms[k]? = some mi) {as : List Value} {M : cm_M} {Post : cm_K} (hcs : cm_cs as ≤ mi.2.2.1) (h : cm_At ms d mi Post (0, cm_args 0 as, [], M)) : cm_Call ms (d + 1) k as M Post := ⟨mi, hk, hcs, h⟩
theorem cm_At_sub {ms : List ev_MI} {d : Nat} {mi : ev_MI} {Post : cm_K} {pc : Nat} {L L' : List (Nat × Value)} {st : List Value} {M : cm_M} (h : cm_At ms d mi Post (pc, L', st, M)) (hL : ∀ q ∈ L', cm_look L q.1 = some q.2) : cm_At ms d mi Post (pc, L, st, M) := cm_lf_le (cm_Call_M ms d d (Nat.le_refl _)) cm_ret_L (cm_le_of hL) h
theorem cm_At_im {ms : List ev_MI} {d : Nat} {mi : ev_MI} {P1 P2 : cm_K} {S : cm_S} (h : cm_At ms d mi P1 S) (hp : ∀ v M, P1 v M → P2 v M) : cm_At ms d mi P2 S := cm_lf_im (cm_Call_M ms d d (Nat.le_refl _)) (cm_Call_M ms d d (Nat.le_refl _)) (fun _ _ q => cm_ret_im hp q) h
theorem cm_Call_M0 (ms : List ev_MI) (d : Nat) : cm_CM (cm_Call0 ms d) (cm_Call0 ms d) := fun k as M P1 P2 hp h => cm_Call_up0 h (Nat.le_refl _) hp
section REAL
variable {p : Program} {l : Launch} {e : Env} {R : Room} {s : State} {m : MethodId} {args : Array Value} {below : List Frame} {meth : Method} {c : Code} {cc : ByteArray} {Q : State → Prop} {D : va_G} {A : Nat → Prop} {adr : Nat → Nat} {ce sl d : Nat} {E : cm_E} {P : ev_P} {ms : List ev_MI}
theorem cm_F_ok (hMS : ∀ (k : Nat) (mi : ev_MI), ms[k]? = some mi → cm_MOK ms mi) (hRm : d + 1 ≤ R.frames ∧ 40 * (d + 1) ≤ R.locals) (X : cm_X p R s m args c cc P.2.2.2.2.1 P.2.2.2.1 D A adr ce sl E) {rows : List (Nat × ev_Row)} (hrows : ∀ q ∈ rows, cm_RowOK ms P cc q) {Z : Nat → cm_S → Prop} {Y : cm_S → Prop}
    (hY : ∀ S, Y S → cm_Go p l e R s m args below meth c Q P.2.2.2.2.1 D A adr ce sl S) (hZ : ∀ (r : ev_Row) (S : cm_S), ev_at rows S.1 = some r → 210 ≤ r.1 → Z r.1 S → cm_Go p l e R s m args below meth c Q P.2.2.2.2.1 D A adr ce sl S) {S : cm_S} (h : cm_F ms (cm_Call0 ms d) E P rows Z Y S) : cm_Go p l e R s m args below meth c Q P.2.2.2.2.1 D A adr ce sl S := by
  unfold cm_F at h
  split at h
  · exact h.elim
  · rename_i r hr
    have hq := hrows _ (ev_at_mem hr)
    split at h
    · rename_i h210
      exact hZ r S hr h210 h
    · rename_i h210
      split at h
      · rename_i h200
        exact cm_inv_ok hMS hRm X hq h200 (by dsimp only; omega) rfl (cm_inv_im (fun k as M P1 P2 hp hc => cm_Call_up0 hc (Nat.le_refl _) hp) h hY)
      · split at h
        · rename_i o ho
          obtain ⟨i, k, cs, hi, hd, hw⟩ := hq
          rw [cm_rowI_op (by dsimp only; omega)] at hi
          dsimp only at hi hd
          rw [ho] at hi
          exact cm_ops_ok o (List.mem_of_getElem? ho) p l e R s m args below meth c cc Q D A adr ce sl E P r.2 S i k cs X hi hd hw (cm_ops_im o (List.mem_of_getElem? ho) E P r.2 S _ _ h hY)
        · exact h.elim
end REAL
theorem cm_real {ms : List ev_MI} (hMS : ∀ (k : Nat) (mi : ev_MI), ms[k]? = some mi → cm_MOK ms mi) : ∀ (d : Nat), cm_CM (cm_Call ms d) (cm_Call0 ms d)
  | 0 => fun k as M P1 P2 hp h => h.elim
  | d + 1 => fun k as M P1 P2 hp h => by
    obtain ⟨mi, h1, h2, h3⟩ := h
    refine cm_Call_of0 hMS h1 h2 ?_
    have h4 := cm_lf_im (cm_real hMS d) (cm_Call_M0 ms d) (fun _ _ q => cm_ret_im hp q) h3
    refine h4 (cm_At0 d mi P2) (fun S hS => ?_)
    intro p l e s m args below meth c D adr ws0 X hrt hlocks
    exact cm_F_ok (P := cm_P mi) hMS ⟨Nat.le_refl _, Nat.le_refl _⟩ X (hMS k mi h1).2.2.2.2 (fun S hS => hS p l e s m args below meth c D adr ws0 X hrt hlocks) (fun r S hr _ hZ => cm_ret_ok (hMS k mi h1) hr hZ p l e s m args below meth c D adr ws0 X hrt hlocks) hS
theorem cm_wp_real {ms : List ev_MI} (hMS : ∀ (k : Nat) (mi : ev_MI), ms[k]? = some mi → cm_MOK ms mi) {d : Nat} {E : cm_E} {P : ev_P} {rows : List (Nat × ev_Row)} {Z : Nat → cm_S → Prop} {stops : List (Nat × List Nat)} {J : cm_S → Prop} {n : Nat} {S : cm_S} (h : cm_wp ms (cm_Call ms d) E P rows stops J Z n S) : cm_wp ms (cm_Call0 ms d) E P rows stops J Z n S := cm_wp_im (cm_real hMS d) (fun _ h => h) (fun _ _ h => h) n S h
/-- what holds of every answer of a call -/
noncomputable def cm_Lc (ms : List ev_MI) (k : Nat) (as : List Value) (M : cm_M) (R : cm_K) : Prop := ∀ (d : Nat) (Post : cm_K), cm_Call ms d k as M Post → cm_Call ms d k as M (fun v M' => Post v M' ∧ R v M')
theorem cm_Lc_im {ms : List ev_MI} {k : Nat} {as : List Value} {M : cm_M} {R R' : cm_K} (h : cm_Lc ms k as M R) (hr : ∀ v M', R v M' → R' v M') : cm_Lc ms k as M R' := fun d Post hc => cm_Call_up (h d Post hc) (Nat.le_refl _) (fun v M' q => ⟨q.1, hr v M' q.2⟩)
/-- a contract holds of every answer, where it can be had at all -/
theorem cm_Lc_use {ms : List ev_MI} {d k : Nat} {as : List Value} {M : cm_M} {Post R : cm_K} (hc : cm_Call ms d k as M Post) (h : cm_Lc ms k as M R) : cm_Call ms d k as M (fun v M' => Post v M' ∧ R v M') := h d Post hc
theorem cm_pick_le {A B : List (Nat × Value)} (h : cm_le A B) : ∀ {live : List Nat} {L1 : List (Nat × Value)}, cm_pick A live = some L1 → cm_pick B live = some L1
  | [], L1, e => e
  | i :: r, L1, e => by
    unfold cm_pick at e ⊢
    split at e
    · rename_i v l h1 h2
      cases e
      rw [h.2 _ _ h1, cm_pick_le h h2]
    · cases e
section LIB
variable {ms : List ev_MI} {E : cm_E} {P : ev_P} {rows : List (Nat × ev_Row)} {stops : List (Nat × List Nat)} {J : cm_S → Prop} {Z Z1 Z2 : Nat → cm_S → Prop}
end LIB
/-- a method's end, of which R is to be said -/
noncomputable def cm_rl (R : cm_K) (op : Nat) (S : cm_S) : Prop := match op, S.2.2.1 with
  | 210, [.int x] => R (some (.int x)) S.2.2.2
  | 211, [.long x] => R (some (.long x)) S.2.2.2
  | 212, [.ref x] => R (some (.ref x)) S.2.2.2
  | 213, [] => R none S.2.2.2
  | _, _ => True
theorem cm_rl_L {R : cm_K} : cm_ZL (cm_rl R) := fun op pc L L' st M h => h
theorem cm_rl_ret {ret : Option FieldType} {Post R : cm_K} {op : Nat} {S : cm_S} (h : cm_ret ret Post op S) (h2 : cm_rl R op S) : cm_ret ret (fun v M => Post v M ∧ R v M) op S := by
  obtain ⟨pc, L, st, M⟩ := S
  unfold cm_ret at h ⊢
  dsimp only at h ⊢
  split at h
  · exact ⟨h, h2⟩
  · exact ⟨h.1, h.2, h2⟩
  · exact ⟨h.1, h.2.1, h.2.2, h2⟩
  · exact ⟨h.1, h.2, h2⟩
  · exact ⟨h, h2⟩
  · exact ⟨h, h2⟩
  · exact ⟨h, h2⟩
  · exact h
/-- what is checked of a call's row once -/
noncomputable def ab_RC (ms : List ev_MI) (q : Nat × ev_Row) : Prop := 200 ≤ q.2.1 → q.2.1 < 210 → ∃ mi, ms[q.2.2.1.toNat]? = some mi ∧ ev_nar1 mi.1 q.2.2.2.2.1.toNat = true ∧ (q.2.1 = 200 → ∀ ci, q.2.2.2.2.2 = [ci] → (ci = 99 ∧ mi.1.cls = "java/lang/String") ∨ (ci ≠ 99 ∧ (vwCl[ci.toNat]?).map (fun r => r.1) = some mi.1.cls))
