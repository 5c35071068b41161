/-! THE ENGINE: an abstract run of the bytecode over a picture of the world; a value is (tag, number): 0 an int, 1 a cell of the world, 2 null, 3 an int variable, 4 a long, 5 a cell that was there before, 6 a long variable -/
abbrev ev_A : Type := Nat × Int
abbrev ev_C : Type := Nat × List ev_A
abbrev ev_K : Type := List (Int × Int)
abbrev ev_G : Type := List Nat × (Nat → Nat) × List Value
abbrev ev_S : Type := Nat × List (Nat × ev_A) × List ev_A × List ev_C × ev_K × Nat × Nat
def ev_v (g : ev_G) (a : ev_A) : Option Value :=
  match a.1 with
  | 0 => some (.int (Int32.ofInt a.2))
  | 1 => (g.1[a.2.toNat]?).map Value.ref
  | 2 => some .null
  | 3 => match g.2.2[a.2.toNat]? with
    | some (.int x) => some (.int x)
    | _ => none
  | 4 => some (.long (Int64.ofInt a.2))
  | 5 => some (.ref (g.2.1 a.2.toNat))
  | 6 => match g.2.2[a.2.toNat]? with
    | some (.long x) => some (.long x)
    | _ => none
  | 7 => match g.2.2[a.2.toNat]? with
    | some .null => some .null
    | some (.ref x) => some (.ref x)
    | _ => none
  | _ => none
def ev_le (g g' : ev_G) : Prop := (∃ l, g'.1 = g.1 ++ l) ∧ g'.2.1 = g.2.1 ∧ ∃ l, g'.2.2 = g.2.2 ++ l
theorem ev_le_rf (g : ev_G) : ev_le g g := ⟨⟨[], by simp⟩, rfl, ⟨[], by simp⟩⟩
theorem ev_le_tr {a b c : ev_G} (h1 : ev_le a b) (h2 : ev_le b c) : ev_le a c := by
  obtain ⟨⟨l1, e1⟩, e2, ⟨l3, e3⟩⟩ := h1
  obtain ⟨⟨k1, f1⟩, f2, ⟨k3, f3⟩⟩ := h2
  exact ⟨⟨l1 ++ k1, by rw [f1, e1, List.append_assoc]⟩, f2.trans e2, ⟨l3 ++ k3, by rw [f3, e3, List.append_assoc]⟩⟩
theorem ev_ap {α : Type} {l k : List α} {i : Nat} {x : α} (h : l[i]? = some x) : (l ++ k)[i]? = some x := by
  rw [List.getElem?_append_left (List.getElem?_eq_some_iff.mp h).1]; exact h
theorem ev_v_le {g g' : ev_G} {a : ev_A} {v : Value} (h : ev_le g g') (hv : ev_v g a = some v) : ev_v g' a = some v := by
  obtain ⟨⟨l1, e1⟩, e2, ⟨l3, e3⟩⟩ := h
  obtain ⟨t, n⟩ := a
  unfold ev_v at hv ⊢
  split at hv
  · exact hv
  · cases hq : g.1[n.toNat]? with
    | none => simp [hq] at hv
    | some q =>
      simp only [hq, Option.map_some] at hv
      simp only [e1, ev_ap hq, Option.map_some]
      exact hv
  · exact hv
  · cases hq : g.2.2[n.toNat]? with
    | none => simp [hq] at hv
    | some q =>
      simp only [hq] at hv
      simp only [e3, ev_ap hq]
      exact hv
  · exact hv
  · simp only [e2]; exact hv
  · cases hq : g.2.2[n.toNat]? with
    | none => simp [hq] at hv
    | some q =>
      simp only [hq] at hv
      simp only [e3, ev_ap hq]
      exact hv
  · cases hq : g.2.2[n.toNat]? with
    | none => simp [hq] at hv
    | some q =>
      simp only [hq] at hv
      simp only [e3, ev_ap hq]
      exact hv
  · cases hv
/-- an int value -/
def ev_isI (a : ev_A) : Bool := a.1 == 0 || a.1 == 3
def ev_isL (a : ev_A) : Bool := a.1 == 4 || a.1 == 6
theorem ev_vI {g : ev_G} {a : ev_A} {v : Value} (h : ev_isI a = true) (hv : ev_v g a = some v) : ∃ x : Int32, v = .int x := by
  obtain ⟨t, n⟩ := a
  simp only [ev_isI, Bool.or_eq_true, beq_iff_eq] at h
  rcases h with h | h
  · subst h
    exact ⟨_, (Option.some.inj hv).symm⟩
  · subst h
    simp only [ev_v] at hv
    split at hv
    · exact ⟨_, (Option.some.inj hv).symm⟩
    · cases hv
theorem ev_vL {g : ev_G} {a : ev_A} {v : Value} (h : ev_isL a = true) (hv : ev_v g a = some v) : ∃ x : Int64, v = .long x := by
  obtain ⟨t, n⟩ := a
  simp only [ev_isL, Bool.or_eq_true, beq_iff_eq] at h
  rcases h with h | h
  · subst h
    exact ⟨_, (Option.some.inj hv).symm⟩
  · subst h
    simp only [ev_v] at hv
    split at hv
    · exact ⟨_, (Option.some.inj hv).symm⟩
    · cases hv
theorem ev_cat {g : ev_G} {a : ev_A} {v : Value} (hv : ev_v g a = some v) : (ev_isL a = true ∧ v.category = 2) ∨ (ev_isL a = false ∧ v.category = 1) := by
  obtain ⟨t, n⟩ := a
  unfold ev_v at hv
  split at hv
  · rename_i h
    simp only at h
    subst h
    cases hv
    exact Or.inr ⟨rfl, rfl⟩
  · rename_i h
    simp only at h
    subst h
    cases hq : g.1[n.toNat]? with
    | none => simp [hq] at hv
    | some q =>
      simp only [hq, Option.map_some] at hv
      cases hv
      exact Or.inr ⟨rfl, rfl⟩
  · rename_i h
    simp only at h
    subst h
    cases hv
    exact Or.inr ⟨rfl, rfl⟩
  · rename_i h
    simp only at h
    subst h
    split at hv
    · cases hv
      exact Or.inr ⟨rfl, rfl⟩
    · cases hv
  · rename_i h
    simp only at h
    subst h
    cases hv
    exact Or.inl ⟨rfl, rfl⟩
  · rename_i h
    simp only at h
    subst h
    cases hv
    exact Or.inr ⟨rfl, rfl⟩
  · rename_i h
    simp only at h
    subst h
    split at hv
    · cases hv
      exact Or.inl ⟨rfl, rfl⟩
    · cases hv
  · rename_i h
    simp only at h
    subst h
    split at hv
    · cases hv
      exact Or.inr ⟨rfl, rfl⟩
    · cases hv
      exact Or.inr ⟨rfl, rfl⟩
    · cases hv
  · cases hv
/-- the words that a callee may take along -/
def lw_good : List Cond := lw_tbl.filter goodWord
theorem lw_good_in {w : Cond} (h : w ∈ lw_good) : w ∈ lw_tbl := (List.mem_filter.mp h).1
theorem lw_good_at {w : Cond} (i : Nat) (h : lw_tbl[i]? = some w) (hg : goodWord w = true) : w ∈ lw_good := List.mem_filter.mpr ⟨List.mem_of_getElem? h, hg⟩
theorem lw_good_good {ws : List Cond} (hy : ∀ w ∈ ws, w ∈ lw_good) : GoodIn lw_good ws := fun w h => ⟨hy w h, good_of_word (List.mem_filter.mp (hy w h)).2⟩
/-- the types of arrays that the worlds hold -/
def ev_ty : Nat → FieldType
  | 0 => .int
  | 1 => .byte
  | 2 => .long
  | _ => .object "BarberMinutes$Minutes"
def ev_ar (g : ev_G) (t : Nat) (cs : List ev_A) (a : (Nat → Int32) ⊕ (Nat → Int64) ⊕ (Nat → UInt32) ⊕ (Nat → UInt64) ⊕ (Nat → Option Nat)) : Prop :=
  match a with
  | .inl f => t < 2 ∧ ∀ (j : Nat) (x : ev_A), cs[j]? = some x → ev_v g x = some (.int (f j))
  | .inr (.inl f) => t = 2 ∧ ∀ (j : Nat) (x : ev_A), cs[j]? = some x → ev_v g x = some (.long (f j))
  | .inr (.inr (.inr (.inr f))) => t = 3 ∧ ∀ (j : Nat) (x : ev_A), cs[j]? = some x → ev_v g x = some (va_rf (f j))
  | _ => False
def ev_c (s : State) (g : ev_G) (c : ev_C) (x : va_E) : Prop := match x with
  | .inr o => c.1 = o.1 ∧ c.1 < 100 ∧ o.2.length = c.2.length ∧ ∀ (j : Nat) (a : ev_A), c.2[j]? = some a → ∃ v, ev_v g a = some v ∧ o.2[j]? = some v
  | .inl a => ∃ t, t < 4 ∧ c.1 = 100 + t ∧ a.2.1 = c.2.length ∧ ArrOfT s a.1 (ev_ty t) ∧ va_RA s a.1 (ev_ty t) ∧ ev_ar g t c.2 a.2.2
theorem ev_ar_le {g g' : ev_G} {t : Nat} {cs : List ev_A} {a} (h : ev_le g g') (h1 : ev_ar g t cs a) : ev_ar g' t cs a := by
  unfold ev_ar at h1 ⊢
  split at h1
  · exact ⟨h1.1, fun j x hx => ev_v_le h (h1.2 j x hx)⟩
  · exact ⟨h1.1, fun j x hx => ev_v_le h (h1.2 j x hx)⟩
  · exact ⟨h1.1, fun j x hx => ev_v_le h (h1.2 j x hx)⟩
  · exact h1
theorem ev_c_le {s : State} {g g' : ev_G} {c : ev_C} {x : va_E} (h : ev_le g g') (h1 : ev_c s g c x) : ev_c s g' c x := by
  cases x with
  | inr o =>
    obtain ⟨a1, a2, a3, a4⟩ := h1
    exact ⟨a1, a2, a3, fun j a hj => by
      obtain ⟨v, b1, b2⟩ := a4 j a hj
      exact ⟨v, ev_v_le h b1, b2⟩⟩
  | inl a =>
    obtain ⟨t, a1, a2, a3, a4, a5, a6⟩ := h1
    exact ⟨t, a1, a2, a3, a4, a5, ev_ar_le h a6⟩
theorem ev_c_moved {u U : State} {g : ev_G} {c : ev_C} {x : va_E} (hvm : u.vm.Alike U.vm) (h1 : ev_c u g c x) : ev_c U g c x := by
  cases x with
  | inr o => exact h1
  | inl a =>
    obtain ⟨t, a1, a2, a3, a4, a5, a6⟩ := h1
    exact ⟨t, a1, a2, a3, arrOfT_moved hvm a4, a5.moved hvm, a6⟩
def ev_w (s : State) (g : ev_G) (w : List ev_C) (ws : va_W) : Prop := g.1 = ws.map (fun q => q.1) ∧ w.length = ws.length ∧ ∀ (k : Nat) (c : ev_C) (q : Nat × va_E), w[k]? = some c → ws[k]? = some q → ev_c s g c q.2
theorem ev_w_moved {u U : State} {g : ev_G} {w : List ev_C} {ws : va_W} (hvm : u.vm.Alike U.vm) (h : ev_w u g w ws) : ev_w U g w ws := ⟨h.1, h.2.1, fun k c q h1 h2 => ev_c_moved hvm (h.2.2 k c q h1 h2)⟩
/-- the bounds of the variables -/
def ev_b (K : ev_K) (E : List Value) : Prop := K.length = E.length ∧ ∀ (k : Nat) (r : Int × Int) (x : Int32), K[k]? = some r → E[k]? = some (.int x) → r.1 ≤ x.toInt ∧ x.toInt ≤ r.2
def ev_l (g : ev_G) (L : List (Nat × ev_A)) (nL : Nat) (ls : Array Slot) : Prop := ls.size = nL ∧ lv_wf ls ∧ ∀ q ∈ L, ∃ v, ev_v g q.2 = some v ∧ ls[q.1]? = some (.val v)
theorem ev_l_le {g g' : ev_G} {L : List (Nat × ev_A)} {nL : Nat} {ls : Array Slot} (h : ev_le g g') (h1 : ev_l g L nL ls) : ev_l g' L nL ls := ⟨h1.1, h1.2.1, fun q hq => by
  obtain ⟨v, a, b⟩ := h1.2.2 q hq
  exact ⟨v, ev_v_le h a, b⟩⟩
def ev_s (g : ev_G) : List ev_A → List Value → Prop
  | [], [] => True
  | a :: st, v :: sc => ev_v g a = some v ∧ ev_s g st sc
  | _, _ => False
theorem ev_s_le {g g' : ev_G} (h : ev_le g g') : ∀ {st : List ev_A} {sc : List Value}, ev_s g st sc → ev_s g' st sc
  | [], [], _ => trivial
  | [], _ :: _, h1 => h1.elim
  | _ :: _, [], h1 => h1.elim
  | a :: st, v :: sc, h1 => ⟨ev_v_le h h1.1, ev_s_le h h1.2⟩
theorem ev_s_cons {g : ev_G} {a : ev_A} {st : List ev_A} {sc : List Value} (h : ev_s g (a :: st) sc) : ∃ v sc', sc = v :: sc' ∧ ev_v g a = some v ∧ ev_s g st sc' := by
  cases sc with
  | nil => exact h.elim
  | cons v sc' => exact ⟨v, sc', rfl, h.1, h.2⟩
theorem ev_s_nil {g : ev_G} {sc : List Value} (h : ev_s g [] sc) : sc = [] := by
  cases sc with
  | nil => rfl
  | cons v sc' => exact h.elim
/-- what holds between a picture and the machine -/
def ev_R (s : State) (A : Nat → Prop) (D : va_G) (nL : Nat) (g : ev_G) (S : ev_S) (ws : va_W) (H : Heap) (locs : List Loc) (ls : Array Slot) (sc : List Value) : Prop :=
  va_P D vwCl ws H ∧ va_D A ws ∧ va_S A s.heap H locs ∧ ev_w s g S.2.2.2.1 ws ∧ ev_b S.2.2.2.2.1 g.2.2 ∧ ev_l g S.2.1 nL ls ∧ ev_s g S.2.2.1 sc
/-- the goal from a picture: the machine comes to an end with Q, wherever it stands as the picture says -/
def ev_Go (p : Program) (l : Launch) (e : Env) (R : Room) (s : State) (m : MethodId) (args : Array Value) (below : List Frame) (meth : Method) (c : Code) (Q : State → Prop) (nL : Nat) (D : va_G) (A : Nat → Prop) (g0 : ev_G) (S : ev_S) : Prop :=
  ∀ (g : ev_G) (ws : va_W) (H : Heap) (locs : List Loc) (ls : Array Slot) (sc : List Value), ev_le g0 g → ev_R s A D nL g S ws H locs ls sc → W p l e R s m args below meth c H locs S.2.2.2.2.2.1 S.2.2.2.2.2.2 Q (F0 m S.1 ls sc)
/-- the text constants: class, pool number, text, bytes; the k-th stands at X (1 + 2 k), its bytes at X (2 + 2 k) -/
def ev_strs : List (String × Nat × String × List Int32) := [("BarberMinutes$Reader", 217, "town", [116, 111, 119, 110]),
  ("BarberMinutes$Reader", 218, "man", [109, 97, 110]),
  ("BarberMinutes$Reader", 220, "motion", [109, 111, 116, 105, 111, 110]),
  ("BarberMinutes$Reader", 222, "against", [97, 103, 97, 105, 110, 115, 116]),
  ("BarberMinutes$Reader", 223, "amends", [97, 109, 101, 110, 100, 115]),
  ("BarberMinutes$Reader", 224, "quarrel", [113, 117, 97, 114, 114, 101, 108]),
  ("BarberMinutes$Reader", 226, "chair", [99, 104, 97, 105, 114]),
  ("BarberMinutes$Reader", 228, "heap", [104, 101, 97, 112]),
  ("BarberMinutes$Reader", 131, "grows", [103, 114, 111, 119, 115]),
  ("BarberMinutes$Reader", 142, "bald", [98, 97, 108, 100]),
  ("BarberMinutes$Reader", 147, "shave", [115, 104, 97, 118, 101]),
  ("BarberMinutes$Reader", 207, "fair", [102, 97, 105, 114]),
  ("BarberMinutes$Reader", 209, "dark", [100, 97, 114, 107]),
  ("BarberMinutes$Reader", 211, "grey", [103, 114, 101, 121]),
  ("BarberMinutes$Reader", 159, "long", [108, 111, 110, 103]),
  ("BarberMinutes$Reader", 161, "votes", [118, 111, 116, 101, 115]),
  ("BarberMinutes$Reader", 167, "cuts", [99, 117, 116, 115]),
  ("BarberMinutes$Reader", 169, "needs", [110, 101, 101, 100, 115]),
  ("BarberMinutes$Reader", 171, "worth", [119, 111, 114, 116, 104]),
  ("BarberMinutes$Reader", 182, "at", [97, 116]),
  ("BarberMinutesModel", 116, "town", [116, 111, 119, 110]),
  ("BarberMinutesModel", 216, "grows", [103, 114, 111, 119, 115]),
  ("BarberMinutesModel", 222, "bald", [98, 97, 108, 100]),
  ("BarberMinutesModel", 224, "shave", [115, 104, 97, 118, 101]),
  ("BarberMinutesModel", 118, "man", [109, 97, 110]),
  ("BarberMinutesModel", 120, "motion", [109, 111, 116, 105, 111, 110]),
  ("BarberMinutesModel", 122, "against", [97, 103, 97, 105, 110, 115, 116]),
  ("BarberMinutesModel", 124, "amends", [97, 109, 101, 110, 100, 115]),
  ("BarberMinutesModel", 126, "quarrel", [113, 117, 97, 114, 114, 101, 108]),
  ("BarberMinutesModel", 128, "chair", [99, 104, 97, 105, 114]),
  ("BarberMinutesModel", 130, "heap", [104, 101, 97, 112]),
  ("BarberMinutesModel", 153, "fair", [102, 97, 105, 114]),
  ("BarberMinutesModel", 155, "dark", [100, 97, 114, 107]),
  ("BarberMinutesModel", 157, "grey", [103, 114, 101, 121]),
  ("BarberMinutesModel", 233, "long", [108, 111, 110, 103]),
  ("BarberMinutesModel", 235, "votes", [118, 111, 116, 101, 115]),
  ("BarberMinutesModel", 237, "cuts", [99, 117, 116, 115]),
  ("BarberMinutesModel", 239, "needs", [110, 101, 101, 100, 115]),
  ("BarberMinutesModel", 241, "worth", [119, 111, 114, 116, 104]),
  ("BarberMinutesModel", 253, "at", [97, 116])]
/-- words that are not good: links to private members of a nest mate, arrays over a class -/
def lw_nest : List Cond := lw_tbl.filter (fun w => match w with | .methodLinkNest _ _ _ _ => true | .fieldLinkNest _ _ _ _ _ _ => true | _ => false)
/-- what was there before: text constants and a static -/
def ev_E (X : Nat → Nat) (A : Nat → Prop) (U : State) (H : Heap) : Prop :=
  (∀ (k : Nat) (r : String × Nat × String × List Int32), ev_strs[k]? = some r → va_O "java/lang/String" (X (1 + 2 * k)) A U H ∧ va_OF "java/lang/String" "coder" "B" (.int 0) (X (1 + 2 * k)) A U H ∧ va_OF "java/lang/String" "value" "[B" (.ref (X (2 + 2 * k))) (X (1 + 2 * k)) A U H ∧ va_T .byte (X (2 + 2 * k)) r.2.2.2.length (fun j => .int (r.2.2.2.getD j 0)) A U H)
  ∧ va_Z "java/lang/String" "COMPACT_STRINGS" "Z" (.int 1) A U H ∧ va_Zq "jdk/internal/util/Preconditions" "SIOOBE_FORMATTER" "Ljava/util/function/BiFunction;" A U H
def ev_N (X : Nat → Nat) (A : Nat → Prop) (U : State) (H : Heap) : Prop := ((∀ w ∈ lw_nest, va_Nw w U) ∧ va_AO "BarberMinutes$Minutes" U) ∧ (∀ (k : Nat) (r : String × Nat × String × List Int32), ev_strs[k]? = some r → vk_R r.1 r.2.1 r.2.2.1 (X (1 + 2 * k)) U) ∧ ev_E X A U H
theorem ev_E_moved {X : Nat → Nat} {A : Nat → Prop} {u U : State} {H : Heap} (hvm : u.vm.Alike U.vm) (h : ev_E X A u H) : ev_E X A U H := ⟨fun k r hr => ⟨va_O.moved hvm (h.1 k r hr).1, va_OF.moved hvm (h.1 k r hr).2.1, va_OF.moved hvm (h.1 k r hr).2.2.1, va_T.moved hvm (h.1 k r hr).2.2.2⟩, va_Z.moved hvm h.2.1, va_Zq.moved hvm h.2.2⟩
theorem ev_E_kept {X : Nat → Nat} {A : Nat → Prop} {U : State} {H H1 : Heap} (h : ev_E X A U H) (hq : ∀ a : Nat, a < H.size → ¬ A a → H1[a]? = H[a]?) : ev_E X A U H1 := ⟨fun k r hr => ⟨va_O.kept (h.1 k r hr).1 hq, va_OF.kept (h.1 k r hr).2.1 hq, va_OF.kept (h.1 k r hr).2.2.1 hq, va_T.kept (h.1 k r hr).2.2.2 hq⟩, va_Z.kept h.2.1 hq, va_Zq.kept h.2.2 hq⟩
theorem ev_E_narrow {X : Nat → Nat} {A B : Nat → Prop} {U : State} {H : Heap} (h : ev_E X A U H) (hAB : ∀ q, B q → A q) : ev_E X B U H := ⟨fun k r hr => ⟨va_O.narrow (h.1 k r hr).1 hAB, va_OF.narrow (h.1 k r hr).2.1 hAB, va_OF.narrow (h.1 k r hr).2.2.1 hAB, va_T.narrow (h.1 k r hr).2.2.2 hAB⟩, va_Z.narrow h.2.1 hAB, va_Zq.narrow h.2.2 hAB⟩
theorem ev_N_on {w : Cond} (h : w ∈ lw_nest) : w.onTables = true := by
  have h := (List.mem_filter.mp h).2
  split at h
  · rfl
  · rfl
  · cases h
theorem ev_N_same {X : Nat → Nat} {A : Nat → Prop} {u U : State} {H : Heap} (h : u.vm = U.vm) (hN : ev_N X A u H) : ev_N X A U H := ⟨⟨fun w hw => (hN.1.1 w hw).same (ev_N_on hw) h, hN.1.2.moved (by rw [h]; exact Vm.Alike.refl _)⟩, fun k r hr => (hN.2.1 k r hr).same h.symm, ev_E_moved (by rw [h]; exact Vm.Alike.refl _) hN.2.2⟩
theorem ev_N_call {X : Nat → Nat} {A B : Nat → Prop} {s U : State} {H : Heap} {locs : List Loc} (hW : s.WarmedH U.vm) (hU : U.heap = H) (hS : va_S A s.heap H locs) (hAB : ∀ q, B q → A q) (hN : ev_N X A s s.heap) : ev_N X B U U.heap := by
  refine ⟨⟨fun w hw => ?_, hN.1.2.moved hW.alike⟩, fun k r hr => (hN.2.1 k r hr).warm hW, ?_⟩
  · have h := (List.mem_filter.mp hw).2
    have hz := hN.1.1 w hw
    split at h
    · exact va_Nw.warmM hW hz
    · exact va_Nw.warmF hW hz
    · cases h
  · rw [hU]
    exact ev_E_moved hW.alike (ev_E_narrow (ev_E_kept hN.2.2 hS.2.1) hAB)
/-- the fixed facts of a frame -/
def ev_X (p : Program) (R : Room) (s : State) (m : MethodId) (args : Array Value) (meth : Method) (c : Code) (cc : ByteArray) (nL : Nat) (own : String) (ini : Bool) (D : va_G) (A : Nat → Prop) (capC capS : Nat) (g0 : ev_G) (Ls : Nat) : Prop :=
  p.tables.exec = Jvm.exec ∧ c.code = cc ∧ c.maxLocals = nL ∧ s.vm.findClass own = some m.cls ∧ (∀ w ∈ lw_good, w.before args s = true) ∧ va_K D vwCl [] s ∧ (∀ q : Nat, s.heap.size ≤ q → A q) ∧ ev_N g0.2.1 A s s.heap ∧ (ini = true → meth.name = "<init>") ∧ R.cells = capC ∧ R.slots = capS ∧ 1 ≤ R.frames ∧ 40 ≤ R.locals ∧ ∀ L, Ls = L + 1 → ∃ xs : Nat → Int32, va_X (g0.2.1 0) L xs s s.heap ∧ g0.2.1 0 < s.heap.size ∧ ¬ A (g0.2.1 0) ∧ ∀ j : Nat, j < L → g0.2.2[j]? = some (.int (xs j))
/-! places of the table, by tails of 32 -/
def lwd_0 : List Cond := lw_tbl
def lwd_1 : List Cond := List.drop 32 lwd_0
def lwd_2 : List Cond := List.drop 32 lwd_1
def lwd_3 : List Cond := List.drop 32 lwd_2
def lwd_4 : List Cond := List.drop 32 lwd_3
def lwd_5 : List Cond := List.drop 32 lwd_4
def lwd_6 : List Cond := List.drop 32 lwd_5
def lwd_7 : List Cond := List.drop 32 lwd_6
def lwd_8 : List Cond := List.drop 32 lwd_7
def lwd_9 : List Cond := List.drop 32 lwd_8
def lwd_10 : List Cond := List.drop 32 lwd_9
def lwd_11 : List Cond := List.drop 32 lwd_10
def lwd_12 : List Cond := List.drop 32 lwd_11
def lwd_13 : List Cond := List.drop 32 lwd_12
def lwd_14 : List Cond := List.drop 32 lwd_13
def lwd_15 : List Cond := List.drop 32 lwd_14
def lwd_16 : List Cond := List.drop 32 lwd_15
def lwd_17 : List Cond := List.drop 32 lwd_16
def lwd_18 : List Cond := List.drop 32 lwd_17
def lwd_19 : List Cond := List.drop 32 lwd_18
def lwd_20 : List Cond := List.drop 32 lwd_19
def lwd_21 : List Cond := List.drop 32 lwd_20
def lwd_22 : List Cond := List.drop 32 lwd_21
def lwd_23 : List Cond := List.drop 32 lwd_22
def lwd_24 : List Cond := List.drop 32 lwd_23
def lwd_25 : List Cond := List.drop 32 lwd_24
def lwd_26 : List Cond := List.drop 32 lwd_25
def lwd_27 : List Cond := List.drop 32 lwd_26
def lwd_28 : List Cond := List.drop 32 lwd_27
def lwd_29 : List Cond := List.drop 32 lwd_28
def lwd_30 : List Cond := List.drop 32 lwd_29
def lwd_31 : List Cond := List.drop 32 lwd_30
def lwd_32 : List Cond := List.drop 32 lwd_31
def lwd_33 : List Cond := List.drop 32 lwd_32
def lwd_34 : List Cond := List.drop 32 lwd_33
def lwd_35 : List Cond := List.drop 32 lwd_34
def lwd_36 : List Cond := List.drop 32 lwd_35
def lwd_37 : List Cond := List.drop 32 lwd_36
def lwd_38 : List Cond := List.drop 32 lwd_37
def lwd_39 : List Cond := List.drop 32 lwd_38
def lwd_40 : List Cond := List.drop 32 lwd_39
def lwd_41 : List Cond := List.drop 32 lwd_40
def lwd_42 : List Cond := List.drop 32 lwd_41
def lwd_43 : List Cond := List.drop 32 lwd_42
def lwd_44 : List Cond := List.drop 32 lwd_43
def lwd_45 : List Cond := List.drop 32 lwd_44
def lwd_46 : List Cond := List.drop 32 lwd_45
def lwd_47 : List Cond := List.drop 32 lwd_46
def lwd_48 : List Cond := List.drop 32 lwd_47
def lwd_49 : List Cond := List.drop 32 lwd_48
def lwd_50 : List Cond := List.drop 32 lwd_49
def lwd_51 : List Cond := List.drop 32 lwd_50
def lwd_52 : List Cond := List.drop 32 lwd_51
def lwd_53 : List Cond := List.drop 32 lwd_52
def lwd_54 : List Cond := List.drop 32 lwd_53
def lwd_55 : List Cond := List.drop 32 lwd_54
def lwd_56 : List Cond := List.drop 32 lwd_55
def lwd_57 : List Cond := List.drop 32 lwd_56
def lwd_58 : List Cond := List.drop 32 lwd_57
def lwd_59 : List Cond := List.drop 32 lwd_58
def lwd_60 : List Cond := List.drop 32 lwd_59
def lwd_61 : List Cond := List.drop 32 lwd_60
theorem lwd_0_eq : lwd_0 = List.drop 0 lw_tbl := rfl
theorem lwd_1_eq : lwd_1 = List.drop 32 lw_tbl := (congrArg (List.drop 32) lwd_0_eq).trans List.drop_drop
theorem lwd_2_eq : lwd_2 = List.drop 64 lw_tbl := (congrArg (List.drop 32) lwd_1_eq).trans List.drop_drop
theorem lwd_3_eq : lwd_3 = List.drop 96 lw_tbl := (congrArg (List.drop 32) lwd_2_eq).trans List.drop_drop
theorem lwd_4_eq : lwd_4 = List.drop 128 lw_tbl := (congrArg (List.drop 32) lwd_3_eq).trans List.drop_drop
theorem lwd_5_eq : lwd_5 = List.drop 160 lw_tbl := (congrArg (List.drop 32) lwd_4_eq).trans List.drop_drop
theorem lwd_6_eq : lwd_6 = List.drop 192 lw_tbl := (congrArg (List.drop 32) lwd_5_eq).trans List.drop_drop
theorem lwd_7_eq : lwd_7 = List.drop 224 lw_tbl := (congrArg (List.drop 32) lwd_6_eq).trans List.drop_drop
theorem lwd_8_eq : lwd_8 = List.drop 256 lw_tbl := (congrArg (List.drop 32) lwd_7_eq).trans List.drop_drop
theorem lwd_9_eq : lwd_9 = List.drop 288 lw_tbl := (congrArg (List.drop 32) lwd_8_eq).trans List.drop_drop
theorem lwd_10_eq : lwd_10 = List.drop 320 lw_tbl := (congrArg (List.drop 32) lwd_9_eq).trans List.drop_drop
theorem lwd_11_eq : lwd_11 = List.drop 352 lw_tbl := (congrArg (List.drop 32) lwd_10_eq).trans List.drop_drop
theorem lwd_12_eq : lwd_12 = List.drop 384 lw_tbl := (congrArg (List.drop 32) lwd_11_eq).trans List.drop_drop
theorem lwd_13_eq : lwd_13 = List.drop 416 lw_tbl := (congrArg (List.drop 32) lwd_12_eq).trans List.drop_drop
theorem lwd_14_eq : lwd_14 = List.drop 448 lw_tbl := (congrArg (List.drop 32) lwd_13_eq).trans List.drop_drop
theorem lwd_15_eq : lwd_15 = List.drop 480 lw_tbl := (congrArg (List.drop 32) lwd_14_eq).trans List.drop_drop
theorem lwd_16_eq : lwd_16 = List.drop 512 lw_tbl := (congrArg (List.drop 32) lwd_15_eq).trans List.drop_drop
theorem lwd_17_eq : lwd_17 = List.drop 544 lw_tbl := (congrArg (List.drop 32) lwd_16_eq).trans List.drop_drop
theorem lwd_18_eq : lwd_18 = List.drop 576 lw_tbl := (congrArg (List.drop 32) lwd_17_eq).trans List.drop_drop
theorem lwd_19_eq : lwd_19 = List.drop 608 lw_tbl := (congrArg (List.drop 32) lwd_18_eq).trans List.drop_drop
theorem lwd_20_eq : lwd_20 = List.drop 640 lw_tbl := (congrArg (List.drop 32) lwd_19_eq).trans List.drop_drop
theorem lwd_21_eq : lwd_21 = List.drop 672 lw_tbl := (congrArg (List.drop 32) lwd_20_eq).trans List.drop_drop
theorem lwd_22_eq : lwd_22 = List.drop 704 lw_tbl := (congrArg (List.drop 32) lwd_21_eq).trans List.drop_drop
theorem lwd_23_eq : lwd_23 = List.drop 736 lw_tbl := (congrArg (List.drop 32) lwd_22_eq).trans List.drop_drop
theorem lwd_24_eq : lwd_24 = List.drop 768 lw_tbl := (congrArg (List.drop 32) lwd_23_eq).trans List.drop_drop
theorem lwd_25_eq : lwd_25 = List.drop 800 lw_tbl := (congrArg (List.drop 32) lwd_24_eq).trans List.drop_drop
theorem lwd_26_eq : lwd_26 = List.drop 832 lw_tbl := (congrArg (List.drop 32) lwd_25_eq).trans List.drop_drop
theorem lwd_27_eq : lwd_27 = List.drop 864 lw_tbl := (congrArg (List.drop 32) lwd_26_eq).trans List.drop_drop
theorem lwd_28_eq : lwd_28 = List.drop 896 lw_tbl := (congrArg (List.drop 32) lwd_27_eq).trans List.drop_drop
theorem lwd_29_eq : lwd_29 = List.drop 928 lw_tbl := (congrArg (List.drop 32) lwd_28_eq).trans List.drop_drop
theorem lwd_30_eq : lwd_30 = List.drop 960 lw_tbl := (congrArg (List.drop 32) lwd_29_eq).trans List.drop_drop
theorem lwd_31_eq : lwd_31 = List.drop 992 lw_tbl := (congrArg (List.drop 32) lwd_30_eq).trans List.drop_drop
theorem lwd_32_eq : lwd_32 = List.drop 1024 lw_tbl := (congrArg (List.drop 32) lwd_31_eq).trans List.drop_drop
theorem lwd_33_eq : lwd_33 = List.drop 1056 lw_tbl := (congrArg (List.drop 32) lwd_32_eq).trans List.drop_drop
theorem lwd_34_eq : lwd_34 = List.drop 1088 lw_tbl := (congrArg (List.drop 32) lwd_33_eq).trans List.drop_drop
theorem lwd_35_eq : lwd_35 = List.drop 1120 lw_tbl := (congrArg (List.drop 32) lwd_34_eq).trans List.drop_drop
theorem lwd_36_eq : lwd_36 = List.drop 1152 lw_tbl := (congrArg (List.drop 32) lwd_35_eq).trans List.drop_drop
theorem lwd_37_eq : lwd_37 = List.drop 1184 lw_tbl := (congrArg (List.drop 32) lwd_36_eq).trans List.drop_drop
theorem lwd_38_eq : lwd_38 = List.drop 1216 lw_tbl := (congrArg (List.drop 32) lwd_37_eq).trans List.drop_drop
theorem lwd_39_eq : lwd_39 = List.drop 1248 lw_tbl := (congrArg (List.drop 32) lwd_38_eq).trans List.drop_drop
theorem lwd_40_eq : lwd_40 = List.drop 1280 lw_tbl := (congrArg (List.drop 32) lwd_39_eq).trans List.drop_drop
theorem lwd_41_eq : lwd_41 = List.drop 1312 lw_tbl := (congrArg (List.drop 32) lwd_40_eq).trans List.drop_drop
theorem lwd_42_eq : lwd_42 = List.drop 1344 lw_tbl := (congrArg (List.drop 32) lwd_41_eq).trans List.drop_drop
theorem lwd_43_eq : lwd_43 = List.drop 1376 lw_tbl := (congrArg (List.drop 32) lwd_42_eq).trans List.drop_drop
theorem lwd_44_eq : lwd_44 = List.drop 1408 lw_tbl := (congrArg (List.drop 32) lwd_43_eq).trans List.drop_drop
theorem lwd_45_eq : lwd_45 = List.drop 1440 lw_tbl := (congrArg (List.drop 32) lwd_44_eq).trans List.drop_drop
theorem lwd_46_eq : lwd_46 = List.drop 1472 lw_tbl := (congrArg (List.drop 32) lwd_45_eq).trans List.drop_drop
theorem lwd_47_eq : lwd_47 = List.drop 1504 lw_tbl := (congrArg (List.drop 32) lwd_46_eq).trans List.drop_drop
theorem lwd_48_eq : lwd_48 = List.drop 1536 lw_tbl := (congrArg (List.drop 32) lwd_47_eq).trans List.drop_drop
theorem lwd_49_eq : lwd_49 = List.drop 1568 lw_tbl := (congrArg (List.drop 32) lwd_48_eq).trans List.drop_drop
theorem lwd_50_eq : lwd_50 = List.drop 1600 lw_tbl := (congrArg (List.drop 32) lwd_49_eq).trans List.drop_drop
theorem lwd_51_eq : lwd_51 = List.drop 1632 lw_tbl := (congrArg (List.drop 32) lwd_50_eq).trans List.drop_drop
theorem lwd_52_eq : lwd_52 = List.drop 1664 lw_tbl := (congrArg (List.drop 32) lwd_51_eq).trans List.drop_drop
theorem lwd_53_eq : lwd_53 = List.drop 1696 lw_tbl := (congrArg (List.drop 32) lwd_52_eq).trans List.drop_drop
theorem lwd_54_eq : lwd_54 = List.drop 1728 lw_tbl := (congrArg (List.drop 32) lwd_53_eq).trans List.drop_drop
theorem lwd_55_eq : lwd_55 = List.drop 1760 lw_tbl := (congrArg (List.drop 32) lwd_54_eq).trans List.drop_drop
theorem lwd_56_eq : lwd_56 = List.drop 1792 lw_tbl := (congrArg (List.drop 32) lwd_55_eq).trans List.drop_drop
theorem lwd_57_eq : lwd_57 = List.drop 1824 lw_tbl := (congrArg (List.drop 32) lwd_56_eq).trans List.drop_drop
theorem lwd_58_eq : lwd_58 = List.drop 1856 lw_tbl := (congrArg (List.drop 32) lwd_57_eq).trans List.drop_drop
theorem lwd_59_eq : lwd_59 = List.drop 1888 lw_tbl := (congrArg (List.drop 32) lwd_58_eq).trans List.drop_drop
theorem lwd_60_eq : lwd_60 = List.drop 1920 lw_tbl := (congrArg (List.drop 32) lwd_59_eq).trans List.drop_drop
theorem lwd_61_eq : lwd_61 = List.drop 1952 lw_tbl := (congrArg (List.drop 32) lwd_60_eq).trans List.drop_drop
def lwd_tab : List (Nat × List Cond) := [(0, lwd_0), (1, lwd_1), (2, lwd_2), (3, lwd_3), (4, lwd_4), (5, lwd_5), (6, lwd_6), (7, lwd_7), (8, lwd_8), (9, lwd_9), (10, lwd_10), (11, lwd_11), (12, lwd_12), (13, lwd_13), (14, lwd_14), (15, lwd_15), (16, lwd_16), (17, lwd_17), (18, lwd_18), (19, lwd_19), (20, lwd_20), (21, lwd_21), (22, lwd_22), (23, lwd_23), (24, lwd_24), (25, lwd_25), (26, lwd_26), (27, lwd_27), (28, lwd_28), (29, lwd_29), (30, lwd_30), (31, lwd_31), (32, lwd_32), (33, lwd_33), (34, lwd_34), (35, lwd_35), (36, lwd_36), (37, lwd_37), (38, lwd_38), (39, lwd_39), (40, lwd_40), (41, lwd_41), (42, lwd_42), (43, lwd_43), (44, lwd_44), (45, lwd_45), (46, lwd_46), (47, lwd_47), (48, lwd_48), (49, lwd_49), (50, lwd_50), (51, lwd_51), (52, lwd_52), (53, lwd_53), (54, lwd_54), (55, lwd_55), (56, lwd_56), (57, lwd_57), (58, lwd_58), (59, lwd_59), (60, lwd_60), (61, lwd_61)]
theorem lwd_tab_ok : ∀ q ∈ lwd_tab, q.2 = List.drop (32 * q.1) lw_tbl := List.forall_mem_cons.mpr ⟨lwd_0_eq, List.forall_mem_cons.mpr ⟨lwd_1_eq, List.forall_mem_cons.mpr ⟨lwd_2_eq, List.forall_mem_cons.mpr ⟨lwd_3_eq, List.forall_mem_cons.mpr ⟨lwd_4_eq, List.forall_mem_cons.mpr ⟨lwd_5_eq, List.forall_mem_cons.mpr ⟨lwd_6_eq, List.forall_mem_cons.mpr ⟨lwd_7_eq, List.forall_mem_cons.mpr ⟨lwd_8_eq, List.forall_mem_cons.mpr ⟨lwd_9_eq, List.forall_mem_cons.mpr ⟨lwd_10_eq, List.forall_mem_cons.mpr ⟨lwd_11_eq, List.forall_mem_cons.mpr ⟨lwd_12_eq, List.forall_mem_cons.mpr ⟨lwd_13_eq, List.forall_mem_cons.mpr ⟨lwd_14_eq, List.forall_mem_cons.mpr ⟨lwd_15_eq, List.forall_mem_cons.mpr ⟨lwd_16_eq, List.forall_mem_cons.mpr ⟨lwd_17_eq, List.forall_mem_cons.mpr ⟨lwd_18_eq, List.forall_mem_cons.mpr ⟨lwd_19_eq, List.forall_mem_cons.mpr ⟨lwd_20_eq, List.forall_mem_cons.mpr ⟨lwd_21_eq, List.forall_mem_cons.mpr ⟨lwd_22_eq, List.forall_mem_cons.mpr ⟨lwd_23_eq, List.forall_mem_cons.mpr ⟨lwd_24_eq, List.forall_mem_cons.mpr ⟨lwd_25_eq, List.forall_mem_cons.mpr ⟨lwd_26_eq, List.forall_mem_cons.mpr ⟨lwd_27_eq, List.forall_mem_cons.mpr ⟨lwd_28_eq, List.forall_mem_cons.mpr ⟨lwd_29_eq, List.forall_mem_cons.mpr ⟨lwd_30_eq, List.forall_mem_cons.mpr ⟨lwd_31_eq, List.forall_mem_cons.mpr ⟨lwd_32_eq, List.forall_mem_cons.mpr ⟨lwd_33_eq, List.forall_mem_cons.mpr ⟨lwd_34_eq, List.forall_mem_cons.mpr ⟨lwd_35_eq, List.forall_mem_cons.mpr ⟨lwd_36_eq, List.forall_mem_cons.mpr ⟨lwd_37_eq, List.forall_mem_cons.mpr ⟨lwd_38_eq, List.forall_mem_cons.mpr ⟨lwd_39_eq, List.forall_mem_cons.mpr ⟨lwd_40_eq, List.forall_mem_cons.mpr ⟨lwd_41_eq, List.forall_mem_cons.mpr ⟨lwd_42_eq, List.forall_mem_cons.mpr ⟨lwd_43_eq, List.forall_mem_cons.mpr ⟨lwd_44_eq, List.forall_mem_cons.mpr ⟨lwd_45_eq, List.forall_mem_cons.mpr ⟨lwd_46_eq, List.forall_mem_cons.mpr ⟨lwd_47_eq, List.forall_mem_cons.mpr ⟨lwd_48_eq, List.forall_mem_cons.mpr ⟨lwd_49_eq, List.forall_mem_cons.mpr ⟨lwd_50_eq, List.forall_mem_cons.mpr ⟨lwd_51_eq, List.forall_mem_cons.mpr ⟨lwd_52_eq, List.forall_mem_cons.mpr ⟨lwd_53_eq, List.forall_mem_cons.mpr ⟨lwd_54_eq, List.forall_mem_cons.mpr ⟨lwd_55_eq, List.forall_mem_cons.mpr ⟨lwd_56_eq, List.forall_mem_cons.mpr ⟨lwd_57_eq, List.forall_mem_cons.mpr ⟨lwd_58_eq, List.forall_mem_cons.mpr ⟨lwd_59_eq, List.forall_mem_cons.mpr ⟨lwd_60_eq, List.forall_mem_cons.mpr ⟨lwd_61_eq, fun _ h => nomatch h⟩⟩⟩⟩⟩⟩⟩⟩⟩⟩⟩⟩⟩⟩⟩⟩⟩⟩⟩⟩⟩⟩⟩⟩⟩⟩⟩⟩⟩⟩⟩⟩⟩⟩⟩⟩⟩⟩⟩⟩⟩⟩⟩⟩⟩⟩⟩⟩⟩⟩⟩⟩⟩⟩⟩⟩⟩⟩⟩⟩⟩⟩
def lwd_get : List (Nat × List Cond) → Nat → Option (List Cond)
  | [], _ => none
  | q :: l, i => cond (Nat.beq q.1 i) (some q.2) (lwd_get l i)
theorem lwd_get_mem : ∀ {l : List (Nat × List Cond)} {i : Nat} {a : List Cond}, lwd_get l i = some a → (i, a) ∈ l
  | [], i, a, h => by cases h
  | q :: l, i, a, h => by
    have h : cond (Nat.beq q.1 i) (some q.2) (lwd_get l i) = some a := h
    cases hq : Nat.beq q.1 i with
    | true =>
      rw [hq] at h
      have h : some q.2 = some a := h
      cases h
      rw [← Nat.eq_of_beq_eq_true hq]
      exact List.mem_cons_self
    | false =>
      rw [hq] at h
      exact List.mem_cons_of_mem _ (lwd_get_mem (show lwd_get l i = some a from h))
def lw_at (j : Nat) : Option Cond := match lwd_get lwd_tab (j / 32) with
  | some l => l[j % 32]?
  | none => none
theorem lw_at_ok {j : Nat} {w : Cond} (h : lw_at j = some w) : lw_tbl[j]? = some w := by
  unfold lw_at at h
  split at h
  · rename_i l hl
    have e := lwd_tab_ok _ (lwd_get_mem hl)
    dsimp only at e
    rw [e, List.getElem?_drop, Nat.div_add_mod] at h
    exact h
  · cases h
