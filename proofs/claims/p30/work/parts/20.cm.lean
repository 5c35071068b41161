/-! CM: the machine over a typed memory: ints, longs and references by cell and place. A value is the machine's own, but that a reference names a cell by its number in the layout; from 1000 on what was there before: 1000 the script, 1001 + 2 k a text, 1002 + 2 k its bytes, 1100 the table of tens, 1101 a formatter -/
abbrev cm_M : Type := (Nat → Nat → Int32) × (Nat → Nat → Int64) × (Nat → Nat → Option Nat)
/-- where it stands: place, locals, stack, memory -/
abbrev cm_S : Type := Nat × List (Nat × Value) × List Value × cm_M
def cm_v (adr : Nat → Nat) (v : Value) : Value := match v with
  | .ref k => .ref (adr k)
  | v => v
theorem cm_v_cat (adr : Nat → Nat) (v : Value) : (cm_v adr v).category = v.category := by cases v <;> rfl
theorem cm_v_cats (adr : Nat → Nat) (l : List Value) : ((l.map (cm_v adr)).map fun v => v.category).sum = (l.map fun v => v.category).sum := by
  induction l with
  | nil => rfl
  | cons a l ih => simp only [List.map_cons, List.sum_cons, cm_v_cat, ih]
/-- the cells: class (or 100 and the array's type), how many places -/
def cm_lay : List (Nat × Nat) := [(8, 15), (101, 900), (4, 14), (102, 16), (100, 16), (100, 16), (7, 19), (100, 6), (100, 6), (100, 6), (100, 6), (100, 6), (100, 5), (100, 5), (100, 5), (100, 5), (100, 5), (100, 5), (100, 3), (7, 19), (100, 6), (100, 6), (100, 6), (100, 6), (100, 6), (100, 5), (100, 5), (100, 5), (100, 5), (100, 5), (100, 5), (100, 3), (2, 4), (100, 6), (100, 3), (2, 4), (100, 6), (100, 3), (3, 5), (103, 16), (103, 3), (2, 4), (100, 6), (100, 3), (2, 4), (100, 6), (100, 3), (2, 4), (100, 6), (100, 3), (2, 4), (100, 6), (100, 3), (2, 4), (100, 6), (100, 3), (2, 4), (100, 6), (100, 3), (2, 4), (100, 6), (100, 3), (2, 4), (100, 6), (100, 3), (2, 4), (100, 6), (100, 3), (2, 4), (100, 6), (100, 3), (2, 4), (100, 6), (100, 3), (2, 4), (100, 6), (100, 3), (2, 4), (100, 6), (100, 3), (2, 4), (100, 6), (100, 3), (2, 4), (100, 6), (100, 3), (2, 4), (100, 6), (100, 3), (2, 4), (100, 6), (100, 3), (2, 4), (100, 6), (100, 3), (2, 4), (100, 6), (100, 3), (0, 5), (103, 5), (2, 4), (100, 6), (100, 3), (2, 4), (100, 6), (100, 3), (2, 4), (100, 6), (100, 3), (2, 4), (100, 6), (100, 3), (2, 4), (100, 6), (100, 3), (6, 3), (100, 5), (100, 5), (5, 3), (100, 32), (2, 4), (100, 6), (100, 3), (1, 3), (9, 35), (100, 900), (100, 8), (100, 213), (100, 213), (100, 11), (100, 176), (100, 33), (100, 11), (100, 5), (100, 5), (100, 5), (102, 1)]
def cm_kind (c : Nat) : Nat × Nat := match cm_lay[c]? with
  | some q => q
  | none => (999, 0)
theorem cm_kind_at {c : Nat} {q : Nat × Nat} (h : cm_kind c = q) (h9 : q.1 < 999) : cm_lay[c]? = some q := by
  unfold cm_kind at h
  cases hc : cm_lay[c]? with
  | none => rw [hc] at h; subst h; exact absurd h9 (by decide)
  | some r => rw [hc] at h; exact congrArg some h
/-- what a field holds: 0 an int, 2 a long, 3 a reference -/
def cm_ft (ci j : Nat) : Nat := match ev_tyl[ci]? with
  | some ty => (match ty j with
    | .long => 2
    | .object _ => 3
    | .array _ => 3
    | _ => 0)
  | none => 0
/-- a field of truth values -/
def cm_isB (ci j : Nat) : Bool := match ev_tyl[ci]? with
  | some ty => (match ty j with
    | .boolean => true
    | _ => false)
  | none => false
def cm_rq : Option Nat → Value
  | some q => .ref q
  | none => .null
def cm_rd (M : cm_M) (tag c j : Nat) : Value := match tag with
  | 2 => .long (M.2.1 c j)
  | 3 => cm_rq (M.2.2 c j)
  | _ => .int (M.1 c j)
def cm_wi (M : cm_M) (c i : Nat) (x : Int32) : cm_M := (fun c' i' => if c' = c ∧ i' = i then x else M.1 c' i', M.2)
def cm_wl (M : cm_M) (c i : Nat) (x : Int64) : cm_M := (M.1, fun c' i' => if c' = c ∧ i' = i then x else M.2.1 c' i', M.2.2)
def cm_wr (M : cm_M) (c i : Nat) (x : Option Nat) : cm_M := (M.1, M.2.1, fun c' i' => if c' = c ∧ i' = i then x else M.2.2 c' i')
def cm_cp (M : cm_M) (c sp d dp n : Nat) : cm_M := (fun c' i' => if c' = d ∧ dp ≤ i' ∧ i' < dp + n then M.1 c (sp + (i' - dp)) else M.1 c' i', M.2)
def cm_ar (adr : Nat → Nat) (M : cm_M) (k t n : Nat) (a : (Nat → Int32) ⊕ (Nat → Int64) ⊕ (Nat → UInt32) ⊕ (Nat → UInt64) ⊕ (Nat → Option Nat)) : Prop := match a with
  | .inl f => t < 2 ∧ ∀ j, j < n → f j = M.1 k j
  | .inr (.inl f) => t = 2 ∧ ∀ j, j < n → f j = M.2.1 k j
  | .inr (.inr (.inr (.inr f))) => t = 3 ∧ ∀ j, j < n → f j = (M.2.2 k j).map adr
  | _ => False
def cm_c (s : State) (adr : Nat → Nat) (M : cm_M) (k : Nat) (c : Nat × Nat) (x : va_E) : Prop := match x with
  | .inr o => o.1 = c.1 ∧ c.1 < 100 ∧ o.2.length = c.2 ∧ ∀ j, j < c.2 → o.2[j]? = some (cm_v adr (cm_rd M (cm_ft c.1 j) k j))
  | .inl a => ∃ t, t < 4 ∧ c.1 = 100 + t ∧ a.2.1 = c.2 ∧ ArrOfT s a.1 (ev_ty t) ∧ va_RA s a.1 (ev_ty t) ∧ cm_ar adr M k t c.2 a.2.2
/-- the world is as the memory says -/
def cm_w (s : State) (adr : Nat → Nat) (M : cm_M) (ws : va_W) : Prop := ws.length = cm_lay.length ∧ ∀ (k : Nat) (c : Nat × Nat) (q : Nat × va_E), cm_lay[k]? = some c → ws[k]? = some q → q.1 = adr k ∧ cm_c s adr M k c q.2
theorem cm_c_moved {u U : State} {adr : Nat → Nat} {M : cm_M} {k : Nat} {c : Nat × Nat} {x : va_E} (hvm : u.vm.Alike U.vm) (h : cm_c u adr M k c x) : cm_c U adr M k c x := by
  cases x with
  | inr o => exact h
  | inl a =>
    obtain ⟨t, a1, a2, a3, a4, a5, a6⟩ := h
    exact ⟨t, a1, a2, a3, arrOfT_moved hvm a4, a5.moved hvm, a6⟩
theorem cm_w_moved {u U : State} {adr : Nat → Nat} {M : cm_M} {ws : va_W} (hvm : u.vm.Alike U.vm) (h : cm_w u adr M ws) : cm_w U adr M ws := ⟨h.1, fun k c q h1 h2 => ⟨(h.2 k c q h1 h2).1, cm_c_moved hvm (h.2 k c q h1 h2).2⟩⟩
/-- a cell of the layout stands in the world -/
theorem cm_cell {s : State} {adr : Nat → Nat} {M : cm_M} {ws : va_W} {k : Nat} {c : Nat × Nat} (h : cm_w s adr M ws) (hc : cm_lay[k]? = some c) : ∃ x, ws[k]? = some (adr k, x) ∧ cm_c s adr M k c x := by
  have hl : k < ws.length := by rw [h.1]; exact (List.getElem?_eq_some_iff.mp hc).1
  have h1 := List.getElem?_eq_getElem hl
  obtain ⟨e, h2⟩ := h.2 k c _ hc h1
  exact ⟨ws[k].2, by rw [h1, ← e], h2⟩
/-- one cell is written -/
theorem cm_w_set {s : State} {adr : Nat → Nat} {M M' : cm_M} {ws : va_W} {q : Nat} {c0 : Nat × Nat} {x : va_E} (h : cm_w s adr M ws) (hq : cm_lay[q]? = some c0) (hx : cm_c s adr M' q c0 x) (hM : ∀ k c y, k ≠ q → cm_c s adr M k c y → cm_c s adr M' k c y) : cm_w s adr M' (ws.set q (adr q, x)) := by
  refine ⟨by rw [List.length_set]; exact h.1, fun k c z h1 h2 => ?_⟩
  have hl : q < ws.length := by rw [h.1]; exact (List.getElem?_eq_some_iff.mp hq).1
  by_cases hk : k = q
  · subst hk
    rw [List.getElem?_set_self hl] at h2
    cases h2
    rw [hq] at h1
    cases h1
    exact ⟨rfl, hx⟩
  · rw [List.getElem?_set_ne (Ne.symm hk)] at h2
    obtain ⟨a, b⟩ := h.2 k c z h1 h2
    exact ⟨a, hM k c _ hk b⟩
theorem cm_c_ne {s : State} {adr : Nat → Nat} {M M' : cm_M} {k : Nat} {c : Nat × Nat} {x : va_E} (h1 : ∀ j, M'.1 k j = M.1 k j) (h2 : ∀ j, M'.2.1 k j = M.2.1 k j) (h3 : ∀ j, M'.2.2 k j = M.2.2 k j) (h : cm_c s adr M k c x) : cm_c s adr M' k c x := by
  have hr : ∀ t j, cm_rd M' t k j = cm_rd M t k j := by
    intro t j
    unfold cm_rd
    split
    · rw [h2]
    · rw [h3]
    · rw [h1]
  cases x with
  | inr o => exact ⟨h.1, h.2.1, h.2.2.1, fun j hj => by rw [hr]; exact h.2.2.2 j hj⟩
  | inl a =>
    obtain ⟨t, a1, a2, a3, a4, a5, a6⟩ := h
    refine ⟨t, a1, a2, a3, a4, a5, ?_⟩
    obtain ⟨a1, a2, arr⟩ := a
    rcases arr with f | f | f | f | f
    · exact ⟨a6.1, fun j hj => by rw [h1]; exact a6.2 j hj⟩
    · exact ⟨a6.1, fun j hj => by rw [h2]; exact a6.2 j hj⟩
    · exact a6
    · exact a6
    · exact ⟨a6.1, fun j hj => by rw [h3]; exact a6.2 j hj⟩
/-- the words that callees take along: what was there before -/
def cm_tens (j : Nat) : Int32 := ([1, 10, 100, 1000, 10000] : List Int32).getD j 0
def cm_T (adr : Nat → Nat) (A : Nat → Prop) (U : State) (H : Heap) : Prop := va_Z "BarberMinutes" "TENS" "[I" (.ref (adr 1100)) A U H ∧ va_T .int (adr 1100) 5 (fun j => .int (cm_tens j)) A U H ∧ (va_Z "jdk/internal/util/Preconditions" "SIOOBE_FORMATTER" "Ljava/util/function/BiFunction;" .null A U H ∨ va_Z "jdk/internal/util/Preconditions" "SIOOBE_FORMATTER" "Ljava/util/function/BiFunction;" (.ref (adr 1101)) A U H)
def cm_N (adr : Nat → Nat) (A : Nat → Prop) (U : State) (H : Heap) : Prop := ev_N (fun j => adr (1000 + j)) A U H ∧ cm_T adr A U H
theorem cm_T_moved {adr : Nat → Nat} {A : Nat → Prop} {u U : State} {H : Heap} (hvm : u.vm.Alike U.vm) (h : cm_T adr A u H) : cm_T adr A U H := ⟨va_Z.moved hvm h.1, va_T.moved hvm h.2.1, h.2.2.imp (va_Z.moved hvm) (va_Z.moved hvm)⟩
theorem cm_T_kept {adr : Nat → Nat} {A : Nat → Prop} {U : State} {H H1 : Heap} (h : cm_T adr A U H) (hq : ∀ a : Nat, a < H.size → ¬ A a → H1[a]? = H[a]?) : cm_T adr A U H1 := ⟨va_Z.kept h.1 hq, va_T.kept h.2.1 hq, h.2.2.imp (fun z => va_Z.kept z hq) (fun z => va_Z.kept z hq)⟩
theorem cm_T_narrow {adr : Nat → Nat} {A B : Nat → Prop} {U : State} {H : Heap} (h : cm_T adr A U H) (hAB : ∀ q, B q → A q) : cm_T adr B U H := ⟨va_Z.narrow h.1 hAB, va_T.narrow h.2.1 hAB, h.2.2.imp (fun z => va_Z.narrow z hAB) (fun z => va_Z.narrow z hAB)⟩
theorem cm_N_same {adr : Nat → Nat} {A : Nat → Prop} {u U : State} {H : Heap} (h : u.vm = U.vm) (hN : cm_N adr A u H) : cm_N adr A U H := ⟨ev_N_same h hN.1, cm_T_moved (by rw [h]; exact Vm.Alike.refl _) hN.2⟩
theorem cm_N_call {adr : Nat → Nat} {A B : Nat → Prop} {s U : State} {H : Heap} {locs : List Loc} (hW : s.WarmedH U.vm) (hU : U.heap = H) (hS : va_S A s.heap H locs) (hAB : ∀ q, B q → A q) (hN : cm_N adr A s s.heap) : cm_N adr B U U.heap :=
  ⟨ev_N_call hW hU hS hAB hN.1, by rw [hU]; exact cm_T_moved hW.alike (cm_T_narrow (cm_T_kept hN.2 hS.2.1) hAB)⟩
/-- the law's script -/
abbrev cm_E : Type := Option (Nat × (Nat → Int32))
def cm_scr (adr : Nat → Nat) (A : Nat → Prop) (s : State) : cm_E → Prop
  | none => True
  | some q => va_X (adr 1000) q.1 q.2 s s.heap ∧ adr 1000 < s.heap.size ∧ ¬ A (adr 1000)
/-- the fixed facts of a frame -/
def cm_X (p : Program) (R : Room) (s : State) (m : MethodId) (args : Array Value) (c : Code) (cc : ByteArray) (nL : Nat) (own : String) (D : va_G) (A : Nat → Prop) (adr : Nat → Nat) (ce sl : Nat) (E : cm_E) : Prop :=
  p.tables.exec = Jvm.exec ∧ c.code = cc ∧ c.maxLocals = nL ∧ s.vm.findClass own = some m.cls ∧ (∀ w ∈ lw_good, w.before args s = true) ∧ va_K D vwCl [] s ∧ (∀ q : Nat, s.heap.size ≤ q → A q) ∧ cm_N adr A s s.heap ∧ ce ≤ R.cells ∧ sl ≤ R.slots ∧ 1 ≤ R.frames ∧ 40 ≤ R.locals ∧ cm_scr adr A s E
def cm_l (adr : Nat → Nat) (L : List (Nat × Value)) (nL : Nat) (ls : Array Slot) : Prop := lv_has ls nL (L.map (fun q => (q.1, cm_v adr q.2)))
/-- what holds between a state and the machine -/
def cm_R (s : State) (A : Nat → Prop) (D : va_G) (nL : Nat) (adr : Nat → Nat) (L : List (Nat × Value)) (M : cm_M) (ws : va_W) (H : Heap) (locs : List Loc) (ls : Array Slot) : Prop :=
  va_P D vwCl ws H ∧ va_D A ws ∧ va_S A s.heap H locs ∧ cm_w s adr M ws ∧ cm_l adr L nL ls
/-- the goal from a state -/
def cm_Go (p : Program) (l : Launch) (e : Env) (R : Room) (s : State) (m : MethodId) (args : Array Value) (below : List Frame) (meth : Method) (c : Code) (Q : State → Prop) (nL : Nat) (D : va_G) (A : Nat → Prop) (adr : Nat → Nat) (ce sl : Nat) (S : cm_S) : Prop :=
  ∀ (ws : va_W) (H : Heap) (locs : List Loc) (ls : Array Slot), cm_R s A D nL adr S.2.1 S.2.2.2 ws H locs ls → W p l e R s m args below meth c H locs ce sl Q (F0 m S.1 ls (S.2.2.1.map (cm_v adr)))
/-- an operation: what stands in the code; what must hold for it to go on -/
abbrev cm_O : Type := (ev_P → ev_T → Option (Instr × Nat × List Cond)) × (cm_E → ev_P → ev_T → cm_S → (cm_S → Prop) → Prop)
def cm_Snd (o : cm_O) : Prop := ∀ (p : Program) (l : Launch) (e : Env) (R : Room) (s : State) (m : MethodId) (args : Array Value) (below : List Frame) (meth : Method) (c : Code) (cc : ByteArray) (Q : State → Prop) (D : va_G) (A : Nat → Prop) (adr : Nat → Nat) (ce sl : Nat) (E : cm_E) (P : ev_P) (t : ev_T) (S : cm_S) (i : Instr) (n : Nat) (cs : List Cond),
  cm_X p R s m args c cc P.2.2.2.2.1 P.2.2.2.1 D A adr ce sl E → o.1 P t = some (i, n, cs) → decode cc S.1 = .ok (i, n) → (∀ w ∈ cs, w ∈ lw_good) → o.2 E P t S (cm_Go p l e R s m args below meth c Q P.2.2.2.2.1 D A adr ce sl) → cm_Go p l e R s m args below meth c Q P.2.2.2.2.1 D A adr ce sl S
/-- fewer locals told -/
theorem cm_Go_sub {p : Program} {l : Launch} {e : Env} {R : Room} {s : State} {m : MethodId} {args : Array Value} {below : List Frame} {meth : Method} {c : Code} {Q : State → Prop} {nL : Nat} {D : va_G} {A : Nat → Prop} {adr : Nat → Nat} {ce sl pc : Nat} {L L' : List (Nat × Value)} {st : List Value} {M : cm_M} (h : cm_Go p l e R s m args below meth c Q nL D A adr ce sl (pc, L', st, M)) (hL : ∀ q ∈ L', q ∈ L) : cm_Go p l e R s m args below meth c Q nL D A adr ce sl (pc, L, st, M) := by
  intro ws H locs ls ⟨hP, hD, hS, hW, hl⟩
  refine h ws H locs ls ⟨hP, hD, hS, hW, hl.1, hl.2.1, fun q hq => ?_⟩
  obtain ⟨r, hr, rfl⟩ := List.mem_map.mp hq
  exact hl.2.2 _ (List.mem_map.mpr ⟨r, hL r hr, rfl⟩)
def cm_look : List (Nat × Value) → Nat → Option Value
  | [], _ => none
  | q :: L, i => if q.1 = i then some q.2 else cm_look L i
theorem cm_look_mem : ∀ {L : List (Nat × Value)} {i : Nat} {a : Value}, cm_look L i = some a → (i, a) ∈ L
  | [], i, a, h => by cases h
  | q :: L, i, a, h => by
    unfold cm_look at h
    split at h
    · rename_i hq
      cases h
      rw [← hq]
      exact List.mem_cons_self
    · exact List.mem_cons_of_mem _ (cm_look_mem h)
theorem cm_l_at {adr : Nat → Nat} {L : List (Nat × Value)} {nL : Nat} {ls : Array Slot} (h : cm_l adr L nL ls) {i : Nat} {v : Value} (hv : cm_look L i = some v) : ls[i]? = some (.val (cm_v adr v)) := h.2.2 _ (List.mem_map.mpr ⟨_, cm_look_mem hv, rfl⟩)
/-- a store: the new value in front; a long's second half is taken away -/
def cm_st1 (L : List (Nat × Value)) (i : Nat) (v : Value) : List (Nat × Value) := (i, v) :: L.filter (fun q => !(q.1 == i) && !(q.1 + 1 == i && q.2.category == 2))
def cm_st2 (L : List (Nat × Value)) (i : Nat) (v : Value) : List (Nat × Value) := (i, v) :: L.filter (fun q => !(q.1 == i) && (!(q.1 == i + 1) && !(q.1 + 1 == i && q.2.category == 2)))
theorem cm_fl (adr : Nat → Nat) (f : Nat → Nat → Bool) (L : List (Nat × Value)) : (L.map (fun q => (q.1, cm_v adr q.2))).filter (fun q => f q.1 q.2.category) = (L.filter (fun q => f q.1 q.2.category)).map (fun q => (q.1, cm_v adr q.2)) := by
  rw [List.filter_map]
  congr 1
  apply List.filter_congr
  intro q _
  simp only [Function.comp_apply, cm_v_cat]
theorem cm_st1_eq (adr : Nat → Nat) (L : List (Nat × Value)) (i : Nat) (v : Value) : (i, cm_v adr v) :: (L.map (fun q => (q.1, cm_v adr q.2))).filter (fun q => !(q.1 == i) && !(q.1 + 1 == i && q.2.category == 2)) = (cm_st1 L i v).map (fun q => (q.1, cm_v adr q.2)) := by
  unfold cm_st1
  rw [List.map_cons]
  congr 1
  exact cm_fl adr (fun a b => !(a == i) && !(a + 1 == i && b == 2)) L
theorem cm_st2_eq (adr : Nat → Nat) (L : List (Nat × Value)) (i : Nat) (v : Value) : (i, cm_v adr v) :: (L.map (fun q => (q.1, cm_v adr q.2))).filter (fun q => !(q.1 == i) && (!(q.1 == i + 1) && !(q.1 + 1 == i && q.2.category == 2))) = (cm_st2 L i v).map (fun q => (q.1, cm_v adr q.2)) := by
  unfold cm_st2
  rw [List.map_cons]
  congr 1
  exact cm_fl adr (fun a b => !(a == i) && (!(a == i + 1) && !(a + 1 == i && b == 2))) L

