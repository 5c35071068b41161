/-! operands, frame data, operations -/
abbrev ev_P : Type := Nat × Nat × Bool × String × Nat × Nat
abbrev ev_T : Type := Int × Int × Int × List Int
abbrev ev_O : Type := (ev_P → ev_T → Option (Instr × Nat × List Cond)) × (ev_P → ev_T → ev_S → Option (List ev_S))
def ev_Snd (o : ev_O) : Prop := ∀ (p : Program) (l : Launch) (e : Env) (R : Room) (s : State) (m : MethodId) (args : Array Value) (below : List Frame) (meth : Method) (c : Code) (cc : ByteArray) (Q : State → Prop) (D : va_G) (A : Nat → Prop) (g0 : ev_G) (P : ev_P) (t : ev_T) (S : ev_S) (i : Instr) (n : Nat) (cs : List Cond) (Ss : List ev_S),
  ev_X p R s m args meth c cc P.2.2.2.2.1 P.2.2.2.1 P.2.2.1 D A P.1 P.2.1 g0 P.2.2.2.2.2 → o.1 P t = some (i, n, cs) → decode cc S.1 = .ok (i, n) → (∀ w ∈ cs, w ∈ lw_good) → o.2 P t S = some Ss → (∀ S' ∈ Ss, ev_Go p l e R s m args below meth c Q P.2.2.2.2.1 D A g0 S') → ev_Go p l e R s m args below meth c Q P.2.2.2.2.1 D A g0 S
theorem ev_lo (x : Int32) : (-2147483648 : Int) ≤ x.toInt := by have := Int32.le_toInt x; omega
theorem ev_hi (x : Int32) : x.toInt ≤ (2147483647 : Int) := by have := Int32.toInt_lt x; omega
def ev_full : Int × Int := (-2147483648, 2147483647)
theorem ev_full_ok (x : Int32) : ev_full.1 ≤ x.toInt ∧ x.toInt ≤ ev_full.2 := ⟨ev_lo x, ev_hi x⟩
theorem ev_v0 (g : ev_G) (x : Int32) : ev_v g (0, x.toInt) = some (.int x) := by
  show some (Value.int (Int32.ofInt x.toInt)) = _
  rw [Int32.ofInt_toInt]
theorem ev_v4 (g : ev_G) (x : Int64) : ev_v g (4, x.toInt) = some (.long x) := by
  show some (Value.long (Int64.ofInt x.toInt)) = _
  rw [Int64.ofInt_toInt]
theorem ev_v3 {g : ev_G} {k : Nat} {x : Int32} (h : g.2.2[k]? = some (.int x)) : ev_v g (3, (k : Int)) = some (.int x) := by
  simp [ev_v, h]
theorem ev_v6 {g : ev_G} {k : Nat} {x : Int64} (h : g.2.2[k]? = some (.long x)) : ev_v g (6, (k : Int)) = some (.long x) := by
  simp [ev_v, h]
theorem ev_w_le {s : State} {g g' : ev_G} {w : List ev_C} {ws : va_W} (h : ev_le g g') (h1 : g'.1 = g.1) (hw : ev_w s g w ws) : ev_w s g' w ws := ⟨h1.trans hw.1, hw.2.1, fun k c q a b => ev_c_le h (hw.2.2 k c q a b)⟩
/-- a name for a new value -/
theorem ev_fresh {s : State} {A : Nat → Prop} {D : va_G} {nL : Nat} {g : ev_G} {pc : Nat} {L : List (Nat × ev_A)} {st : List ev_A} {w : List ev_C} {K : ev_K} {ce sl : Nat} {ws : va_W} {H : Heap} {locs : List Loc} {ls : Array Slot} {sc : List Value} (hR : ev_R s A D nL g (pc, L, st, w, K, ce, sl) ws H locs ls sc) (v : Value) (r : Int × Int) (hr : ∀ x, v = .int x → r.1 ≤ x.toInt ∧ x.toInt ≤ r.2) :
    ∃ g' : ev_G, ev_le g g' ∧ ev_R s A D nL g' (pc, L, st, w, K ++ [r], ce, sl) ws H locs ls sc ∧ g'.2.2[K.length]? = some v := by
  obtain ⟨hP, hD, hS, hW, hB, hL, hs⟩ := hR
  have hle : ev_le g (g.1, g.2.1, g.2.2 ++ [v]) := ⟨⟨[], by simp⟩, rfl, ⟨[v], rfl⟩⟩
  have hlen : K.length = g.2.2.length := hB.1
  refine ⟨(g.1, g.2.1, g.2.2 ++ [v]), hle, ⟨hP, hD, hS, ev_w_le hle rfl hW, ⟨by simp [hlen], fun k q x h1 h2 => ?_⟩, ev_l_le hle hL, ev_s_le hle hs⟩, by simp [hlen]⟩
  dsimp only at h1 h2
  by_cases hk : k < K.length
  · rw [List.getElem?_append_left hk] at h1
    rw [List.getElem?_append_left (by omega)] at h2
    exact hB.2 k q x h1 h2
  · rw [List.getElem?_append_right (by omega)] at h1
    rw [List.getElem?_append_right (by omega)] at h2
    have hz : k - K.length < 1 := (List.getElem?_eq_some_iff.mp h1).1
    have hz2 : k - g.2.2.length = 0 := by omega
    have hz3 : k - K.length = 0 := by omega
    rw [hz3] at h1
    rw [hz2] at h2
    cases h1
    exact hr x (Option.some.inj h2)
def ev_adv (S : ev_S) (n : Nat) (st : List ev_A) : ev_S := (S.1 + n, S.2.1, st, S.2.2.2)
def ev_advK (S : ev_S) (n : Nat) (st : List ev_A) (r : Int × Int) : ev_S := (S.1 + n, S.2.1, st, S.2.2.2.1, S.2.2.2.2.1 ++ [r], S.2.2.2.2.2)

def ev_iconst : ev_O := (fun _ t => some (.iconst t.1, 1, []), fun _ t S => some [ev_adv S 1 ((0, (Int32.ofInt t.1).toInt) :: S.2.2.1)])
theorem ev_iconst_ok : ev_Snd ev_iconst := by
  intro p l e R s m args below meth c cc Q D A g0 P t S i n cs Ss X h1 hd hw h2 hk g ws H locs ls sc hle hR
  obtain ⟨hx, hb, hml, hown, hts, hK, hA, hN, hini, hcC, hcS, hf, hlc, hscr⟩ := X
  obtain ⟨pc, L, st, w, K, ce, sl⟩ := S
  have h1 : some ((.iconst t.1 : Instr), (1 : Nat), ([] : List Cond)) = some (i, n, cs) := h1
  cases h1
  have h2 : some [ev_adv (pc, L, st, w, K, ce, sl) 1 ((0, (Int32.ofInt t.1).toInt) :: st)] = some Ss := h2
  cases h2
  obtain ⟨hP, hD, hS, hW, hB, hL, hs⟩ := hR
  exact lv_iconst (v := Int32.ofInt t.1) hx hb hd rfl (hk _ (List.mem_singleton.mpr rfl) g ws H locs ls _ hle ⟨hP, hD, hS, hW, hB, hL, ev_v0 g _, hs⟩)

def ev_bipush : ev_O := (fun _ t => some (.bipush t.1, 2, []), fun _ t S => some [ev_adv S 2 ((0, ((Int8.ofInt t.1).toInt32).toInt) :: S.2.2.1)])
theorem ev_bipush_ok : ev_Snd ev_bipush := by
  intro p l e R s m args below meth c cc Q D A g0 P t S i n cs Ss X h1 hd hw h2 hk g ws H locs ls sc hle hR
  obtain ⟨hx, hb, hml, hown, hts, hK, hA, hN, hini, hcC, hcS, hf, hlc, hscr⟩ := X
  obtain ⟨pc, L, st, w, K, ce, sl⟩ := S
  have h1 : some ((.bipush t.1 : Instr), (2 : Nat), ([] : List Cond)) = some (i, n, cs) := h1
  cases h1
  have h2 : some [ev_adv (pc, L, st, w, K, ce, sl) 2 ((0, ((Int8.ofInt t.1).toInt32).toInt) :: st)] = some Ss := h2
  cases h2
  obtain ⟨hP, hD, hS, hW, hB, hL, hs⟩ := hR
  exact lv_bipush (v := (Int8.ofInt t.1).toInt32) hx hb hd rfl (hk _ (List.mem_singleton.mpr rfl) g ws H locs ls _ hle ⟨hP, hD, hS, hW, hB, hL, ev_v0 g _, hs⟩)

def ev_sipush : ev_O := (fun _ t => some (.sipush t.1, 3, []), fun _ t S => some [ev_adv S 3 ((0, ((Int16.ofInt t.1).toInt32).toInt) :: S.2.2.1)])
theorem ev_sipush_ok : ev_Snd ev_sipush := by
  intro p l e R s m args below meth c cc Q D A g0 P t S i n cs Ss X h1 hd hw h2 hk g ws H locs ls sc hle hR
  obtain ⟨hx, hb, hml, hown, hts, hK, hA, hN, hini, hcC, hcS, hf, hlc, hscr⟩ := X
  obtain ⟨pc, L, st, w, K, ce, sl⟩ := S
  have h1 : some ((.sipush t.1 : Instr), (3 : Nat), ([] : List Cond)) = some (i, n, cs) := h1
  cases h1
  have h2 : some [ev_adv (pc, L, st, w, K, ce, sl) 3 ((0, ((Int16.ofInt t.1).toInt32).toInt) :: st)] = some Ss := h2
  cases h2
  obtain ⟨hP, hD, hS, hW, hB, hL, hs⟩ := hR
  exact lv_sipush (v := (Int16.ofInt t.1).toInt32) hx hb hd rfl (hk _ (List.mem_singleton.mpr rfl) g ws H locs ls _ hle ⟨hP, hD, hS, hW, hB, hL, ev_v0 g _, hs⟩)

def ev_lconst : ev_O := (fun _ t => if h : t.1.toNat < 2 then some (.lconst ⟨t.1.toNat, h⟩, 1, []) else none, fun _ t S => some [ev_adv S 1 ((4, (Int64.ofNat t.1.toNat).toInt) :: S.2.2.1)])
theorem ev_lconst_ok : ev_Snd ev_lconst := by
  intro p l e R s m args below meth c cc Q D A g0 P t S i n cs Ss X h1 hd hw h2 hk g ws H locs ls sc hle hR
  obtain ⟨hx, hb, hml, hown, hts, hK, hA, hN, hini, hcC, hcS, hf, hlc, hscr⟩ := X
  obtain ⟨pc, L, st, w, K, ce, sl⟩ := S
  have h1 : (if h : t.1.toNat < 2 then some ((.lconst ⟨t.1.toNat, h⟩ : Instr), (1 : Nat), ([] : List Cond)) else none) = some (i, n, cs) := h1
  have h2 : some [ev_adv (pc, L, st, w, K, ce, sl) 1 ((4, (Int64.ofNat t.1.toNat).toInt) :: st)] = some Ss := h2
  cases h2
  split at h1
  · cases h1
    obtain ⟨hP, hD, hS, hW, hB, hL, hs⟩ := hR
    exact lv_lconst (v := Int64.ofNat t.1.toNat) hx hb hd rfl (hk _ (List.mem_singleton.mpr rfl) g ws H locs ls _ hle ⟨hP, hD, hS, hW, hB, hL, ev_v4 g _, hs⟩)
  · cases h1

def ev_look : List (Nat × ev_A) → Nat → Option ev_A
  | [], _ => none
  | q :: L, i => if q.1 == i then some q.2 else ev_look L i
theorem ev_look_mem : ∀ {L : List (Nat × ev_A)} {i : Nat} {a : ev_A}, ev_look L i = some a → (i, a) ∈ L
  | [], i, a, h => by cases h
  | q :: L, i, a, h => by
    unfold ev_look at h
    split at h
    · rename_i hq
      cases h
      rw [← beq_iff_eq.mp hq]
      exact List.mem_cons_self
    · exact List.mem_cons_of_mem _ (ev_look_mem h)
def ev_isR (a : ev_A) : Bool := a.1 == 1 || a.1 == 5
theorem ev_vR {g : ev_G} {a : ev_A} {v : Value} (h : ev_isR a = true) (hv : ev_v g a = some v) : ∃ x : Nat, v = .ref x := by
  obtain ⟨t, n⟩ := a
  simp only [ev_isR, Bool.or_eq_true, beq_iff_eq] at h
  rcases h with h | h
  · subst h
    simp only [ev_v] at hv
    cases hq : g.1[n.toNat]? with
    | none => simp [hq] at hv
    | some q =>
      simp only [hq, Option.map_some] at hv
      exact ⟨q, (Option.some.inj hv).symm⟩
  · subst h
    exact ⟨_, (Option.some.inj hv).symm⟩
def ev_ld (ok : ev_A → Bool) (n : Nat) (i : Nat) (S : ev_S) : Option (List ev_S) := match ev_look S.2.1 i with
  | some a => if ok a = true then some [ev_adv S n (a :: S.2.2.1)] else none
  | none => none
theorem ev_ld_ok {ok : ev_A → Bool} {n i pc : Nat} {L : List (Nat × ev_A)} {st : List ev_A} {r} {Ss : List ev_S} (h : ev_ld ok n i (pc, L, st, r) = some Ss) : ∃ a, (i, a) ∈ L ∧ ok a = true ∧ Ss = [ev_adv (pc, L, st, r) n (a :: st)] := by
  unfold ev_ld at h
  split at h
  · rename_i a ha
    split at h
    · rename_i hok
      cases h
      exact ⟨a, ev_look_mem ha, hok, rfl⟩
    · cases h
  · cases h

def ev_iload : ev_O := (fun _ t => some (.iload t.1.toNat, 2, []), fun _ t S => ev_ld ev_isI 2 t.1.toNat S)
theorem ev_iload_ok : ev_Snd ev_iload := by
  intro p l e R s m args below meth c cc Q D A g0 P t S i n cs Ss X h1 hd hw h2 hk g ws H locs ls sc hle hR
  obtain ⟨hx, hb, hml, hown, hts, hK, hA, hN, hini, hcC, hcS, hf, hlc, hscr⟩ := X
  obtain ⟨pc, L, st, w, K, ce, sl⟩ := S
  have h1 : some ((.iload t.1.toNat : Instr), (2 : Nat), ([] : List Cond)) = some (i, n, cs) := h1
  cases h1
  obtain ⟨a, ha, hok, rfl⟩ := ev_ld_ok h2
  obtain ⟨hP, hD, hS, hW, hB, hL, hs⟩ := hR
  obtain ⟨v, hv, hl⟩ := hL.2.2 _ ha
  obtain ⟨x, rfl⟩ := ev_vI hok hv
  exact lv_iload hx hb hd hl (hk _ (List.mem_singleton.mpr rfl) g ws H locs ls _ hle ⟨hP, hD, hS, hW, hB, hL, hv, hs⟩)
def ev_iloadn : ev_O := (fun _ t => if h : t.1.toNat < 4 then some (.iload_n ⟨t.1.toNat, h⟩, 1, []) else none, fun _ t S => ev_ld ev_isI 1 t.1.toNat S)
theorem ev_iloadn_ok : ev_Snd ev_iloadn := by
  intro p l e R s m args below meth c cc Q D A g0 P t S i n cs Ss X h1 hd hw h2 hk g ws H locs ls sc hle hR
  obtain ⟨hx, hb, hml, hown, hts, hK, hA, hN, hini, hcC, hcS, hf, hlc, hscr⟩ := X
  obtain ⟨pc, L, st, w, K, ce, sl⟩ := S
  have h1 : (if h : t.1.toNat < 4 then some ((.iload_n ⟨t.1.toNat, h⟩ : Instr), (1 : Nat), ([] : List Cond)) else none) = some (i, n, cs) := h1
  split at h1
  · cases h1
    obtain ⟨a, ha, hok, rfl⟩ := ev_ld_ok h2
    obtain ⟨hP, hD, hS, hW, hB, hL, hs⟩ := hR
    obtain ⟨v, hv, hl⟩ := hL.2.2 _ ha
    obtain ⟨x, rfl⟩ := ev_vI hok hv
    exact lv_iload_n hx hb hd rfl hl (hk _ (List.mem_singleton.mpr rfl) g ws H locs ls _ hle ⟨hP, hD, hS, hW, hB, hL, hv, hs⟩)
  · cases h1

def ev_lload : ev_O := (fun _ t => some (.lload t.1.toNat, 2, []), fun _ t S => ev_ld ev_isL 2 t.1.toNat S)
theorem ev_lload_ok : ev_Snd ev_lload := by
  intro p l e R s m args below meth c cc Q D A g0 P t S i n cs Ss X h1 hd hw h2 hk g ws H locs ls sc hle hR
  obtain ⟨hx, hb, hml, hown, hts, hK, hA, hN, hini, hcC, hcS, hf, hlc, hscr⟩ := X
  obtain ⟨pc, L, st, w, K, ce, sl⟩ := S
  have h1 : some ((.lload t.1.toNat : Instr), (2 : Nat), ([] : List Cond)) = some (i, n, cs) := h1
  cases h1
  obtain ⟨a, ha, hok, rfl⟩ := ev_ld_ok h2
  obtain ⟨hP, hD, hS, hW, hB, hL, hs⟩ := hR
  obtain ⟨v, hv, hl⟩ := hL.2.2 _ ha
  obtain ⟨x, rfl⟩ := ev_vL hok hv
  exact lv_lload hx hb hd hl (hk _ (List.mem_singleton.mpr rfl) g ws H locs ls _ hle ⟨hP, hD, hS, hW, hB, hL, hv, hs⟩)
def ev_lloadn : ev_O := (fun _ t => if h : t.1.toNat < 4 then some (.lload_n ⟨t.1.toNat, h⟩, 1, []) else none, fun _ t S => ev_ld ev_isL 1 t.1.toNat S)
theorem ev_lloadn_ok : ev_Snd ev_lloadn := by
  intro p l e R s m args below meth c cc Q D A g0 P t S i n cs Ss X h1 hd hw h2 hk g ws H locs ls sc hle hR
  obtain ⟨hx, hb, hml, hown, hts, hK, hA, hN, hini, hcC, hcS, hf, hlc, hscr⟩ := X
  obtain ⟨pc, L, st, w, K, ce, sl⟩ := S
  have h1 : (if h : t.1.toNat < 4 then some ((.lload_n ⟨t.1.toNat, h⟩ : Instr), (1 : Nat), ([] : List Cond)) else none) = some (i, n, cs) := h1
  split at h1
  · cases h1
    obtain ⟨a, ha, hok, rfl⟩ := ev_ld_ok h2
    obtain ⟨hP, hD, hS, hW, hB, hL, hs⟩ := hR
    obtain ⟨v, hv, hl⟩ := hL.2.2 _ ha
    obtain ⟨x, rfl⟩ := ev_vL hok hv
    exact lv_lload_n hx hb hd rfl hl (hk _ (List.mem_singleton.mpr rfl) g ws H locs ls _ hle ⟨hP, hD, hS, hW, hB, hL, hv, hs⟩)
  · cases h1

def ev_aload : ev_O := (fun _ t => some (.aload t.1.toNat, 2, []), fun _ t S => ev_ld ev_isR 2 t.1.toNat S)
theorem ev_aload_ok : ev_Snd ev_aload := by
  intro p l e R s m args below meth c cc Q D A g0 P t S i n cs Ss X h1 hd hw h2 hk g ws H locs ls sc hle hR
  obtain ⟨hx, hb, hml, hown, hts, hK, hA, hN, hini, hcC, hcS, hf, hlc, hscr⟩ := X
  obtain ⟨pc, L, st, w, K, ce, sl⟩ := S
  have h1 : some ((.aload t.1.toNat : Instr), (2 : Nat), ([] : List Cond)) = some (i, n, cs) := h1
  cases h1
  obtain ⟨a, ha, hok, rfl⟩ := ev_ld_ok h2
  obtain ⟨hP, hD, hS, hW, hB, hL, hs⟩ := hR
  obtain ⟨v, hv, hl⟩ := hL.2.2 _ ha
  obtain ⟨x, rfl⟩ := ev_vR hok hv
  exact lv_aload hx hb hd hl (hk _ (List.mem_singleton.mpr rfl) g ws H locs ls _ hle ⟨hP, hD, hS, hW, hB, hL, hv, hs⟩)
def ev_aloadn : ev_O := (fun _ t => if h : t.1.toNat < 4 then some (.aload_n ⟨t.1.toNat, h⟩, 1, []) else none, fun _ t S => ev_ld ev_isR 1 t.1.toNat S)
theorem ev_aloadn_ok : ev_Snd ev_aloadn := by
  intro p l e R s m args below meth c cc Q D A g0 P t S i n cs Ss X h1 hd hw h2 hk g ws H locs ls sc hle hR
  obtain ⟨hx, hb, hml, hown, hts, hK, hA, hN, hini, hcC, hcS, hf, hlc, hscr⟩ := X
  obtain ⟨pc, L, st, w, K, ce, sl⟩ := S
  have h1 : (if h : t.1.toNat < 4 then some ((.aload_n ⟨t.1.toNat, h⟩ : Instr), (1 : Nat), ([] : List Cond)) else none) = some (i, n, cs) := h1
  split at h1
  · cases h1
    obtain ⟨a, ha, hok, rfl⟩ := ev_ld_ok h2
    obtain ⟨hP, hD, hS, hW, hB, hL, hs⟩ := hR
    obtain ⟨v, hv, hl⟩ := hL.2.2 _ ha
    obtain ⟨x, rfl⟩ := ev_vR hok hv
    exact lv_aload_n hx hb hd rfl hl (hk _ (List.mem_singleton.mpr rfl) g ws H locs ls _ hle ⟨hP, hD, hS, hW, hB, hL, hv, hs⟩)
  · cases h1

def ev_conc (g : ev_G) (L : List (Nat × ev_A)) : List (Nat × Value) := L.filterMap (fun q => (ev_v g q.2).map (fun v => (q.1, v)))
theorem ev_conc_has {g : ev_G} {L : List (Nat × ev_A)} {nL : Nat} {ls : Array Slot} (h : ev_l g L nL ls) : lv_has ls nL (ev_conc g L) := by
  refine ⟨h.1, h.2.1, fun q hq => ?_⟩
  obtain ⟨r, hr, he⟩ := List.mem_filterMap.mp hq
  obtain ⟨v, a, b⟩ := h.2.2 r hr
  rw [a] at he
  cases he
  exact b
theorem ev_conc_mem {g : ev_G} {L : List (Nat × ev_A)} {q : Nat × ev_A} {v : Value} (h : q ∈ L) (hv : ev_v g q.2 = some v) : (q.1, v) ∈ ev_conc g L := List.mem_filterMap.mpr ⟨q, h, by rw [hv]; rfl⟩
def ev_st1 (L : List (Nat × ev_A)) (i : Nat) (a : ev_A) : List (Nat × ev_A) := (i, a) :: L.filter (fun q => !(q.1 == i) && !(q.1 + 1 == i && ev_isL q.2))
def ev_st2 (L : List (Nat × ev_A)) (i : Nat) (a : ev_A) : List (Nat × ev_A) := (i, a) :: L.filter (fun q => !(q.1 == i) && (!(q.1 == i + 1) && !(q.1 + 1 == i && ev_isL q.2)))
theorem ev_isL_cat {g : ev_G} {a : ev_A} {v : Value} (hv : ev_v g a = some v) : ev_isL a = (v.category == 2) := by
  rcases ev_cat hv with ⟨h1, h2⟩ | ⟨h1, h2⟩ <;> rw [h1, h2] <;> rfl
theorem ev_st1_ok {g : ev_G} {L : List (Nat × ev_A)} {nL i : Nat} {ls ls' : Array Slot} {a : ev_A} {v : Value} (h : ev_l g L nL ls) (hv : ev_v g a = some v) (h' : lv_has ls' nL ((i, v) :: (ev_conc g L).filter (fun q => !(q.1 == i) && !(q.1 + 1 == i && q.2.category == 2)))) : ev_l g (ev_st1 L i a) nL ls' := by
  refine ⟨h'.1, h'.2.1, fun q hq => ?_⟩
  rcases List.mem_cons.mp hq with rfl | hq
  · exact ⟨v, hv, h'.2.2 _ List.mem_cons_self⟩
  · obtain ⟨q1, q2⟩ := List.mem_filter.mp hq
    obtain ⟨x, a1, a2⟩ := h.2.2 q q1
    refine ⟨x, a1, h'.2.2 (q.1, x) (List.mem_cons_of_mem _ (List.mem_filter.mpr ⟨ev_conc_mem q1 a1, ?_⟩))⟩
    rw [ev_isL_cat a1] at q2
    exact q2
theorem ev_st2_ok {g : ev_G} {L : List (Nat × ev_A)} {nL i : Nat} {ls ls' : Array Slot} {a : ev_A} {v : Value} (h : ev_l g L nL ls) (hv : ev_v g a = some v) (h' : lv_has ls' nL ((i, v) :: (ev_conc g L).filter (fun q => !(q.1 == i) && (!(q.1 == i + 1) && !(q.1 + 1 == i && q.2.category == 2))))) : ev_l g (ev_st2 L i a) nL ls' := by
  refine ⟨h'.1, h'.2.1, fun q hq => ?_⟩
  rcases List.mem_cons.mp hq with rfl | hq
  · exact ⟨v, hv, h'.2.2 _ List.mem_cons_self⟩
  · obtain ⟨q1, q2⟩ := List.mem_filter.mp hq
    obtain ⟨x, a1, a2⟩ := h.2.2 q q1
    refine ⟨x, a1, h'.2.2 (q.1, x) (List.mem_cons_of_mem _ (List.mem_filter.mpr ⟨ev_conc_mem q1 a1, ?_⟩))⟩
    rw [ev_isL_cat a1] at q2
    exact q2
def ev_sto (ok : ev_A → Bool) (wide : Nat) (n i nL : Nat) (S : ev_S) : Option (List ev_S) := match S.2.2.1 with
  | a :: st => if ok a = true ∧ i + wide < nL then some [(S.1 + n, (if wide = 0 then ev_st1 S.2.1 i a else ev_st2 S.2.1 i a), st, S.2.2.2)] else none
  | [] => none
theorem ev_sto_ok {ok : ev_A → Bool} {wide n i nL pc : Nat} {L : List (Nat × ev_A)} {st : List ev_A} {r} {Ss : List ev_S} (h : ev_sto ok wide n i nL (pc, L, st, r) = some Ss) : ∃ a st', st = a :: st' ∧ ok a = true ∧ i + wide < nL ∧ Ss = [(pc + n, (if wide = 0 then ev_st1 L i a else ev_st2 L i a), st', r)] := by
  unfold ev_sto at h
  split at h
  · rename_i a st' e
    split at h
    · rename_i hok
      cases h
      exact ⟨a, st', e, hok.1, hok.2, rfl⟩
    · cases h
  · cases h

def ev_istore : ev_O := (fun _ t => some (.istore t.1.toNat, 2, []), fun P t S => ev_sto ev_isI 0 2 t.1.toNat P.2.2.2.2.1 S)
theorem ev_istore_ok : ev_Snd ev_istore := by
  intro p l e R s m args below meth c cc Q D A g0 P t S i n cs Ss X h1 hd hw h2 hk g ws H locs ls sc hle hR
  obtain ⟨hx, hb, hml, hown, hts, hK, hA, hN, hini, hcC, hcS, hf, hlc, hscr⟩ := X
  obtain ⟨pc, L, st, w, K, ce, sl⟩ := S
  have h1 : some ((.istore t.1.toNat : Instr), (2 : Nat), ([] : List Cond)) = some (i, n, cs) := h1
  cases h1
  · obtain ⟨a, st', rfl, hok, hi, rfl⟩ := ev_sto_ok h2
    obtain ⟨hP, hD, hS, hW, hB, hL, hs⟩ := hR
    obtain ⟨v, sc', rfl, hv, hs2⟩ := ev_s_cons hs
    obtain ⟨x, rfl⟩ := ev_vI hok hv
    exact lv_istore hx hb hd (ev_conc_has hL) hi rfl (fun ls' hl' => hk _ (List.mem_singleton.mpr rfl) g ws H locs ls' _ hle ⟨hP, hD, hS, hW, hB, ev_st1_ok hL hv hl', hs2⟩)
def ev_istoren : ev_O := (fun _ t => if h : t.1.toNat < 4 then some (.istore_n ⟨t.1.toNat, h⟩, 1, []) else none, fun P t S => ev_sto ev_isI 0 1 t.1.toNat P.2.2.2.2.1 S)
theorem ev_istoren_ok : ev_Snd ev_istoren := by
  intro p l e R s m args below meth c cc Q D A g0 P t S i n cs Ss X h1 hd hw h2 hk g ws H locs ls sc hle hR
  obtain ⟨hx, hb, hml, hown, hts, hK, hA, hN, hini, hcC, hcS, hf, hlc, hscr⟩ := X
  obtain ⟨pc, L, st, w, K, ce, sl⟩ := S
  have h1 : (if h : t.1.toNat < 4 then some ((.istore_n ⟨t.1.toNat, h⟩ : Instr), (1 : Nat), ([] : List Cond)) else none) = some (i, n, cs) := h1
  split at h1
  · cases h1
    obtain ⟨a, st', rfl, hok, hi, rfl⟩ := ev_sto_ok h2
    obtain ⟨hP, hD, hS, hW, hB, hL, hs⟩ := hR
    obtain ⟨v, sc', rfl, hv, hs2⟩ := ev_s_cons hs
    obtain ⟨x, rfl⟩ := ev_vI hok hv
    exact lv_istore_n hx hb hd rfl (ev_conc_has hL) hi rfl (fun ls' hl' => hk _ (List.mem_singleton.mpr rfl) g ws H locs ls' _ hle ⟨hP, hD, hS, hW, hB, ev_st1_ok hL hv hl', hs2⟩)
  · cases h1

def ev_lstore : ev_O := (fun _ t => some (.lstore t.1.toNat, 2, []), fun P t S => ev_sto ev_isL 1 2 t.1.toNat P.2.2.2.2.1 S)
theorem ev_lstore_ok : ev_Snd ev_lstore := by
  intro p l e R s m args below meth c cc Q D A g0 P t S i n cs Ss X h1 hd hw h2 hk g ws H locs ls sc hle hR
  obtain ⟨hx, hb, hml, hown, hts, hK, hA, hN, hini, hcC, hcS, hf, hlc, hscr⟩ := X
  obtain ⟨pc, L, st, w, K, ce, sl⟩ := S
  have h1 : some ((.lstore t.1.toNat : Instr), (2 : Nat), ([] : List Cond)) = some (i, n, cs) := h1
  cases h1
  · obtain ⟨a, st', rfl, hok, hi, rfl⟩ := ev_sto_ok h2
    obtain ⟨hP, hD, hS, hW, hB, hL, hs⟩ := hR
    obtain ⟨v, sc', rfl, hv, hs2⟩ := ev_s_cons hs
    obtain ⟨x, rfl⟩ := ev_vL hok hv
    exact lv_lstore hx hb hd (ev_conc_has hL) hi rfl (fun ls' hl' => hk _ (List.mem_singleton.mpr rfl) g ws H locs ls' _ hle ⟨hP, hD, hS, hW, hB, ev_st2_ok hL hv hl', hs2⟩)
def ev_lstoren : ev_O := (fun _ t => if h : t.1.toNat < 4 then some (.lstore_n ⟨t.1.toNat, h⟩, 1, []) else none, fun P t S => ev_sto ev_isL 1 1 t.1.toNat P.2.2.2.2.1 S)
theorem ev_lstoren_ok : ev_Snd ev_lstoren := by
  intro p l e R s m args below meth c cc Q D A g0 P t S i n cs Ss X h1 hd hw h2 hk g ws H locs ls sc hle hR
  obtain ⟨hx, hb, hml, hown, hts, hK, hA, hN, hini, hcC, hcS, hf, hlc, hscr⟩ := X
  obtain ⟨pc, L, st, w, K, ce, sl⟩ := S
  have h1 : (if h : t.1.toNat < 4 then some ((.lstore_n ⟨t.1.toNat, h⟩ : Instr), (1 : Nat), ([] : List Cond)) else none) = some (i, n, cs) := h1
  split at h1
  · cases h1
    obtain ⟨a, st', rfl, hok, hi, rfl⟩ := ev_sto_ok h2
    obtain ⟨hP, hD, hS, hW, hB, hL, hs⟩ := hR
    obtain ⟨v, sc', rfl, hv, hs2⟩ := ev_s_cons hs
    obtain ⟨x, rfl⟩ := ev_vL hok hv
    exact lv_lstore_n hx hb hd rfl (ev_conc_has hL) hi rfl (fun ls' hl' => hk _ (List.mem_singleton.mpr rfl) g ws H locs ls' _ hle ⟨hP, hD, hS, hW, hB, ev_st2_ok hL hv hl', hs2⟩)
  · cases h1

def ev_astore : ev_O := (fun _ t => some (.astore t.1.toNat, 2, []), fun P t S => ev_sto ev_isR 0 2 t.1.toNat P.2.2.2.2.1 S)
theorem ev_astore_ok : ev_Snd ev_astore := by
  intro p l e R s m args below meth c cc Q D A g0 P t S i n cs Ss X h1 hd hw h2 hk g ws H locs ls sc hle hR
  obtain ⟨hx, hb, hml, hown, hts, hK, hA, hN, hini, hcC, hcS, hf, hlc, hscr⟩ := X
  obtain ⟨pc, L, st, w, K, ce, sl⟩ := S
  have h1 : some ((.astore t.1.toNat : Instr), (2 : Nat), ([] : List Cond)) = some (i, n, cs) := h1
  cases h1
  · obtain ⟨a, st', rfl, hok, hi, rfl⟩ := ev_sto_ok h2
    obtain ⟨hP, hD, hS, hW, hB, hL, hs⟩ := hR
    obtain ⟨v, sc', rfl, hv, hs2⟩ := ev_s_cons hs
    obtain ⟨x, rfl⟩ := ev_vR hok hv
    exact lv_astore hx hb hd (ev_conc_has hL) hi rfl (fun ls' hl' => hk _ (List.mem_singleton.mpr rfl) g ws H locs ls' _ hle ⟨hP, hD, hS, hW, hB, ev_st1_ok hL hv hl', hs2⟩)
def ev_astoren : ev_O := (fun _ t => if h : t.1.toNat < 4 then some (.astore_n ⟨t.1.toNat, h⟩, 1, []) else none, fun P t S => ev_sto ev_isR 0 1 t.1.toNat P.2.2.2.2.1 S)
theorem ev_astoren_ok : ev_Snd ev_astoren := by
  intro p l e R s m args below meth c cc Q D A g0 P t S i n cs Ss X h1 hd hw h2 hk g ws H locs ls sc hle hR
  obtain ⟨hx, hb, hml, hown, hts, hK, hA, hN, hini, hcC, hcS, hf, hlc, hscr⟩ := X
  obtain ⟨pc, L, st, w, K, ce, sl⟩ := S
  have h1 : (if h : t.1.toNat < 4 then some ((.astore_n ⟨t.1.toNat, h⟩ : Instr), (1 : Nat), ([] : List Cond)) else none) = some (i, n, cs) := h1
  split at h1
  · cases h1
    obtain ⟨a, st', rfl, hok, hi, rfl⟩ := ev_sto_ok h2
    obtain ⟨hP, hD, hS, hW, hB, hL, hs⟩ := hR
    obtain ⟨v, sc', rfl, hv, hs2⟩ := ev_s_cons hs
    obtain ⟨x, rfl⟩ := ev_vR hok hv
    exact lv_astore_n hx hb hd rfl (ev_conc_has hL) hi rfl (fun ls' hl' => hk _ (List.mem_singleton.mpr rfl) g ws H locs ls' _ hle ⟨hP, hD, hS, hW, hB, ev_st1_ok hL hv hl', hs2⟩)
  · cases h1

