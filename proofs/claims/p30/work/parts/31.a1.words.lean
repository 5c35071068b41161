/-! words of rows, once for each class -/
def wz_ind (o : cm_O) : Prop := ∀ (a b : Nat) (c : Bool) (C : String) (d e a' b' : Nat) (c' : Bool) (d' e' : Nat) (t : ev_T), o.1 (a, b, c, C, d, e) t = o.1 (a', b', c', C, d', e') t
theorem wz_c1 {o : cm_O} {l : List cm_O} (h : wz_ind o) (h2 : ∀ o ∈ l, wz_ind o) : ∀ o' ∈ o :: l, wz_ind o' := List.forall_mem_cons.mpr ⟨h, h2⟩
theorem wz_ops : ∀ o ∈ cm_ops, wz_ind o := wz_c1 (fun _ _ _ _ _ _ _ _ _ _ _ _ => rfl) (wz_c1 (fun _ _ _ _ _ _ _ _ _ _ _ _ => rfl) (wz_c1 (fun _ _ _ _ _ _ _ _ _ _ _ _ => rfl) (wz_c1 (fun _ _ _ _ _ _ _ _ _ _ _ _ => rfl) (wz_c1 (fun _ _ _ _ _ _ _ _ _ _ _ _ => rfl) (wz_c1 (fun _ _ _ _ _ _ _ _ _ _ _ _ => rfl) (wz_c1 (fun _ _ _ _ _ _ _ _ _ _ _ _ => rfl) (wz_c1 (fun _ _ _ _ _ _ _ _ _ _ _ _ => rfl) (wz_c1 (fun _ _ _ _ _ _ _ _ _ _ _ _ => rfl) (wz_c1 (fun _ _ _ _ _ _ _ _ _ _ _ _ => rfl) (wz_c1 (fun _ _ _ _ _ _ _ _ _ _ _ _ => rfl) (wz_c1 (fun _ _ _ _ _ _ _ _ _ _ _ _ => rfl) (wz_c1 (fun _ _ _ _ _ _ _ _ _ _ _ _ => rfl) (wz_c1 (fun _ _ _ _ _ _ _ _ _ _ _ _ => rfl) (wz_c1 (fun _ _ _ _ _ _ _ _ _ _ _ _ => rfl) (wz_c1 (fun _ _ _ _ _ _ _ _ _ _ _ _ => rfl) (wz_c1 (fun _ _ _ _ _ _ _ _ _ _ _ _ => rfl) (wz_c1 (fun _ _ _ _ _ _ _ _ _ _ _ _ => rfl) (wz_c1 (fun _ _ _ _ _ _ _ _ _ _ _ _ => rfl) (wz_c1 (fun _ _ _ _ _ _ _ _ _ _ _ _ => rfl) (wz_c1 (fun _ _ _ _ _ _ _ _ _ _ _ _ => rfl) (wz_c1 (fun _ _ _ _ _ _ _ _ _ _ _ _ => rfl) (wz_c1 (fun _ _ _ _ _ _ _ _ _ _ _ _ => rfl) (wz_c1 (fun _ _ _ _ _ _ _ _ _ _ _ _ => rfl) (wz_c1 (fun _ _ _ _ _ _ _ _ _ _ _ _ => rfl) (wz_c1 (fun _ _ _ _ _ _ _ _ _ _ _ _ => rfl) (wz_c1 (fun _ _ _ _ _ _ _ _ _ _ _ _ => rfl) (wz_c1 (fun _ _ _ _ _ _ _ _ _ _ _ _ => rfl) (wz_c1 (fun _ _ _ _ _ _ _ _ _ _ _ _ => rfl) (wz_c1 (fun _ _ _ _ _ _ _ _ _ _ _ _ => rfl) (wz_c1 (fun _ _ _ _ _ _ _ _ _ _ _ _ => rfl) (wz_c1 (fun _ _ _ _ _ _ _ _ _ _ _ _ => rfl) (wz_c1 (fun _ _ _ _ _ _ _ _ _ _ _ _ => rfl) (wz_c1 (fun _ _ _ _ _ _ _ _ _ _ _ _ => rfl) (wz_c1 (fun _ _ _ _ _ _ _ _ _ _ _ _ => rfl) (wz_c1 (fun _ _ _ _ _ _ _ _ _ _ _ _ => rfl) (wz_c1 (fun _ _ _ _ _ _ _ _ _ _ _ _ => rfl) (wz_c1 (fun _ _ _ _ _ _ _ _ _ _ _ _ => rfl) (wz_c1 (fun _ _ _ _ _ _ _ _ _ _ _ _ => rfl) (wz_c1 (fun _ _ _ _ _ _ _ _ _ _ _ _ => rfl) (wz_c1 (fun _ _ _ _ _ _ _ _ _ _ _ _ => rfl) (wz_c1 (fun _ _ _ _ _ _ _ _ _ _ _ _ => rfl) (wz_c1 (fun _ _ _ _ _ _ _ _ _ _ _ _ => rfl) (wz_c1 (fun _ _ _ _ _ _ _ _ _ _ _ _ => rfl) (wz_c1 (fun _ _ _ _ _ _ _ _ _ _ _ _ => rfl) (wz_c1 (fun _ _ _ _ _ _ _ _ _ _ _ _ => rfl) (wz_c1 (fun _ _ _ _ _ _ _ _ _ _ _ _ => rfl) (wz_c1 (fun _ _ _ _ _ _ _ _ _ _ _ _ => rfl) (wz_c1 (fun _ _ _ _ _ _ _ _ _ _ _ _ => rfl) (wz_c1 (fun _ _ _ _ _ _ _ _ _ _ _ _ => rfl) (wz_c1 (fun _ _ _ _ _ _ _ _ _ _ _ _ => rfl) (wz_c1 (fun _ _ _ _ _ _ _ _ _ _ _ _ => rfl) (wz_c1 (fun _ _ _ _ _ _ _ _ _ _ _ _ => rfl) (wz_c1 (fun _ _ _ _ _ _ _ _ _ _ _ _ => rfl) (wz_c1 (fun _ _ _ _ _ _ _ _ _ _ _ _ => rfl) (wz_c1 (fun _ _ _ _ _ _ _ _ _ _ _ _ => rfl) (wz_c1 (fun _ _ _ _ _ _ _ _ _ _ _ _ => rfl) (wz_c1 (fun _ _ _ _ _ _ _ _ _ _ _ _ => rfl) (wz_c1 (fun _ _ _ _ _ _ _ _ _ _ _ _ => rfl) (wz_c1 (fun _ _ _ _ _ _ _ _ _ _ _ _ => rfl) (wz_c1 (fun _ _ _ _ _ _ _ _ _ _ _ _ => rfl) (wz_c1 (fun _ _ _ _ _ _ _ _ _ _ _ _ => rfl) (wz_c1 (fun _ _ _ _ _ _ _ _ _ _ _ _ => rfl) (wz_c1 (fun _ _ _ _ _ _ _ _ _ _ _ _ => rfl) (wz_c1 (fun _ _ _ _ _ _ _ _ _ _ _ _ => rfl) (wz_c1 (fun _ _ _ _ _ _ _ _ _ _ _ _ => rfl) (wz_c1 (fun _ _ _ _ _ _ _ _ _ _ _ _ => rfl) (wz_c1 (fun _ _ _ _ _ _ _ _ _ _ _ _ => rfl) (wz_c1 (fun _ _ _ _ _ _ _ _ _ _ _ _ => rfl) (wz_c1 (fun _ _ _ _ _ _ _ _ _ _ _ _ => rfl) (wz_c1 (fun _ _ _ _ _ _ _ _ _ _ _ _ => rfl) (wz_c1 (fun _ _ _ _ _ _ _ _ _ _ _ _ => rfl) (wz_c1 (fun _ _ _ _ _ _ _ _ _ _ _ _ => rfl) (wz_c1 (fun _ _ _ _ _ _ _ _ _ _ _ _ => rfl) (wz_c1 (fun _ _ _ _ _ _ _ _ _ _ _ _ => rfl) (wz_c1 (fun _ _ _ _ _ _ _ _ _ _ _ _ => rfl) (wz_c1 (fun _ _ _ _ _ _ _ _ _ _ _ _ => rfl) (wz_c1 (fun _ _ _ _ _ _ _ _ _ _ _ _ => rfl) (wz_c1 (fun _ _ _ _ _ _ _ _ _ _ _ _ => rfl) (wz_c1 (fun _ _ _ _ _ _ _ _ _ _ _ _ => rfl) (wz_c1 (fun _ _ _ _ _ _ _ _ _ _ _ _ => rfl) (wz_c1 (fun _ _ _ _ _ _ _ _ _ _ _ _ => rfl) (wz_c1 (fun _ _ _ _ _ _ _ _ _ _ _ _ => rfl) (wz_c1 (fun _ _ _ _ _ _ _ _ _ _ _ _ => rfl) (wz_c1 (fun _ _ _ _ _ _ _ _ _ _ _ _ => rfl) (wz_c1 (fun _ _ _ _ _ _ _ _ _ _ _ _ => rfl) (wz_c1 (fun _ _ _ _ _ _ _ _ _ _ _ _ => rfl) (wz_c1 (fun _ _ _ _ _ _ _ _ _ _ _ _ => rfl) (wz_c1 (fun _ _ _ _ _ _ _ _ _ _ _ _ => rfl) (wz_c1 (fun _ _ _ _ _ _ _ _ _ _ _ _ => rfl) (wz_c1 (fun _ _ _ _ _ _ _ _ _ _ _ _ => rfl) (wz_c1 (fun _ _ _ _ _ _ _ _ _ _ _ _ => rfl) (fun o ho => nomatch ho))))))))))))))))))))))))))))))))))))))))))))))))))))))))))))))))))))))))))))))))))))))))))))
theorem wz_rowP (ms : List ev_MI) (C : String) (n : Nat) (r : ev_Row) : cm_rowI ms (0, 0, false, C, n, 0) r = cm_rowI ms (0, 0, false, C, 0, 0) r := by
  by_cases h : r.1 = 200 ∨ r.1 = 201 ∨ r.1 = 210 ∨ r.1 = 211 ∨ r.1 = 212 ∨ r.1 = 213
  · obtain ⟨k, t⟩ := r
    have h : k = 200 ∨ k = 201 ∨ k = 210 ∨ k = 211 ∨ k = 212 ∨ k = 213 := h
    rcases h with rfl | rfl | rfl | rfl | rfl | rfl <;> rfl
  · have e : ∀ P : ev_P, cm_rowI ms P r = (match cm_ops[r.1]? with
        | some o => o.1 P r.2
        | none => none) := by
      intro P
      unfold cm_rowI
      split
      · omega
      · omega
      · omega
      · omega
      · omega
      · omega
      · rfl
    rw [e, e]
    cases ho : cm_ops[r.1]? with
    | none => rfl
    | some o => exact wz_ops o (List.mem_of_getElem? ho) 0 0 false C n 0 0 0 false 0 0 r.2
/-- the words of a row -/
def wz_wd (ms : List ev_MI) (C : String) (r : ev_Row) : Prop := (∀ i n cs, cm_rowI ms (0, 0, false, C, 0, 0) r = some (i, n, cs) → ∀ w ∈ cs, w ∈ lw_good) ∧ ∀ pc, ab_RC ms (pc, r)
def wz_w1 (ms : List ev_MI) (C : String) (r : ev_Row) (ps : List Nat) : Bool := match cm_rowI ms (0, 0, false, C, 0, 0) r with
  | some (_, _, cs) => decide (cs.map some = ps.map lw_at) && (cs.all goodWord && ab_rc1 ms (0, r))
  | none => false
theorem wz_w1_ok {ms : List ev_MI} {C : String} {r : ev_Row} {ps : List Nat} (h : wz_w1 ms C r ps = true) : wz_wd ms C r := by
  unfold wz_w1 at h
  split at h
  · rename_i i0 n0 cs0 h0
    simp only [Bool.and_eq_true, decide_eq_true_eq] at h
    obtain ⟨h1, h2, h3⟩ := h
    refine ⟨fun i n cs hi w hw => ?_, fun pc => ?_⟩
    · rw [h0] at hi
      cases hi
      have hg := List.all_eq_true.mp h2 w hw
      have hm : some w ∈ ps.map lw_at := by rw [← h1]; exact List.mem_map.mpr ⟨w, hw, rfl⟩
      obtain ⟨j, -, hj⟩ := List.mem_map.mp hm
      exact lw_good_at j (lw_at_ok hj) hg
    · have z : ab_rc1 ms (pc, r) = true := h3
      exact ab_rc1_ok z
  · cases h
def wz_ws (ms : List ev_MI) (C : String) : List ev_Row → List (List Nat) → Bool
  | [], [] => true
  | r :: rs, p :: ps => wz_w1 ms C r p && wz_ws ms C rs ps
  | _, _ => false
theorem wz_ws_ok {ms : List ev_MI} {C : String} : ∀ {rs : List ev_Row} {ps : List (List Nat)}, wz_ws ms C rs ps = true → ∀ r ∈ rs, wz_wd ms C r
  | [], [], _ => fun q hq => nomatch hq
  | [], _ :: _, h => by cases h
  | _ :: _, [], h => by cases h
  | r :: rs, p :: ps, h => by
    unfold wz_ws at h
    rw [Bool.and_eq_true] at h
    exact List.forall_mem_cons.mpr ⟨wz_w1_ok h.1, wz_ws_ok h.2⟩
def wz_row (ms : List ev_MI) (P : ev_P) (cc : ByteArray) (W : List ev_Row) (l : List UInt8) (q : Nat × ev_Row) (k : Nat) : Bool := match cm_rowF ms P q.2 with
  | some (i, n, cs) => (fd_is i n l || decide (decode cc q.1 = .ok (i, n))) && (match k with
    | 0 => cs.isEmpty && (Nat.blt q.2.1 200 || Nat.ble 210 q.2.1)
    | k + 1 => decide (W[k]? = some q.2))
  | none => false
def wz_rows (ms : List ev_MI) (P : ev_P) (cc : ByteArray) (W : List ev_Row) : Nat → List UInt8 → List (Nat × ev_Row) → List Nat → Bool
  | _, _, [], [] => true
  | p0, l, q :: rows, k :: ks => Nat.ble p0 q.1 && (wz_row ms P cc W (l.drop (q.1 - p0)) q k && wz_rows ms P cc W q.1 (l.drop (q.1 - p0)) rows ks)
  | _, _, _, _ => false
theorem wz_row_ok {ms : List ev_MI} {C : String} {ml : Nat} {cc : ByteArray} {W : List ev_Row} {q : Nat × ev_Row} {k : Nat} {l : List UInt8} (hW : ∀ r ∈ W, wz_wd ms C r) (hl : l = cc.data.toList.drop q.1) (h : wz_row ms (0, 0, false, C, ml, 0) cc W l q k = true) : cm_RowOK ms (0, 0, false, C, ml, 0) cc q ∧ ab_RC ms q := by
  unfold wz_row at h
  split at h
  · rename_i i n cs hi
    rw [cm_rowF_eq] at hi
    rw [Bool.and_eq_true] at h
    have h1 := h.1
    rw [hl] at h1
    have hd := fd_at_ok h1
    cases k with
    | zero =>
      have h2 : (cs.isEmpty && (Nat.blt q.2.1 200 || Nat.ble 210 q.2.1)) = true := h.2
      rw [Bool.and_eq_true, Bool.or_eq_true] at h2
      have he : cs = [] := List.isEmpty_iff.mp h2.1
      refine ⟨⟨i, n, cs, hi, hd, fun w hw => ?_⟩, fun a b => ?_⟩
      · rw [he] at hw
        cases hw
      · rcases h2.2 with g | g
        · have := Nat.le_of_ble_eq_true (show Nat.ble (q.2.1 + 1) 200 = true from g)
          omega
        · have := Nat.le_of_ble_eq_true g
          omega
    | succ k =>
      have h2 : W[k]? = some q.2 := of_decide_eq_true h.2
      have hw := hW _ (List.mem_of_getElem? h2)
      refine ⟨⟨i, n, cs, hi, hd, hw.1 i n cs ?_⟩, hw.2 q.1⟩
      rw [← wz_rowP ms C ml]
      exact hi
  · cases h
theorem wz_rows_ok {ms : List ev_MI} {C : String} {ml : Nat} {cc : ByteArray} {W : List ev_Row} (hW : ∀ r ∈ W, wz_wd ms C r) : ∀ {rows : List (Nat × ev_Row)} {ks : List Nat} {p0 : Nat} {l : List UInt8}, l = cc.data.toList.drop p0 → wz_rows ms (0, 0, false, C, ml, 0) cc W p0 l rows ks = true → ∀ q ∈ rows, cm_RowOK ms (0, 0, false, C, ml, 0) cc q ∧ ab_RC ms q
  | [], [], _, _, _, _ => fun q hq => nomatch hq
  | [], _ :: _, _, _, _, h => by cases h
  | _ :: _, [], _, _, _, h => by cases h
  | q :: rows, k :: ks, p0, l, hl, h => by
    unfold wz_rows at h
    rw [Bool.and_eq_true, Bool.and_eq_true] at h
    obtain ⟨h0, h1, h3⟩ := h
    have hd := fd_dr hl h0
    exact List.forall_mem_cons.mpr ⟨wz_row_ok hW hd h1, wz_rows_ok hW hd h3⟩
def wz_cl (C : String) : Prop := plainName C = true ∧ C ≠ "java/lang/invoke/MethodHandle" ∧ C ≠ "java/lang/invoke/VarHandle"
def wz_m (ms : List ev_MI) (W : List ev_Row) (y : MethodName) (cc : ByteArray) (ml : Nat) (ty : Option FieldType) (rows : List (Nat × ev_Row)) (ks : List Nat) : Bool :=
  Nat.ble ml 21 && wz_rows ms (0, 0, false, y.cls, ml, 0) cc W 0 cc.data.toList rows ks
theorem wz_MK {ms : List ev_MI} {C : String} {W : List ev_Row} (hC : wz_cl C) (hW : ∀ r ∈ W, wz_wd ms C r) {mi : ev_MI} (hc : mi.1.cls = C) {j : Nat} (h1 : lw_tbl[j]? = some (Cond.code mi.1 mi.2.1 mi.2.2.1 mi.2.2.2.1)) {ks : List Nat} (h : wz_m ms W mi.1 mi.2.1 mi.2.2.1 mi.2.2.2.1 mi.2.2.2.2.2.2 ks = true) : ab_MK ms mi := by
  unfold wz_m at h
  rw [Bool.and_eq_true] at h
  obtain ⟨h2, h3⟩ := h
  subst hc
  have hr := wz_rows_ok hW (p0 := 0) rfl h3
  exact ⟨⟨hC.1, lw_good_at j h1 rfl, Nat.le_of_ble_eq_true h2, hC.2, fun q hq => (hr q hq).1⟩, fun q hq => (hr q hq).2⟩
theorem wz_C0 : wz_cl "BarberMinutes" := by unfold wz_cl; decide +kernel
theorem wz_C1 : wz_cl "BarberMinutes$Agenda" := by unfold wz_cl; decide +kernel
theorem wz_C2 : wz_cl "BarberMinutes$Chance" := by unfold wz_cl; decide +kernel
theorem wz_C3 : wz_cl "BarberMinutes$Minutes" := by unfold wz_cl; decide +kernel
theorem wz_C4 : wz_cl "BarberMinutes$Past" := by unfold wz_cl; decide +kernel
theorem wz_C5 : wz_cl "BarberMinutes$Reader" := by unfold wz_cl; decide +kernel
theorem wz_C6 : wz_cl "BarberMinutes$Sweepings" := by unfold wz_cl; decide +kernel
theorem wz_C7 : wz_cl "BarberMinutes$Tour" := by unfold wz_cl; decide +kernel
theorem wz_C8 : wz_cl "BarberMinutes$Town" := by unfold wz_cl; decide +kernel
theorem wz_C9 : wz_cl "BarberMinutesModel" := by unfold wz_cl; decide +kernel
theorem wz_C10 : wz_cl "java/lang/Integer" := by unfold wz_cl; decide +kernel
theorem wz_C11 : wz_cl "java/lang/String" := by unfold wz_cl; decide +kernel
theorem wz_C12 : wz_cl "java/lang/StringLatin1" := by unfold wz_cl; decide +kernel
theorem wz_C13 : wz_cl "jdk/internal/util/Preconditions" := by unfold wz_cl; decide +kernel
