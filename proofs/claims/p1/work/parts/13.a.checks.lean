/-! their checks -/
def ev_chk (ms : List ev_MI) (P : ev_P) (cc : ByteArray) (q : Nat × ev_Row) (ps : List Nat) : Bool := match ev_rowI ms P q.2 with
  | some (i, n, cs) => decide (decode cc q.1 = .ok (i, n)) && (decide (cs.map some = ps.map (fun j => lw_tbl[j]?)) && cs.all goodWord)
  | none => false
def ev_chkN (ms : List ev_MI) (P : ev_P) (q : Nat × ev_Row) (n : Nat) : Bool := if q.2.1 = 203 then (match ms[q.2.2.1.toNat]? with
  | some mi => decide (lw_tbl[n]? = some (Cond.methodLinkNest P.2.2.2.1 q.2.2.2.1.toNat mi.1 "BarberMinutes"))
  | none => true) else true
def ev_chkAll (ms : List ev_MI) (P : ev_P) (cc : ByteArray) : List (Nat × ev_Row) → List (List Nat × Nat) → Bool
  | [], [] => true
  | q :: rows, p :: ps => ev_chk ms P cc q p.1 && (ev_chkN ms P q p.2 && ev_chkAll ms P cc rows ps)
  | _, _ => false
theorem ev_chkAll_ok {ms : List ev_MI} {P : ev_P} {cc : ByteArray} : ∀ {rows : List (Nat × ev_Row)} {ps : List (List Nat × Nat)}, ev_chkAll ms P cc rows ps = true → ∀ q ∈ rows, ev_RowOK ms P cc q
  | [], [], _ => fun q hq => nomatch hq
  | [], _ :: _, h => by cases h
  | _ :: _, [], h => by cases h
  | q :: rows, p :: ps, h => by
    unfold ev_chkAll at h
    simp only [Bool.and_eq_true] at h
    obtain ⟨h1, h2, h3⟩ := h
    intro q' hq'
    rcases List.mem_cons.mp hq' with rfl | hq'
    · refine ⟨?_, fun h203 mi hmi => ?_⟩
      · unfold ev_chk at h1
        split at h1
        · rename_i i n cs hi
          simp only [Bool.and_eq_true, decide_eq_true_eq] at h1
          obtain ⟨a1, a2, a3⟩ := h1
          refine ⟨i, n, cs, hi, a1, fun w hw => ?_⟩
          have hg := List.all_eq_true.mp a3 w hw
          have hm : some w ∈ p.1.map (fun j => lw_tbl[j]?) := by rw [← a2]; exact List.mem_map.mpr ⟨w, hw, rfl⟩
          obtain ⟨j, -, hj⟩ := List.mem_map.mp hm
          exact lw_good_at j hj hg
        · cases h1
      · unfold ev_chkN at h2
        rw [if_pos h203, hmi] at h2
        have h2 := of_decide_eq_true h2
        exact List.mem_filter.mpr ⟨List.mem_of_getElem? h2, rfl⟩
    · exact ev_chkAll_ok h3 q' hq'
def ev_chkM (ms : List ev_MI) (mi : ev_MI) (j : Nat) (ps : List (List Nat × Nat)) : Bool :=
  plainName mi.1.cls && (decide (lw_tbl[j]? = some (Cond.code mi.1 mi.2.1 mi.2.2.1 mi.2.2.2.1)) && (decide (mi.2.2.1 ≤ 21) && (decide (mi.1.cls ≠ "java/lang/invoke/MethodHandle" ∧ mi.1.cls ≠ "java/lang/invoke/VarHandle") && ev_chkAll ms (mi.2.2.2.2.1, mi.2.2.2.2.2.1, decide (mi.1.name = "<init>"), mi.1.cls, mi.2.2.1, 0) mi.2.1 mi.2.2.2.2.2.2 ps)))
theorem ev_chkM_ok {ms : List ev_MI} {mi : ev_MI} {j : Nat} {ps : List (List Nat × Nat)} (h : ev_chkM ms mi j ps = true) : ev_MOK ms mi := by
  unfold ev_chkM at h
  simp only [Bool.and_eq_true, decide_eq_true_eq] at h
  obtain ⟨h1, h2, h3, h4, h5⟩ := h
  refine ⟨h1, lw_good_at j h2 ?_, h3, h4, ev_chkAll_ok h5⟩
  rfl
