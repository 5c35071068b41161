/-! CM: checks of rows -/
def cm_chk (ms : List ev_MI) (P : ev_P) (cc : ByteArray) (q : Nat × ev_Row) (ps : List Nat) : Bool := match cm_rowI ms P q.2 with
  | some (i, n, cs) => decide (decode cc q.1 = .ok (i, n)) && (decide (cs.map some = ps.map (fun j => lw_tbl[j]?)) && cs.all goodWord)
  | none => false
def cm_chkAll (ms : List ev_MI) (P : ev_P) (cc : ByteArray) : List (Nat × ev_Row) → List (List Nat) → Bool
  | [], [] => true
  | q :: rows, p :: ps => cm_chk ms P cc q p && cm_chkAll ms P cc rows ps
  | _, _ => false
theorem cm_chkAll_ok {ms : List ev_MI} {P : ev_P} {cc : ByteArray} : ∀ {rows : List (Nat × ev_Row)} {ps : List (List Nat)}, cm_chkAll ms P cc rows ps = true → ∀ q ∈ rows, cm_RowOK ms P cc q
  | [], [], _ => fun q hq => nomatch hq
  | [], _ :: _, h => by cases h
  | _ :: _, [], h => by cases h
  | q :: rows, p :: ps, h => by
    unfold cm_chkAll at h
    simp only [Bool.and_eq_true] at h
    obtain ⟨h1, h3⟩ := h
    intro q' hq'
    rcases List.mem_cons.mp hq' with rfl | hq'
    · unfold cm_chk at h1
      split at h1
      · rename_i i n cs hi
        simp only [Bool.and_eq_true, decide_eq_true_eq] at h1
        obtain ⟨a1, a2, a3⟩ := h1
        refine ⟨i, n, cs, hi, a1, fun w hw => ?_⟩
        have hg := List.all_eq_true.mp a3 w hw
        have hm : some w ∈ p.map (fun j => lw_tbl[j]?) := by rw [← a2]; exact List.mem_map.mpr ⟨w, hw, rfl⟩
        obtain ⟨j, -, hj⟩ := List.mem_map.mp hm
        exact lw_good_at j hj hg
      · cases h1
    · exact cm_chkAll_ok h3 q' hq'
def cm_chkM (ms : List ev_MI) (mi : ev_MI) (j : Nat) (ps : List (List Nat)) : Bool :=
  plainName mi.1.cls && (decide (lw_tbl[j]? = some (Cond.code mi.1 mi.2.1 mi.2.2.1 mi.2.2.2.1)) && (decide (mi.2.2.1 ≤ 21) && (decide (mi.1.cls ≠ "java/lang/invoke/MethodHandle" ∧ mi.1.cls ≠ "java/lang/invoke/VarHandle") && cm_chkAll ms (cm_P mi) mi.2.1 mi.2.2.2.2.2.2 ps)))
theorem cm_chkM_ok {ms : List ev_MI} {mi : ev_MI} {j : Nat} {ps : List (List Nat)} (h : cm_chkM ms mi j ps = true) : cm_MOK ms mi := by
  unfold cm_chkM at h
  simp only [Bool.and_eq_true, decide_eq_true_eq] at h
  obtain ⟨h1, h2, h3, h4, h5⟩ := h
  refine ⟨h1, lw_good_at j h2 ?_, h3, h4, cm_chkAll_ok h5⟩
  rfl
def ab_rc1 (ms : List ev_MI) (q : Nat × ev_Row) : Bool := if 200 ≤ q.2.1 ∧ q.2.1 < 210 then (match ms[q.2.2.1.toNat]? with
  | some mi => ev_nar1 mi.1 q.2.2.2.2.1.toNat && (if q.2.1 = 200 then (match q.2.2.2.2.2 with
    | [ci] => if ci = 99 then decide (mi.1.cls = "java/lang/String") else decide ((vwCl[ci.toNat]?).map (fun r => r.1) = some mi.1.cls)
    | _ => false) else true)
  | none => false) else true
theorem ab_rc1_ok {ms : List ev_MI} {q : Nat × ev_Row} (h : ab_rc1 ms q = true) : ab_RC ms q := by
  intro h1 h2
  unfold ab_rc1 at h
  rw [if_pos ⟨h1, h2⟩] at h
  split at h
  · rename_i mi hmi
    rw [Bool.and_eq_true] at h
    refine ⟨mi, hmi, h.1, fun h3 ci hci => ?_⟩
    have h4 := h.2
    rw [if_pos h3, hci] at h4
    dsimp only at h4
    split at h4
    · rename_i h99
      exact Or.inl ⟨h99, of_decide_eq_true h4⟩
    · rename_i h99
      exact Or.inr ⟨h99, of_decide_eq_true h4⟩
  · cases h
def ab_MK (ms : List ev_MI) (mi : ev_MI) : Prop := cm_MOK ms mi ∧ ∀ q ∈ mi.2.2.2.2.2.2, ab_RC ms q
theorem ab_MK_of {ms : List ev_MI} {mi : ev_MI} {j : Nat} {ps : List (List Nat)} (h : (cm_chkM ms mi j ps && mi.2.2.2.2.2.2.all (ab_rc1 ms)) = true) : ab_MK ms mi := by
  rw [Bool.and_eq_true] at h
  exact ⟨cm_chkM_ok h.1, fun q hq => ab_rc1_ok (List.all_eq_true.mp h.2 q hq)⟩
