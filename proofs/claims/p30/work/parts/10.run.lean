/-! THE RUN: rows of a method by their places, calls, ends -/
abbrev ev_Row : Type := Nat × ev_T
abbrev ev_MI : Type := MethodName × ByteArray × Nat × Option FieldType × Nat × Nat × List (Nat × ev_Row)
abbrev ev_Out : Type := Option ev_A × List ev_C × ev_K
def ev_ops : List ev_O := [ev_iconst, ev_bipush, ev_sipush, ev_lconst, ev_iload, ev_iloadn, ev_lload, ev_lloadn, ev_aload, ev_aloadn, ev_istore, ev_istoren, ev_lstore, ev_lstoren, ev_astore, ev_astoren,
  ev_iadd, ev_isub, ev_imul, ev_iand, ev_ior, ev_ixor, ev_ishl, ev_ishr, ev_iushr, ev_idiv, ev_irem, ev_ineg, ev_i2b, ev_i2l, ev_lcmp, ev_dup, ev_pop, ev_dup2, ev_iinc,
  ev_icmp_eq, ev_icmp_ne, ev_icmp_lt, ev_icmp_ge, ev_icmp_gt, ev_icmp_le, ev_if_eq, ev_if_ne, ev_if_lt, ev_if_ge, ev_if_gt, ev_if_le, ev_goto, ev_sw,
  ev_get, ev_put, ev_putF, ev_iaload, ev_baload, ev_laload, ev_aaload, ev_iastore, ev_bastore, ev_newI, ev_newB, ev_newJ, ev_newQ, ev_new, ev_aastore, ev_alen, ev_sald, ev_oinit, ev_mmin, ev_ldc, ev_ldcS, ev_getV, ev_getC, ev_gets, ev_alenS, ev_baloadS, ev_i2c, ev_ladd, ev_lsub, ev_lmul, ev_ldiv, ev_lrem, ev_ldc2, ev_getsF, ev_ldcw]
theorem ev_c1 {o : ev_O} {l : List ev_O} (h : ev_Snd o) (h2 : ∀ o ∈ l, ev_Snd o) : ∀ o' ∈ o :: l, ev_Snd o' := List.forall_mem_cons.mpr ⟨h, h2⟩
theorem ev_ops_ok : ∀ o ∈ ev_ops, ev_Snd o :=
  ev_c1 ev_iconst_ok (ev_c1 ev_bipush_ok (ev_c1 ev_sipush_ok (ev_c1 ev_lconst_ok (ev_c1 ev_iload_ok (ev_c1 ev_iloadn_ok (ev_c1 ev_lload_ok (ev_c1 ev_lloadn_ok (ev_c1 ev_aload_ok (ev_c1 ev_aloadn_ok (ev_c1 ev_istore_ok (ev_c1 ev_istoren_ok (ev_c1 ev_lstore_ok (ev_c1 ev_lstoren_ok (ev_c1 ev_astore_ok (ev_c1 ev_astoren_ok
  (ev_c1 ev_iadd_ok (ev_c1 ev_isub_ok (ev_c1 ev_imul_ok (ev_c1 ev_iand_ok (ev_c1 ev_ior_ok (ev_c1 ev_ixor_ok (ev_c1 ev_ishl_ok (ev_c1 ev_ishr_ok (ev_c1 ev_iushr_ok (ev_c1 ev_idiv_ok (ev_c1 ev_irem_ok (ev_c1 ev_ineg_ok (ev_c1 ev_i2b_ok (ev_c1 ev_i2l_ok (ev_c1 ev_lcmp_ok (ev_c1 ev_dup_ok (ev_c1 ev_pop_ok (ev_c1 ev_dup2_ok (ev_c1 ev_iinc_ok
  (ev_c1 ev_icmp_eq_ok (ev_c1 ev_icmp_ne_ok (ev_c1 ev_icmp_lt_ok (ev_c1 ev_icmp_ge_ok (ev_c1 ev_icmp_gt_ok (ev_c1 ev_icmp_le_ok (ev_c1 ev_if_eq_ok (ev_c1 ev_if_ne_ok (ev_c1 ev_if_lt_ok (ev_c1 ev_if_ge_ok (ev_c1 ev_if_gt_ok (ev_c1 ev_if_le_ok (ev_c1 ev_goto_ok (ev_c1 ev_sw_ok
  (ev_c1 ev_get_ok (ev_c1 ev_put_ok (ev_c1 ev_putF_ok (ev_c1 ev_iaload_ok (ev_c1 ev_baload_ok (ev_c1 ev_laload_ok (ev_c1 ev_aaload_ok (ev_c1 ev_iastore_ok (ev_c1 ev_bastore_ok (ev_c1 ev_newI_ok (ev_c1 ev_newB_ok (ev_c1 ev_newJ_ok (ev_c1 ev_newQ_ok (ev_c1 ev_new_ok (ev_c1 ev_aastore_ok (ev_c1 ev_alen_ok (ev_c1 ev_sald_ok (ev_c1 ev_oinit_ok (ev_c1 ev_mmin_ok (ev_c1 ev_ldc_ok (ev_c1 ev_ldcS_ok (ev_c1 ev_getV_ok (ev_c1 ev_getC_ok (ev_c1 ev_gets_ok (ev_c1 ev_alenS_ok (ev_c1 ev_baloadS_ok (ev_c1 ev_i2c_ok (ev_c1 ev_ladd_ok (ev_c1 ev_lsub_ok (ev_c1 ev_lmul_ok (ev_c1 ev_ldiv_ok (ev_c1 ev_lrem_ok (ev_c1 ev_ldc2_ok (ev_c1 ev_getsF_ok (ev_c1 ev_ldcw_ok (fun _ h => nomatch h))))))))))))))))))))))))))))))))))))))))))))))))))))))))))))))))))))))))))))))))))))
def ev_at {α : Type} : List (Nat × α) → Nat → Option α
  | [], _ => none
  | q :: l, i => cond (Nat.beq q.1 i) (some q.2) (ev_at l i)
theorem ev_at_mem {α : Type} : ∀ {l : List (Nat × α)} {i : Nat} {a : α}, ev_at l i = some a → (i, a) ∈ l
  | [], i, a, h => by cases h
  | q :: l, i, a, h => by
    unfold ev_at at h
    cases hq : Nat.beq q.1 i with
    | true =>
      rw [hq] at h
      have h : some q.2 = some a := h
      cases h
      rw [← Nat.eq_of_beq_eq_true hq]
      exact List.mem_cons_self
    | false =>
      rw [hq] at h
      exact List.mem_cons_of_mem _ (ev_at_mem h)
/-- what an instruction's row says: the instruction, its length, the words that it needs -/
def ev_rowI (ms : List ev_MI) (P : ev_P) (r : ev_Row) : Option (Instr × Nat × List Cond) :=
  match r.1 with
  | 200 => (match ms[r.2.1.toNat]? with
    | some mi => some (.invokevirtual r.2.2.1.toNat, 3, [.methodLink P.2.2.2.1 r.2.2.1.toNat mi.1, .instanceMethod mi.1, .selects mi.1.cls mi.1 mi.1, .initialized mi.1.cls])
    | none => none)
  | 201 => (match ms[r.2.1.toNat]? with
    | some mi => some (.invokestatic r.2.2.1.toNat, 3, [.methodLink P.2.2.2.1 r.2.2.1.toNat mi.1, .static mi.1, .initialized mi.1.cls])
    | none => none)
  | 202 => (match ms[r.2.1.toNat]? with
    | some mi => some (.invokespecial r.2.2.1.toNat, 3, [.methodLink P.2.2.2.1 r.2.2.1.toNat mi.1, .instanceMethod mi.1, .initialized mi.1.cls])
    | none => none)
  | 203 => (match ms[r.2.1.toNat]? with
    | some mi => some (.invokespecial r.2.2.1.toNat, 3, [.instanceMethod mi.1, .initialized mi.1.cls])
    | none => none)
  | 210 => some (.ireturn, 1, [])
  | 211 => some (.lreturn, 1, [])
  | 212 => some (.areturn, 1, [])
  | 213 => some (.return_, 1, [])
  | k => (match ev_ops[k]? with
    | some o => o.1 P r.2
    | none => none)
/-- a row is right: the instruction stands there, the tables have its words; a nest mate's private constructor by its link -/
def ev_RowOK (ms : List ev_MI) (P : ev_P) (cc : ByteArray) (q : Nat × ev_Row) : Prop :=
  (∃ i n cs, ev_rowI ms P q.2 = some (i, n, cs) ∧ decode cc q.1 = .ok (i, n) ∧ ∀ w ∈ cs, w ∈ lw_good) ∧ (q.2.1 = 203 → ∀ mi, ms[q.2.2.1.toNat]? = some mi → Cond.methodLinkNest P.2.2.2.1 q.2.2.2.1.toNat mi.1 "BarberMinutes" ∈ lw_nest)
/-- a method is right -/
def ev_MOK (ms : List ev_MI) (mi : ev_MI) : Prop :=
  plainName mi.1.cls = true ∧ Cond.code mi.1 mi.2.1 mi.2.2.1 mi.2.2.2.1 ∈ lw_good ∧ mi.2.2.1 ≤ 21 ∧ (mi.1.cls ≠ "java/lang/invoke/MethodHandle" ∧ mi.1.cls ≠ "java/lang/invoke/VarHandle") ∧
  ∀ q ∈ mi.2.2.2.2.2.2, ev_RowOK ms (mi.2.2.2.2.1, mi.2.2.2.2.2.1, decide (mi.1.name = "<init>"), mi.1.cls, mi.2.2.1, 0) mi.2.1 q
def ev_args : Nat → List ev_A → List (Nat × ev_A)
  | _, [] => []
  | i, a :: as => (i, a) :: ev_args (i + if ev_isL a = true then 2 else 1) as
def ev_all (f : ev_S → Option (List ev_S)) : List ev_S → Option (List ev_S)
  | [] => some []
  | S :: r => match f S with
    | some a => (match ev_all f r with
      | some b => some (a ++ b)
      | none => none)
    | none => none
theorem ev_all_ok {f : ev_S → Option (List ev_S)} : ∀ {Ss o : List ev_S}, ev_all f Ss = some o → ∀ S ∈ Ss, ∃ o', f S = some o' ∧ ∀ x ∈ o', x ∈ o
  | [], o, h => fun S hS => nomatch hS
  | S :: r, o, h => by
    unfold ev_all at h
    split at h
    · rename_i a ha
      split at h
      · rename_i b hb
        cases h
        intro S' hS'
        rcases List.mem_cons.mp hS' with rfl | hS'
        · exact ⟨a, ha, fun x hx => List.mem_append_left _ hx⟩
        · obtain ⟨o', h1, h2⟩ := ev_all_ok hb S' hS'
          exact ⟨o', h1, fun x hx => List.mem_append_right _ (h2 x hx)⟩
      · cases h
    · cases h
/-- how many words a call's descriptor takes: told by its row, held against the descriptor -/
def ev_nar1 (y : MethodName) (n : Nat) : Bool := decide ((parseMethodDescriptor y.desc).map (fun d => d.parameters.length) = some n)
/-- a call: what it takes off the stack -/
def ev_take (recv : Bool) (n : Nat) (st : List ev_A) : Option (List ev_A × List ev_A) :=
  if recv = true then (match st.drop n with
    | x :: rest => if (st.take n).length = n then some (x :: (st.take n).reverse, rest) else none
    | [] => none)
  else (if (st.take n).length = n then some ((st.take n).reverse, st.drop n) else none)
def ev_c5 (op : Nat) (as : List ev_A) (w : List ev_C) (cls : String) : Bool := if op = 200 then (match as with
    | x :: _ => if x.1 = 5 then (decide (x.2.toNat % 2 = 1) && (decide (x.2.toNat / 2 < 40) && decide (cls = "java/lang/String"))) else (match w[x.2.toNat]? with
      | some cl => decide (x.1 = 1) && decide ((vwCl[cl.1]?).map (fun q => q.1) = some cls)
      | none => false)
    | [] => false) else true
def ev_c6 (op : Nat) (as : List ev_A) (mi : ev_MI) : Bool := if op = 202 ∨ op = 203 then decide (mi.1.name = "<init>") && mi.2.2.2.1.isNone && (match as with
    | x :: _ => ev_isR x
    | [] => false) else true
def ev_inv (ms : List ev_MI) (call : Nat → List ev_A → List ev_C → ev_K → Option (List ev_Out)) (P : ev_P) (r : ev_Row) (S : ev_S) : Option (List ev_S) :=
  match ms[r.2.1.toNat]? with
  | some mi => (match ev_take (!(r.1 == 201)) r.2.2.2.1.toNat S.2.2.1 with
    | some (as, rest) =>
      if ev_cs rest ≤ 8 ∧ S.2.2.2.2.2.1 + mi.2.2.2.2.1 ≤ P.1 ∧ S.2.2.2.2.2.2 + mi.2.2.2.2.2.1 ≤ P.2.1 ∧ ev_nar1 mi.1 r.2.2.2.1.toNat = true
        ∧ ev_c5 r.1 as S.2.2.2.1 mi.1.cls = true ∧ ev_c6 r.1 as mi = true
      then (match call r.2.1.toNat as S.2.2.2.1 S.2.2.2.2.1 with
        | some outs => some (outs.map (fun o => (S.1 + 3, S.2.1, o.1.toList ++ rest, o.2.1, o.2.2, S.2.2.2.2.2.1 + mi.2.2.2.2.1, S.2.2.2.2.2.2 + mi.2.2.2.2.2.1)))
        | none => none)
      else none
    | none => none)
  | none => none
def ev_run (ms : List ev_MI) (call : Nat → List ev_A → List ev_C → ev_K → Option (List ev_Out)) (P : ev_P) (rows : List (Nat × ev_Row)) (stops : List Nat) : Nat → ev_S → Option (List ev_S)
  | 0, _ => none
  | n + 1, S =>
    if stops.contains S.1 = true then some [S] else
    match ev_at rows S.1 with
    | none => none
    | some r =>
      if 210 ≤ r.1 then some [S]
      else if 200 ≤ r.1 then (match ev_inv ms call P r S with
        | some Ss => ev_all (ev_run ms call P rows stops n) Ss
        | none => none)
      else (match ev_ops[r.1]? with
        | some o => (match o.2 P r.2 S with
          | some Ss => ev_all (ev_run ms call P rows stops n) Ss
          | none => none)
        | none => none)
/-- a method's end: what it answers -/
def ev_end (ret : Option FieldType) (mc ms : Nat) (rows : List (Nat × ev_Row)) (S : ev_S) : Option ev_Out :=
  if S.2.2.2.2.2.1 ≤ mc ∧ S.2.2.2.2.2.2 ≤ ms then
    match ev_at rows S.1 with
    | none => none
    | some r => match r.1, ret, S.2.2.1 with
      | 210, some ty, [a] => if ev_isI a = true ∧ ev_fit ty a = true then some (some a, S.2.2.2.1, S.2.2.2.2.1) else none
      | 211, some .long, [a] => if ev_isL a = true then some (some a, S.2.2.2.1, S.2.2.2.2.1) else none
      | 212, some (.object _), [a] => if (a.1 == 1 || a.1 == 2 || a.1 == 5) = true then some (some a, S.2.2.2.1, S.2.2.2.2.1) else none
      | 213, none, [] => some (none, S.2.2.2.1, S.2.2.2.2.1)
      | _, _, _ => none
  else none
def ev_ends (ret : Option FieldType) (mc ms : Nat) (rows : List (Nat × ev_Row)) : List ev_S → Option (List ev_Out)
  | [] => some []
  | S :: r => match ev_end ret mc ms rows S with
    | some a => (match ev_ends ret mc ms rows r with
      | some b => some (a :: b)
      | none => none)
    | none => none
theorem ev_ends_ok {ret : Option FieldType} {mc ms : Nat} {rows : List (Nat × ev_Row)} : ∀ {Ss : List ev_S} {o : List ev_Out}, ev_ends ret mc ms rows Ss = some o → ∀ S ∈ Ss, ∃ x, ev_end ret mc ms rows S = some x ∧ x ∈ o
  | [], o, h => fun S hS => nomatch hS
  | S :: r, o, h => by
    unfold ev_ends at h
    split at h
    · rename_i a ha
      split at h
      · rename_i b hb
        cases h
        intro S' hS'
        rcases List.mem_cons.mp hS' with rfl | hS'
        · exact ⟨a, ha, List.mem_cons_self⟩
        · obtain ⟨x, h1, h2⟩ := ev_ends_ok hb S' hS'
          exact ⟨x, h1, List.mem_cons_of_mem _ h2⟩
      · cases h
    · cases h
def ev_exec (ms : List ev_MI) : Nat → Nat → List ev_A → List ev_C → ev_K → Option (List ev_Out)
  | 0, _, _, _, _ => none
  | d + 1, k, as, w, K => match ms[k]? with
    | none => none
    | some mi => if ev_cs as ≤ mi.2.2.1 then (match ev_run ms (ev_exec ms d) (mi.2.2.2.2.1, mi.2.2.2.2.2.1, decide (mi.1.name = "<init>"), mi.1.cls, mi.2.2.1, 0) mi.2.2.2.2.2.2 [] 20000 (0, ev_args 0 as, [], w, K, 0, 0) with
      | some fs => ev_ends mi.2.2.2.1 mi.2.2.2.2.1 mi.2.2.2.2.2.1 mi.2.2.2.2.2.2 fs
      | none => none) else none
