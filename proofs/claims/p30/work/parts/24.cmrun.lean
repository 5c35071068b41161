/-! CM: runs -/
def cm_no : cm_O := (fun _ _ => none, fun _ _ _ _ _ => False)
theorem cm_no_ok : cm_Snd cm_no := fun p l e R s m args below meth c cc Q D A adr ce sl E P t S i n cs X h1 => by cases h1
def cm_ops : List cm_O := [cm_iconst, cm_bipush, cm_sipush, cm_lconst, cm_iload, cm_iloadn, cm_lload, cm_lloadn, cm_aload, cm_aloadn, cm_istore, cm_istoren, cm_lstore, cm_lstoren, cm_astore, cm_astoren, cm_iadd, cm_isub, cm_imul, cm_iand, cm_ior, cm_ixor, cm_ishl, cm_ishr, cm_iushr, cm_idiv, cm_irem, cm_ineg, cm_i2b, cm_i2l, cm_lcmp, cm_dup, cm_pop, cm_dup2, cm_iinc, cm_icmp_eq, cm_icmp_ne, cm_icmp_lt, cm_icmp_ge, cm_icmp_gt, cm_icmp_le, cm_if_eq, cm_if_ne, cm_if_lt, cm_if_ge, cm_if_gt, cm_if_le, cm_goto, cm_sw, cm_get, cm_put, cm_no, cm_iaload, cm_baload, cm_laload, cm_aaload, cm_iastore, cm_bastore, cm_no, cm_no, cm_no, cm_no, cm_no, cm_no, cm_alen, cm_sald, cm_no, cm_mmin, cm_ldc, cm_ldcS, cm_getV, cm_getC, cm_gets, cm_alenS, cm_baloadS, cm_i2c, cm_ladd, cm_lsub, cm_lmul, cm_ldiv, cm_lrem, cm_ldc2, cm_getsF, cm_ldcw, cm_mmax, cm_mabs, cm_copyi, cm_getT, cm_tald, cm_alenT, cm_lastore, cm_pop2]
theorem cm_c1 {o : cm_O} {l : List cm_O} (h : cm_Snd o) (h2 : ∀ o ∈ l, cm_Snd o) : ∀ o' ∈ o :: l, cm_Snd o' := List.forall_mem_cons.mpr ⟨h, h2⟩
theorem cm_ops_ok : ∀ o ∈ cm_ops, cm_Snd o := cm_c1 cm_iconst_ok (cm_c1 cm_bipush_ok (cm_c1 cm_sipush_ok (cm_c1 cm_lconst_ok (cm_c1 cm_iload_ok (cm_c1 cm_iloadn_ok (cm_c1 cm_lload_ok (cm_c1 cm_lloadn_ok (cm_c1 cm_aload_ok (cm_c1 cm_aloadn_ok (cm_c1 cm_istore_ok (cm_c1 cm_istoren_ok (cm_c1 cm_lstore_ok (cm_c1 cm_lstoren_ok (cm_c1 cm_astore_ok (cm_c1 cm_astoren_ok (cm_c1 cm_iadd_ok (cm_c1 cm_isub_ok (cm_c1 cm_imul_ok (cm_c1 cm_iand_ok (cm_c1 cm_ior_ok (cm_c1 cm_ixor_ok (cm_c1 cm_ishl_ok (cm_c1 cm_ishr_ok (cm_c1 cm_iushr_ok (cm_c1 cm_idiv_ok (cm_c1 cm_irem_ok (cm_c1 cm_ineg_ok (cm_c1 cm_i2b_ok (cm_c1 cm_i2l_ok (cm_c1 cm_lcmp_ok (cm_c1 cm_dup_ok (cm_c1 cm_pop_ok (cm_c1 cm_dup2_ok (cm_c1 cm_iinc_ok (cm_c1 cm_icmp_eq_ok (cm_c1 cm_icmp_ne_ok (cm_c1 cm_icmp_lt_ok (cm_c1 cm_icmp_ge_ok (cm_c1 cm_icmp_gt_ok (cm_c1 cm_icmp_le_ok (cm_c1 cm_if_eq_ok (cm_c1 cm_if_ne_ok (cm_c1 cm_if_lt_ok (cm_c1 cm_if_ge_ok (cm_c1 cm_if_gt_ok (cm_c1 cm_if_le_ok (cm_c1 cm_goto_ok (cm_c1 cm_sw_ok (cm_c1 cm_get_ok (cm_c1 cm_put_ok (cm_c1 cm_no_ok (cm_c1 cm_iaload_ok (cm_c1 cm_baload_ok (cm_c1 cm_laload_ok (cm_c1 cm_aaload_ok (cm_c1 cm_iastore_ok (cm_c1 cm_bastore_ok (cm_c1 cm_no_ok (cm_c1 cm_no_ok (cm_c1 cm_no_ok (cm_c1 cm_no_ok (cm_c1 cm_no_ok (cm_c1 cm_no_ok (cm_c1 cm_alen_ok (cm_c1 cm_sald_ok (cm_c1 cm_no_ok (cm_c1 cm_mmin_ok (cm_c1 cm_ldc_ok (cm_c1 cm_ldcS_ok (cm_c1 cm_getV_ok (cm_c1 cm_getC_ok (cm_c1 cm_gets_ok (cm_c1 cm_alenS_ok (cm_c1 cm_baloadS_ok (cm_c1 cm_i2c_ok (cm_c1 cm_ladd_ok (cm_c1 cm_lsub_ok (cm_c1 cm_lmul_ok (cm_c1 cm_ldiv_ok (cm_c1 cm_lrem_ok (cm_c1 cm_ldc2_ok (cm_c1 cm_getsF_ok (cm_c1 cm_ldcw_ok (cm_c1 cm_mmax_ok (cm_c1 cm_mabs_ok (cm_c1 cm_copyi_ok (cm_c1 cm_getT_ok (cm_c1 cm_tald_ok (cm_c1 cm_alenT_ok (cm_c1 cm_lastore_ok (cm_c1 cm_pop2_ok (fun _ h => absurd h List.not_mem_nil))))))))))))))))))))))))))))))))))))))))))))))))))))))))))))))))))))))))))))))))))))))))))))
/-- what an instruction's row says -/
def cm_rowI (ms : List ev_MI) (P : ev_P) (r : ev_Row) : Option (Instr × Nat × List Cond) :=
  match r.1 with
  | 200 => (match ms[r.2.1.toNat]? with
    | some mi => some (.invokevirtual r.2.2.1.toNat, 3, [.methodLink P.2.2.2.1 r.2.2.1.toNat mi.1, .instanceMethod mi.1, .selects mi.1.cls mi.1 mi.1, .initialized mi.1.cls])
    | none => none)
  | 201 => (match ms[r.2.1.toNat]? with
    | some mi => some (.invokestatic r.2.2.1.toNat, 3, [.methodLink P.2.2.2.1 r.2.2.1.toNat mi.1, .static mi.1, .initialized mi.1.cls])
    | none => none)
  | 210 => some (.ireturn, 1, [])
  | 211 => some (.lreturn, 1, [])
  | 212 => some (.areturn, 1, [])
  | 213 => some (.return_, 1, [])
  | k => (match cm_ops[k]? with
    | some o => o.1 P r.2
    | none => none)
def cm_RowOK (ms : List ev_MI) (P : ev_P) (cc : ByteArray) (q : Nat × ev_Row) : Prop := ∃ i n cs, cm_rowI ms P q.2 = some (i, n, cs) ∧ decode cc q.1 = .ok (i, n) ∧ ∀ w ∈ cs, w ∈ lw_good
def cm_P (mi : ev_MI) : ev_P := (0, 0, false, mi.1.cls, mi.2.2.1, 0)
/-- a method is right: its code, its rows -/
def cm_MOK (ms : List ev_MI) (mi : ev_MI) : Prop :=
  plainName mi.1.cls = true ∧ Cond.code mi.1 mi.2.1 mi.2.2.1 mi.2.2.2.1 ∈ lw_good ∧ mi.2.2.1 ≤ 21 ∧ (mi.1.cls ≠ "java/lang/invoke/MethodHandle" ∧ mi.1.cls ≠ "java/lang/invoke/VarHandle") ∧ ∀ q ∈ mi.2.2.2.2.2.2, cm_RowOK ms (cm_P mi) mi.2.1 q
def cm_args : Nat → List Value → List (Nat × Value)
  | _, [] => []
  | i, a :: as => (i, a) :: cm_args (i + a.category) as
def cm_take (recv : Bool) (n : Nat) (st : List Value) : Option (List Value × List Value) :=
  if recv = true then (match st.drop n with
    | x :: rest => if (st.take n).length = n then some (x :: (st.take n).reverse, rest) else none
    | [] => none)
  else (if (st.take n).length = n then some ((st.take n).reverse, st.drop n) else none)
/-- the receiver is of the class -/
def cm_recv (cls : String) : List Value → Prop
  | .ref c :: _ => (1001 ≤ c ∧ c < 1081 ∧ c % 2 = 1 ∧ cls = "java/lang/String") ∨ (vwCl[(cm_kind c).1]?).map (fun q => q.1) = some cls
  | _ => False
abbrev cm_K : Type := Option Value → cm_M → Prop
/-- calls: method, arguments, memory, what is wanted of its answer and of the memory behind it -/
abbrev cm_C : Type := Nat → List Value → cm_M → cm_K → Prop
def cm_inv (ms : List ev_MI) (C : cm_C) (r : ev_Row) (S : cm_S) (k : cm_S → Prop) : Prop :=
  match ms[r.2.1.toNat]? with
  | some mi => (match cm_take (!(r.1 == 201)) r.2.2.2.1.toNat S.2.2.1 with
    | some (as, rest) => cm_cs rest ≤ 8 ∧ ev_nar1 mi.1 r.2.2.2.1.toNat = true ∧ (r.1 = 200 → cm_recv mi.1.cls as) ∧ C r.2.1.toNat as S.2.2.2 (fun v M' => k (S.1 + 3, S.2.1, v.toList ++ rest, M'))
    | none => False)
  | none => False
/-- stops, with the locals that are told there -/
def cm_pick (L : List (Nat × Value)) : List Nat → Option (List (Nat × Value))
  | [] => some []
  | i :: r => match cm_look L i, cm_pick L r with
    | some v, some l => some ((i, v) :: l)
    | _, _ => none
def cm_stop (stops : List (Nat × List Nat)) (J : cm_S → Prop) (k : cm_S → Prop) (S : cm_S) : Prop := match ev_at stops S.1 with
  | none => k S
  | some live => (match cm_pick S.2.1 live with
    | some L => J (S.1, L, S.2.2)
    | none => False)
/-- what must hold for a run to be good: Z at an instruction that returns, J at a stop -/
def cm_wp (ms : List ev_MI) (C : cm_C) (E : cm_E) (P : ev_P) (rows : List (Nat × ev_Row)) (stops : List (Nat × List Nat)) (J : cm_S → Prop) (Z : Nat → cm_S → Prop) : Nat → cm_S → Prop
  | 0, _ => False
  | n + 1, S => match ev_at rows S.1 with
    | none => False
    | some r =>
      if 210 ≤ r.1 then Z r.1 S
      else if 200 ≤ r.1 then cm_inv ms C r S (cm_stop stops J (cm_wp ms C E P rows stops J Z n))
      else (match cm_ops[r.1]? with
        | some o => o.2 E P r.2 S (cm_stop stops J (cm_wp ms C E P rows stops J Z n))
        | none => False)
/-- a method's end: its answer -/
def cm_ret (ret : Option FieldType) (Post : cm_K) (op : Nat) (S : cm_S) : Prop := match op, ret, S.2.2.1 with
  | 210, some .int, [.int x] => Post (some (.int x)) S.2.2.2
  | 210, some .boolean, [.int x] => (x = 0 ∨ x = 1) ∧ Post (some (.int x)) S.2.2.2
  | 210, some .char, [.int x] => 0 ≤ x.toInt ∧ x.toInt < 65536 ∧ Post (some (.int x)) S.2.2.2
  | 210, some .byte, [.int x] => x = 0 ∧ Post (some (.int x)) S.2.2.2
  | 211, some .long, [.long x] => Post (some (.long x)) S.2.2.2
  | 212, some (.object _), [.ref x] => Post (some (.ref x)) S.2.2.2
  | 213, none, [] => Post none S.2.2.2
  | _, _, _ => False
def cm_rm (d : Nat) : Room := { frames := d + 1, cells := 0, slots := 0, locals := 40 * (d + 1) }
def cm_Q (D : va_G) (adr : Nat → Nat) (A : Nat → Prop) (Post : cm_K) : Array Value → State → Outcome → State → Prop := fun _ st oc t =>
  (∃ (v : Option Value) (M' : cm_M) (ws' : va_W), Post v M' ∧ oc = .returned (v.map (cm_v adr)) ∧ va_P D vwCl ws' t.heap ∧ va_D A ws' ∧ cm_w t adr M' ws') ∧ va_F A st t
def cm_Pb (D : va_G) (adr : Nat → Nat) (ws : va_W) (sz : Nat) (M : cm_M) (U : State) : Prop := U.heap.size = sz ∧ va_P D vwCl ws U.heap ∧ va_K D vwCl [] U ∧ va_D (fun _ => True) ws ∧ cm_w U adr M ws ∧ cm_N adr (va_A ws sz) U U.heap
def cm_Met (l : Launch) (mi : ev_MI) (d : Nat) (D : va_G) (adr : Nat → Nat) (ws : va_W) (sz : Nat) (as : List Value) (M : cm_M) (Post : cm_K) : Prop :=
  Met l mi.1 (Cond.code mi.1 mi.2.1 mi.2.2.1 mi.2.2.2.1 :: lw_good) (cm_rm d) (va_Pc (as.map (cm_v adr)) (cm_Pb D adr ws sz M)) (cm_Q D adr (va_A ws sz) Post) 0 0 (va_A ws sz)
/-- a call is good, at a depth -/
def cm_Call0 (ms : List ev_MI) (d : Nat) : cm_C := fun k as M Post => ∃ mi d' P0, ms[k]? = some mi ∧ d' + 1 ≤ d ∧ (∀ v M', P0 v M' → Post v M') ∧ ∀ (l : Launch) (D : va_G) (adr : Nat → Nat) (ws : va_W) (sz : Nat), cm_Met l mi d' D adr ws sz as M P0
theorem cm_Call_up0 {ms : List ev_MI} {d e k : Nat} {as : List Value} {M : cm_M} {Post Post' : cm_K} (h : cm_Call0 ms d k as M Post) (hd : d ≤ e) (hp : ∀ v M', Post v M' → Post' v M') : cm_Call0 ms e k as M Post' := by
  obtain ⟨mi, d', P0, h1, h2, h3, h4⟩ := h
  exact ⟨mi, d', P0, h1, by omega, fun v M' q => hp v M' (h3 v M' q), h4⟩
theorem cm_Q_im {D : va_G} {adr : Nat → Nat} {A : Nat → Prop} {P1 P2 : cm_K} (h : ∀ v M, P1 v M → P2 v M) {a : Array Value} {s : State} {o : Outcome} {t : State} (hq : cm_Q D adr A P1 a s o t) : cm_Q D adr A P2 a s o t := by
  obtain ⟨⟨v, M', ws', p1, p2⟩, p3⟩ := hq
  exact ⟨⟨v, M', ws', h _ _ p1, p2⟩, p3⟩
