/-! instructions by their bytes -/
/-! places in the printed lists -/
theorem lg_a {A B : List Cond} {n j : Nat} {c : Cond} (hA : A.length = n) (h : B[j]? = some c) : (A ++ B)[n + j]? = some c := by
  subst hA
  rw [List.getElem?_append_right (Nat.le_add_right _ _), Nat.add_sub_cancel_left]
  exact h
theorem lg_b {A B : List Cond} {j : Nat} {c : Cond} (h : A[j]? = some c) : (A ++ B)[j]? = some c := by
  have := (List.getElem?_eq_some_iff.mp h).1
  rw [List.getElem?_append_left this]
  exact h
theorem lg_0 : (k2_sels lw_privs).length = 115 := by decide +kernel
theorem lg_1 : tables_1_1.length = 240 := by decide +kernel
theorem lg_2 : tables_1_2.length = 240 := by decide +kernel
theorem lg_3 : tables_1_3.length = 240 := by decide +kernel
theorem lg_4 : tables_1_4.length = 240 := by decide +kernel
theorem lg_5 : tables_1_5.length = 240 := by decide +kernel
theorem lg_6 : tables_1_6.length = 240 := by decide +kernel
theorem lg_7 : tables_1_7.length = 240 := by decide +kernel
theorem lw_in_1 {p : Nat} {c : Cond} (h : tables_1_1[p]? = some c) : lw_tbl[115 + p]? = some c := lg_a lg_0 (lg_b h)
theorem lw_in_2 {p : Nat} {c : Cond} (h : tables_1_2[p]? = some c) : lw_tbl[115 + (240 + p)]? = some c := lg_a lg_0 (lg_a lg_1 (lg_b h))
theorem lw_in_3 {p : Nat} {c : Cond} (h : tables_1_3[p]? = some c) : lw_tbl[115 + (240 + (240 + p))]? = some c := lg_a lg_0 (lg_a lg_1 (lg_a lg_2 (lg_b h)))
theorem lw_in_4 {p : Nat} {c : Cond} (h : tables_1_4[p]? = some c) : lw_tbl[115 + (240 + (240 + (240 + p)))]? = some c := lg_a lg_0 (lg_a lg_1 (lg_a lg_2 (lg_a lg_3 (lg_b h))))
theorem lw_in_5 {p : Nat} {c : Cond} (h : tables_1_5[p]? = some c) : lw_tbl[115 + (240 + (240 + (240 + (240 + p))))]? = some c := lg_a lg_0 (lg_a lg_1 (lg_a lg_2 (lg_a lg_3 (lg_a lg_4 (lg_b h)))))
theorem lw_in_6 {p : Nat} {c : Cond} (h : tables_1_6[p]? = some c) : lw_tbl[115 + (240 + (240 + (240 + (240 + (240 + p)))))]? = some c := lg_a lg_0 (lg_a lg_1 (lg_a lg_2 (lg_a lg_3 (lg_a lg_4 (lg_a lg_5 (lg_b h))))))
theorem lw_in_7 {p : Nat} {c : Cond} (h : tables_1_7[p]? = some c) : lw_tbl[115 + (240 + (240 + (240 + (240 + (240 + (240 + p))))))]? = some c := lg_a lg_0 (lg_a lg_1 (lg_a lg_2 (lg_a lg_3 (lg_a lg_4 (lg_a lg_5 (lg_a lg_6 (lg_b h)))))))
theorem lw_in_8 {p : Nat} {c : Cond} (h : tables_1_8[p]? = some c) : lw_tbl[115 + (240 + (240 + (240 + (240 + (240 + (240 + (240 + p)))))))]? = some c := lg_a lg_0 (lg_a lg_1 (lg_a lg_2 (lg_a lg_3 (lg_a lg_4 (lg_a lg_5 (lg_a lg_6 (lg_a lg_7 (h))))))))
def oc_0 : List cm_O := [cm_iconst, cm_bipush, cm_sipush, cm_lconst, cm_iload, cm_iloadn]
def oc_1 : List cm_O := [cm_lload, cm_lloadn, cm_aload, cm_aloadn, cm_istore, cm_istoren]
def oc_2 : List cm_O := [cm_lstore, cm_lstoren, cm_astore, cm_astoren, cm_iadd, cm_isub]
def oc_3 : List cm_O := [cm_imul, cm_iand, cm_ior, cm_ixor, cm_ishl, cm_ishr]
def oc_4 : List cm_O := [cm_iushr, cm_idiv, cm_irem, cm_ineg, cm_i2b, cm_i2l]
def oc_5 : List cm_O := [cm_lcmp, cm_dup, cm_pop, cm_dup2, cm_iinc, cm_icmp_eq]
def oc_6 : List cm_O := [cm_icmp_ne, cm_icmp_lt, cm_icmp_ge, cm_icmp_gt, cm_icmp_le, cm_if_eq]
def oc_7 : List cm_O := [cm_if_ne, cm_if_lt, cm_if_ge, cm_if_gt, cm_if_le, cm_goto]
def oc_8 : List cm_O := [cm_sw, cm_get, cm_put, cm_no, cm_iaload, cm_baload]
def oc_9 : List cm_O := [cm_laload, cm_aaload, cm_iastore, cm_bastore, cm_no, cm_no]
def oc_10 : List cm_O := [cm_no, cm_no, cm_no, cm_no, cm_alen, cm_sald]
def oc_11 : List cm_O := [cm_no, cm_mmin, cm_ldc, cm_ldcS, cm_getV, cm_getC]
def oc_12 : List cm_O := [cm_gets, cm_alenS, cm_baloadS, cm_i2c, cm_ladd, cm_lsub]
def oc_13 : List cm_O := [cm_lmul, cm_ldiv, cm_lrem, cm_ldc2, cm_getsF, cm_ldcw]
def oc_14 : List cm_O := [cm_mmax, cm_mabs, cm_copyi, cm_getT, cm_tald, cm_alenT]
def oc_15 : List cm_O := [cm_lastore, cm_pop2]
theorem ac_at {α : Type} {A B : List α} {N k : Nat} {x y : Option α} (h : A.length = N) (hb : y = B[k - N]?) (ha : x = A[k]?) : cond (Nat.ble N k) y x = (A ++ B)[k]? := by
  subst h
  cases hk : Nat.ble A.length k with
  | true => exact hb.trans (List.getElem?_append_right (Nat.le_of_ble_eq_true hk)).symm
  | false =>
    have hlt : k < A.length := Nat.lt_of_not_le (fun z => by
      have := Nat.ble_eq_true_of_le z
      rw [hk] at this
      cases this)
    exact ha.trans (List.getElem?_append_left hlt).symm
def cm_opF (k : Nat) : Option cm_O := cond (Nat.ble 48 k) (cond (Nat.ble 24 (k - 48)) (cond (Nat.ble 12 ((k - 48) - 24)) (cond (Nat.ble 6 (((k - 48) - 24) - 12)) (oc_15[(((k - 48) - 24) - 12) - 6]?) (oc_14[((k - 48) - 24) - 12]?)) (cond (Nat.ble 6 ((k - 48) - 24)) (oc_13[((k - 48) - 24) - 6]?) (oc_12[(k - 48) - 24]?))) (cond (Nat.ble 12 (k - 48)) (cond (Nat.ble 6 ((k - 48) - 12)) (oc_11[((k - 48) - 12) - 6]?) (oc_10[(k - 48) - 12]?)) (cond (Nat.ble 6 (k - 48)) (oc_9[(k - 48) - 6]?) (oc_8[k - 48]?)))) (cond (Nat.ble 24 k) (cond (Nat.ble 12 (k - 24)) (cond (Nat.ble 6 ((k - 24) - 12)) (oc_7[((k - 24) - 12) - 6]?) (oc_6[(k - 24) - 12]?)) (cond (Nat.ble 6 (k - 24)) (oc_5[(k - 24) - 6]?) (oc_4[k - 24]?))) (cond (Nat.ble 12 k) (cond (Nat.ble 6 (k - 12)) (oc_3[(k - 12) - 6]?) (oc_2[k - 12]?)) (cond (Nat.ble 6 k) (oc_1[k - 6]?) (oc_0[k]?))))
theorem cm_opF_eq (k : Nat) : cm_opF k = cm_ops[k]? := by
  have e : cm_ops = (((oc_0 ++ oc_1) ++ (oc_2 ++ oc_3)) ++ ((oc_4 ++ oc_5) ++ (oc_6 ++ oc_7))) ++ (((oc_8 ++ oc_9) ++ (oc_10 ++ oc_11)) ++ ((oc_12 ++ oc_13) ++ (oc_14 ++ oc_15))) := rfl
  rw [e]
  unfold cm_opF
  exact ac_at rfl (ac_at rfl (ac_at rfl (ac_at rfl rfl rfl) (ac_at rfl rfl rfl)) (ac_at rfl (ac_at rfl rfl rfl) (ac_at rfl rfl rfl))) (ac_at rfl (ac_at rfl (ac_at rfl rfl rfl) (ac_at rfl rfl rfl)) (ac_at rfl (ac_at rfl rfl rfl) (ac_at rfl rfl rfl)))
def cm_rowF (ms : List ev_MI) (P : ev_P) (r : ev_Row) : Option (Instr × Nat × List Cond) :=
  match r.1 with
  | 200 => (match ms[r.2.1.toNat]? with
    | some mi => some (.invokevirtual r.2.2.1.toNat, 3, [.methodLink P.2.2.2.1 r.2.2.1.toNat mi.1, .instanceMethod mi.1, .selects mi.1.cls mi.1 mi.1, .initialized mi.1.cls])
    | none => none)
  | 201 => (match ms[r.2.1.toNat]? with
    | some mi => some (.invokestatic r.2.2.1.toNat, 3, [.methodLink P.2.2.2.1 r.2.2.1.toNat mi.1, .static mi.1, .initialized mi.1.cls])
    | none => none)
  | 210 => some (.ireturn, 1, [])
  | 211 => some (.lreturn, 1, [])
  | 212 => some (.areturn, 1, [])
  | 213 => some (.return_, 1, [])
  | k => (match cm_opF k with
    | some o => o.1 P r.2
    | none => none)
theorem cm_rowF_eq (ms : List ev_MI) (P : ev_P) (r : ev_Row) : cm_rowF ms P r = cm_rowI ms P r := by
  have e : cm_opF = fun k => cm_ops[k]? := funext cm_opF_eq
  unfold cm_rowF
  rw [e]
  rfl
theorem fd_bind {α β : Type} {r : Decoder α} {f : α → Decoder β} {cc : ByteArray} {p p' : Nat} {x : α} (h : r cc p = .ok (x, p')) : (r >>= f) cc p = f x cc p' := by
  have e : (r >>= f) cc p = Except.bind (r cc p) (fun q => match q with | (a, s) => f a cc s) := rfl
  rw [e, h]
  rfl
theorem fd_map {α β : Type} {r : Decoder α} {f : α → β} {cc : ByteArray} {p p' : Nat} {x : α} (h : r cc p = .ok (x, p')) : (f <$> r) cc p = .ok (f x, p') := by
  have e : (f <$> r) cc p = Except.bind (r cc p) (fun q => match q with | (a, s) => Except.ok (f a, s)) := rfl
  rw [e, h]
  rfl
theorem fd_u1 {cc : ByteArray} {p : Nat} {b : UInt8} {l : List UInt8} (h : cc.data.toList.drop p = b :: l) : (Reader.u1 : Decoder Nat) cc p = .ok (b.toNat, p + 1) ∧ cc.data.toList.drop (p + 1) = l := by
  have hlt : p < cc.data.toList.length := by
    have e := congrArg List.length h
    rw [List.length_drop, List.length_cons] at e
    omega
  have hs : p < cc.size := hlt
  have g : cc.data.toList[p]'hlt = b := by
    have q : (cc.data.toList.drop p)[0]? = some b := by rw [h]; rfl
    rw [List.getElem?_drop, Nat.add_zero, List.getElem?_eq_getElem hlt] at q
    exact Option.some.inj q
  refine ⟨?_, ?_⟩
  · have e : (Reader.u1 : Decoder Nat) cc p = (dite (p < cc.size) (fun h => (do set (p + 1); pure (cc[p]'h).toNat : Decoder Nat)) (fun _ => throw (HasTruncated.truncated p))) cc p := rfl
    rw [e, dif_pos hs]
    show Except.ok ((cc.data.toList[p]'hlt).toNat, p + 1) = _
    rw [g]
  · have q : (cc.data.toList.drop p).drop 1 = l := by rw [h]; rfl
    rw [List.drop_drop] at q
    exact q
theorem fd_u2 {cc : ByteArray} {p : Nat} {a b : UInt8} {l : List UInt8} (h : cc.data.toList.drop p = a :: b :: l) : (Reader.u2 : Decoder Nat) cc p = .ok (a.toNat * 256 + b.toNat, p + 2) := by
  have h1 := fd_u1 h
  have h2 := fd_u1 h1.2
  unfold Reader.u2
  refine Eq.trans (fd_bind h1.1) ?_
  refine Eq.trans (fd_bind h2.1) ?_
  rfl
theorem fd_dec {cc : ByteArray} {p n : Nat} {i : Instr} (h : (Decoder.instr p) cc p = .ok (i, p + n)) : decode cc p = .ok (i, n) := by
  have e : decode cc p = Except.bind ((Decoder.instr p) cc p) (fun q => match q with | (a, s) => Except.ok (a, s - p)) := rfl
  rw [e, h]
  show Except.ok (i, p + n - p) = _
  rw [Nat.add_sub_cancel_left]
def fd_1 (op n : Nat) : List UInt8 → Bool
  | a :: _ => Nat.beq a.toNat op && Nat.beq n 1
  | _ => false
def fd_2 (op : Nat) (f : Nat → Bool) (n : Nat) : List UInt8 → Bool
  | a :: b :: _ => Nat.beq a.toNat op && (Nat.beq n 2 && f b.toNat)
  | _ => false
def fd_3 (op : Nat) (f : Nat → Bool) (n : Nat) : List UInt8 → Bool
  | a :: b :: c :: _ => Nat.beq a.toNat op && (Nat.beq n 3 && f (b.toNat * 256 + c.toNat))
  | _ => false
theorem fd_1_ok {cc : ByteArray} {p op n : Nat} (h : fd_1 op n (cc.data.toList.drop p) = true) : (Reader.u1 : Decoder Nat) cc p = .ok (op, p + 1) ∧ n = 1 := by
  unfold fd_1 at h
  split at h
  · rename_i a l hl
    rw [Bool.and_eq_true] at h
    rw [← Nat.eq_of_beq_eq_true h.1]
    exact ⟨(fd_u1 hl).1, Nat.eq_of_beq_eq_true h.2⟩
  · cases h
theorem fd_2_ok {cc : ByteArray} {p op n : Nat} {f : Nat → Bool} (h : fd_2 op f n (cc.data.toList.drop p) = true) : ∃ x, (Reader.u1 : Decoder Nat) cc p = .ok (op, p + 1) ∧ (Reader.u1 : Decoder Nat) cc (p + 1) = .ok (x, p + 2) ∧ f x = true ∧ n = 2 := by
  unfold fd_2 at h
  split at h
  · rename_i a b l hl
    rw [Bool.and_eq_true, Bool.and_eq_true] at h
    rw [← Nat.eq_of_beq_eq_true h.1]
    exact ⟨b.toNat, (fd_u1 hl).1, (fd_u1 (fd_u1 hl).2).1, h.2.2, Nat.eq_of_beq_eq_true h.2.1⟩
  · cases h
theorem fd_3_ok {cc : ByteArray} {p op n : Nat} {f : Nat → Bool} (h : fd_3 op f n (cc.data.toList.drop p) = true) : ∃ x, (Reader.u1 : Decoder Nat) cc p = .ok (op, p + 1) ∧ (Reader.u2 : Decoder Nat) cc (p + 1) = .ok (x, p + 3) ∧ f x = true ∧ n = 3 := by
  unfold fd_3 at h
  split at h
  · rename_i a b c l hl
    rw [Bool.and_eq_true, Bool.and_eq_true] at h
    rw [← Nat.eq_of_beq_eq_true h.1]
    exact ⟨b.toNat * 256 + c.toNat, (fd_u1 hl).1, fd_u2 (fd_u1 hl).2, h.2.2, Nat.eq_of_beq_eq_true h.2.1⟩
  · cases h
theorem fx_iadd {cc : ByteArray} {p : Nat} (h : (Reader.u1 : Decoder Nat) cc p = .ok (96, p + 1)) : decode cc p = .ok (.iadd, 1) := fd_dec (by
  refine Eq.trans (fd_bind h) ?_
  rfl)
theorem fx_isub {cc : ByteArray} {p : Nat} (h : (Reader.u1 : Decoder Nat) cc p = .ok (100, p + 1)) : decode cc p = .ok (.isub, 1) := fd_dec (by
  refine Eq.trans (fd_bind h) ?_
  rfl)
theorem fx_imul {cc : ByteArray} {p : Nat} (h : (Reader.u1 : Decoder Nat) cc p = .ok (104, p + 1)) : decode cc p = .ok (.imul, 1) := fd_dec (by
  refine Eq.trans (fd_bind h) ?_
  rfl)
theorem fx_iand {cc : ByteArray} {p : Nat} (h : (Reader.u1 : Decoder Nat) cc p = .ok (126, p + 1)) : decode cc p = .ok (.iand, 1) := fd_dec (by
  refine Eq.trans (fd_bind h) ?_
  rfl)
theorem fx_ior {cc : ByteArray} {p : Nat} (h : (Reader.u1 : Decoder Nat) cc p = .ok (128, p + 1)) : decode cc p = .ok (.ior, 1) := fd_dec (by
  refine Eq.trans (fd_bind h) ?_
  rfl)
theorem fx_ishl {cc : ByteArray} {p : Nat} (h : (Reader.u1 : Decoder Nat) cc p = .ok (120, p + 1)) : decode cc p = .ok (.ishl, 1) := fd_dec (by
  refine Eq.trans (fd_bind h) ?_
  rfl)
theorem fx_iaload {cc : ByteArray} {p : Nat} (h : (Reader.u1 : Decoder Nat) cc p = .ok (46, p + 1)) : decode cc p = .ok (.iaload, 1) := fd_dec (by
  refine Eq.trans (fd_bind h) ?_
  rfl)
theorem fx_iastore {cc : ByteArray} {p : Nat} (h : (Reader.u1 : Decoder Nat) cc p = .ok (79, p + 1)) : decode cc p = .ok (.iastore, 1) := fd_dec (by
  refine Eq.trans (fd_bind h) ?_
  rfl)
theorem fx_ireturn {cc : ByteArray} {p : Nat} (h : (Reader.u1 : Decoder Nat) cc p = .ok (172, p + 1)) : decode cc p = .ok (.ireturn, 1) := fd_dec (by
  refine Eq.trans (fd_bind h) ?_
  rfl)
theorem fx_return_ {cc : ByteArray} {p : Nat} (h : (Reader.u1 : Decoder Nat) cc p = .ok (177, p + 1)) : decode cc p = .ok (.return_, 1) := fd_dec (by
  refine Eq.trans (fd_bind h) ?_
  rfl)
theorem fx_iload_n0 {cc : ByteArray} {p : Nat} (h : (Reader.u1 : Decoder Nat) cc p = .ok (26, p + 1)) : decode cc p = .ok (.iload_n 0, 1) := fd_dec (by
  refine Eq.trans (fd_bind h) ?_
  rfl)
theorem fx_iload_n1 {cc : ByteArray} {p : Nat} (h : (Reader.u1 : Decoder Nat) cc p = .ok (27, p + 1)) : decode cc p = .ok (.iload_n 1, 1) := fd_dec (by
  refine Eq.trans (fd_bind h) ?_
  rfl)
theorem fx_iload_n2 {cc : ByteArray} {p : Nat} (h : (Reader.u1 : Decoder Nat) cc p = .ok (28, p + 1)) : decode cc p = .ok (.iload_n 2, 1) := fd_dec (by
  refine Eq.trans (fd_bind h) ?_
  rfl)
theorem fx_iload_n3 {cc : ByteArray} {p : Nat} (h : (Reader.u1 : Decoder Nat) cc p = .ok (29, p + 1)) : decode cc p = .ok (.iload_n 3, 1) := fd_dec (by
  refine Eq.trans (fd_bind h) ?_
  rfl)
theorem fx_aload_n0 {cc : ByteArray} {p : Nat} (h : (Reader.u1 : Decoder Nat) cc p = .ok (42, p + 1)) : decode cc p = .ok (.aload_n 0, 1) := fd_dec (by
  refine Eq.trans (fd_bind h) ?_
  rfl)
theorem fx_aload_n1 {cc : ByteArray} {p : Nat} (h : (Reader.u1 : Decoder Nat) cc p = .ok (43, p + 1)) : decode cc p = .ok (.aload_n 1, 1) := fd_dec (by
  refine Eq.trans (fd_bind h) ?_
  rfl)
theorem fx_aload_n2 {cc : ByteArray} {p : Nat} (h : (Reader.u1 : Decoder Nat) cc p = .ok (44, p + 1)) : decode cc p = .ok (.aload_n 2, 1) := fd_dec (by
  refine Eq.trans (fd_bind h) ?_
  rfl)
theorem fx_aload_n3 {cc : ByteArray} {p : Nat} (h : (Reader.u1 : Decoder Nat) cc p = .ok (45, p + 1)) : decode cc p = .ok (.aload_n 3, 1) := fd_dec (by
  refine Eq.trans (fd_bind h) ?_
  rfl)
theorem fx_istore_n0 {cc : ByteArray} {p : Nat} (h : (Reader.u1 : Decoder Nat) cc p = .ok (59, p + 1)) : decode cc p = .ok (.istore_n 0, 1) := fd_dec (by
  refine Eq.trans (fd_bind h) ?_
  rfl)
theorem fx_istore_n1 {cc : ByteArray} {p : Nat} (h : (Reader.u1 : Decoder Nat) cc p = .ok (60, p + 1)) : decode cc p = .ok (.istore_n 1, 1) := fd_dec (by
  refine Eq.trans (fd_bind h) ?_
  rfl)
theorem fx_istore_n2 {cc : ByteArray} {p : Nat} (h : (Reader.u1 : Decoder Nat) cc p = .ok (61, p + 1)) : decode cc p = .ok (.istore_n 2, 1) := fd_dec (by
  refine Eq.trans (fd_bind h) ?_
  rfl)
theorem fx_istore_n3 {cc : ByteArray} {p : Nat} (h : (Reader.u1 : Decoder Nat) cc p = .ok (62, p + 1)) : decode cc p = .ok (.istore_n 3, 1) := fd_dec (by
  refine Eq.trans (fd_bind h) ?_
  rfl)
theorem fx_iconst0 {cc : ByteArray} {p : Nat} (h : (Reader.u1 : Decoder Nat) cc p = .ok (2, p + 1)) : decode cc p = .ok (.iconst (-1), 1) := fd_dec (by
  refine Eq.trans (fd_bind h) ?_
  rfl)
theorem fx_iconst1 {cc : ByteArray} {p : Nat} (h : (Reader.u1 : Decoder Nat) cc p = .ok (3, p + 1)) : decode cc p = .ok (.iconst (0), 1) := fd_dec (by
  refine Eq.trans (fd_bind h) ?_
  rfl)
theorem fx_iconst2 {cc : ByteArray} {p : Nat} (h : (Reader.u1 : Decoder Nat) cc p = .ok (4, p + 1)) : decode cc p = .ok (.iconst (1), 1) := fd_dec (by
  refine Eq.trans (fd_bind h) ?_
  rfl)
theorem fx_iconst3 {cc : ByteArray} {p : Nat} (h : (Reader.u1 : Decoder Nat) cc p = .ok (5, p + 1)) : decode cc p = .ok (.iconst (2), 1) := fd_dec (by
  refine Eq.trans (fd_bind h) ?_
  rfl)
theorem fx_iconst4 {cc : ByteArray} {p : Nat} (h : (Reader.u1 : Decoder Nat) cc p = .ok (6, p + 1)) : decode cc p = .ok (.iconst (3), 1) := fd_dec (by
  refine Eq.trans (fd_bind h) ?_
  rfl)
theorem fx_iconst5 {cc : ByteArray} {p : Nat} (h : (Reader.u1 : Decoder Nat) cc p = .ok (7, p + 1)) : decode cc p = .ok (.iconst (4), 1) := fd_dec (by
  refine Eq.trans (fd_bind h) ?_
  rfl)
theorem fx_iconst6 {cc : ByteArray} {p : Nat} (h : (Reader.u1 : Decoder Nat) cc p = .ok (8, p + 1)) : decode cc p = .ok (.iconst (5), 1) := fd_dec (by
  refine Eq.trans (fd_bind h) ?_
  rfl)
theorem fx_iload {cc : ByteArray} {p : Nat} {x : Nat} (h : (Reader.u1 : Decoder Nat) cc p = .ok (21, p + 1)) (g : (Reader.u1 : Decoder Nat) cc (p + 1) = .ok (x, p + 2)) : decode cc p = .ok (.iload x, 2) := fd_dec (by
  refine Eq.trans (fd_bind h) ?_
  refine Eq.trans (fd_bind g) ?_
  rfl)
theorem fx_istore {cc : ByteArray} {p : Nat} {x : Nat} (h : (Reader.u1 : Decoder Nat) cc p = .ok (54, p + 1)) (g : (Reader.u1 : Decoder Nat) cc (p + 1) = .ok (x, p + 2)) : decode cc p = .ok (.istore x, 2) := fd_dec (by
  refine Eq.trans (fd_bind h) ?_
  refine Eq.trans (fd_bind g) ?_
  rfl)
theorem fx_bipush {cc : ByteArray} {p : Nat} {x : Nat} (h : (Reader.u1 : Decoder Nat) cc p = .ok (16, p + 1)) (g : (Reader.u1 : Decoder Nat) cc (p + 1) = .ok (x, p + 2)) : decode cc p = .ok (.bipush (Reader.signed 8 x), 2) := fd_dec (by
  refine Eq.trans (fd_bind h) ?_
  refine Eq.trans (fd_bind (fd_map g)) ?_
  rfl)
theorem fx_getfield {cc : ByteArray} {p : Nat} {x : Nat} (h : (Reader.u1 : Decoder Nat) cc p = .ok (180, p + 1)) (g : (Reader.u2 : Decoder Nat) cc (p + 1) = .ok (x, p + 3)) : decode cc p = .ok (.getfield x, 3) := fd_dec (by
  refine Eq.trans (fd_bind h) ?_
  refine Eq.trans (fd_bind g) ?_
  rfl)
theorem fx_putfield {cc : ByteArray} {p : Nat} {x : Nat} (h : (Reader.u1 : Decoder Nat) cc p = .ok (181, p + 1)) (g : (Reader.u2 : Decoder Nat) cc (p + 1) = .ok (x, p + 3)) : decode cc p = .ok (.putfield x, 3) := fd_dec (by
  refine Eq.trans (fd_bind h) ?_
  refine Eq.trans (fd_bind g) ?_
  rfl)
theorem fx_invokevirtual {cc : ByteArray} {p : Nat} {x : Nat} (h : (Reader.u1 : Decoder Nat) cc p = .ok (182, p + 1)) (g : (Reader.u2 : Decoder Nat) cc (p + 1) = .ok (x, p + 3)) : decode cc p = .ok (.invokevirtual x, 3) := fd_dec (by
  refine Eq.trans (fd_bind h) ?_
  refine Eq.trans (fd_bind g) ?_
  rfl)
theorem fx_invokestatic {cc : ByteArray} {p : Nat} {x : Nat} (h : (Reader.u1 : Decoder Nat) cc p = .ok (184, p + 1)) (g : (Reader.u2 : Decoder Nat) cc (p + 1) = .ok (x, p + 3)) : decode cc p = .ok (.invokestatic x, 3) := fd_dec (by
  refine Eq.trans (fd_bind h) ?_
  refine Eq.trans (fd_bind g) ?_
  rfl)
theorem fx_goto {cc : ByteArray} {p : Nat} {x : Nat} (h : (Reader.u1 : Decoder Nat) cc p = .ok (167, p + 1)) (g : (Reader.u2 : Decoder Nat) cc (p + 1) = .ok (x, p + 3)) : decode cc p = .ok (.goto (Reader.signed 16 x), 3) := fd_dec (by
  refine Eq.trans (fd_bind h) ?_
  refine Eq.trans (fd_bind (fd_map g)) ?_
  rfl)
theorem fx_ifCond_eq {cc : ByteArray} {p : Nat} {x : Nat} (h : (Reader.u1 : Decoder Nat) cc p = .ok (153, p + 1)) (g : (Reader.u2 : Decoder Nat) cc (p + 1) = .ok (x, p + 3)) : decode cc p = .ok (.ifCond .eq (Reader.signed 16 x), 3) := fd_dec (by
  refine Eq.trans (fd_bind h) ?_
  refine Eq.trans (fd_bind (fd_map g)) ?_
  rfl)
theorem fx_ifCond_ne {cc : ByteArray} {p : Nat} {x : Nat} (h : (Reader.u1 : Decoder Nat) cc p = .ok (154, p + 1)) (g : (Reader.u2 : Decoder Nat) cc (p + 1) = .ok (x, p + 3)) : decode cc p = .ok (.ifCond .ne (Reader.signed 16 x), 3) := fd_dec (by
  refine Eq.trans (fd_bind h) ?_
  refine Eq.trans (fd_bind (fd_map g)) ?_
  rfl)
theorem fx_ifCond_lt {cc : ByteArray} {p : Nat} {x : Nat} (h : (Reader.u1 : Decoder Nat) cc p = .ok (155, p + 1)) (g : (Reader.u2 : Decoder Nat) cc (p + 1) = .ok (x, p + 3)) : decode cc p = .ok (.ifCond .lt (Reader.signed 16 x), 3) := fd_dec (by
  refine Eq.trans (fd_bind h) ?_
  refine Eq.trans (fd_bind (fd_map g)) ?_
  rfl)
theorem fx_ifCond_ge {cc : ByteArray} {p : Nat} {x : Nat} (h : (Reader.u1 : Decoder Nat) cc p = .ok (156, p + 1)) (g : (Reader.u2 : Decoder Nat) cc (p + 1) = .ok (x, p + 3)) : decode cc p = .ok (.ifCond .ge (Reader.signed 16 x), 3) := fd_dec (by
  refine Eq.trans (fd_bind h) ?_
  refine Eq.trans (fd_bind (fd_map g)) ?_
  rfl)
theorem fx_ifCond_gt {cc : ByteArray} {p : Nat} {x : Nat} (h : (Reader.u1 : Decoder Nat) cc p = .ok (157, p + 1)) (g : (Reader.u2 : Decoder Nat) cc (p + 1) = .ok (x, p + 3)) : decode cc p = .ok (.ifCond .gt (Reader.signed 16 x), 3) := fd_dec (by
  refine Eq.trans (fd_bind h) ?_
  refine Eq.trans (fd_bind (fd_map g)) ?_
  rfl)
theorem fx_ifCond_le {cc : ByteArray} {p : Nat} {x : Nat} (h : (Reader.u1 : Decoder Nat) cc p = .ok (158, p + 1)) (g : (Reader.u2 : Decoder Nat) cc (p + 1) = .ok (x, p + 3)) : decode cc p = .ok (.ifCond .le (Reader.signed 16 x), 3) := fd_dec (by
  refine Eq.trans (fd_bind h) ?_
  refine Eq.trans (fd_bind (fd_map g)) ?_
  rfl)
theorem fx_if_icmp_eq {cc : ByteArray} {p : Nat} {x : Nat} (h : (Reader.u1 : Decoder Nat) cc p = .ok (159, p + 1)) (g : (Reader.u2 : Decoder Nat) cc (p + 1) = .ok (x, p + 3)) : decode cc p = .ok (.if_icmp .eq (Reader.signed 16 x), 3) := fd_dec (by
  refine Eq.trans (fd_bind h) ?_
  refine Eq.trans (fd_bind (fd_map g)) ?_
  rfl)
theorem fx_if_icmp_ne {cc : ByteArray} {p : Nat} {x : Nat} (h : (Reader.u1 : Decoder Nat) cc p = .ok (160, p + 1)) (g : (Reader.u2 : Decoder Nat) cc (p + 1) = .ok (x, p + 3)) : decode cc p = .ok (.if_icmp .ne (Reader.signed 16 x), 3) := fd_dec (by
  refine Eq.trans (fd_bind h) ?_
  refine Eq.trans (fd_bind (fd_map g)) ?_
  rfl)
theorem fx_if_icmp_lt {cc : ByteArray} {p : Nat} {x : Nat} (h : (Reader.u1 : Decoder Nat) cc p = .ok (161, p + 1)) (g : (Reader.u2 : Decoder Nat) cc (p + 1) = .ok (x, p + 3)) : decode cc p = .ok (.if_icmp .lt (Reader.signed 16 x), 3) := fd_dec (by
  refine Eq.trans (fd_bind h) ?_
  refine Eq.trans (fd_bind (fd_map g)) ?_
  rfl)
theorem fx_if_icmp_ge {cc : ByteArray} {p : Nat} {x : Nat} (h : (Reader.u1 : Decoder Nat) cc p = .ok (162, p + 1)) (g : (Reader.u2 : Decoder Nat) cc (p + 1) = .ok (x, p + 3)) : decode cc p = .ok (.if_icmp .ge (Reader.signed 16 x), 3) := fd_dec (by
  refine Eq.trans (fd_bind h) ?_
  refine Eq.trans (fd_bind (fd_map g)) ?_
  rfl)
theorem fx_if_icmp_gt {cc : ByteArray} {p : Nat} {x : Nat} (h : (Reader.u1 : Decoder Nat) cc p = .ok (163, p + 1)) (g : (Reader.u2 : Decoder Nat) cc (p + 1) = .ok (x, p + 3)) : decode cc p = .ok (.if_icmp .gt (Reader.signed 16 x), 3) := fd_dec (by
  refine Eq.trans (fd_bind h) ?_
  refine Eq.trans (fd_bind (fd_map g)) ?_
  rfl)
theorem fx_if_icmp_le {cc : ByteArray} {p : Nat} {x : Nat} (h : (Reader.u1 : Decoder Nat) cc p = .ok (164, p + 1)) (g : (Reader.u2 : Decoder Nat) cc (p + 1) = .ok (x, p + 3)) : decode cc p = .ok (.if_icmp .le (Reader.signed 16 x), 3) := fd_dec (by
  refine Eq.trans (fd_bind h) ?_
  refine Eq.trans (fd_bind (fd_map g)) ?_
  rfl)
def fd_cd : ClassFile.Cond → Nat
  | .eq => 0
  | .ne => 1
  | .lt => 2
  | .ge => 3
  | .gt => 4
  | .le => 5
/-- an instruction stands at the head of these bytes -/
def fd_is (i : Instr) (n : Nat) (l : List UInt8) : Bool := match i with
  | .iload_n k => fd_1 (26 + k.val) n l
  | .aload_n k => fd_1 (42 + k.val) n l
  | .istore_n k => fd_1 (59 + k.val) n l
  | .iconst t => decide (-1 ≤ t ∧ t ≤ 5) && fd_1 (t + 3).toNat n l
  | .iadd => fd_1 96 n l
  | .isub => fd_1 100 n l
  | .imul => fd_1 104 n l
  | .iand => fd_1 126 n l
  | .ior => fd_1 128 n l
  | .ishl => fd_1 120 n l
  | .iaload => fd_1 46 n l
  | .iastore => fd_1 79 n l
  | .ireturn => fd_1 172 n l
  | .return_ => fd_1 177 n l
  | .iload k => fd_2 21 (fun x => Nat.beq x k) n l
  | .istore k => fd_2 54 (fun x => Nat.beq x k) n l
  | .bipush t => fd_2 16 (fun x => decide (Reader.signed 8 x = t)) n l
  | .getfield k => fd_3 180 (fun x => Nat.beq x k) n l
  | .putfield k => fd_3 181 (fun x => Nat.beq x k) n l
  | .invokevirtual k => fd_3 182 (fun x => Nat.beq x k) n l
  | .invokestatic k => fd_3 184 (fun x => Nat.beq x k) n l
  | .goto o => fd_3 167 (fun x => decide (Reader.signed 16 x = o)) n l
  | .ifCond c o => fd_3 (153 + fd_cd c) (fun x => decide (Reader.signed 16 x = o)) n l
  | .if_icmp c o => fd_3 (159 + fd_cd c) (fun x => decide (Reader.signed 16 x = o)) n l
  | _ => false
theorem fd_is_ok {cc : ByteArray} {p n : Nat} {i : Instr} (h : fd_is i n (cc.data.toList.drop p) = true) : decode cc p = .ok (i, n) := by
  cases i
  case iload_n k =>
    obtain ⟨h1, rfl⟩ := fd_1_ok h
    obtain ⟨k, hk⟩ := k
    have e : k = 0 ∨ k = 1 ∨ k = 2 ∨ k = 3 := by omega
    rcases e with rfl | rfl | rfl | rfl
    · exact fx_iload_n0 h1
    · exact fx_iload_n1 h1
    · exact fx_iload_n2 h1
    · exact fx_iload_n3 h1
  case aload_n k =>
    obtain ⟨h1, rfl⟩ := fd_1_ok h
    obtain ⟨k, hk⟩ := k
    have e : k = 0 ∨ k = 1 ∨ k = 2 ∨ k = 3 := by omega
    rcases e with rfl | rfl | rfl | rfl
    · exact fx_aload_n0 h1
    · exact fx_aload_n1 h1
    · exact fx_aload_n2 h1
    · exact fx_aload_n3 h1
  case istore_n k =>
    obtain ⟨h1, rfl⟩ := fd_1_ok h
    obtain ⟨k, hk⟩ := k
    have e : k = 0 ∨ k = 1 ∨ k = 2 ∨ k = 3 := by omega
    rcases e with rfl | rfl | rfl | rfl
    · exact fx_istore_n0 h1
    · exact fx_istore_n1 h1
    · exact fx_istore_n2 h1
    · exact fx_istore_n3 h1
  case iconst t =>
    have h : (decide (-1 ≤ t ∧ t ≤ 5) && fd_1 (t + 3).toNat n (cc.data.toList.drop p)) = true := h
    rw [Bool.and_eq_true, decide_eq_true_eq] at h
    obtain ⟨h0, h2⟩ := h
    obtain ⟨h1, rfl⟩ := fd_1_ok h2
    have e : t = -1 ∨ t = 0 ∨ t = 1 ∨ t = 2 ∨ t = 3 ∨ t = 4 ∨ t = 5 := by omega
    rcases e with rfl | rfl | rfl | rfl | rfl | rfl | rfl
    · exact fx_iconst0 h1
    · exact fx_iconst1 h1
    · exact fx_iconst2 h1
    · exact fx_iconst3 h1
    · exact fx_iconst4 h1
    · exact fx_iconst5 h1
    · exact fx_iconst6 h1
  case iadd =>
    obtain ⟨h1, rfl⟩ := fd_1_ok h
    exact fx_iadd h1
  case isub =>
    obtain ⟨h1, rfl⟩ := fd_1_ok h
    exact fx_isub h1
  case imul =>
    obtain ⟨h1, rfl⟩ := fd_1_ok h
    exact fx_imul h1
  case iand =>
    obtain ⟨h1, rfl⟩ := fd_1_ok h
    exact fx_iand h1
  case ior =>
    obtain ⟨h1, rfl⟩ := fd_1_ok h
    exact fx_ior h1
  case ishl =>
    obtain ⟨h1, rfl⟩ := fd_1_ok h
    exact fx_ishl h1
  case iaload =>
    obtain ⟨h1, rfl⟩ := fd_1_ok h
    exact fx_iaload h1
  case iastore =>
    obtain ⟨h1, rfl⟩ := fd_1_ok h
    exact fx_iastore h1
  case ireturn =>
    obtain ⟨h1, rfl⟩ := fd_1_ok h
    exact fx_ireturn h1
  case return_ =>
    obtain ⟨h1, rfl⟩ := fd_1_ok h
    exact fx_return_ h1
  case iload k =>
    have h : fd_2 21 (fun x => Nat.beq x k) n (cc.data.toList.drop p) = true := h
    obtain ⟨x, h1, h2, h3, rfl⟩ := fd_2_ok h
    have e : x = k := Nat.eq_of_beq_eq_true h3
    subst e
    exact fx_iload h1 h2
  case istore k =>
    have h : fd_2 54 (fun x => Nat.beq x k) n (cc.data.toList.drop p) = true := h
    obtain ⟨x, h1, h2, h3, rfl⟩ := fd_2_ok h
    have e : x = k := Nat.eq_of_beq_eq_true h3
    subst e
    exact fx_istore h1 h2
  case bipush t =>
    have h : fd_2 16 (fun x => decide (Reader.signed 8 x = t)) n (cc.data.toList.drop p) = true := h
    obtain ⟨x, h1, h2, h3, rfl⟩ := fd_2_ok h
    have e : Reader.signed 8 x = t := of_decide_eq_true h3
    subst e
    exact fx_bipush h1 h2
  case getfield k =>
    have h : fd_3 180 (fun x => Nat.beq x k) n (cc.data.toList.drop p) = true := h
    obtain ⟨x, h1, h2, h3, rfl⟩ := fd_3_ok h
    have e : x = k := Nat.eq_of_beq_eq_true h3
    subst e
    exact fx_getfield h1 h2
  case putfield k =>
    have h : fd_3 181 (fun x => Nat.beq x k) n (cc.data.toList.drop p) = true := h
    obtain ⟨x, h1, h2, h3, rfl⟩ := fd_3_ok h
    have e : x = k := Nat.eq_of_beq_eq_true h3
    subst e
    exact fx_putfield h1 h2
  case invokevirtual k =>
    have h : fd_3 182 (fun x => Nat.beq x k) n (cc.data.toList.drop p) = true := h
    obtain ⟨x, h1, h2, h3, rfl⟩ := fd_3_ok h
    have e : x = k := Nat.eq_of_beq_eq_true h3
    subst e
    exact fx_invokevirtual h1 h2
  case invokestatic k =>
    have h : fd_3 184 (fun x => Nat.beq x k) n (cc.data.toList.drop p) = true := h
    obtain ⟨x, h1, h2, h3, rfl⟩ := fd_3_ok h
    have e : x = k := Nat.eq_of_beq_eq_true h3
    subst e
    exact fx_invokestatic h1 h2
  case goto o =>
    have h : fd_3 167 (fun x => decide (Reader.signed 16 x = o)) n (cc.data.toList.drop p) = true := h
    obtain ⟨x, h1, h2, h3, rfl⟩ := fd_3_ok h
    have e : Reader.signed 16 x = o := of_decide_eq_true h3
    subst e
    exact fx_goto h1 h2
  case ifCond c o =>
    have h : fd_3 (153 + fd_cd c) (fun x => decide (Reader.signed 16 x = o)) n (cc.data.toList.drop p) = true := h
    obtain ⟨x, h1, h2, h3, rfl⟩ := fd_3_ok h
    have e : Reader.signed 16 x = o := of_decide_eq_true h3
    subst e
    cases c
    case eq => exact fx_ifCond_eq h1 h2
    case ne => exact fx_ifCond_ne h1 h2
    case lt => exact fx_ifCond_lt h1 h2
    case ge => exact fx_ifCond_ge h1 h2
    case gt => exact fx_ifCond_gt h1 h2
    case le => exact fx_ifCond_le h1 h2
  case if_icmp c o =>
    have h : fd_3 (159 + fd_cd c) (fun x => decide (Reader.signed 16 x = o)) n (cc.data.toList.drop p) = true := h
    obtain ⟨x, h1, h2, h3, rfl⟩ := fd_3_ok h
    have e : Reader.signed 16 x = o := of_decide_eq_true h3
    subst e
    cases c
    case eq => exact fx_if_icmp_eq h1 h2
    case ne => exact fx_if_icmp_ne h1 h2
    case lt => exact fx_if_icmp_lt h1 h2
    case ge => exact fx_if_icmp_ge h1 h2
    case gt => exact fx_if_icmp_gt h1 h2
    case le => exact fx_if_icmp_le h1 h2
  all_goals exact absurd h Bool.false_ne_true
def fd_at (cc : ByteArray) (p : Nat) (i : Instr) (n : Nat) : Bool := fd_is i n (cc.data.toList.drop p) || decide (decode cc p = .ok (i, n))
theorem fd_at_ok {cc : ByteArray} {p n : Nat} {i : Instr} (h : fd_at cc p i n = true) : decode cc p = .ok (i, n) := by
  unfold fd_at at h
  rw [Bool.or_eq_true] at h
  rcases h with h | h
  · exact fd_is_ok h
  · exact of_decide_eq_true h
def fd_chk1 (ms : List ev_MI) (P : ev_P) (cc : ByteArray) (l : List UInt8) (q : Nat × ev_Row) (ps : List Nat) : Bool := match cm_rowF ms P q.2 with
  | some (i, n, cs) => (fd_is i n l || decide (decode cc q.1 = .ok (i, n))) && (decide (cs.map some = ps.map lw_at) && cs.all goodWord)
  | none => false
def fd_chkR (ms : List ev_MI) (P : ev_P) (cc : ByteArray) : Nat → List UInt8 → List (Nat × ev_Row) → List (List Nat) → Bool
  | _, _, [], [] => true
  | p0, l, q :: rows, p :: ps => Nat.ble p0 q.1 && (fd_chk1 ms P cc (l.drop (q.1 - p0)) q p && fd_chkR ms P cc q.1 (l.drop (q.1 - p0)) rows ps)
  | _, _, _, _ => false
theorem fd_dr {cc : ByteArray} {p0 p : Nat} {l : List UInt8} (hl : l = cc.data.toList.drop p0) (hp : Nat.ble p0 p = true) : l.drop (p - p0) = cc.data.toList.drop p := by
  have := Nat.le_of_ble_eq_true hp
  rw [hl, List.drop_drop, show p0 + (p - p0) = p from by omega]
theorem fd_chkR_ok {ms : List ev_MI} {P : ev_P} {cc : ByteArray} : ∀ {rows : List (Nat × ev_Row)} {ps : List (List Nat)} {p0 : Nat} {l : List UInt8}, l = cc.data.toList.drop p0 → fd_chkR ms P cc p0 l rows ps = true → ∀ q ∈ rows, cm_RowOK ms P cc q
  | [], [], _, _, _, _ => fun q hq => nomatch hq
  | [], _ :: _, _, _, _, h => by cases h
  | _ :: _, [], _, _, _, h => by cases h
  | q :: rows, p :: ps, p0, l, hl, h => by
    unfold fd_chkR at h
    rw [Bool.and_eq_true, Bool.and_eq_true] at h
    obtain ⟨h0, h1, h3⟩ := h
    have hd := fd_dr hl h0
    intro q' hq'
    rcases List.mem_cons.mp hq' with rfl | hq'
    · unfold fd_chk1 at h1
      split at h1
      · rename_i i n cs hi
        rw [cm_rowF_eq] at hi
        rw [Bool.and_eq_true, Bool.and_eq_true, decide_eq_true_eq] at h1
        obtain ⟨a1, a2, a3⟩ := h1
        rw [hd] at a1
        refine ⟨i, n, cs, hi, fd_at_ok a1, fun w hw => ?_⟩
        have hg := List.all_eq_true.mp a3 w hw
        have hm : some w ∈ p.map lw_at := by rw [← a2]; exact List.mem_map.mpr ⟨w, hw, rfl⟩
        obtain ⟨j, -, hj⟩ := List.mem_map.mp hm
        exact lw_good_at j (lw_at_ok hj) hg
      · cases h1
    · exact fd_chkR_ok hd h3 q' hq'
def fd_chkAll (ms : List ev_MI) (P : ev_P) (cc : ByteArray) (rows : List (Nat × ev_Row)) (ps : List (List Nat)) : Bool := fd_chkR ms P cc 0 cc.data.toList rows ps
theorem fd_chkAll_ok {ms : List ev_MI} {P : ev_P} {cc : ByteArray} {rows : List (Nat × ev_Row)} {ps : List (List Nat)} (h : fd_chkAll ms P cc rows ps = true) : ∀ q ∈ rows, cm_RowOK ms P cc q := fd_chkR_ok (p0 := 0) rfl h
