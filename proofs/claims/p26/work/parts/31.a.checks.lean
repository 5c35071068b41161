noncomputable def cm_chk (ms : List ev_MI) (P : ev_P) (cc : ByteArray) (q : Nat × ev_Row) (ps : List Nat) : Bool := match cm_rowI ms P q.2 with
  | some (i, n, cs) => decide (decode cc q.1 = .ok (i, n)) && (decide (cs.map some = ps.map (fun j => lw_tbl[j]?)) && cs.all goodWord)
  | none => false
noncomputable def cm_chkAll (ms : List ev_MI) (P : ev_P) (cc : ByteArray) : List (Nat × ev_Row) → List (List Nat) → Bool
  | [], [] => true
  | q :: rows, p :: ps => cm_chk ms P cc q p && cm_chkAll ms P cc rows ps
  | _, _ => false
theorem cm_chkAll_ok {ms : List ev_MI} {P : ev_P} {cc : ByteArray} : ∀ {rows : List (Nat × ev_Row)} {ps : List (List Nat)}, cm_chkAll ms P cc rows ps = true → ∀ q ∈ rows, cm_RowOK ms P cc q
  | [], [], _ => fun q hq => nomatch hq
  | [], _ :: _, h => by cases h
  | _ :: _, [], h => by cases h
  | q :: rows, p :: ps, h => by
    unfold cm_chkAll at h
    simp only [Bool.and_eq_true] at h
    obtain ⟨h1, h3⟩ := h
    intro q' hq'
    rcases List.mem_cons.mp hq' with rfl | hq'
    · unfold cm_chk at h1
      split at h1
      · rename_i i n cs hi
        simp only [Bool.and_eq_true, decide_eq_true_eq] at h1
        obtain ⟨a1, a2, a3⟩ := h1
        refine ⟨i, n, cs, hi, a1, fun w hw => ?_⟩
        have hg := List.all_eq_true.mp a3 w hw
        have hm : some w ∈ p.map (fun j => lw_tbl[j]?) := by rw [← a2]; exact List.mem_map.mpr ⟨w, hw, rfl⟩
        obtain ⟨j, -, hj⟩ := List.mem_map.mp hm
        exact lw_good_at j hj hg
      · cases h1
    · exact cm_chkAll_ok h3 q' hq'
noncomputable def ab_rc1 (ms : List ev_MI) (q : Nat × ev_Row) : Bool := if 200 ≤ q.2.1 ∧ q.2.1 < 210 then (match ms[q.2.2.1.toNat]? with
  | some mi => ev_nar1 mi.1 q.2.2.2.2.1.toNat && (if q.2.1 = 200 then (match q.2.2.2.2.2 with
    | [ci] => if ci = 99 then decide (mi.1.cls = "java/lang/String") else decide ((vwCl[ci.toNat]?).map (fun r => r.1) = some mi.1.cls)
    | _ => false) else true)
  | none => false) else true
theorem ab_rc1_ok {ms : List ev_MI} {q : Nat × ev_Row} (h : ab_rc1 ms q = true) : ab_RC ms q := by
  intro h1 h2
  unfold ab_rc1 at h
  rw [if_pos ⟨h1, h2⟩] at h
  split at h
  · rename_i mi hmi
    rw [Bool.and_eq_true] at h
    refine ⟨mi, hmi, h.1, fun h3 ci hci => ?_⟩
    have h4 := h.2
    rw [if_pos h3, hci] at h4
    dsimp only at h4
    split at h4
    · rename_i h99
      exact Or.inl ⟨h99, of_decide_eq_true h4⟩
    · rename_i h99
      exact Or.inr ⟨h99, of_decide_eq_true h4⟩
  · cases h
noncomputable def ab_MK (ms : List ev_MI) (mi : ev_MI) : Prop := cm_MOK ms mi ∧ ∀ q ∈ mi.2.2.2.2.2.2, ab_RC ms q
noncomputable def oc_0 : List cm_O := [cm_iconst, cm_bipush, cm_sipush, cm_lconst, cm_iload, cm_iloadn]
noncomputable def oc_1 : List cm_O := [cm_lload, cm_lloadn, cm_aload, cm_aloadn, cm_istore, cm_istoren]
noncomputable def oc_2 : List cm_O := [cm_lstore, cm_lstoren, cm_astore, cm_astoren, cm_iadd, cm_isub]
noncomputable def oc_3 : List cm_O := [cm_imul, cm_iand, cm_ior, cm_ixor, cm_ishl, cm_ishr]
noncomputable def oc_4 : List cm_O := [cm_iushr, cm_idiv, cm_irem, cm_ineg, cm_i2b, cm_i2l]
noncomputable def oc_5 : List cm_O := [cm_lcmp, cm_dup, cm_pop, cm_dup2, cm_iinc, cm_icmp_eq]
noncomputable def oc_6 : List cm_O := [cm_icmp_ne, cm_icmp_lt, cm_icmp_ge, cm_icmp_gt, cm_icmp_le, cm_if_eq]
noncomputable def oc_7 : List cm_O := [cm_if_ne, cm_if_lt, cm_if_ge, cm_if_gt, cm_if_le, cm_goto]
noncomputable def oc_8 : List cm_O := [cm_sw, cm_get, cm_put, cm_no, cm_iaload, cm_baload]
noncomputable def oc_9 : List cm_O := [cm_laload, cm_aaload, cm_iastore, cm_bastore, cm_no, cm_no]
noncomputable def oc_10 : List cm_O := [cm_no, cm_no, cm_no, cm_no, cm_alen, cm_sald]
noncomputable def oc_11 : List cm_O := [cm_no, cm_mmin, cm_ldc, cm_ldcS, cm_getV, cm_getC]
noncomputable def oc_12 : List cm_O := [cm_gets, cm_alenS, cm_baloadS, cm_i2c, cm_ladd, cm_lsub]
noncomputable def oc_13 : List cm_O := [cm_lmul, cm_ldiv, cm_lrem, cm_ldc2, cm_getsF, cm_ldcw]
noncomputable def oc_14 : List cm_O := [cm_mmax, cm_mabs, cm_copyi, cm_getT, cm_tald, cm_alenT]
noncomputable def oc_15 : List cm_O := [cm_lastore, cm_pop2]
theorem ac_at {α : Type} {A B : List α} {N k : Nat} {x y : Option α} (h : A.length = N) (hb : y = B[k - N]?) (ha : x = A[k]?) : cond (Nat.ble N k) y x = (A ++ B)[k]? := by
  subst h
  cases hk : Nat.ble A.length k with
  | true => exact hb.trans (List.getElem?_append_right (Nat.le_of_ble_eq_true hk)).symm
  | false =>
    have hlt : k < A.length := Nat.lt_of_not_le (fun z => by
      have := Nat.ble_eq_true_of_le z
      rw [hk] at this
      cases this)
    exact ha.trans (List.getElem?_append_left hlt).symm
noncomputable def cm_opF (k : Nat) : Option cm_O := cond (Nat.ble 48 k) (cond (Nat.ble 24 (k - 48)) (cond (Nat.ble 12 ((k - 48) - 24)) (cond (Nat.ble 6 (((k - 48) - 24) - 12)) (oc_15[(((k - 48) - 24) - 12) - 6]?) (oc_14[((k - 48) - 24) - 12]?)) (cond (Nat.ble 6 ((k - 48) - 24)) (oc_13[((k - 48) - 24) - 6]?) (oc_12[(k - 48) - 24]?))) (cond (Nat.ble 12 (k - 48)) (cond (Nat.ble 6 ((k - 48) - 12)) (oc_11[((k - 48) - 12) - 6]?) (oc_10[(k - 48) - 12]?)) (cond (Nat.ble 6 (k - 48)) (oc_9[(k - 48) - 6]?) (oc_8[k - 48]?)))) (cond (Nat.ble 24 k) (cond (Nat.ble 12 (k - 24)) (cond (Nat.ble 6 ((k - 24) - 12)) (oc_7[((k - 24) - 12) - 6]?) (oc_6[(k - 24) - 12]?)) (cond (Nat.ble 6 (k - 24)) (oc_5[(k - 24) - 6]?) (oc_4[k - 24]?))) (cond (Nat.ble 12 k) (cond (Nat.ble 6 (k - 12)) (oc_3[(k - 12) - 6]?) (oc_2[k - 12]?)) (cond (Nat.ble 6 k) (oc_1[k - 6]?) (oc_0[k]?))))
theorem cm_opF_eq (k : Nat) : cm_opF k = cm_ops[k]? := by
  have e : cm_ops = (((oc_0 ++ oc_1) ++ (oc_2 ++ oc_3)) ++ ((oc_4 ++ oc_5) ++ (oc_6 ++ oc_7))) ++ (((oc_8 ++ oc_9) ++ (oc_10 ++ oc_11)) ++ ((oc_12 ++ oc_13) ++ (oc_14 ++ oc_15))) := rfl
  rw [e]
  unfold cm_opF
  exact ac_at rfl (ac_at rfl (ac_at rfl (ac_at rfl rfl rfl) (ac_at rfl rfl rfl)) (ac_at rfl (ac_at rfl rfl rfl) (ac_at rfl rfl rfl))) (ac_at rfl (ac_at rfl (ac_at rfl rfl rfl) (ac_at rfl rfl rfl)) (ac_at rfl (ac_at rfl rfl rfl) (ac_at rfl rfl rfl)))
noncomputable def cm_rowF (ms : List ev_MI) (P : ev_P) (r : ev_Row) : Option (Instr × Nat × List Cond) :=
  match r.1 with
  | 200 => (match ms[r.2.1.toNat]? with
    | some mi => some (.invokevirtual r.2.2.1.toNat, 3, [.methodLink P.2.2.2.1 r.2.2.1.toNat mi.1, .instanceMethod mi.1, .selects mi.1.cls mi.1 mi.1, .initialized mi.1.cls])
    | none => none)
  | 201 => (match ms[r.2.1.toNat]? with
    | some mi => some (.invokestatic r.2.2.1.toNat, 3, [.methodLink P.2.2.2.1 r.2.2.1.toNat mi.1, .static mi.1, .initialized mi.1.cls])
    | none => none)
  | 210 => some (.ireturn, 1, [])
  | 211 => some (.lreturn, 1, [])
  | 212 => some (.areturn, 1, [])
  | 213 => some (.return_, 1, [])
  | k => (match cm_opF k with
    | some o => o.1 P r.2
    | none => none)
theorem cm_rowF_eq (ms : List ev_MI) (P : ev_P) (r : ev_Row) : cm_rowF ms P r = cm_rowI ms P r := by
  have e : cm_opF = fun k => cm_ops[k]? := funext cm_opF_eq
  unfold cm_rowF
  rw [e]
  rfl
theorem fd_bind {α β : Type} {r : Decoder α} {f : α → Decoder β} {cc : ByteArray} {p p' : Nat} {x : α} (h : r cc p = .ok (x, p')) : (r >>= f) cc p = f x cc p' := by
  have e : (r >>= f) cc p = Except.bind (r cc p) (fun q => match q with | (a, s) => f a cc s) := rfl
  rw [e, h]
  rfl
theorem fd_map {α β : Type} {r : Decoder α} {f : α → β} {cc : ByteArray} {p p' : Nat} {x : α} (h : r cc p = .ok (x, p')) : (f <$> r) cc p = .ok (f x, p') := by
  have e : (f <$> r) cc p = Except.bind (r cc p) (fun q => match q with | (a, s) => Except.ok (f a, s)) := rfl
  rw [e, h]
  rfl
theorem fd_u1 {cc : ByteArray} {p : Nat} {b : UInt8} {l : List UInt8} (h : cc.data.toList.drop p = b :: l) : (Reader.u1 : Decoder Nat) cc p = .ok (b.toNat, p + 1) ∧ cc.data.toList.drop (p + 1) = l := by
  have hlt : p < cc.data.toList.length := by
    have e := congrArg List.length h
    rw [List.length_drop, List.length_cons] at e
    omega
  have hs : p < cc.size := hlt
  have g : cc.data.toList[p]'hlt = b := by
    have q : (cc.data.toList.drop p)[0]? = some b := by rw [h]; rfl
    rw [List.getElem?_drop, Nat.add_zero, List.getElem?_eq_getElem hlt] at q
    exact Option.some.inj q
  refine ⟨?_, ?_⟩
  · have e : (Reader.u1 : Decoder Nat) cc p = (dite (p < cc.size) (fun h => (do set (p + 1); pure (cc[p]'h).toNat : Decoder Nat)) (fun _ => throw (HasTruncated.truncated p))) cc p := rfl
    rw [e, dif_pos hs]
    show Except.ok ((cc.data.toList[p]'hlt).toNat, p + 1) = _
    rw [g]
  · have q : (cc.data.toList.drop p).drop 1 = l := by rw [h]; rfl
    rw [List.drop_drop] at q
    exact q
theorem fd_u2 {cc : ByteArray} {p : Nat} {a b : UInt8} {l : List UInt8} (h : cc.data.toList.drop p = a :: b :: l) : (Reader.u2 : Decoder Nat) cc p = .ok (a.toNat * 256 + b.toNat, p + 2) := by
  have h1 := fd_u1 h
  have h2 := fd_u1 h1.2
  unfold Reader.u2
  refine Eq.trans (fd_bind h1.1) ?_
  refine Eq.trans (fd_bind h2.1) ?_
  rfl
theorem fd_dec {cc : ByteArray} {p n : Nat} {i : Instr} (h : (Decoder.instr p) cc p = .ok (i, p + n)) : decode cc p = .ok (i, n) := by
  have e : decode cc p = Except.bind ((Decoder.instr p) cc p) (fun q => match q with | (a, s) => Except.ok (a, s - p)) := rfl
  rw [e, h]
  show Except.ok (i, p + n - p) = _
  rw [Nat.add_sub_cancel_left]
noncomputable def fd_1 (op n : Nat) : List UInt8 → Bool
  | a :: _ => Nat.beq a.toNat op && Nat.beq n 1
  | _ => false
noncomputable def fd_2 (op : Nat) (f : Nat → Bool) (n : Nat) : List UInt8 → Bool
  | a :: b :: _ => Nat.beq a.toNat op && (Nat.beq n 2 && f b.toNat)
  | _ => false
noncomputable def fd_3 (op : Nat) (f : Nat → Bool) (n : Nat) : List UInt8 → Bool
  | a :: b :: c :: _ => Nat.beq a.toNat op && (Nat.beq n 3 && f (b.toNat * 256 + c.toNat))
  | _ => false
theorem fd_1_ok {cc : ByteArray} {p op n : Nat} (h : fd_1 op n (cc.data.toList.drop p) = true) : (Reader.u1 : Decoder Nat) cc p = .ok (op, p + 1) ∧ n = 1 := by
  unfold fd_1 at h
  split at h
  · rename_i a l hl
    rw [Bool.and_eq_true] at h
    rw [← Nat.eq_of_beq_eq_true h.1]
    exact ⟨(fd_u1 hl).1, Nat.eq_of_beq_eq_true h.2⟩
  · cases h
theorem fd_2_ok {cc : ByteArray} {p op n : Nat} {f : Nat → Bool} (h : fd_2 op f n (cc.data.toList.drop p) = true) : ∃ x, (Reader.u1 : Decoder Nat) cc p = .ok (op, p + 1) ∧ (Reader.u1 : Decoder Nat) cc (p + 1) = .ok (x, p + 2) ∧ f x = true ∧ n = 2 := by
  unfold fd_2 at h
  split at h
  · rename_i a b l hl
    rw [Bool.and_eq_true, Bool.and_eq_true] at h
    rw [← Nat.eq_of_beq_eq_true h.1]
    exact ⟨b.toNat, (fd_u1 hl).1, (fd_u1 (fd_u1 hl).2).1, h.2.2, Nat.eq_of_beq_eq_true h.2.1⟩
  · cases h
theorem fd_3_ok {cc : ByteArray} {p op n : Nat} {f : Nat → Bool} (h : fd_3 op f n (cc.data.toList.drop p) = true) : ∃ x, (Reader.u1 : Decoder Nat) cc p = .ok (op, p + 1) ∧ (Reader.u2 : Decoder Nat) cc (p + 1) = .ok (x, p + 3) ∧ f x = true ∧ n = 3 := by
  unfold fd_3 at h
  split at h
  · rename_i a b c l hl
    rw [Bool.and_eq_true, Bool.and_eq_true] at h
    rw [← Nat.eq_of_beq_eq_true h.1]
    exact ⟨b.toNat * 256 + c.toNat, (fd_u1 hl).1, fd_u2 (fd_u1 hl).2, h.2.2, Nat.eq_of_beq_eq_true h.2.1⟩
  · cases h
theorem fx_iadd {cc : ByteArray} {p : Nat} (h : (Reader.u1 : Decoder Nat) cc p = .ok (96, p + 1)) : decode cc p = .ok (.iadd, 1) := fd_dec (by
  refine Eq.trans (fd_bind h) ?_
  rfl)
theorem fx_isub {cc : ByteArray} {p : Nat} (h : (Reader.u1 : Decoder Nat) cc p = .ok (100, p + 1)) : decode cc p = .ok (.isub, 1) := fd_dec (by
  refine Eq.trans (fd_bind h) ?_
  rfl)
theorem fx_imul {cc : ByteArray} {p : Nat} (h : (Reader.u1 : Decoder Nat) cc p = .ok (104, p + 1)) : decode cc p = .ok (.imul, 1) := fd_dec (by
  refine Eq.trans (fd_bind h) ?_
  rfl)
theorem fx_iand {cc : ByteArray} {p : Nat} (h : (Reader.u1 : Decoder Nat) cc p = .ok (126, p + 1)) : decode cc p = .ok (.iand, 1) := fd_dec (by
  refine Eq.trans (fd_bind h) ?_
  rfl)
theorem fx_ior {cc : ByteArray} {p : Nat} (h : (Reader.u1 : Decoder Nat) cc p = .ok (128, p + 1)) : decode cc p = .ok (.ior, 1) := fd_dec (by
  refine Eq.trans (fd_bind h) ?_
  rfl)
theorem fx_ishl {cc : ByteArray} {p : Nat} (h : (Reader.u1 : Decoder Nat) cc p = .ok (120, p + 1)) : decode cc p = .ok (.ishl, 1) := fd_dec (by
  refine Eq.trans (fd_bind h) ?_
  rfl)
theorem fx_iaload {cc : ByteArray} {p : Nat} (h : (Reader.u1 : Decoder Nat) cc p = .ok (46, p + 1)) : decode cc p = .ok (.iaload, 1) := fd_dec (by
  refine Eq.trans (fd_bind h) ?_
  rfl)
theorem fx_iastore {cc : ByteArray} {p : Nat} (h : (Reader.u1 : Decoder Nat) cc p = .ok (79, p + 1)) : decode cc p = .ok (.iastore, 1) := fd_dec (by
  refine Eq.trans (fd_bind h) ?_
  rfl)
theorem fx_ireturn {cc : ByteArray} {p : Nat} (h : (Reader.u1 : Decoder Nat) cc p = .ok (172, p + 1)) : decode cc p = .ok (.ireturn, 1) := fd_dec (by
  refine Eq.trans (fd_bind h) ?_
  rfl)
theorem fx_return_ {cc : ByteArray} {p : Nat} (h : (Reader.u1 : Decoder Nat) cc p = .ok (177, p + 1)) : decode cc p = .ok (.return_, 1) := fd_dec (by
  refine Eq.trans (fd_bind h) ?_
  rfl)
theorem fx_iload_n0 {cc : ByteArray} {p : Nat} (h : (Reader.u1 : Decoder Nat) cc p = .ok (26, p + 1)) : decode cc p = .ok (.iload_n 0, 1) := fd_dec (by
  refine Eq.trans (fd_bind h) ?_
  rfl)
theorem fx_iload_n1 {cc : ByteArray} {p : Nat} (h : (Reader.u1 : Decoder Nat) cc p = .ok (27, p + 1)) : decode cc p = .ok (.iload_n 1, 1) := fd_dec (by
  refine Eq.trans (fd_bind h) ?_
  rfl)
theorem fx_iload_n2 {cc : ByteArray} {p : Nat} (h : (Reader.u1 : Decoder Nat) cc p = .ok (28, p + 1)) : decode cc p = .ok (.iload_n 2, 1) := fd_dec (by
  refine Eq.trans (fd_bind h) ?_
  rfl)
theorem fx_iload_n3 {cc : ByteArray} {p : Nat} (h : (Reader.u1 : Decoder Nat) cc p = .ok (29, p + 1)) : decode cc p = .ok (.iload_n 3, 1) := fd_dec (by
  refine Eq.trans (fd_bind h) ?_
  rfl)
theorem fx_aload_n0 {cc : ByteArray} {p : Nat} (h : (Reader.u1 : Decoder Nat) cc p = .ok (42, p + 1)) : decode cc p = .ok (.aload_n 0, 1) := fd_dec (by
  refine Eq.trans (fd_bind h) ?_
  rfl)
theorem fx_aload_n1 {cc : ByteArray} {p : Nat} (h : (Reader.u1 : Decoder Nat) cc p = .ok (43, p + 1)) : decode cc p = .ok (.aload_n 1, 1) := fd_dec (by
  refine Eq.trans (fd_bind h) ?_
  rfl)
theorem fx_aload_n2 {cc : ByteArray} {p : Nat} (h : (Reader.u1 : Decoder Nat) cc p = .ok (44, p + 1)) : decode cc p = .ok (.aload_n 2, 1) := fd_dec (by
  refine Eq.trans (fd_bind h) ?_
  rfl)
theorem fx_aload_n3 {cc : ByteArray} {p : Nat} (h : (Reader.u1 : Decoder Nat) cc p = .ok (45, p + 1)) : decode cc p = .ok (.aload_n 3, 1) := fd_dec (by
  refine Eq.trans (fd_bind h) ?_
  rfl)
theorem fx_istore_n0 {cc : ByteArray} {p : Nat} (h : (Reader.u1 : Decoder Nat) cc p = .ok (59, p + 1)) : decode cc p = .ok (.istore_n 0, 1) := fd_dec (by
  refine Eq.trans (fd_bind h) ?_
  rfl)
theorem fx_istore_n1 {cc : ByteArray} {p : Nat} (h : (Reader.u1 : Decoder Nat) cc p = .ok (60, p + 1)) : decode cc p = .ok (.istore_n 1, 1) := fd_dec (by
  refine Eq.trans (fd_bind h) ?_
  rfl)
theorem fx_istore_n2 {cc : ByteArray} {p : Nat} (h : (Reader.u1 : Decoder Nat) cc p = .ok (61, p + 1)) : decode cc p = .ok (.istore_n 2, 1) := fd_dec (by
  refine Eq.trans (fd_bind h) ?_
  rfl)
theorem fx_istore_n3 {cc : ByteArray} {p : Nat} (h : (Reader.u1 : Decoder Nat) cc p = .ok (62, p + 1)) : decode cc p = .ok (.istore_n 3, 1) := fd_dec (by
  refine Eq.trans (fd_bind h) ?_
  rfl)
theorem fx_iconst0 {cc : ByteArray} {p : Nat} (h : (Reader.u1 : Decoder Nat) cc p = .ok (2, p + 1)) : decode cc p = .ok (.iconst (-1), 1) := fd_dec (by
  refine Eq.trans (fd_bind h) ?_
  rfl)
theorem fx_iconst1 {cc : ByteArray} {p : Nat} (h : (Reader.u1 : Decoder Nat) cc p = .ok (3, p + 1)) : decode cc p = .ok (.iconst (0), 1) := fd_dec (by
  refine Eq.trans (fd_bind h) ?_
  rfl)
theorem fx_iconst2 {cc : ByteArray} {p : Nat} (h : (Reader.u1 : Decoder Nat) cc p = .ok (4, p + 1)) : decode cc p = .ok (.iconst (1), 1) := fd_dec (by
  refine Eq.trans (fd_bind h) ?_
  rfl)
theorem fx_iconst3 {cc : ByteArray} {p : Nat} (h : (Reader.u1 : Decoder Nat) cc p = .ok (5, p + 1)) : decode cc p = .ok (.iconst (2), 1) := fd_dec (by
  refine Eq.trans (fd_bind h) ?_
  rfl)
theorem fx_iconst4 {cc : ByteArray} {p : Nat} (h : (Reader.u1 : Decoder Nat) cc p = .ok (6, p + 1)) : decode cc p = .ok (.iconst (3), 1) := fd_dec (by
  refine Eq.trans (fd_bind h) ?_
  rfl)
theorem fx_iconst5 {cc : ByteArray} {p : Nat} (h : (Reader.u1 : Decoder Nat) cc p = .ok (7, p + 1)) : decode cc p = .ok (.iconst (4), 1) := fd_dec (by
  refine Eq.trans (fd_bind h) ?_
  rfl)
theorem fx_iconst6 {cc : ByteArray} {p : Nat} (h : (Reader.u1 : Decoder Nat) cc p = .ok (8, p + 1)) : decode cc p = .ok (.iconst (5), 1) := fd_dec (by
  refine Eq.trans (fd_bind h) ?_
  rfl)
theorem fx_iload {cc : ByteArray} {p : Nat} {x : Nat} (h : (Reader.u1 : Decoder Nat) cc p = .ok (21, p + 1)) (g : (Reader.u1 : Decoder Nat) cc (p + 1) = .ok (x, p + 2)) : decode cc p = .ok (.iload x, 2) := fd_dec (by
  refine Eq.trans (fd_bind h) ?_
  refine Eq.trans (fd_bind g) ?_
  rfl)
theorem fx_istore {cc : ByteArray} {p : Nat} {x : Nat} (h : (Reader.u1 : Decoder Nat) cc p = .ok (54, p + 1)) (g : (Reader.u1 : Decoder Nat) cc (p + 1) = .ok (x, p + 2)) : decode cc p = .ok (.istore x, 2) := fd_dec (by
  refine Eq.trans (fd_bind h) ?_
  refine Eq.trans (fd_bind g) ?_
  rfl)
theorem fx_bipush {cc : ByteArray} {p : Nat} {x : Nat} (h : (Reader.u1 : Decoder Nat) cc p = .ok (16, p + 1)) (g : (Reader.u1 : Decoder Nat) cc (p + 1) = .ok (x, p + 2)) : decode cc p = .ok (.bipush (Reader.signed 8 x), 2) := fd_dec (by
  refine Eq.trans (fd_bind h) ?_
  refine Eq.trans (fd_bind (fd_map g)) ?_
  rfl)
theorem fx_getfield {cc : ByteArray} {p : Nat} {x : Nat} (h : (Reader.u1 : Decoder Nat) cc p = .ok (180, p + 1)) (g : (Reader.u2 : Decoder Nat) cc (p + 1) = .ok (x, p + 3)) : decode cc p = .ok (.getfield x, 3) := fd_dec (by
  refine Eq.trans (fd_bind h) ?_
  refine Eq.trans (fd_bind g) ?_
  rfl)
theorem fx_putfield {cc : ByteArray} {p : Nat} {x : Nat} (h : (Reader.u1 : Decoder Nat) cc p = .ok (181, p + 1)) (g : (Reader.u2 : Decoder Nat) cc (p + 1) = .ok (x, p + 3)) : decode cc p = .ok (.putfield x, 3) := fd_dec (by
  refine Eq.trans (fd_bind h) ?_
  refine Eq.trans (fd_bind g) ?_
  rfl)
theorem fx_invokevirtual {cc : ByteArray} {p : Nat} {x : Nat} (h : (Reader.u1 : Decoder Nat) cc p = .ok (182, p + 1)) (g : (Reader.u2 : Decoder Nat) cc (p + 1) = .ok (x, p + 3)) : decode cc p = .ok (.invokevirtual x, 3) := fd_dec (by
  refine Eq.trans (fd_bind h) ?_
  refine Eq.trans (fd_bind g) ?_
  rfl)
theorem fx_invokestatic {cc : ByteArray} {p : Nat} {x : Nat} (h : (Reader.u1 : Decoder Nat) cc p = .ok (184, p + 1)) (g : (Reader.u2 : Decoder Nat) cc (p + 1) = .ok (x, p + 3)) : decode cc p = .ok (.invokestatic x, 3) := fd_dec (by
  refine Eq.trans (fd_bind h) ?_
  refine Eq.trans (fd_bind g) ?_
  rfl)
theorem fx_goto {cc : ByteArray} {p : Nat} {x : Nat} (h : (Reader.u1 : Decoder Nat) cc p = .ok (167, p + 1)) (g : (Reader.u2 : Decoder Nat) cc (p + 1) = .ok (x, p + 3)) : decode cc p = .ok (.goto (Reader.signed 16 x), 3) := fd_dec (by
  refine Eq.trans (fd_bind h) ?_
  refine Eq.trans (fd_bind (fd_map g)) ?_
  rfl)
theorem fx_ifCond_eq {cc : ByteArray} {p : Nat} {x : Nat} (h : (Reader.u1 : Decoder Nat) cc p = .ok (153, p + 1)) (g : (Reader.u2 : Decoder Nat) cc (p + 1) = .ok (x, p + 3)) : decode cc p = .ok (.ifCond .eq (Reader.signed 16 x), 3) := fd_dec (by
  refine Eq.trans (fd_bind h) ?_
  refine Eq.trans (fd_bind (fd_map g)) ?_
  rfl)
theorem fx_ifCond_ne {cc : ByteArray} {p : Nat} {x : Nat} (h : (Reader.u1 : Decoder Nat) cc p = .ok (154, p + 1)) (g : (Reader.u2 : Decoder Nat) cc (p + 1) = .ok (x, p + 3)) : decode cc p = .ok (.ifCond .ne (Reader.signed 16 x), 3) := fd_dec (by
  refine Eq.trans (fd_bind h) ?_
  refine Eq.trans (fd_bind (fd_map g)) ?_
  rfl)
theorem fx_ifCond_lt {cc : ByteArray} {p : Nat} {x : Nat} (h : (Reader.u1 : Decoder Nat) cc p = .ok (155, p + 1)) (g : (Reader.u2 : Decoder Nat) cc (p + 1) = .ok (x, p + 3)) : decode cc p = .ok (.ifCond .lt (Reader.signed 16 x), 3) := fd_dec (by
  refine Eq.trans (fd_bind h) ?_
  refine Eq.trans (fd_bind (fd_map g)) ?_
  rfl)
theorem fx_ifCond_ge {cc : ByteArray} {p : Nat} {x : Nat} (h : (Reader.u1 : Decoder Nat) cc p = .ok (156, p + 1)) (g : (Reader.u2 : Decoder Nat) cc (p + 1) = .ok (x, p + 3)) : decode cc p = .ok (.ifCond .ge (Reader.signed 16 x), 3) := fd_dec (by
  refine Eq.trans (fd_bind h) ?_
  refine Eq.trans (fd_bind (fd_map g)) ?_
  rfl)
theorem fx_ifCond_gt {cc : ByteArray} {p : Nat} {x : Nat} (h : (Reader.u1 : Decoder Nat) cc p = .ok (157, p + 1)) (g : (Reader.u2 : Decoder Nat) cc (p + 1) = .ok (x, p + 3)) : decode cc p = .ok (.ifCond .gt (Reader.signed 16 x), 3) := fd_dec (by
  refine Eq.trans (fd_bind h) ?_
  refine Eq.trans (fd_bind (fd_map g)) ?_
  rfl)
theorem fx_ifCond_le {cc : ByteArray} {p : Nat} {x : Nat} (h : (Reader.u1 : Decoder Nat) cc p = .ok (158, p + 1)) (g : (Reader.u2 : Decoder Nat) cc (p + 1) = .ok (x, p + 3)) : decode cc p = .ok (.ifCond .le (Reader.signed 16 x), 3) := fd_dec (by
  refine Eq.trans (fd_bind h) ?_
  refine Eq.trans (fd_bind (fd_map g)) ?_
  rfl)
theorem fx_if_icmp_eq {cc : ByteArray} {p : Nat} {x : Nat} (h : (Reader.u1 : Decoder Nat) cc p = .ok (159, p + 1)) (g : (Reader.u2 : Decoder Nat) cc (p + 1) = .ok (x, p + 3)) : decode cc p = .ok (.if_icmp .eq (Reader.signed 16 x), 3) := fd_dec (by
  refine Eq.trans (fd_bind h) ?_
  refine Eq.trans (fd_bind (fd_map g)) ?_
  rfl)
theorem fx_if_icmp_ne {cc : ByteArray} {p : Nat} {x : Nat} (h : (Reader.u1 : Decoder Nat) cc p = .ok (160, p + 1)) (g : (Reader.u2 : Decoder Nat) cc (p + 1) = .ok (x, p + 3)) : decode cc p = .ok (.if_icmp .ne (Reader.signed 16 x), 3) := fd_dec (by
  refine Eq.trans (fd_bind h) ?_
  refine Eq.trans (fd_bind (fd_map g)) ?_
  rfl)
theorem fx_if_icmp_lt {cc : ByteArray} {p : Nat} {x : Nat} (h : (Reader.u1 : Decoder Nat) cc p = .ok (161, p + 1)) (g : (Reader.u2 : Decoder Nat) cc (p + 1) = .ok (x, p + 3)) : decode cc p = .ok (.if_icmp .lt (Reader.signed 16 x), 3) := fd_dec (by
  refine Eq.trans (fd_bind h) ?_
  refine Eq.trans (fd_bind (fd_map g)) ?_
  rfl)
theorem fx_if_icmp_ge {cc : ByteArray} {p : Nat} {x : Nat} (h : (Reader.u1 : Decoder Nat) cc p = .ok (162, p + 1)) (g : (Reader.u2 : Decoder Nat) cc (p + 1) = .ok (x, p + 3)) : decode cc p = .ok (.if_icmp .ge (Reader.signed 16 x), 3) := fd_dec (by
  refine Eq.trans (fd_bind h) ?_
  refine Eq.trans (fd_bind (fd_map g)) ?_
  rfl)
theorem fx_if_icmp_gt {cc : ByteArray} {p : Nat} {x : Nat} (h : (Reader.u1 : Decoder Nat) cc p = .ok (163, p + 1)) (g : (Reader.u2 : Decoder Nat) cc (p + 1) = .ok (x, p + 3)) : decode cc p = .ok (.if_icmp .gt (Reader.signed 16 x), 3) := fd_dec (by
  refine Eq.trans (fd_bind h) ?_
  refine Eq.trans (fd_bind (fd_map g)) ?_
  rfl)
theorem fx_if_icmp_le {cc : ByteArray} {p : Nat} {x : Nat} (h : (Reader.u1 : Decoder Nat) cc p = .ok (164, p + 1)) (g : (Reader.u2 : Decoder Nat) cc (p + 1) = .ok (x, p + 3)) : decode cc p = .ok (.if_icmp .le (Reader.signed 16 x), 3) := fd_dec (by
  refine Eq.trans (fd_bind h) ?_
  refine Eq.trans (fd_bind (fd_map g)) ?_
  rfl)
noncomputable def fd_cd : ClassFile.Cond → Nat
  | .eq => 0
  | .ne => 1
  | .lt => 2
  | .ge => 3
  | .gt => 4
  | .le => 5
/-- an instruction stands at the head of these bytes -/
noncomputable def fd_is (i : Instr) (n : Nat) (l : List UInt8) : Bool := match i with
  | .iload_n k => fd_1 (26 + k.val) n l
  | .aload_n k => fd_1 (42 + k.val) n l
  | .istore_n k => fd_1 (59 + k.val) n l
  | .iconst t => decide (-1 ≤ t ∧ t ≤ 5) && fd_1 (t + 3).toNat n l
  | .iadd => fd_1 96 n l
  | .isub => fd_1 100 n l
  | .imul => fd_1 104 n l
  | .iand => fd_1 126 n l
  | .ior => fd_1 128 n l
  | .ishl => fd_1 120 n l
  | .iaload => fd_1 46 n l
  | .iastore => fd_1 79 n l
  | .ireturn => fd_1 172 n l
  | .return_ => fd_1 177 n l
  | .iload k => fd_2 21 (fun x => Nat.beq x k) n l
  | .istore k => fd_2 54 (fun x => Nat.beq x k) n l
  | .bipush t => fd_2 16 (fun x => decide (Reader.signed 8 x = t)) n l
  | .getfield k => fd_3 180 (fun x => Nat.beq x k) n l
  | .putfield k => fd_3 181 (fun x => Nat.beq x k) n l
  | .invokevirtual k => fd_3 182 (fun x => Nat.beq x k) n l
  | .invokestatic k => fd_3 184 (fun x => Nat.beq x k) n l
  | .goto o => fd_3 167 (fun x => decide (Reader.signed 16 x = o)) n l
  | .ifCond c o => fd_3 (153 + fd_cd c) (fun x => decide (Reader.signed 16 x = o)) n l
  | .if_icmp c o => fd_3 (159 + fd_cd c) (fun x => decide (Reader.signed 16 x = o)) n l
  | _ => false
theorem fd_is_ok {cc : ByteArray} {p n : Nat} {i : Instr} (h : fd_is i n (cc.data.toList.drop p) = true) : decode cc p = .ok (i, n) := by
  cases i
  case iload_n k =>
    obtain ⟨h1, rfl⟩ := fd_1_ok h
    obtain ⟨k, hk⟩ := k
    have e : k = 0 ∨ k = 1 ∨ k = 2 ∨ k = 3 := by omega
    rcases e with rfl | rfl | rfl | rfl
    · exact fx_iload_n0 h1
    · exact fx_iload_n1 h1
    · exact fx_iload_n2 h1
    · exact fx_iload_n3 h1
  case aload_n k =>
    obtain ⟨h1, rfl⟩ := fd_1_ok h
    obtain ⟨k, hk⟩ := k
    have e : k = 0 ∨ k = 1 ∨ k = 2 ∨ k = 3 := by omega
    rcases e with rfl | rfl | rfl | rfl
    · exact fx_aload_n0 h1
    · exact fx_aload_n1 h1
    · exact fx_aload_n2 h1
    · exact fx_aload_n3 h1
  case istore_n k =>
    obtain ⟨h1, rfl⟩ := fd_1_ok h
    obtain ⟨k, hk⟩ := k
    have e : k = 0 ∨ k = 1 ∨ k = 2 ∨ k = 3 := by omega
    rcases e with rfl | rfl | rfl | rfl
    · exact fx_istore_n0 h1
    · exact fx_istore_n1 h1
    · exact fx_istore_n2 h1
    · exact fx_istore_n3 h1
  case iconst t =>
    have h : (decide (-1 ≤ t ∧ t ≤ 5) && fd_1 (t + 3).toNat n (cc.data.toList.drop p)) = true := h
    rw [Bool.and_eq_true, decide_eq_true_eq] at h
    obtain ⟨h0, h2⟩ := h
    obtain ⟨h1, rfl⟩ := fd_1_ok h2
    have e : t = -1 ∨ t = 0 ∨ t = 1 ∨ t = 2 ∨ t = 3 ∨ t = 4 ∨ t = 5 := by omega
    rcases e with rfl | rfl | rfl | rfl | rfl | rfl | rfl
    · exact fx_iconst0 h1
    · exact fx_iconst1 h1
    · exact fx_iconst2 h1
    · exact fx_iconst3 h1
    · exact fx_iconst4 h1
    · exact fx_iconst5 h1
    · exact fx_iconst6 h1
  case iadd =>
    obtain ⟨h1, rfl⟩ := fd_1_ok h
    exact fx_iadd h1
  case isub =>
    obtain ⟨h1, rfl⟩ := fd_1_ok h
    exact fx_isub h1
  case imul =>
    obtain ⟨h1, rfl⟩ := fd_1_ok h
    exact fx_imul h1
  case iand =>
    obtain ⟨h1, rfl⟩ := fd_1_ok h
    exact fx_iand h1
  case ior =>
    obtain ⟨h1, rfl⟩ := fd_1_ok h
    exact fx_ior h1
  case ishl =>
    obtain ⟨h1, rfl⟩ := fd_1_ok h
    exact fx_ishl h1
  case iaload =>
    obtain ⟨h1, rfl⟩ := fd_1_ok h
    exact fx_iaload h1
  case iastore =>
    obtain ⟨h1, rfl⟩ := fd_1_ok h
    exact fx_iastore h1
  case ireturn =>
    obtain ⟨h1, rfl⟩ := fd_1_ok h
    exact fx_ireturn h1
  case return_ =>
    obtain ⟨h1, rfl⟩ := fd_1_ok h
    exact fx_return_ h1
  case iload k =>
    have h : fd_2 21 (fun x => Nat.beq x k) n (cc.data.toList.drop p) = true := h
    obtain ⟨x, h1, h2, h3, rfl⟩ := fd_2_ok h
    have e : x = k := Nat.eq_of_beq_eq_true h3
    subst e
    exact fx_iload h1 h2
  case istore k =>
    have h : fd_2 54 (fun x => Nat.beq x k) n (cc.data.toList.drop p) = true := h
    obtain ⟨x, h1, h2, h3, rfl⟩ := fd_2_ok h
    have e : x = k := Nat.eq_of_beq_eq_true h3
    subst e
    exact fx_istore h1 h2
  case bipush t =>
    have h : fd_2 16 (fun x => decide (Reader.signed 8 x = t)) n (cc.data.toList.drop p) = true := h
    obtain ⟨x, h1, h2, h3, rfl⟩ := fd_2_ok h
    have e : Reader.signed 8 x = t := of_decide_eq_true h3
    subst e
    exact fx_bipush h1 h2
  case getfield k =>
    have h : fd_3 180 (fun x => Nat.beq x k) n (cc.data.toList.drop p) = true := h
    obtain ⟨x, h1, h2, h3, rfl⟩ := fd_3_ok h
    have e : x = k := Nat.eq_of_beq_eq_true h3
    subst e
    exact fx_getfield h1 h2
  case putfield k =>
    have h : fd_3 181 (fun x => Nat.beq x k) n (cc.data.toList.drop p) = true := h
    obtain ⟨x, h1, h2, h3, rfl⟩ := fd_3_ok h
    have e : x = k := Nat.eq_of_beq_eq_true h3
    subst e
    exact fx_putfield h1 h2
  case invokevirtual k =>
    have h : fd_3 182 (fun x => Nat.beq x k) n (cc.data.toList.drop p) = true := h
    obtain ⟨x, h1, h2, h3, rfl⟩ := fd_3_ok h
    have e : x = k := Nat.eq_of_beq_eq_true h3
    subst e
    exact fx_invokevirtual h1 h2
  case invokestatic k =>
    have h : fd_3 184 (fun x => Nat.beq x k) n (cc.data.toList.drop p) = true := h
    obtain ⟨x, h1, h2, h3, rfl⟩ := fd_3_ok h
    have e : x = k := Nat.eq_of_beq_eq_true h3
    subst e
    exact fx_invokestatic h1 h2
  case goto o =>
    have h : fd_3 167 (fun x => decide (Reader.signed 16 x = o)) n (cc.data.toList.drop p) = true := h
    obtain ⟨x, h1, h2, h3, rfl⟩ := fd_3_ok h
    have e : Reader.signed 16 x = o := of_decide_eq_true h3
    subst e
    exact fx_goto h1 h2
  case ifCond c o =>
    have h : fd_3 (153 + fd_cd c) (fun x => decide (Reader.signed 16 x = o)) n (cc.data.toList.drop p) = true := h
    obtain ⟨x, h1, h2, h3, rfl⟩ := fd_3_ok h
    have e : Reader.signed 16 x = o := of_decide_eq_true h3
    subst e
    cases c
    case eq => exact fx_ifCond_eq h1 h2
    case ne => exact fx_ifCond_ne h1 h2
    case lt => exact fx_ifCond_lt h1 h2
    case ge => exact fx_ifCond_ge h1 h2
    case gt => exact fx_ifCond_gt h1 h2
    case le => exact fx_ifCond_le h1 h2
  case if_icmp c o =>
    have h : fd_3 (159 + fd_cd c) (fun x => decide (Reader.signed 16 x = o)) n (cc.data.toList.drop p) = true := h
    obtain ⟨x, h1, h2, h3, rfl⟩ := fd_3_ok h
    have e : Reader.signed 16 x = o := of_decide_eq_true h3
    subst e
    cases c
    case eq => exact fx_if_icmp_eq h1 h2
    case ne => exact fx_if_icmp_ne h1 h2
    case lt => exact fx_if_icmp_lt h1 h2
    case ge => exact fx_if_icmp_ge h1 h2
    case gt => exact fx_if_icmp_gt h1 h2
    case le => exact fx_if_icmp_le h1 h2
  all_goals exact absurd h Bool.false_ne_true
noncomputable def fd_at (cc : ByteArray) (p : Nat) (i : Instr) (n : Nat) : Bool := fd_is i n (cc.data.toList.drop p) || decide (decode cc p = .ok (i, n))
theorem fd_at_ok {cc : ByteArray} {p n : Nat} {i : Instr} (h : fd_at cc p i n = true) : decode cc p = .ok (i, n) := by
  unfold fd_at at h
  rw [Bool.or_eq_true] at h
  rcases h with h | h
  · exact fd_is_ok h
  · exact of_decide_eq_true h
noncomputable def fd_chk1 (ms : List ev_MI) (P : ev_P) (cc : ByteArray) (l : List UInt8) (q : Nat × ev_Row) (ps : List Nat) : Bool := match cm_rowF ms P q.2 with
  | some (i, n, cs) => (fd_is i n l || decide (decode cc q.1 = .ok (i, n))) && (decide (cs.map some = ps.map lw_at) && cs.all goodWord)
  | none => false
noncomputable def fd_chkR (ms : List ev_MI) (P : ev_P) (cc : ByteArray) : Nat → List UInt8 → List (Nat × ev_Row) → List (List Nat) → Bool
  | _, _, [], [] => true
  | p0, l, q :: rows, p :: ps => Nat.ble p0 q.1 && (fd_chk1 ms P cc (l.drop (q.1 - p0)) q p && fd_chkR ms P cc q.1 (l.drop (q.1 - p0)) rows ps)
  | _, _, _, _ => false
theorem fd_dr {cc : ByteArray} {p0 p : Nat} {l : List UInt8} (hl : l = cc.data.toList.drop p0) (hp : Nat.ble p0 p = true) : l.drop (p - p0) = cc.data.toList.drop p := by
  have := Nat.le_of_ble_eq_true hp
  rw [hl, List.drop_drop, show p0 + (p - p0) = p from by omega]
theorem fd_chkR_ok {ms : List ev_MI} {P : ev_P} {cc : ByteArray} : ∀ {rows : List (Nat × ev_Row)} {ps : List (List Nat)} {p0 : Nat} {l : List UInt8}, l = cc.data.toList.drop p0 → fd_chkR ms P cc p0 l rows ps = true → ∀ q ∈ rows, cm_RowOK ms P cc q
  | [], [], _, _, _, _ => fun q hq => nomatch hq
  | [], _ :: _, _, _, _, h => by cases h
  | _ :: _, [], _, _, _, h => by cases h
  | q :: rows, p :: ps, p0, l, hl, h => by
    unfold fd_chkR at h
    rw [Bool.and_eq_true, Bool.and_eq_true] at h
    obtain ⟨h0, h1, h3⟩ := h
    have hd := fd_dr hl h0
    intro q' hq'
    rcases List.mem_cons.mp hq' with rfl | hq'
    · unfold fd_chk1 at h1
      split at h1
      · rename_i i n cs hi
        rw [cm_rowF_eq] at hi
        rw [Bool.and_eq_true, Bool.and_eq_true, decide_eq_true_eq] at h1
        obtain ⟨a1, a2, a3⟩ := h1
        rw [hd] at a1
        refine ⟨i, n, cs, hi, fd_at_ok a1, fun w hw => ?_⟩
        have hg := List.all_eq_true.mp a3 w hw
        have hm : some w ∈ p.map lw_at := by rw [← a2]; exact List.mem_map.mpr ⟨w, hw, rfl⟩
        obtain ⟨j, -, hj⟩ := List.mem_map.mp hm
        exact lw_good_at j (lw_at_ok hj) hg
      · cases h1
    · exact fd_chkR_ok hd h3 q' hq'
noncomputable def fd_chkAll (ms : List ev_MI) (P : ev_P) (cc : ByteArray) (rows : List (Nat × ev_Row)) (ps : List (List Nat)) : Bool := fd_chkR ms P cc 0 cc.data.toList rows ps
theorem fd_chkAll_ok {ms : List ev_MI} {P : ev_P} {cc : ByteArray} {rows : List (Nat × ev_Row)} {ps : List (List Nat)} (h : fd_chkAll ms P cc rows ps = true) : ∀ q ∈ rows, cm_RowOK ms P cc q := fd_chkR_ok (p0 := 0) rfl h
noncomputable def wz_ind (o : cm_O) : Prop := ∀ (a b : Nat) (c : Bool) (C : String) (d e a' b' : Nat) (c' : Bool) (d' e' : Nat) (t : ev_T), o.1 (a, b, c, C, d, e) t = o.1 (a', b', c', C, d', e') t
theorem wz_c1 {o : cm_O} {l : List cm_O} (h : wz_ind o) (h2 : ∀ o ∈ l, wz_ind o) : ∀ o' ∈ o :: l, wz_ind o' := List.forall_mem_cons.mpr ⟨h, h2⟩
theorem wz_ops : ∀ o ∈ cm_ops, wz_ind o := wz_c1 (fun _ _ _ _ _ _ _ _ _ _ _ _ => rfl) (wz_c1 (fun _ _ _ _ _ _ _ _ _ _ _ _ => rfl) (wz_c1 (fun _ _ _ _ _ _ _ _ _ _ _ _ => rfl) (wz_c1 (fun _ _ _ _ _ _ _ _ _ _ _ _ => rfl) (wz_c1 (fun _ _ _ _ _ _ _ _ _ _ _ _ => rfl) (wz_c1 (fun _ _ _ _ _ _ _ _ _ _ _ _ => rfl) (wz_c1 (fun _ _ _ _ _ _ _ _ _ _ _ _ => rfl) (wz_c1 (fun _ _ _ _ _ _ _ _ _ _ _ _ => rfl) (wz_c1 (fun _ _ _ _ _ _ _ _ _ _ _ _ => rfl) (wz_c1 (fun _ _ _ _ _ _ _ _ _ _ _ _ => rfl) (wz_c1 (fun _ _ _ _ _ _ _ _ _ _ _ _ => rfl) (wz_c1 (fun _ _ _ _ _ _ _ _ _ _ _ _ => rfl) (wz_c1 (fun _ _ _ _ _ _ _ _ _ _ _ _ => rfl) (wz_c1 (fun _ _ _ _ _ _ _ _ _ _ _ _ => rfl) (wz_c1 (fun _ _ _ _ _ _ _ _ _ _ _ _ => rfl) (wz_c1 (fun _ _ _ _ _ _ _ _ _ _ _ _ => rfl) (wz_c1 (fun _ _ _ _ _ _ _ _ _ _ _ _ => rfl) (wz_c1 (fun _ _ _ _ _ _ _ _ _ _ _ _ => rfl) (wz_c1 (fun _ _ _ _ _ _ _ _ _ _ _ _ => rfl) (wz_c1 (fun _ _ _ _ _ _ _ _ _ _ _ _ => rfl) (wz_c1 (fun _ _ _ _ _ _ _ _ _ _ _ _ => rfl) (wz_c1 (fun _ _ _ _ _ _ _ _ _ _ _ _ => rfl) (wz_c1 (fun _ _ _ _ _ _ _ _ _ _ _ _ => rfl) (wz_c1 (fun _ _ _ _ _ _ _ _ _ _ _ _ => rfl) (wz_c1 (fun _ _ _ _ _ _ _ _ _ _ _ _ => rfl) (wz_c1 (fun _ _ _ _ _ _ _ _ _ _ _ _ => rfl) (wz_c1 (fun _ _ _ _ _ _ _ _ _ _ _ _ => rfl) (wz_c1 (fun _ _ _ _ _ _ _ _ _ _ _ _ => rfl) (wz_c1 (fun _ _ _ _ _ _ _ _ _ _ _ _ => rfl) (wz_c1 (fun _ _ _ _ _ _ _ _ _ _ _ _ => rfl) (wz_c1 (fun _ _ _ _ _ _ _ _ _ _ _ _ => rfl) (wz_c1 (fun _ _ _ _ _ _ _ _ _ _ _ _ => rfl) (wz_c1 (fun _ _ _ _ _ _ _ _ _ _ _ _ => rfl) (wz_c1 (fun _ _ _ _ _ _ _ _ _ _ _ _ => rfl) (wz_c1 (fun _ _ _ _ _ _ _ _ _ _ _ _ => rfl) (wz_c1 (fun _ _ _ _ _ _ _ _ _ _ _ _ => rfl) (wz_c1 (fun _ _ _ _ _ _ _ _ _ _ _ _ => rfl) (wz_c1 (fun _ _ _ _ _ _ _ _ _ _ _ _ => rfl) (wz_c1 (fun _ _ _ _ _ _ _ _ _ _ _ _ => rfl) (wz_c1 (fun _ _ _ _ _ _ _ _ _ _ _ _ => rfl) (wz_c1 (fun _ _ _ _ _ _ _ _ _ _ _ _ => rfl) (wz_c1 (fun _ _ _ _ _ _ _ _ _ _ _ _ => rfl) (wz_c1 (fun _ _ _ _ _ _ _ _ _ _ _ _ => rfl) (wz_c1 (fun _ _ _ _ _ _ _ _ _ _ _ _ => rfl) (wz_c1 (fun _ _ _ _ _ _ _ _ _ _ _ _ => rfl) (wz_c1 (fun _ _ _ _ _ _ _ _ _ _ _ _ => rfl) (wz_c1 (fun _ _ _ _ _ _ _ _ _ _ _ _ => rfl) (wz_c1 (fun _ _ _ _ _ _ _ _ _ _ _ _ => rfl) (wz_c1 (fun _ _ _ _ _ _ _ _ _ _ _ _ => rfl) (wz_c1 (fun _ _ _ _ _ _ _ _ _ _ _ _ => rfl) (wz_c1 (fun _ _ _ _ _ _ _ _ _ _ _ _ => rfl) (wz_c1 (fun _ _ _ _ _ _ _ _ _ _ _ _ => rfl) (wz_c1 (fun _ _ _ _ _ _ _ _ _ _ _ _ => rfl) (wz_c1 (fun _ _ _ _ _ _ _ _ _ _ _ _ => rfl) (wz_c1 (fun _ _ _ _ _ _ _ _ _ _ _ _ => rfl) (wz_c1 (fun _ _ _ _ _ _ _ _ _ _ _ _ => rfl) (wz_c1 (fun _ _ _ _ _ _ _ _ _ _ _ _ => rfl) (wz_c1 (fun _ _ _ _ _ _ _ _ _ _ _ _ => rfl) (wz_c1 (fun _ _ _ _ _ _ _ _ _ _ _ _ => rfl) (wz_c1 (fun _ _ _ _ _ _ _ _ _ _ _ _ => rfl) (wz_c1 (fun _ _ _ _ _ _ _ _ _ _ _ _ => rfl) (wz_c1 (fun _ _ _ _ _ _ _ _ _ _ _ _ => rfl) (wz_c1 (fun _ _ _ _ _ _ _ _ _ _ _ _ => rfl) (wz_c1 (fun _ _ _ _ _ _ _ _ _ _ _ _ => rfl) (wz_c1 (fun _ _ _ _ _ _ _ _ _ _ _ _ => rfl) (wz_c1 (fun _ _ _ _ _ _ _ _ _ _ _ _ => rfl) (wz_c1 (fun _ _ _ _ _ _ _ _ _ _ _ _ => rfl) (wz_c1 (fun _ _ _ _ _ _ _ _ _ _ _ _ => rfl) (wz_c1 (fun _ _ _ _ _ _ _ _ _ _ _ _ => rfl) (wz_c1 (fun _ _ _ _ _ _ _ _ _ _ _ _ => rfl) (wz_c1 (fun _ _ _ _ _ _ _ _ _ _ _ _ => rfl) (wz_c1 (fun _ _ _ _ _ _ _ _ _ _ _ _ => rfl) (wz_c1 (fun _ _ _ _ _ _ _ _ _ _ _ _ => rfl) (wz_c1 (fun _ _ _ _ _ _ _ _ _ _ _ _ => rfl) (wz_c1 (fun _ _ _ _ _ _ _ _ _ _ _ _ => rfl) (wz_c1 (fun _ _ _ _ _ _ _ _ _ _ _ _ => rfl) (wz_c1 (fun _ _ _ _ _ _ _ _ _ _ _ _ => rfl) (wz_c1 (fun _ _ _ _ _ _ _ _ _ _ _ _ => rfl) (wz_c1 (fun _ _ _ _ _ _ _ _ _ _ _ _ => rfl) (wz_c1 (fun _ _ _ _ _ _ _ _ _ _ _ _ => rfl) (wz_c1 (fun _ _ _ _ _ _ _ _ _ _ _ _ => rfl) (wz_c1 (fun _ _ _ _ _ _ _ _ _ _ _ _ => rfl) (wz_c1 (fun _ _ _ _ _ _ _ _ _ _ _ _ => rfl) (wz_c1 (fun _ _ _ _ _ _ _ _ _ _ _ _ => rfl) (wz_c1 (fun _ _ _ _ _ _ _ _ _ _ _ _ => rfl) (wz_c1 (fun _ _ _ _ _ _ _ _ _ _ _ _ => rfl) (wz_c1 (fun _ _ _ _ _ _ _ _ _ _ _ _ => rfl) (wz_c1 (fun _ _ _ _ _ _ _ _ _ _ _ _ => rfl) (wz_c1 (fun _ _ _ _ _ _ _ _ _ _ _ _ => rfl) (wz_c1 (fun _ _ _ _ _ _ _ _ _ _ _ _ => rfl) (wz_c1 (fun _ _ _ _ _ _ _ _ _ _ _ _ => rfl) (wz_c1 (fun _ _ _ _ _ _ _ _ _ _ _ _ => rfl) (fun o ho => nomatch ho))))))))))))))))))))))))))))))))))))))))))))))))))))))))))))))))))))))))))))))))))))))))))))
theorem wz_rowP (ms : List ev_MI) (C : String) (n : Nat) (r : ev_Row) : cm_rowI ms (0, 0, false, C, n, 0) r = cm_rowI ms (0, 0, false, C, 0, 0) r := by
  by_cases h : r.1 = 200 ∨ r.1 = 201 ∨ r.1 = 210 ∨ r.1 = 211 ∨ r.1 = 212 ∨ r.1 = 213
  · obtain ⟨k, t⟩ := r
    have h : k = 200 ∨ k = 201 ∨ k = 210 ∨ k = 211 ∨ k = 212 ∨ k = 213 := h
    rcases h with rfl | rfl | rfl | rfl | rfl | rfl <;> rfl
  · have e : ∀ P : ev_P, cm_rowI ms P r = (match cm_ops[r.1]? with
        | some o => o.1 P r.2
        | none => none) := by
      intro P
      unfold cm_rowI
      split
      · omega
      · omega
      · omega
      · omega
      · omega
      · omega
      · rfl
    rw [e, e]
    cases ho : cm_ops[r.1]? with
    | none => rfl
    | some o => exact wz_ops o (List.mem_of_getElem? ho) 0 0 false C n 0 0 0 false 0 0 r.2
/-- the words of a row -/
noncomputable def wz_wd (ms : List ev_MI) (C : String) (r : ev_Row) : Prop := (∀ i n cs, cm_rowI ms (0, 0, false, C, 0, 0) r = some (i, n, cs) → ∀ w ∈ cs, w ∈ lw_good) ∧ ∀ pc, ab_RC ms (pc, r)
noncomputable def wz_w1 (ms : List ev_MI) (C : String) (r : ev_Row) (ps : List Nat) : Bool := match cm_rowI ms (0, 0, false, C, 0, 0) r with
  | some (_, _, cs) => decide (cs.map some = ps.map lw_at) && (cs.all goodWord && ab_rc1 ms (0, r))
  | none => false
theorem wz_w1_ok {ms : List ev_MI} {C : String} {r : ev_Row} {ps : List Nat} (h : wz_w1 ms C r ps = true) : wz_wd ms C r := by
  unfold wz_w1 at h
  split at h
  · rename_i i0 n0 cs0 h0
    simp only [Bool.and_eq_true, decide_eq_true_eq] at h
    obtain ⟨h1, h2, h3⟩ := h
    refine ⟨fun i n cs hi w hw => ?_, fun pc => ?_⟩
    · rw [h0] at hi
      cases hi
      have hg := List.all_eq_true.mp h2 w hw
      have hm : some w ∈ ps.map lw_at := by rw [← h1]; exact List.mem_map.mpr ⟨w, hw, rfl⟩
      obtain ⟨j, -, hj⟩ := List.mem_map.mp hm
      exact lw_good_at j (lw_at_ok hj) hg
    · have z : ab_rc1 ms (pc, r) = true := h3
      exact ab_rc1_ok z
  · cases h
noncomputable def wz_ws (ms : List ev_MI) (C : String) : List ev_Row → List (List Nat) → Bool
  | [], [] => true
  | r :: rs, p :: ps => wz_w1 ms C r p && wz_ws ms C rs ps
  | _, _ => false
theorem wz_ws_ok {ms : List ev_MI} {C : String} : ∀ {rs : List ev_Row} {ps : List (List Nat)}, wz_ws ms C rs ps = true → ∀ r ∈ rs, wz_wd ms C r
  | [], [], _ => fun q hq => nomatch hq
  | [], _ :: _, h => by cases h
  | _ :: _, [], h => by cases h
  | r :: rs, p :: ps, h => by
    unfold wz_ws at h
    rw [Bool.and_eq_true] at h
    exact List.forall_mem_cons.mpr ⟨wz_w1_ok h.1, wz_ws_ok h.2⟩
noncomputable def wz_row (ms : List ev_MI) (P : ev_P) (cc : ByteArray) (W : List ev_Row) (l : List UInt8) (q : Nat × ev_Row) (k : Nat) : Bool := match cm_rowF ms P q.2 with
  | some (i, n, cs) => (fd_is i n l || decide (decode cc q.1 = .ok (i, n))) && (match k with
    | 0 => cs.isEmpty && (Nat.blt q.2.1 200 || Nat.ble 210 q.2.1)
    | k + 1 => decide (W[k]? = some q.2))
  | none => false
noncomputable def wz_rows (ms : List ev_MI) (P : ev_P) (cc : ByteArray) (W : List ev_Row) : Nat → List UInt8 → List (Nat × ev_Row) → List Nat → Bool
  | _, _, [], [] => true
  | p0, l, q :: rows, k :: ks => Nat.ble p0 q.1 && (wz_row ms P cc W (l.drop (q.1 - p0)) q k && wz_rows ms P cc W q.1 (l.drop (q.1 - p0)) rows ks)
  | _, _, _, _ => false
theorem wz_row_ok {ms : List ev_MI} {C : String} {ml : Nat} {cc : ByteArray} {W : List ev_Row} {q : Nat × ev_Row} {k : Nat} {l : List UInt8} (hW : ∀ r ∈ W, wz_wd ms C r) (hl : l = cc.data.toList.drop q.1) (h : wz_row ms (0, 0, false, C, ml, 0) cc W l q k = true) : cm_RowOK ms (0, 0, false, C, ml, 0) cc q ∧ ab_RC ms q := by
  unfold wz_row at h
  split at h
  · rename_i i n cs hi
    rw [cm_rowF_eq] at hi
    rw [Bool.and_eq_true] at h
    have h1 := h.1
    rw [hl] at h1
    have hd := fd_at_ok h1
    cases k with
    | zero =>
      have h2 : (cs.isEmpty && (Nat.blt q.2.1 200 || Nat.ble 210 q.2.1)) = true := h.2
      rw [Bool.and_eq_true, Bool.or_eq_true] at h2
      have he : cs = [] := List.isEmpty_iff.mp h2.1
      refine ⟨⟨i, n, cs, hi, hd, fun w hw => ?_⟩, fun a b => ?_⟩
      · rw [he] at hw
        cases hw
      · rcases h2.2 with g | g
        · have := Nat.le_of_ble_eq_true (show Nat.ble (q.2.1 + 1) 200 = true from g)
          omega
        · have := Nat.le_of_ble_eq_true g
          omega
    | succ k =>
      have h2 : W[k]? = some q.2 := of_decide_eq_true h.2
      have hw := hW _ (List.mem_of_getElem? h2)
      refine ⟨⟨i, n, cs, hi, hd, hw.1 i n cs ?_⟩, hw.2 q.1⟩
      rw [← wz_rowP ms C ml]
      exact hi
  · cases h
theorem wz_rows_ok {ms : List ev_MI} {C : String} {ml : Nat} {cc : ByteArray} {W : List ev_Row} (hW : ∀ r ∈ W, wz_wd ms C r) : ∀ {rows : List (Nat × ev_Row)} {ks : List Nat} {p0 : Nat} {l : List UInt8}, l = cc.data.toList.drop p0 → wz_rows ms (0, 0, false, C, ml, 0) cc W p0 l rows ks = true → ∀ q ∈ rows, cm_RowOK ms (0, 0, false, C, ml, 0) cc q ∧ ab_RC ms q
  | [], [], _, _, _, _ => fun q hq => nomatch hq
  | [], _ :: _, _, _, _, h => by cases h
  | _ :: _, [], _, _, _, h => by cases h
  | q :: rows, k :: ks, p0, l, hl, h => by
    unfold wz_rows at h
    rw [Bool.and_eq_true, Bool.and_eq_true] at h
    obtain ⟨h0, h1, h3⟩ := h
    have hd := fd_dr hl h0
    exact List.forall_mem_cons.mpr ⟨wz_row_ok hW hd h1, wz_rows_ok hW hd h3⟩
noncomputable def wz_cl (C : String) : Prop := plainName C = true ∧ C ≠ "java/lang/invoke/MethodHandle" ∧ C ≠ "java/lang/invoke/VarHandle"
noncomputable def wz_m (ms : List ev_MI) (W : List ev_Row) (y : MethodName) (cc : ByteArray) (ml : Nat) (ty : Option FieldType) (rows : List (Nat × ev_Row)) (ks : List Nat) : Bool :=
  Nat.ble ml 21 && wz_rows ms (0, 0, false, y.cls, ml, 0) cc W 0 cc.data.toList rows ks
theorem wz_MK {ms : List ev_MI} {C : String} {W : List ev_Row} (hC : wz_cl C) (hW : ∀ r ∈ W, wz_wd ms C r) {mi : ev_MI} (hc : mi.1.cls = C) {j : Nat} (h1 : lw_tbl[j]? = some (Cond.code mi.1 mi.2.1 mi.2.2.1 mi.2.2.2.1)) {ks : List Nat} (h : wz_m ms W mi.1 mi.2.1 mi.2.2.1 mi.2.2.2.1 mi.2.2.2.2.2.2 ks = true) : ab_MK ms mi := by
  unfold wz_m at h
  rw [Bool.and_eq_true] at h
  obtain ⟨h2, h3⟩ := h
  subst hc
  have hr := wz_rows_ok hW (p0 := 0) rfl h3
  exact ⟨⟨hC.1, lw_good_at j h1 rfl, Nat.le_of_ble_eq_true h2, hC.2, fun q hq => (hr q hq).1⟩, fun q hq => (hr q hq).2⟩
theorem wz_C0 : wz_cl "BarberMinutes" := by unfold wz_cl; decide +kernel
theorem wz_C1 : wz_cl "BarberMinutes$Agenda" := by unfold wz_cl; decide +kernel
theorem wz_C2 : wz_cl "BarberMinutes$Chance" := by unfold wz_cl; decide +kernel
theorem wz_C3 : wz_cl "BarberMinutes$Minutes" := by unfold wz_cl; decide +kernel
theorem wz_C4 : wz_cl "BarberMinutes$Past" := by unfold wz_cl; decide +kernel
theorem wz_C5 : wz_cl "BarberMinutes$Reader" := by unfold wz_cl; decide +kernel
theorem wz_C6 : wz_cl "BarberMinutes$Sweepings" := by unfold wz_cl; decide +kernel
theorem wz_C7 : wz_cl "BarberMinutes$Tour" := by unfold wz_cl; decide +kernel
theorem wz_C8 : wz_cl "BarberMinutes$Town" := by unfold wz_cl; decide +kernel
theorem wz_C9 : wz_cl "BarberMinutesModel" := by unfold wz_cl; decide +kernel
theorem wz_C10 : wz_cl "java/lang/Integer" := by unfold wz_cl; decide +kernel
theorem wz_C11 : wz_cl "java/lang/String" := by unfold wz_cl; decide +kernel
theorem wz_C12 : wz_cl "java/lang/StringLatin1" := by unfold wz_cl; decide +kernel
theorem wz_C13 : wz_cl "jdk/internal/util/Preconditions" := by unfold wz_cl; decide +kernel
noncomputable def wz_W0_0 : List ev_Row := [(49, 8, 1, 75, []), (200, 94, 79, 1, [8]), (49, 8, 0, 9, []), (50, 8, 1, 75, []), (200, 157, 83, 1, [8]), (49, 8, 2, 16, []), (49, 8, 4, 27, []), (200, 64, 87, 3, [4]), (50, 8, 12, 91, []), (49, 8, 12, 91, []), (200, 65, 94, 0, [4]), (50, 8, 13, 98, []), (49, 8, 3, 23, []), (50, 8, 4, 27, []), (50, 8, 3, 23, []), (49, 8, 5, 33, []), (200, 22, 100, 1, [2]), (49, 8, 7, 43, []), (200, 38, 104, 0, [3]), (49, 7, 3, 107, []), (200, 159, 110, 1, [8]), (49, 8, 14, 113, []), (49, 8, 13, 98, []), (200, 161, 116, 1, [8]), (49, 7, 4, 120, [])]
set_option maxRecDepth 1000000 in
theorem wz_W0_0k : ∀ r ∈ wz_W0_0, wz_wd cm_ms "BarberMinutes" r := wz_ws_ok (ps := [[443], [492, 494, 0, 116], [442], [443], [500, 502, 1, 116], [444], [446], [504, 505, 506, 117], [454], [454], [714, 715, 716, 117], [455], [445], [446], [445], [447], [718, 719, 720, 119], [449], [725, 726, 727, 120], [219], [729, 731, 24, 116], [456], [455], [745, 747, 25, 116], [221]]) (by decide +kernel)
noncomputable def wz_W0_1 : List ev_Row := [(49, 2, 0, 124, []), (49, 7, 6, 127, []), (200, 25, 130, 2, [2]), (49, 7, 7, 134, []), (49, 7, 8, 137, []), (200, 29, 140, 2, [2]), (200, 162, 144, 1, [8]), (49, 7, 10, 147, []), (49, 7, 11, 150, []), (49, 7, 12, 153, []), (49, 7, 13, 156, []), (200, 33, 159, 1, [2]), (200, 34, 162, 2, [2]), (200, 31, 165, 2, [2]), (200, 30, 168, 2, [2]), (200, 160, 171, 0, [8]), (49, 2, 1, 175, []), (200, 26, 178, 1, [2]), (49, 7, 9, 182, []), (200, 32, 185, 2, [2]), (200, 27, 188, 1, [2]), (200, 13, 191, 1, [7]), (200, 14, 194, 1, [7]), (200, 15, 197, 1, [7]), (200, 112, 200, 1, [8])]
set_option maxRecDepth 1000000 in
theorem wz_W0_1k : ∀ r ∈ wz_W0_1, wz_wd cm_ms "BarberMinutes" r := wz_ws_ok (ps := [[314], [226], [749, 750, 751, 119], [230], [233], [753, 754, 755, 119], [765, 767, 27, 116], [243], [246], [250], [253], [769, 770, 771, 119], [773, 774, 775, 119], [778, 779, 780, 119], [790, 783, 784, 119], [795, 797, 28, 116], [317], [803, 804, 805, 119], [240], [816, 817, 818, 119], [825, 826, 827, 119], [830, 787, 788, 118], [835, 836, 837, 118], [843, 844, 845, 118], [851, 853, 29, 116]]) (by decide +kernel)
noncomputable def wz_W0_2 : List ev_Row := [(49, 8, 6, 37, []), (200, 113, 203, 1, [8]), (200, 23, 206, 1, [2]), (200, 24, 210, 1, [2]), (200, 119, 213, 1, [8]), (201, 43, 216, 3, []), (49, 8, 8, 50, []), (200, 44, 220, 4, [0]), (200, 45, 224, 3, [0]), (49, 0, 2, 228, []), (49, 0, 3, 231, []), (49, 0, 4, 234, []), (200, 48, 237, 3, [0]), (200, 158, 241, 1, [8]), (200, 127, 245, 1, [8]), (200, 37, 248, 3, [2]), (201, 0, 252, 1, []), (200, 18, 257, 0, [7]), (200, 16, 260, 0, [7]), (200, 17, 263, 1, [7]), (200, 19, 266, 0, [7]), (200, 163, 269, 1, [8]), (200, 21, 272, 2, [7]), (49, 8, 9, 57, []), (200, 50, 276, 1, [6])]
set_option maxRecDepth 1000000 in
theorem wz_W0_2k : ∀ r ∈ wz_W0_2, wz_wd cm_ms "BarberMinutes" r := wz_ws_ok (ps := [[448], [872, 874, 30, 116], [855, 856, 857, 119], [859, 860, 861, 119], [888, 890, 31, 116], [896, 897, 121], [450], [901, 902, 903, 121], [924, 925, 926, 121], [369], [371], [373], [945, 946, 947, 121], [892, 894, 32, 116], [958, 960, 36, 116], [962, 963, 964, 119], [979, 621, 131], [984, 985, 986, 118], [996, 627, 628, 118], [997, 989, 990, 118], [1002, 1003, 1004, 118], [1014, 1016, 38, 116], [1018, 1019, 1020, 118], [451], [1030, 1031, 1032, 122]]) (by decide +kernel)
noncomputable def wz_W0_3 : List ev_Row := [(49, 6, 2, 279, []), (49, 6, 1, 282, []), (200, 137, 285, 0, [8]), (49, 8, 10, 64, []), (49, 5, 1, 288, []), (49, 5, 0, 291, []), (200, 55, 294, 0, [5]), (200, 56, 297, 0, [5]), (200, 58, 300, 1, [5]), (200, 57, 303, 1, [5]), (200, 53, 306, 1, [5]), (200, 141, 307, 1, [8]), (201, 142, 310, 3, []), (201, 143, 314, 2, []), (49, 8, 11, 71, []), (200, 59, 318, 3, [1]), (49, 1, 1, 321, []), (49, 1, 0, 325, []), (200, 60, 328, 3, [1]), (200, 148, 331, 2, [8]), (50, 1, 2, 334, []), (200, 63, 337, 2, [1]), (83, 65537, 341, 0, []), (200, 39, 342, 1, [3]), (200, 35, 345, 2, [2])]
set_option maxRecDepth 1000000 in
theorem wz_W0_3k : ∀ r ∈ wz_W0_3, wz_wd cm_ms "BarberMinutes" r := wz_ws_ok (ps := [[395], [393], [1052, 1054, 41, 116], [452], [414], [412], [1074, 1075, 1076, 123], [1082, 1083, 1084, 123], [1090, 1091, 1092, 123], [1105, 1095, 1096, 123], [1056, 1057, 1058, 123], [1110, 1112, 43, 116], [1114, 1115, 116], [1121, 1122, 116], [453], [1132, 1133, 1134, 124], [432], [430], [1150, 1151, 1152, 124], [1160, 1162, 45, 116], [434], [1165, 1166, 1167, 124], [1164], [1179, 1180, 1181, 120], [1185, 913, 914, 119]]) (by decide +kernel)
noncomputable def wz_W0_4 : List ev_Row := [(49, 2, 3, 348, []), (200, 36, 351, 3, [2]), (200, 40, 355, 1, [3]), (200, 41, 359, 1, [3]), (200, 42, 363, 2, [3]), (49, 7, 0, 370, []), (49, 7, 1, 373, []), (49, 7, 2, 376, []), (201, 12, 379, 2, []), (49, 7, 15, 383, []), (49, 7, 18, 386, []), (49, 3, 3, 389, []), (49, 3, 4, 392, []), (50, 8, 14, 113, [])]
set_option maxRecDepth 1000000 in
theorem wz_W0_4k : ∀ r ∈ wz_W0_4, wz_wd cm_ms "BarberMinutes" r := wz_ws_ok (ps := [[321], [1194, 917, 918, 119], [1199, 1200, 1201, 120], [1207, 1208, 1209, 120], [1215, 1216, 1217, 120], [206], [210], [214], [1223, 618, 118], [259], [266], [344], [346], [456]]) (by decide +kernel)
noncomputable def wz_W0 : List ev_Row := wz_W0_0 ++ (wz_W0_1 ++ (wz_W0_2 ++ (wz_W0_3 ++ (wz_W0_4))))
theorem wz_W0k : ∀ r ∈ wz_W0, wz_wd cm_ms "BarberMinutes" r := (List.forall_mem_append.mpr ⟨wz_W0_0k, (List.forall_mem_append.mpr ⟨wz_W0_1k, (List.forall_mem_append.mpr ⟨wz_W0_2k, (List.forall_mem_append.mpr ⟨wz_W0_3k, wz_W0_4k⟩)⟩)⟩)⟩)
noncomputable def wz_W1_0 : List ev_Row := [(49, 7, 9, 22, []), (49, 0, 0, 11, []), (200, 23, 28, 1, [2]), (200, 47, 32, 3, [0]), (67, 36, 0, 0, []), (50, 0, 1, 42, []), (50, 0, 2, 45, []), (50, 0, 3, 48, []), (50, 0, 4, 51, []), (200, 46, 54, 4, [0]), (49, 0, 1, 42, []), (49, 0, 3, 48, []), (49, 2, 2, 58, []), (200, 34, 61, 2, [2]), (200, 24, 65, 1, [2]), (200, 35, 69, 2, [2]), (49, 7, 12, 72, []), (200, 49, 75, 3, [0]), (200, 33, 79, 1, [2])]
set_option maxRecDepth 1000000 in
theorem wz_W1_0k : ∀ r ∈ wz_W1_0, wz_wd cm_ms "BarberMinutes$Agenda" r := wz_ws_ok (ps := [[237], [366], [905, 856, 857, 119], [906, 908, 33, 121], [928, 509, 126, 510], [367], [368], [370], [372], [929, 931, 34, 121], [367], [370], [319], [910, 774, 775, 119], [911, 860, 861, 119], [912, 913, 914, 119], [249], [949, 951, 35, 121], [953, 770, 771, 119]]) (by decide +kernel)
noncomputable def wz_W1 : List ev_Row := wz_W1_0
theorem wz_W1k : ∀ r ∈ wz_W1, wz_wd cm_ms "BarberMinutes$Agenda" r := wz_W1_0k
noncomputable def wz_W2_0 : List ev_Row := [(200, 30, 9, 2, [2]), (49, 7, 3, 15, []), (200, 13, 21, 1, [7]), (49, 7, 11, 25, []), (201, 0, 29, 1, []), (49, 7, 2, 34, []), (201, 61, 37, 2, []), (200, 62, 43, 2, [1]), (200, 31, 47, 2, [2]), (81, 100, 50, 0, []), (50, 1, 0, 52, []), (50, 1, 1, 56, []), (200, 24, 59, 1, [2]), (49, 1, 2, 63, []), (68, 65537, 66, 0, []), (50, 1, 2, 63, []), (49, 2, 0, 67, [])]
set_option maxRecDepth 1000000 in
theorem wz_W2_0k : ∀ r ∈ wz_W2_0, wz_wd cm_ms "BarberMinutes$Chance" r := wz_ws_ok (ps := [[1136, 783, 784, 119], [216], [1137, 787, 788, 118], [245], [1138, 621, 131], [212], [1139, 1140, 124], [1142, 1144, 44, 124], [1154, 779, 780, 119], [1155], [429], [431], [1169, 860, 861, 119], [433], [1170], [433], [313]]) (by decide +kernel)
noncomputable def wz_W2 : List ev_Row := wz_W2_0
theorem wz_W2k : ∀ r ∈ wz_W2, wz_wd cm_ms "BarberMinutes$Chance" r := wz_W2_0k
noncomputable def wz_W3_0 : List ev_Row := [(49, 7, 5, 18, []), (49, 2, 0, 9, []), (86, 23, 0, 0, []), (49, 2, 1, 15, []), (50, 2, 2, 29, []), (50, 2, 3, 33, []), (49, 2, 2, 29, []), (49, 2, 3, 33, []), (49, 7, 3, 36, []), (49, 7, 0, 39, []), (67, 42, 0, 0, []), (49, 7, 1, 48, []), (200, 25, 51, 2, [2]), (200, 26, 55, 1, [2]), (49, 7, 10, 59, []), (49, 7, 7, 62, []), (49, 7, 9, 65, []), (200, 28, 68, 3, [2]), (200, 30, 72, 2, [2]), (200, 13, 76, 1, [7]), (200, 31, 80, 2, [2]), (49, 7, 11, 83, []), (200, 33, 86, 1, [2]), (49, 7, 13, 90, []), (200, 36, 93, 3, [2])]
set_option maxRecDepth 1000000 in
theorem wz_W3_0k : ∀ r ∈ wz_W3_0, wz_wd cm_ms "BarberMinutes$Minutes" r := wz_ws_ok (ps := [[224], [312], [722, 724, 723, 132], [315], [318], [320], [318], [320], [218], [204], [863, 509, 126, 510], [208], [807, 750, 751, 119], [829, 804, 805, 119], [242], [231], [239], [757, 759, 26, 119], [782, 783, 784, 119], [786, 787, 788, 118], [820, 779, 780, 119], [247], [777, 770, 771, 119], [254], [916, 917, 918, 119]]) (by decide +kernel)
noncomputable def wz_W3_1 : List ev_Row := [(49, 7, 4, 97, []), (200, 27, 100, 1, [2]), (49, 7, 6, 103, [])]
set_option maxRecDepth 1000000 in
theorem wz_W3_1k : ∀ r ∈ wz_W3_1, wz_wd cm_ms "BarberMinutes$Minutes" r := wz_ws_ok (ps := [[222], [966, 826, 827, 119], [227]]) (by decide +kernel)
noncomputable def wz_W3 : List ev_Row := wz_W3_0 ++ (wz_W3_1)
theorem wz_W3k : ∀ r ∈ wz_W3, wz_wd cm_ms "BarberMinutes$Minutes" r := (List.forall_mem_append.mpr ⟨wz_W3_0k, wz_W3_1k⟩)
noncomputable def wz_W4_0 : List ev_Row := [(50, 3, 3, 21, []), (50, 3, 4, 25, []), (49, 3, 0, 11, []), (49, 3, 2, 28, []), (200, 23, 31, 1, [2]), (50, 3, 2, 28, []), (49, 3, 3, 21, []), (67, 35, 0, 0, []), (49, 3, 4, 25, []), (49, 3, 1, 17, [])]
set_option maxRecDepth 1000000 in
theorem wz_W4_0k : ∀ r ∈ wz_W4_0, wz_wd cm_ms "BarberMinutes$Past" r := wz_ws_ok (ps := [[343], [345], [340], [342], [1183, 856, 857, 119], [342], [343], [1184, 509, 126, 510], [345], [341]]) (by decide +kernel)
noncomputable def wz_W4 : List ev_Row := wz_W4_0
theorem wz_W4k : ∀ r ∈ wz_W4, wz_wd cm_ms "BarberMinutes$Past" r := wz_W4_0k
noncomputable def wz_W5_0 : List ev_Row := [(50, 4, 0, 22, []), (67, 26, 0, 0, []), (50, 4, 1, 32, []), (50, 4, 2, 36, []), (50, 4, 7, 39, []), (49, 4, 7, 39, []), (200, 8, 43, 0, [7]), (50, 4, 8, 48, []), (50, 4, 9, 52, []), (50, 4, 10, 55, []), (200, 88, 58, 0, [4]), (200, 67, 61, 0, [4]), (49, 4, 9, 52, []), (49, 4, 3, 64, []), (200, 66, 67, 1, [4]), (49, 7, 3, 71, []), (49, 4, 4, 74, []), (200, 84, 77, 0, [4]), (49, 4, 8, 48, []), (200, 69, 81, 1, [4]), (201, 68, 85, 1, []), (200, 70, 88, 0, [4]), (200, 71, 91, 0, [4]), (200, 72, 94, 0, [4]), (200, 73, 97, 0, [4])]
set_option maxRecDepth 1000000 in
theorem wz_W5_0k : ∀ r ∈ wz_W5_0, wz_wd cm_ms "BarberMinutes$Reader" r := wz_ws_ok (ps := [[151], [508, 509, 126, 510], [152], [153], [158], [158], [511, 512, 513, 118], [159], [160], [161], [515, 517, 2, 117], [538, 540, 5, 117], [160], [154], [609, 611, 8, 117], [217], [155], [542, 544, 6, 117], [159], [613, 615, 9, 117], [631, 632, 117], [634, 636, 10, 117], [649, 651, 13, 117], [674, 676, 17, 117], [685, 687, 18, 117]]) (by decide +kernel)
noncomputable def wz_W5_1 : List ev_Row := [(200, 74, 100, 0, [4]), (200, 75, 103, 0, [4]), (200, 76, 106, 0, [4]), (200, 77, 109, 0, [4]), (49, 7, 9, 112, []), (49, 7, 7, 115, []), (201, 12, 118, 2, []), (49, 7, 13, 122, []), (200, 16, 125, 0, [7]), (49, 7, 15, 128, []), (200, 78, 133, 1, [4]), (200, 79, 137, 2, [4]), (50, 7, 0, 140, []), (50, 7, 1, 144, []), (50, 7, 2, 149, []), (200, 80, 152, 2, [4]), (200, 83, 156, 0, [4]), (200, 9, 163, 3, [7]), (200, 10, 173, 3, [7]), (200, 81, 176, 1, [4]), (49, 7, 8, 179, []), (200, 11, 184, 1, [7]), (49, 7, 18, 187, []), (49, 7, 17, 190, []), (50, 7, 18, 187, [])]
set_option maxRecDepth 1000000 in
theorem wz_W5_1k : ∀ r ∈ wz_W5_1, wz_wd cm_ms "BarberMinutes$Reader" r := wz_ws_ok (ps := [[693, 695, 20, 117], [697, 699, 21, 117], [701, 703, 22, 117], [710, 712, 23, 117], [238], [229], [617, 618, 118], [252], [626, 627, 628, 118], [258], [639, 641, 11, 117], [643, 645, 12, 117], [205], [209], [213], [653, 655, 14, 117], [661, 663, 16, 117], [670, 671, 672, 118], [681, 682, 683, 118], [689, 691, 19, 117], [234], [706, 707, 708, 118], [265], [263], [265]]) (by decide +kernel)
noncomputable def wz_W5_2 : List ev_Row := [(200, 86, 193, 1, [4]), (49, 4, 5, 197, []), (200, 82, 200, 0, [4]), (49, 4, 10, 55, []), (49, 4, 11, 11, []), (49, 4, 6, 203, []), (49, 4, 12, 15, []), (49, 4, 13, 19, []), (201, 85, 213, 1, []), (200, 1, 229, 0, [99]), (200, 2, 234, 1, [99]), (201, 87, 238, 2, []), (81, 32, 242, 0, []), (81, 97, 244, 0, []), (49, 4, 2, 36, []), (49, 4, 1, 32, []), (49, 4, 0, 22, []), (50, 4, 4, 74, []), (50, 4, 5, 197, []), (50, 4, 6, 203, []), (50, 4, 3, 64, []), (201, 91, 246, 1, []), (200, 89, 250, 0, [4]), (201, 92, 253, 1, []), (200, 90, 256, 0, [4])]
set_option maxRecDepth 1000000 in
theorem wz_W5_2k : ∀ r ∈ wz_W5_2, wz_wd cm_ms "BarberMinutes$Reader" r := wz_ws_ok (ps := [[557, 559, 7, 117], [156], [657, 659, 15, 117], [161], [162], [157], [163], [164], [546, 547, 117], [561, 562, 563, 127], [571, 572, 573, 127], [526, 527, 117], [529], [530], [153], [152], [151], [155], [156], [157], [154], [519, 520, 117], [522, 524, 3, 117], [531, 532, 117], [534, 536, 4, 117]]) (by decide +kernel)
noncomputable def wz_W5 : List ev_Row := wz_W5_0 ++ (wz_W5_1 ++ (wz_W5_2))
theorem wz_W5k : ∀ r ∈ wz_W5, wz_wd cm_ms "BarberMinutes$Reader" r := (List.forall_mem_append.mpr ⟨wz_W5_0k, (List.forall_mem_append.mpr ⟨wz_W5_1k, wz_W5_2k⟩)⟩)
noncomputable def wz_W6_0 : List ev_Row := [(50, 5, 1, 22, []), (49, 7, 9, 26, []), (200, 54, 31, 2, [5]), (49, 5, 0, 9, []), (49, 5, 1, 22, []), (49, 5, 2, 18, []), (200, 22, 35, 1, [2]), (200, 35, 39, 2, [2]), (49, 2, 1, 42, []), (49, 7, 17, 45, []), (84, 48, 0, 0, []), (200, 57, 54, 1, [5])]
set_option maxRecDepth 1000000 in
theorem wz_W6_0k : ∀ r ∈ wz_W6_0, wz_wd cm_ms "BarberMinutes$Sweepings" r := wz_ws_ok (ps := [[413], [235], [1060, 1062, 42, 123], [411], [413], [415], [1064, 719, 720, 119], [1065, 913, 914, 119], [316], [262], [1098, 1099, 126, 1100], [1094, 1095, 1096, 123]]) (by decide +kernel)
noncomputable def wz_W6 : List ev_Row := wz_W6_0
theorem wz_W6k : ∀ r ∈ wz_W6, wz_wd cm_ms "BarberMinutes$Sweepings" r := wz_W6_0k
noncomputable def wz_W7_0 : List ev_Row := [(50, 6, 2, 18, []), (49, 7, 15, 22, []), (49, 6, 0, 9, []), (200, 51, 27, 4, [6]), (200, 52, 31, 3, [6]), (200, 21, 35, 2, [7]), (49, 6, 2, 18, []), (49, 6, 1, 15, []), (86, 39, 0, 0, [])]
set_option maxRecDepth 1000000 in
theorem wz_W7_0k : ∀ r ∈ wz_W7_0, wz_wd cm_ms "BarberMinutes$Tour" r := wz_ws_ok (ps := [[394], [256], [391], [1034, 1036, 39, 122], [1038, 1040, 40, 122], [1042, 1019, 1020, 118], [394], [392], [1043, 724, 723, 132]]) (by decide +kernel)
noncomputable def wz_W7 : List ev_Row := wz_W7_0
theorem wz_W7k : ∀ r ∈ wz_W7, wz_wd cm_ms "BarberMinutes$Tour" r := wz_W7_0k
noncomputable def wz_W8_0 : List ev_Row := [(50, 7, 0, 48, []), (50, 7, 1, 52, []), (50, 7, 2, 55, []), (50, 7, 3, 58, []), (50, 7, 9, 61, []), (50, 7, 15, 64, []), (50, 7, 18, 67, []), (49, 7, 17, 45, []), (49, 7, 3, 58, []), (49, 7, 4, 9, []), (49, 7, 5, 15, []), (49, 7, 6, 18, []), (49, 7, 7, 21, []), (49, 7, 8, 24, []), (49, 7, 9, 61, []), (49, 7, 10, 27, []), (49, 7, 11, 30, []), (49, 7, 12, 33, []), (49, 7, 13, 36, []), (49, 7, 15, 64, []), (49, 7, 16, 42, []), (201, 0, 70, 1, []), (49, 7, 14, 39, []), (201, 12, 76, 2, []), (200, 17, 80, 1, [7])]
set_option maxRecDepth 1000000 in
theorem wz_W8_0k : ∀ r ∈ wz_W8_0, wz_wd cm_ms "BarberMinutes$Town" r := wz_ws_ok (ps := [[203], [207], [211], [215], [236], [257], [264], [261], [215], [220], [223], [225], [228], [232], [236], [241], [244], [248], [251], [257], [260], [620, 621, 131], [255], [630, 618, 118], [988, 989, 990, 118]]) (by decide +kernel)
noncomputable def wz_W8_1 : List ev_Row := [(200, 20, 83, 1, [7]), (85, 87, 0, 0, []), (67, 92, 0, 0, [])]
set_option maxRecDepth 1000000 in
theorem wz_W8_1k : ∀ r ∈ wz_W8_1, wz_wd cm_ms "BarberMinutes$Town" r := wz_ws_ok (ps := [[1006, 1008, 37, 118], [1022, 1023, 126, 1024], [1025, 509, 126, 510]]) (by decide +kernel)
noncomputable def wz_W8 : List ev_Row := wz_W8_0 ++ (wz_W8_1)
theorem wz_W8k : ∀ r ∈ wz_W8, wz_wd cm_ms "BarberMinutes$Town" r := (List.forall_mem_append.mpr ⟨wz_W8_0k, wz_W8_1k⟩)
noncomputable def wz_W9_0 : List ev_Row := [(50, 9, 0, 47, []), (50, 9, 11, 50, []), (49, 9, 2, 53, []), (49, 9, 1, 7, []), (50, 9, 2, 53, []), (49, 9, 3, 56, []), (49, 9, 5, 59, []), (200, 173, 62, 1, [9]), (50, 9, 4, 66, []), (50, 9, 8, 69, []), (50, 9, 7, 72, []), (50, 9, 6, 75, []), (50, 9, 5, 59, []), (201, 174, 78, 1, []), (49, 9, 8, 69, []), (49, 9, 12, 17, []), (201, 175, 82, 1, []), (49, 9, 7, 72, []), (49, 9, 13, 85, []), (50, 9, 13, 85, []), (50, 9, 9, 89, []), (50, 9, 10, 13, []), (49, 9, 6, 75, []), (200, 1, 92, 0, [99]), (200, 2, 98, 1, [99])]
set_option maxRecDepth 1000000 in
theorem wz_W9_0k : ∀ r ∈ wz_W9_0, wz_wd cm_ms "BarberMinutesModel" r := wz_ws_ok (ps := [[1303], [1314], [1305], [1304], [1305], [1306], [1308], [1432, 1434, 50, 125], [1307], [1311], [1310], [1309], [1308], [1436, 1437, 125], [1311], [1315], [1439, 1440, 125], [1310], [1316], [1316], [1312], [1313], [1309], [1451, 562, 563, 127], [1452, 572, 573, 127]]) (by decide +kernel)
noncomputable def wz_W9_1 : List ev_Row := [(200, 178, 102, 1, [9]), (200, 176, 106, 0, [9]), (200, 179, 109, 1, [9]), (49, 9, 4, 66, []), (200, 177, 112, 2, [9]), (49, 9, 16, 23, []), (200, 181, 132, 0, [9]), (200, 182, 135, 0, [9]), (201, 167, 138, 3, []), (200, 184, 142, 2, [9]), (200, 180, 146, 1, [9]), (200, 188, 150, 2, [9]), (200, 164, 159, 0, [9]), (200, 165, 162, 1, [9]), (50, 9, 3, 56, []), (200, 194, 165, 0, [9]), (49, 9, 15, 20, []), (201, 170, 168, 5, []), (49, 9, 17, 26, []), (200, 192, 172, 1, [9]), (50, 9, 14, 176, []), (50, 9, 20, 179, []), (50, 9, 21, 182, []), (200, 187, 185, 0, [9]), (200, 195, 188, 0, [9])]
set_option maxRecDepth 1000000 in
theorem wz_W9_1k : ∀ r ∈ wz_W9_1, wz_wd cm_ms "BarberMinutesModel" r := wz_ws_ok (ps := [[1447, 1449, 52, 125], [1428, 1430, 49, 125], [1470, 1472, 57, 125], [1307], [1457, 1459, 54, 125], [1319], [1497, 1499, 63, 125], [1507, 1509, 64, 125], [1421, 1422, 125], [1535, 1537, 69, 125], [1466, 1468, 56, 125], [1474, 1476, 58, 125], [1417, 1419, 47, 125], [1424, 1426, 48, 125], [1306], [1442, 1444, 51, 125], [1318], [1563, 1564, 125], [1320], [1566, 1568, 75, 125], [1317], [1323], [1324], [1485, 1487, 60, 125], [1453, 1455, 53, 125]]) (by decide +kernel)
noncomputable def wz_W9_2 : List ev_Row := [(200, 193, 191, 2, [9]), (200, 196, 195, 0, [9]), (200, 197, 198, 0, [9]), (200, 198, 201, 0, [9]), (200, 199, 204, 0, [9]), (200, 200, 207, 0, [9]), (200, 201, 210, 0, [9]), (200, 202, 213, 0, [9]), (200, 189, 218, 3, [9]), (200, 183, 226, 1, [9]), (200, 190, 230, 0, [9]), (200, 185, 243, 0, [9]), (200, 186, 246, 0, [9]), (201, 168, 249, 2, []), (49, 9, 9, 89, []), (49, 9, 11, 50, []), (49, 9, 10, 13, []), (49, 9, 14, 176, []), (200, 209, 254, 2, [9]), (200, 211, 258, 3, [9]), (200, 212, 262, 2, [9]), (200, 213, 266, 1, [9]), (200, 214, 269, 2, [9]), (200, 215, 272, 2, [9]), (200, 217, 275, 2, [9])]
set_option maxRecDepth 1000000 in
theorem wz_W9_2k : ∀ r ∈ wz_W9_2, wz_wd cm_ms "BarberMinutesModel" r := wz_ws_ok (ps := [[1481, 1483, 59, 125], [1489, 1491, 61, 125], [1520, 1522, 66, 125], [1527, 1529, 67, 125], [1546, 1548, 71, 125], [1550, 1552, 72, 125], [1554, 1556, 73, 125], [1559, 1561, 74, 125], [1462, 1464, 55, 125], [1493, 1495, 62, 125], [1511, 1513, 65, 125], [1531, 1533, 68, 125], [1539, 1541, 70, 125], [1543, 1544, 125], [1312], [1314], [1313], [1317], [1586, 1588, 77, 125], [1594, 1596, 79, 125], [1614, 1616, 83, 125], [1618, 1620, 84, 125], [1610, 1612, 82, 125], [1642, 1644, 86, 125], [1722, 1724, 97, 125]]) (by decide +kernel)
noncomputable def wz_W9_3 : List ev_Row := [(49, 9, 22, 35, []), (200, 219, 279, 1, [9]), (200, 205, 282, 1, [9]), (200, 222, 285, 1, [9]), (200, 206, 288, 1, [9]), (200, 216, 291, 2, [9]), (200, 210, 294, 1, [9]), (200, 208, 298, 0, [9]), (200, 228, 301, 0, [9]), (200, 231, 304, 1, [9]), (200, 233, 307, 2, [9]), (200, 220, 311, 1, [9]), (200, 236, 314, 1, [9]), (200, 218, 317, 2, [9]), (200, 241, 320, 2, [9]), (200, 240, 323, 2, [9]), (201, 243, 326, 1, []), (200, 244, 329, 1, [9]), (200, 249, 332, 2, [9]), (201, 169, 335, 1, []), (200, 254, 338, 2, [9]), (200, 255, 341, 0, [9]), (200, 207, 344, 1, [9]), (200, 259, 347, 2, [9]), (49, 9, 23, 38, [])]
set_option maxRecDepth 1000000 in
theorem wz_W9_3k : ∀ r ∈ wz_W9_3, wz_wd cm_ms "BarberMinutesModel" r := wz_ws_ok (ps := [[1325], [1682, 1684, 92, 125], [1582, 1584, 76, 125], [1590, 1592, 78, 125], [1602, 1604, 80, 125], [1606, 1608, 81, 125], [1630, 1632, 85, 125], [1654, 1656, 88, 125], [1650, 1652, 87, 125], [1666, 1668, 89, 125], [1674, 1676, 90, 125], [1678, 1680, 91, 125], [1694, 1696, 93, 125], [1718, 1720, 96, 125], [1710, 1712, 94, 125], [1714, 1716, 95, 125], [1734, 1735, 125], [1730, 1732, 98, 125], [1753, 1755, 99, 125], [1769, 1770, 125], [1780, 1782, 101, 125], [1776, 1778, 100, 125], [1796, 1798, 102, 125], [1800, 1802, 103, 125], [1326]]) (by decide +kernel)
noncomputable def wz_W9_4 : List ev_Row := [(49, 9, 25, 350, []), (50, 9, 25, 350, []), (49, 9, 24, 41, []), (200, 261, 353, 3, [9]), (83, 1000000, 357, 0, []), (200, 262, 358, 0, [9]), (50, 9, 27, 361, []), (50, 9, 28, 364, []), (50, 9, 29, 367, []), (49, 9, 26, 44, []), (200, 265, 370, 1, [9]), (49, 9, 27, 361, []), (49, 9, 28, 364, []), (49, 9, 29, 367, []), (200, 266, 373, 1, [9]), (200, 271, 376, 1, [9]), (200, 272, 379, 0, [9]), (201, 275, 382, 3, []), (50, 9, 30, 386, []), (201, 277, 389, 3, []), (200, 278, 393, 1, [9]), (49, 9, 30, 386, []), (50, 9, 31, 396, []), (50, 9, 32, 400, []), (50, 9, 33, 403, [])]
set_option maxRecDepth 1000000 in
theorem wz_W9_4k : ∀ r ∈ wz_W9_4, wz_wd cm_ms "BarberMinutesModel" r := wz_ws_ok (ps := [[1328], [1328], [1327], [1813, 1815, 105, 125], [1812], [1808, 1810, 104, 125], [1330], [1331], [1332], [1329], [1829, 1831, 107, 125], [1330], [1331], [1332], [1825, 1827, 106, 125], [1853, 1855, 109, 125], [1849, 1851, 108, 125], [1865, 1866, 125], [1333], [1876, 1877, 125], [1872, 1874, 110, 125], [1333], [1334], [1335], [1336]]) (by decide +kernel)
noncomputable def wz_W9_5 : List ev_Row := [(49, 9, 31, 396, []), (49, 9, 32, 400, []), (49, 9, 33, 403, []), (200, 281, 406, 1, [9]), (201, 171, 409, 3, []), (83, 65536, 413, 0, []), (50, 9, 34, 414, []), (83, 65537, 417, 0, []), (49, 9, 34, 414, []), (200, 284, 418, 4, [9]), (49, 9, 20, 179, []), (49, 9, 18, 29, []), (200, 287, 422, 0, [9]), (200, 166, 425, 1, [9]), (49, 9, 21, 182, []), (49, 9, 19, 32, [])]
set_option maxRecDepth 1000000 in
theorem wz_W9_5k : ∀ r ∈ wz_W9_5, wz_wd cm_ms "BarberMinutesModel" r := wz_ws_ok (ps := [[1334], [1335], [1336], [1887, 1889, 111, 125], [1891, 1892, 125], [1906], [1337], [1907], [1337], [1902, 1904, 112, 125], [1323], [1321], [1916, 1918, 113, 125], [1932, 1934, 114, 125], [1324], [1322]]) (by decide +kernel)
noncomputable def wz_W9 : List ev_Row := wz_W9_0 ++ (wz_W9_1 ++ (wz_W9_2 ++ (wz_W9_3 ++ (wz_W9_4 ++ (wz_W9_5)))))
theorem wz_W9k : ∀ r ∈ wz_W9, wz_wd cm_ms "BarberMinutesModel" r := (List.forall_mem_append.mpr ⟨wz_W9_0k, (List.forall_mem_append.mpr ⟨wz_W9_1k, (List.forall_mem_append.mpr ⟨wz_W9_2k, (List.forall_mem_append.mpr ⟨wz_W9_3k, (List.forall_mem_append.mpr ⟨wz_W9_4k, wz_W9_5k⟩)⟩)⟩)⟩)⟩)
noncomputable def wz_W10_0 : List ev_Row := [(83, 1431655765, 265, 0, []), (83, 858993459, 266, 0, []), (83, 252645135, 267, 0, [])]
set_option maxRecDepth 1000000 in
theorem wz_W10_0k : ∀ r ∈ wz_W10_0, wz_wd cm_ms "java/lang/Integer" r := wz_ws_ok (ps := [[623], [624], [625]]) (by decide +kernel)
noncomputable def wz_W10 : List ev_Row := wz_W10_0
theorem wz_W10k : ∀ r ∈ wz_W10, wz_wd cm_ms "java/lang/Integer" r := wz_W10_0k
noncomputable def wz_W11_0 : List ev_Row := [(70, 9, 0, 0, []), (200, 3, 335, 0, [99]), (200, 4, 492, 0, [99]), (201, 6, 495, 2, []), (72, 38, 0, 0, []), (71, 15, 0, 0, []), (82, 1053, 0, 0, []), (201, 7, 1059, 3, [])]
set_option maxRecDepth 1000000 in
theorem wz_W11_0k : ∀ r ∈ wz_W11_0, wz_wd cm_ms "java/lang/String" r := wz_ws_ok (ps := [[1970], [565, 566, 567, 127], [575, 576, 577, 127], [579, 580, 128], [569], [1971], [585], [587, 588, 129]]) (by decide +kernel)
noncomputable def wz_W11 : List ev_Row := wz_W11_0
theorem wz_W11k : ∀ r ∈ wz_W11, wz_wd cm_ms "java/lang/String" r := wz_W11_0k
noncomputable def wz_W12_0 : List ev_Row := [(201, 5, 9, 2, [])]
set_option maxRecDepth 1000000 in
theorem wz_W12_0k : ∀ r ∈ wz_W12_0, wz_wd cm_ms "java/lang/StringLatin1" r := wz_ws_ok (ps := [[582, 583, 127]]) (by decide +kernel)
noncomputable def wz_W12 : List ev_Row := wz_W12_0
theorem wz_W12k : ∀ r ∈ wz_W12, wz_wd cm_ms "java/lang/StringLatin1" r := wz_W12_0k
noncomputable def wz_W13 : List ev_Row := []
theorem wz_W13k : ∀ r ∈ wz_W13, wz_wd cm_ms "jdk/internal/util/Preconditions" r := fun r hr => nomatch hr
set_option maxRecDepth 1000000 in
theorem mk_0 : ab_MK cm_ms mr_0 := wz_MK wz_C10 wz_W10k rfl (lw_in_3 (p := 27) rfl) (ks := [0, 0, 0, 0, 1, 0, 0, 0, 0, 2, 0, 0, 0, 0, 2, 0, 0, 0, 0, 0, 0, 0, 0, 3, 0, 0, 0, 0, 0, 0, 0, 0, 0, 0, 0, 0, 0, 0, 0, 0, 0, 0]) (by decide +kernel)
set_option maxRecDepth 1000000 in
theorem mk_1 : ab_MK cm_ms mr_1 := wz_MK wz_C11 wz_W11k rfl (lw_in_2 (p := 209) rfl) (ks := [0, 1, 0, 0, 2, 0, 0]) (by decide +kernel)
set_option maxRecDepth 1000000 in
theorem mk_2 : ab_MK cm_ms mr_2 := wz_MK wz_C11 wz_W11k rfl (lw_in_2 (p := 219) rfl) (ks := [0, 3, 0, 0, 1, 0, 4, 0, 0, 1, 0, 0]) (by decide +kernel)
set_option maxRecDepth 1000000 in
theorem mk_3 : ab_MK cm_ms mr_3 := wz_MK wz_C11 wz_W11k rfl (lw_in_2 (p := 213) rfl) (ks := [5, 0, 0, 6, 0, 0, 0]) (by decide +kernel)
set_option maxRecDepth 1000000 in
theorem mk_4 : ab_MK cm_ms mr_4 := wz_MK wz_C11 wz_W11k rfl (lw_in_2 (p := 223) rfl) (ks := [5, 0, 0, 6, 0, 0, 0, 0, 0]) (by decide +kernel)
set_option maxRecDepth 1000000 in
theorem mk_5 : ab_MK cm_ms mr_5 := wz_MK wz_C11 wz_W11k rfl (lw_in_2 (p := 229) rfl) (ks := [0, 0, 7, 8, 0, 0]) (by decide +kernel)
set_option maxRecDepth 1000000 in
theorem mk_6 : ab_MK cm_ms mr_6 := wz_MK wz_C12 wz_W12k rfl (lw_in_2 (p := 226) rfl) (ks := [0, 0, 0, 1, 0, 0, 0, 0, 0, 0, 0]) (by decide +kernel)
set_option maxRecDepth 1000000 in
theorem mk_7 : ab_MK cm_ms mr_7 := wz_MK wz_C13 wz_W13k rfl (lw_in_2 (p := 234) rfl) (ks := [0, 0, 0, 0, 0, 0, 0, 0, 0, 0]) (by decide +kernel)
set_option maxRecDepth 1000000 in
theorem mk_8 : ab_MK cm_ms mr_8 := wz_MK wz_C8 wz_W8k rfl (lw_in_2 (p := 159) rfl) (ks := [0, 0, 1, 0, 0, 2, 0, 0, 3, 0, 0, 4, 0, 0, 5, 0, 0, 6, 0, 0, 7, 0, 0, 0, 0, 0, 0, 8, 0, 0, 0, 0, 0, 0]) (by decide +kernel)
set_option maxRecDepth 1000000 in
theorem mk_9 : ab_MK cm_ms mr_9 := wz_MK wz_C8 wz_W8k rfl (lw_in_3 (p := 78) rfl) (ks := [0, 9, 0, 0, 0, 0, 10, 0, 9, 0, 0, 0, 11, 0, 9, 0, 0, 0, 12, 0, 9, 0, 0, 0, 13, 0, 9, 0, 0, 0, 14, 0, 9, 0, 0, 0, 0, 9, 0, 0, 4, 0]) (by decide +kernel)
set_option maxRecDepth 1000000 in
theorem mk_10 : ab_MK cm_ms mr_10 := wz_MK wz_C8 wz_W8k rfl (lw_in_3 (p := 89) rfl) (ks := [0, 15, 0, 0, 0, 0, 16, 0, 15, 0, 0, 0, 17, 0, 15, 0, 0, 0, 18, 0, 15, 0, 0, 0, 19, 0, 15, 0, 0, 0, 0, 15, 0, 0, 5, 0]) (by decide +kernel)
set_option maxRecDepth 1000000 in
theorem mk_11 : ab_MK cm_ms mr_11 := wz_MK wz_C8 wz_W8k rfl (lw_in_3 (p := 114) rfl) (ks := [0, 20, 0, 0, 0, 21, 0, 20, 0, 0, 0, 0, 20, 0, 0, 6, 0]) (by decide +kernel)
set_option maxRecDepth 1000000 in
theorem mk_12 : ab_MK cm_ms mr_12 := wz_MK wz_C8 wz_W8k rfl (lw_in_3 (p := 24) rfl) (ks := [0, 0, 0, 0, 0, 0, 0, 0, 0, 0, 0, 0, 0, 0, 0, 22, 0, 0, 0, 0, 0, 0]) (by decide +kernel)
set_option maxRecDepth 1000000 in
theorem mk_13 : ab_MK cm_ms mr_13 := wz_MK wz_C8 wz_W8k rfl (lw_in_3 (p := 194) rfl) (ks := [0, 0, 0, 0, 0, 0, 9, 0, 0, 0, 0, 0, 0, 0, 0, 0, 12, 0, 0, 0, 0, 0, 0, 0, 0]) (by decide +kernel)
set_option maxRecDepth 1000000 in
theorem mk_14 : ab_MK cm_ms mr_14 := wz_MK wz_C8 wz_W8k rfl (lw_in_4 (p := 3) rfl) (ks := [0, 0, 0, 0, 0, 0, 0, 0, 0, 0, 15, 0, 0, 19, 0, 0, 0, 0, 0, 0, 0, 0, 0, 0, 0, 0, 0, 0, 0, 0, 0, 0, 0, 0, 0]) (by decide +kernel)
set_option maxRecDepth 1000000 in
theorem mk_15 : ab_MK cm_ms mr_15 := wz_MK wz_C8 wz_W8k rfl (lw_in_4 (p := 11) rfl) (ks := [0, 0, 0, 0, 0, 0, 0, 0, 0, 23, 0, 0, 0, 0, 0, 0, 0, 0, 0, 19, 0, 0, 0, 0, 0, 0, 0, 0, 23, 0, 0, 0, 23, 0, 0, 0, 0, 23, 0, 0, 23, 0, 0, 0, 0, 0, 0, 0, 0, 0, 0, 0, 0, 0, 0, 0, 23, 0, 0, 0, 0, 0]) (by decide +kernel)
set_option maxRecDepth 1000000 in
theorem mk_16 : ab_MK cm_ms mr_16 := wz_MK wz_C8 wz_W8k rfl (lw_in_3 (p := 34) rfl) (ks := [0, 14, 0, 9, 24, 0, 0, 0]) (by decide +kernel)
set_option maxRecDepth 1000000 in
theorem mk_17 : ab_MK cm_ms mr_17 := wz_MK wz_C8 wz_W8k rfl (lw_in_4 (p := 156) rfl) (ks := [0, 0, 0, 0, 0, 0, 9, 0, 0, 0, 0, 0, 0, 0, 0, 0, 14, 0, 0, 0, 0, 0, 0, 22, 0, 0, 0, 0, 0, 0]) (by decide +kernel)
set_option maxRecDepth 1000000 in
theorem mk_18 : ab_MK cm_ms mr_18 := wz_MK wz_C8 wz_W8k rfl (lw_in_4 (p := 152) rfl) (ks := [0, 0, 0, 0, 0, 0, 0, 0, 0, 9, 0, 0, 0, 0, 25, 0, 0, 0, 0, 0, 0, 0, 0, 0, 0, 0, 0]) (by decide +kernel)
set_option maxRecDepth 1000000 in
theorem mk_19 : ab_MK cm_ms mr_19 := wz_MK wz_C8 wz_W8k rfl (lw_in_4 (p := 170) rfl) (ks := [0, 0, 0, 0, 0, 0, 0, 0, 0, 9, 0, 0, 0, 22, 0, 0, 0, 0, 26, 0, 0, 22, 0, 0, 0, 0, 0, 0, 0]) (by decide +kernel)
set_option maxRecDepth 1000000 in
theorem mk_20 : ab_MK cm_ms mr_20 := wz_MK wz_C8 wz_W8k rfl (lw_in_4 (p := 174) rfl) (ks := [0, 0, 0, 0, 9, 0, 0, 0, 0, 0, 0, 0, 0, 14, 0, 0, 0, 0, 0, 0, 0, 0, 0, 0, 0, 0, 0]) (by decide +kernel)
set_option maxRecDepth 1000000 in
theorem mk_21 : ab_MK cm_ms mr_21 := wz_MK wz_C8 wz_W8k rfl (lw_in_4 (p := 186) rfl) (ks := [0, 0, 0, 0, 20, 0, 0, 0, 0, 0, 20, 0, 0, 0, 0, 21, 0, 0, 0, 21, 0, 0, 0, 27, 0, 0, 0, 0, 0, 28, 0]) (by decide +kernel)
set_option maxRecDepth 1000000 in
theorem mk_22 : ab_MK cm_ms mr_22 := wz_MK wz_C3 wz_W3k rfl (lw_in_3 (p := 126) rfl) (ks := [0, 1, 0, 0, 2, 0, 0, 3, 0, 0, 0, 0, 0, 0, 4, 0, 0, 0, 0, 0, 0, 0, 5, 0, 0, 6, 0]) (by decide +kernel)
set_option maxRecDepth 1000000 in
theorem mk_23 : ab_MK cm_ms mr_23 := wz_MK wz_C3 wz_W3k rfl (lw_in_4 (p := 23) rfl) (ks := [0, 2, 0, 0, 2, 0, 0, 3, 0, 4, 0, 0, 4, 0, 0, 3, 0, 0, 7, 5, 0, 0, 8, 6, 0]) (by decide +kernel)
set_option maxRecDepth 1000000 in
theorem mk_24 : ab_MK cm_ms mr_24 := wz_MK wz_C3 wz_W3k rfl (lw_in_4 (p := 27) rfl) (ks := [0, 0, 0, 0, 9, 0, 0, 2, 0, 0, 0, 2, 0, 0, 0, 10, 0, 11, 0, 0, 0, 0, 0, 8, 0, 0, 6, 0]) (by decide +kernel)
set_option maxRecDepth 1000000 in
theorem mk_25 : ab_MK cm_ms mr_25 := wz_MK wz_C3 wz_W3k rfl (lw_in_3 (p := 157) rfl) (ks := [0, 2, 0, 0, 0, 12, 0, 0, 0, 0, 0]) (by decide +kernel)
set_option maxRecDepth 1000000 in
theorem mk_26 : ab_MK cm_ms mr_26 := wz_MK wz_C3 wz_W3k rfl (lw_in_3 (p := 211) rfl) (ks := [0, 0, 0, 0, 0, 0, 9, 0, 0, 0, 0, 13, 0, 0, 0, 0, 0, 0, 0, 0, 0, 0, 0]) (by decide +kernel)
set_option maxRecDepth 1000000 in
theorem mk_27 : ab_MK cm_ms mr_27 := wz_MK wz_C3 wz_W3k rfl (lw_in_3 (p := 233) rfl) (ks := [0, 0, 9, 0, 0, 0, 0, 0, 14, 0, 0, 0, 0]) (by decide +kernel)
set_option maxRecDepth 1000000 in
theorem mk_28 : ab_MK cm_ms mr_28 := wz_MK wz_C3 wz_W3k rfl (lw_in_3 (p := 165) rfl) (ks := [0, 2, 0, 0, 0, 12, 0, 0, 2, 0, 0, 0, 15, 0, 0, 0, 0, 16, 0, 0, 0, 0, 0, 0, 0, 0, 0, 0, 0]) (by decide +kernel)
set_option maxRecDepth 1000000 in
theorem mk_29 : ab_MK cm_ms mr_29 := wz_MK wz_C3 wz_W3k rfl (lw_in_3 (p := 161) rfl) (ks := [0, 0, 0, 0, 0, 0, 17, 0, 0, 0, 0, 0, 18, 0, 0, 0, 0, 0, 0, 0, 0, 0, 0, 0]) (by decide +kernel)
set_option maxRecDepth 1000000 in
theorem mk_30 : ab_MK cm_ms mr_30 := wz_MK wz_C3 wz_W3k rfl (lw_in_3 (p := 190) rfl) (ks := [0, 0, 0, 0, 0, 0, 9, 0, 0, 0, 0, 0, 18, 0, 0, 0, 0, 0, 0, 0, 0, 0, 0, 0]) (by decide +kernel)
set_option maxRecDepth 1000000 in
theorem mk_31 : ab_MK cm_ms mr_31 := wz_MK wz_C3 wz_W3k rfl (lw_in_3 (p := 186) rfl) (ks := [0, 0, 0, 0, 19, 20, 0]) (by decide +kernel)
set_option maxRecDepth 1000000 in
theorem mk_32 : ab_MK cm_ms mr_32 := wz_MK wz_C3 wz_W3k rfl (lw_in_3 (p := 224) rfl) (ks := [0, 0, 0, 21, 0, 22, 0, 0, 0, 0, 0, 0, 0]) (by decide +kernel)
set_option maxRecDepth 1000000 in
theorem mk_33 : ab_MK cm_ms mr_33 := wz_MK wz_C3 wz_W3k rfl (lw_in_3 (p := 177) rfl) (ks := [0, 7, 0, 0, 0, 0, 0, 0, 0, 0, 0]) (by decide +kernel)
set_option maxRecDepth 1000000 in
theorem mk_34 : ab_MK cm_ms mr_34 := wz_MK wz_C3 wz_W3k rfl (lw_in_3 (p := 181) rfl) (ks := [0, 0, 23, 0, 0, 24, 0, 0, 0, 7, 0, 0, 0, 0, 0, 0, 0, 0]) (by decide +kernel)
set_option maxRecDepth 1000000 in
theorem mk_35 : ab_MK cm_ms mr_35 := wz_MK wz_C3 wz_W3k rfl (lw_in_4 (p := 80) rfl) (ks := [0, 0, 0, 19, 0, 0, 0, 20, 0, 22, 0, 0, 0, 0, 0, 0, 0, 0, 0, 0, 0, 9, 0, 0, 0, 0, 0, 0, 0, 0, 0, 0, 0, 15, 0, 0, 25, 0, 0, 0, 0, 0, 0, 7, 0, 0, 0, 0, 5, 0, 0]) (by decide +kernel)
set_option maxRecDepth 1000000 in
theorem mk_36 : ab_MK cm_ms mr_36 := wz_MK wz_C3 wz_W3k rfl (lw_in_4 (p := 84) rfl) (ks := [0, 26, 0, 0, 0, 0, 2, 0, 0, 0, 0, 0, 0, 0, 0, 0, 0, 0, 0, 4, 0, 0, 0, 0, 0, 0, 0]) (by decide +kernel)
set_option maxRecDepth 1000000 in
theorem mk_37 : ab_MK cm_ms mr_37 := wz_MK wz_C3 wz_W3k rfl (lw_in_4 (p := 130) rfl) (ks := [0, 0, 0, 13, 0, 0, 0, 0, 0, 27, 0, 0, 0, 0, 0, 0, 0, 0, 0, 0, 0, 0, 0, 0, 9, 0, 0, 0, 0, 0, 0, 0, 0, 0, 0, 20, 0, 0, 0, 0, 0, 0, 28, 0, 0, 0, 0, 0, 0, 0, 0, 0, 0]) (by decide +kernel)
set_option maxRecDepth 1000000 in
theorem mk_38 : ab_MK cm_ms mr_38 := wz_MK wz_C4 wz_W4k rfl (lw_in_3 (p := 133) rfl) (ks := [0, 0, 1, 0, 0, 2, 0]) (by decide +kernel)
set_option maxRecDepth 1000000 in
theorem mk_39 : ab_MK cm_ms mr_39 := wz_MK wz_C4 wz_W4k rfl (lw_in_5 (p := 107) rfl) (ks := [0, 3, 0, 4, 0, 0, 5, 0, 0, 4, 0, 0, 0, 0, 6, 0, 0, 0, 7, 0, 0, 8, 1, 0]) (by decide +kernel)
set_option maxRecDepth 1000000 in
theorem mk_40 : ab_MK cm_ms mr_40 := wz_MK wz_C4 wz_W4k rfl (lw_in_5 (p := 127) rfl) (ks := [0, 7, 0, 0, 0, 0, 0, 4, 0, 0, 0, 0, 0, 0, 6, 0, 0, 7, 0, 0, 1, 0, 0, 3, 0, 4, 0, 5, 0, 0]) (by decide +kernel)
set_option maxRecDepth 1000000 in
theorem mk_41 : ab_MK cm_ms mr_41 := wz_MK wz_C4 wz_W4k rfl (lw_in_5 (p := 135) rfl) (ks := [0, 9, 0, 0, 0, 0, 0, 10, 0, 9, 0, 0, 5, 0, 0, 9, 0, 0, 2, 0, 9, 0, 0, 0]) (by decide +kernel)
set_option maxRecDepth 1000000 in
theorem mk_42 : ab_MK cm_ms mr_42 := wz_MK wz_C4 wz_W4k rfl (lw_in_5 (p := 143) rfl) (ks := [0, 0, 0, 0, 9, 0, 0, 0, 0, 0, 10, 0, 0, 5, 0, 0, 1, 0, 0]) (by decide +kernel)
set_option maxRecDepth 1000000 in
theorem mk_43 : ab_MK cm_ms mr_43 := wz_MK wz_C1 wz_W1k rfl (lw_in_4 (p := 63) rfl) (ks := [0, 0, 0, 0, 0, 0, 0, 0, 0, 0, 0, 0, 0, 0, 0, 0, 0, 0, 0, 0, 0, 0, 0, 0, 0, 0, 0, 0, 1, 0, 0, 0, 0, 0, 0, 0]) (by decide +kernel)
set_option maxRecDepth 1000000 in
theorem mk_44 : ab_MK cm_ms mr_44 := wz_MK wz_C1 wz_W1k rfl (lw_in_4 (p := 69) rfl) (ks := [0, 2, 0, 0, 0, 3, 0, 0, 0, 0, 0, 0, 0, 0, 0, 0, 0, 0, 0, 0, 0, 0, 0, 0, 0, 0, 0, 0, 0, 0, 4, 0, 0, 0, 0, 0, 0, 0, 0, 0, 0, 0, 0, 0, 0]) (by decide +kernel)
set_option maxRecDepth 1000000 in
theorem mk_45 : ab_MK cm_ms mr_45 := wz_MK wz_C1 wz_W1k rfl (lw_in_4 (p := 92) rfl) (ks := [0, 0, 0, 5, 6, 0, 0, 7, 0, 0, 8, 0, 0, 9, 0, 2, 0, 0, 0, 3, 0, 0, 0, 0, 0, 10, 0]) (by decide +kernel)
set_option maxRecDepth 1000000 in
theorem mk_46 : ab_MK cm_ms mr_46 := wz_MK wz_C1 wz_W1k rfl (lw_in_4 (p := 97) rfl) (ks := [0, 0, 11, 0, 0, 0, 12, 0, 0, 0, 8, 0, 0, 7, 0, 0, 2, 0, 0, 13, 9, 0, 0, 0, 0, 0, 1, 0, 0, 0, 0, 0, 4, 0, 0, 0, 0, 0, 0, 0, 0, 0, 0, 0, 0, 0, 0, 0, 0, 0, 10, 0, 0, 0]) (by decide +kernel)
set_option maxRecDepth 1000000 in
theorem mk_47 : ab_MK cm_ms mr_47 := wz_MK wz_C1 wz_W1k rfl (lw_in_4 (p := 74) rfl) (ks := [0, 0, 0, 0, 0, 0, 0, 0, 0, 0, 0, 1, 0, 0, 0, 0, 0, 0, 2, 0, 0, 0, 0, 14, 0, 0, 0, 0, 2, 0, 0, 0, 0, 0, 0, 0, 2, 0, 0, 3, 0, 0, 15, 0, 0, 0, 0, 0, 16, 0, 0, 17, 0, 0, 0, 0, 0]) (by decide +kernel)
set_option maxRecDepth 1000000 in
theorem mk_48 : ab_MK cm_ms mr_48 := wz_MK wz_C1 wz_W1k rfl (lw_in_4 (p := 113) rfl) (ks := [0, 2, 0, 0, 0, 3, 0, 0, 0, 0, 0, 0, 0, 6, 0, 0, 0, 0, 18, 0, 0, 0, 0, 0, 0, 0]) (by decide +kernel)
set_option maxRecDepth 1000000 in
theorem mk_49 : ab_MK cm_ms mr_49 := wz_MK wz_C1 wz_W1k rfl (lw_in_4 (p := 117) rfl) (ks := [0, 0, 11, 0, 0, 2, 0, 0, 0, 19, 0, 0, 0, 11, 0, 0, 0, 0, 0, 0, 0, 0, 0, 0, 0, 11, 0, 0, 0, 0, 0, 0, 0, 0, 1, 0, 0, 0, 0, 0, 0, 0, 0, 0, 0, 4, 0, 0, 0, 0, 0, 0, 0, 0, 18, 0, 0, 0, 0, 0, 0, 0]) (by decide +kernel)
set_option maxRecDepth 1000000 in
theorem mk_50 : ab_MK cm_ms mr_50 := wz_MK wz_C7 wz_W7k rfl (lw_in_4 (p := 198) rfl) (ks := [0, 0, 1, 0, 2, 0, 0, 0, 1, 0, 3, 0, 0, 0, 0, 0, 0, 0, 0, 4, 0]) (by decide +kernel)
set_option maxRecDepth 1000000 in
theorem mk_51 : ab_MK cm_ms mr_51 := wz_MK wz_C7 wz_W7k rfl (lw_in_4 (p := 202) rfl) (ks := [0, 0, 2, 0, 0, 0, 0, 0, 0, 0, 0, 5, 0, 0, 0, 0, 0, 2, 0, 0, 0, 0, 0, 0, 0, 0, 3, 0, 0, 0, 0, 0, 0, 0, 0, 0, 0, 0, 0, 0, 0, 0, 0, 3, 0, 0, 0, 0, 0, 6, 0, 4, 0, 0, 0]) (by decide +kernel)
set_option maxRecDepth 1000000 in
theorem mk_52 : ab_MK cm_ms mr_52 := wz_MK wz_C7 wz_W7k rfl (lw_in_4 (p := 206) rfl) (ks := [0, 0, 0, 3, 0, 0, 0, 0, 0, 6, 0, 0, 0, 0, 7, 0, 0, 0, 1, 0, 3, 0, 0, 8, 0, 0, 9, 0]) (by decide +kernel)
set_option maxRecDepth 1000000 in
theorem mk_53 : ab_MK cm_ms mr_53 := wz_MK wz_C6 wz_W6k rfl (lw_in_4 (p := 224) rfl) (ks := [0, 0, 1, 0, 0, 0, 0, 0, 2, 0, 0, 0, 0, 0, 3, 0, 0, 4, 0, 5, 0, 0, 0, 0, 5, 0, 0, 1, 0, 0, 0]) (by decide +kernel)
set_option maxRecDepth 1000000 in
theorem mk_54 : ab_MK cm_ms mr_54 := wz_MK wz_C6 wz_W6k rfl (lw_in_4 (p := 228) rfl) (ks := [0, 6, 0, 7, 0, 0, 0, 0, 2, 0, 0, 0, 0, 0, 0, 0, 0, 6, 0, 0, 8, 0, 0, 0, 0, 0, 0, 0, 0, 0, 6, 9, 0, 0, 0, 10, 0, 0, 0, 0, 0, 0, 0, 0, 0]) (by decide +kernel)
set_option maxRecDepth 1000000 in
theorem mk_55 : ab_MK cm_ms mr_55 := wz_MK wz_C6 wz_W6k rfl (lw_in_5 (p := 2) rfl) (ks := [0, 0, 0, 0, 0, 0, 5, 0, 0, 0, 4, 0, 0, 0, 0, 0, 0, 0, 0]) (by decide +kernel)
set_option maxRecDepth 1000000 in
theorem mk_56 : ab_MK cm_ms mr_56 := wz_MK wz_C6 wz_W6k rfl (lw_in_5 (p := 10) rfl) (ks := [0, 5, 0, 0, 0, 0, 4, 0, 0, 0, 0, 0, 0, 0, 5, 0, 0, 0, 4, 0, 0, 0, 0, 0, 0, 0, 0]) (by decide +kernel)
set_option maxRecDepth 1000000 in
theorem mk_57 : ab_MK cm_ms mr_57 := wz_MK wz_C6 wz_W6k rfl (lw_in_5 (p := 22) rfl) (ks := [0, 0, 0, 0, 0, 0, 5, 0, 0, 0, 4, 0, 0, 0, 0, 0, 0, 0, 0, 0, 0, 0, 0, 5, 0, 0, 11, 0]) (by decide +kernel)
set_option maxRecDepth 1000000 in
theorem mk_58 : ab_MK cm_ms mr_58 := wz_MK wz_C6 wz_W6k rfl (lw_in_5 (p := 18) rfl) (ks := [0, 0, 0, 5, 0, 0, 0, 0, 0, 0, 5, 0, 0, 0, 2, 0, 0, 0, 12, 0, 0, 0, 0, 0, 0, 0, 0, 0, 0, 0, 0]) (by decide +kernel)
set_option maxRecDepth 1000000 in
theorem mk_59 : ab_MK cm_ms mr_59 := wz_MK wz_C2 wz_W2k rfl (lw_in_5 (p := 60) rfl) (ks := [0, 0, 0, 1, 0, 0, 0, 0, 0, 0, 0, 0, 2, 0, 0, 0, 0, 0, 0, 0, 0, 3, 0, 4, 0, 0, 0, 0, 5, 0, 0, 0, 6, 0, 7, 0, 0, 6, 0, 0, 2, 0, 0, 7, 0, 0, 0, 0, 0, 0, 0, 0, 0, 2, 7, 8, 0]) (by decide +kernel)
set_option maxRecDepth 1000000 in
theorem mk_60 : ab_MK cm_ms mr_60 := wz_MK wz_C2 wz_W2k rfl (lw_in_5 (p := 78) rfl) (ks := [0, 0, 0, 0, 9, 0, 0, 0, 6, 0, 0, 0, 10, 8, 0]) (by decide +kernel)
set_option maxRecDepth 1000000 in
theorem mk_61 : ab_MK cm_ms mr_61 := wz_MK wz_C2 wz_W2k rfl (lw_in_5 (p := 66) rfl) (ks := [0, 0, 0, 0, 0, 0, 0, 0, 0, 0, 0, 0, 0, 0, 0, 0]) (by decide +kernel)
set_option maxRecDepth 1000000 in
theorem mk_62 : ab_MK cm_ms mr_62 := wz_MK wz_C2 wz_W2k rfl (lw_in_5 (p := 70) rfl) (ks := [0, 0, 0, 0, 0, 0, 0, 0, 0, 0, 0, 0, 0, 0, 0, 0, 0, 0, 0, 0, 0, 0, 0, 0, 0, 0, 0, 0, 0, 0, 0, 0, 0, 11, 0, 0, 0, 0, 0, 0, 0, 0, 0, 0, 12, 0]) (by decide +kernel)
set_option maxRecDepth 1000000 in
theorem mk_63 : ab_MK cm_ms mr_63 := wz_MK wz_C2 wz_W2k rfl (lw_in_5 (p := 93) rfl) (ks := [0, 0, 13, 0, 0, 0, 0, 2, 0, 0, 0, 0, 14, 0, 0, 0, 15, 0, 16, 0, 14, 0, 0, 0, 6, 0, 0, 17, 0, 0, 0, 0, 0, 0]) (by decide +kernel)
set_option maxRecDepth 1000000 in
theorem mk_64 : ab_MK cm_ms mr_64 := wz_MK wz_C5 wz_W5k rfl (lw_in_2 (p := 152) rfl) (ks := [0, 0, 1, 0, 0, 0, 0, 2, 3, 0, 0, 4, 0, 0, 5, 0, 6, 7, 0, 0, 8, 0, 0, 9, 0, 0, 10, 0, 11, 0, 12, 0, 0, 0, 0, 0, 0, 13, 0, 0, 14, 0, 0, 0, 11, 0, 12, 0, 0, 0, 14, 0, 0, 0, 15, 0, 6, 16, 0, 0, 0, 15, 0, 13, 0]) (by decide +kernel)
set_option maxRecDepth 1000000 in
theorem mk_65 : ab_MK cm_ms mr_65 := wz_MK wz_C5 wz_W5k rfl (lw_in_3 (p := 122) rfl) (ks := [0, 17, 0]) (by decide +kernel)
set_option maxRecDepth 1000000 in
theorem mk_66 : ab_MK cm_ms mr_66 := wz_MK wz_C5 wz_W5k rfl (lw_in_3 (p := 17) rfl) (ks := [0, 13, 0, 0, 0, 9, 0]) (by decide +kernel)
set_option maxRecDepth 1000000 in
theorem mk_67 : ab_MK cm_ms mr_67 := wz_MK wz_C5 wz_W5k rfl (lw_in_2 (p := 186) rfl) (ks := [0, 18, 0, 0, 0, 0, 0, 0, 15, 0, 0, 0, 0, 19, 0, 0, 0, 15, 0, 0, 0, 0, 19, 0, 0, 0, 15, 0, 0, 0, 20, 0, 21, 0, 0, 0, 15, 0, 11, 0, 13, 0, 0, 0, 0, 0, 0, 22, 0, 0, 23, 0, 0, 24, 0, 0, 25, 0, 0, 26, 0, 0, 27, 0, 0, 28, 0, 0, 29, 0, 0]) (by decide +kernel)
set_option maxRecDepth 1000000 in
theorem mk_68 : ab_MK cm_ms mr_68 := wz_MK wz_C5 wz_W5k rfl (lw_in_3 (p := 38) rfl) (ks := [0, 0, 0, 0, 0, 0, 0, 0, 0, 0, 0, 0, 0, 0, 0, 0]) (by decide +kernel)
set_option maxRecDepth 1000000 in
theorem mk_69 : ab_MK cm_ms mr_69 := wz_MK wz_C5 wz_W5k rfl (lw_in_3 (p := 21) rfl) (ks := [0, 0, 0, 6, 16, 0, 0, 6, 30, 0, 0, 6, 31, 0, 6, 16, 32, 0, 0, 6, 33, 0, 6, 30, 32, 0, 0, 6, 34, 0, 0, 6, 35, 0, 0, 0]) (by decide +kernel)
set_option maxRecDepth 1000000 in
theorem mk_70 : ab_MK cm_ms mr_70 := wz_MK wz_C5 wz_W5k rfl (lw_in_3 (p := 42) rfl) (ks := [0, 0, 36, 0, 6, 0, 0, 0, 37, 38, 0, 0, 36, 0, 6, 0, 0, 0, 37, 39, 0, 0, 36, 0, 6, 0, 0, 0, 37, 40, 0, 0, 8, 0]) (by decide +kernel)
set_option maxRecDepth 1000000 in
theorem mk_71 : ab_MK cm_ms mr_71 := wz_MK wz_C5 wz_W5k rfl (lw_in_3 (p := 57) rfl) (ks := [0, 0, 0, 6, 16, 41, 0, 42, 0, 0, 11, 0, 0, 36, 0, 0, 0, 37, 0, 0, 0, 36, 0, 0, 0, 37, 0, 0, 13, 0, 0, 6, 0, 0, 0, 43, 0]) (by decide +kernel)
set_option maxRecDepth 1000000 in
theorem mk_72 : ab_MK cm_ms mr_72 := wz_MK wz_C5 wz_W5k rfl (lw_in_3 (p := 82) rfl) (ks := [0, 0, 0, 6, 30, 41, 0, 0, 36, 0, 0, 0, 37, 0, 0, 0, 36, 0, 0, 0, 37, 0, 0, 0, 36, 0, 0, 0, 37, 0, 0, 13, 0, 0, 6, 0, 0, 0, 44, 0]) (by decide +kernel)
set_option maxRecDepth 1000000 in
theorem mk_73 : ab_MK cm_ms mr_73 := wz_MK wz_C5 wz_W5k rfl (lw_in_3 (p := 93) rfl) (ks := [0, 0, 45, 0, 0, 11, 0, 0, 45, 0, 0, 0, 0, 0, 0, 0, 0, 0, 6, 31, 0, 0, 0, 0, 0, 0, 0, 0, 0, 15, 0, 0, 6, 31, 0, 0, 0, 0, 0, 0, 0, 0, 0, 11, 0]) (by decide +kernel)
set_option maxRecDepth 1000000 in
theorem mk_74 : ab_MK cm_ms mr_74 := wz_MK wz_C5 wz_W5k rfl (lw_in_3 (p := 101) rfl) (ks := [0, 0, 45, 0, 0, 11, 0, 0, 45, 0, 0, 0, 0, 0, 0, 0, 0, 0, 6, 33, 0, 0, 0, 0, 0, 0, 0, 0, 0, 15, 0, 0, 0, 0, 0, 0, 15, 0, 0, 6, 33, 0, 0, 0, 0, 0, 0, 0, 0, 0, 11, 0]) (by decide +kernel)
set_option maxRecDepth 1000000 in
theorem mk_75 : ab_MK cm_ms mr_75 := wz_MK wz_C5 wz_W5k rfl (lw_in_3 (p := 105) rfl) (ks := [0, 0, 45, 0, 0, 11, 0, 0, 45, 0, 0, 0, 0, 0, 0, 0, 0, 0, 0, 0, 0, 6, 46, 0, 0, 0, 0, 0, 0, 0, 0, 0, 15, 0, 0, 6, 46, 0, 0, 0, 0, 0, 0, 0, 0, 0, 6, 46, 0, 0, 0, 0, 0, 0, 0, 0, 0, 11, 0]) (by decide +kernel)
set_option maxRecDepth 1000000 in
theorem mk_76 : ab_MK cm_ms mr_76 := wz_MK wz_C5 wz_W5k rfl (lw_in_3 (p := 109) rfl) (ks := [0, 0, 0, 6, 35, 41, 0, 0, 36, 0, 0, 0, 37, 0, 0, 13, 0, 0, 6, 0, 47, 0]) (by decide +kernel)
set_option maxRecDepth 1000000 in
theorem mk_77 : ab_MK cm_ms mr_77 := wz_MK wz_C5 wz_W5k rfl (lw_in_3 (p := 118) rfl) (ks := [0, 42, 0, 0, 0, 0, 0, 0, 6, 48, 0, 0, 0, 0, 0, 0, 0, 15, 0, 0, 11, 0, 0, 0, 37, 0, 0, 13, 0, 0, 0, 0, 0, 6, 49, 0, 0, 0, 0, 6, 0, 48, 0, 0, 0, 0, 50, 0]) (by decide +kernel)
set_option maxRecDepth 1000000 in
theorem mk_78 : ab_MK cm_ms mr_78 := wz_MK wz_C5 wz_W5k rfl (lw_in_3 (p := 47) rfl) (ks := [0, 0, 51, 0, 0, 0, 15, 0, 11, 0]) (by decide +kernel)
set_option maxRecDepth 1000000 in
theorem mk_79 : ab_MK cm_ms mr_79 := wz_MK wz_C5 wz_W5k rfl (lw_in_3 (p := 51) rfl) (ks := [0, 14, 0, 0, 0, 0, 15, 0, 0, 52, 0, 0, 0, 52, 0, 0, 0, 0, 15, 0, 52, 0, 0, 11, 0, 0]) (by decide +kernel)
set_option maxRecDepth 1000000 in
theorem mk_80 : ab_MK cm_ms mr_80 := wz_MK wz_C5 wz_W5k rfl (lw_in_3 (p := 61) rfl) (ks := [0, 14, 0, 0, 0, 18, 0, 0, 0, 0, 15, 0, 0, 53, 0, 0, 0, 0, 15, 0, 13, 0, 0, 54, 0, 0, 0, 55, 0, 54, 0, 56, 0, 0, 57, 0, 54, 0, 0, 0, 58, 0, 54, 0, 0, 0, 0, 54, 0, 0, 10, 0, 11, 0]) (by decide +kernel)
set_option maxRecDepth 1000000 in
theorem mk_81 : ab_MK cm_ms mr_81 := wz_MK wz_C5 wz_W5k rfl (lw_in_3 (p := 97) rfl) (ks := [0, 53, 0, 0, 14, 0, 0, 0, 18, 0, 0, 0, 0, 15, 0, 0, 0, 0, 0, 57, 0, 0, 0, 0, 0, 0, 15, 0, 13, 0, 0, 0, 0, 0, 0, 0, 58, 0, 0, 0]) (by decide +kernel)
set_option maxRecDepth 1000000 in
theorem mk_82 : ab_MK cm_ms mr_82 := wz_MK wz_C5 wz_W5k rfl (lw_in_3 (p := 65) rfl) (ks := [0, 0, 0, 0, 54, 0, 0, 14, 0, 0, 0, 55, 0, 0, 0, 56, 0, 0, 0, 0, 0, 0, 0, 0]) (by decide +kernel)
set_option maxRecDepth 1000000 in
theorem mk_83 : ab_MK cm_ms mr_83 := wz_MK wz_C5 wz_W5k rfl (lw_in_3 (p := 69) rfl) (ks := [0, 0, 51, 0, 0, 0, 0, 0, 51, 0, 0, 0, 0, 0, 51, 0, 0, 0, 0, 0, 15, 0, 0]) (by decide +kernel)
set_option maxRecDepth 1000000 in
theorem mk_84 : ab_MK cm_ms mr_84 := wz_MK wz_C5 wz_W5k rfl (lw_in_2 (p := 190) rfl) (ks := [0, 0, 0, 0, 0, 0, 0, 59, 51, 0, 0, 0, 0, 0, 0, 0]) (by decide +kernel)
set_option maxRecDepth 1000000 in
theorem mk_85 : ab_MK cm_ms mr_85 := wz_MK wz_C5 wz_W5k rfl (lw_in_2 (p := 193) rfl) (ks := [0, 0, 0, 0, 0, 0, 0, 0, 0, 0, 0, 0, 0, 0, 0, 0, 0, 0]) (by decide +kernel)
set_option maxRecDepth 1000000 in
theorem mk_86 : ab_MK cm_ms mr_86 := wz_MK wz_C5 wz_W5k rfl (lw_in_2 (p := 205) rfl) (ks := [0, 0, 0, 0, 0, 0, 60, 0, 0, 0, 0, 61, 62, 0, 0, 0, 0, 14, 0, 0, 0, 56, 0, 0, 0, 0, 0, 0, 0]) (by decide +kernel)
set_option maxRecDepth 1000000 in
theorem mk_87 : ab_MK cm_ms mr_87 := wz_MK wz_C5 wz_W5k rfl (lw_in_2 (p := 173) rfl) (ks := [0, 63, 0, 0, 0, 0, 64, 0, 0, 0, 0]) (by decide +kernel)
set_option maxRecDepth 1000000 in
theorem mk_88 : ab_MK cm_ms mr_88 := wz_MK wz_C5 wz_W5k rfl (lw_in_2 (p := 163) rfl) (ks := [0, 13, 0, 0, 0, 65, 0, 66, 0, 0, 67, 0, 65, 0, 0, 0, 0, 0, 65, 0, 0, 4, 0, 0, 0, 65, 68, 0, 0, 69, 0, 0, 70, 0, 65, 0, 66, 0, 0, 0, 71, 0, 0, 67, 0, 65, 0, 72, 0, 0, 73, 0, 0, 67, 0, 65, 0, 74, 0, 0, 75, 0, 0, 0, 67, 0, 65, 0, 0, 0, 0, 0, 0, 71, 0, 0, 65, 0, 0, 4, 0]) (by decide +kernel)
set_option maxRecDepth 1000000 in
theorem mk_89 : ab_MK cm_ms mr_89 := wz_MK wz_C5 wz_W5k rfl (lw_in_2 (p := 170) rfl) (ks := [0, 65, 0, 66, 0, 0, 67, 0, 65, 0, 72, 0, 0, 0, 56, 0, 67, 0, 65, 0, 62, 70, 0, 0, 65, 0, 0, 4, 0, 0, 0, 65, 0, 17, 0, 0, 0, 0, 0, 0, 71, 0]) (by decide +kernel)
set_option maxRecDepth 1000000 in
theorem mk_90 : ab_MK cm_ms mr_90 := wz_MK wz_C5 wz_W5k rfl (lw_in_2 (p := 182) rfl) (ks := [0, 65, 0, 66, 0, 0, 67, 0, 65, 0, 74, 0, 0, 0, 52, 0, 0, 0, 67, 0, 65, 0, 0, 0, 0, 69, 0, 0, 65, 0, 0, 4, 0, 0, 0, 65, 0, 17, 0, 0, 0, 0, 0, 0, 71, 0]) (by decide +kernel)
set_option maxRecDepth 1000000 in
theorem mk_91 : ab_MK cm_ms mr_91 := wz_MK wz_C5 wz_W5k rfl (lw_in_2 (p := 166) rfl) (ks := [0, 0, 0, 0, 0, 0, 0, 0, 0, 0]) (by decide +kernel)
set_option maxRecDepth 1000000 in
theorem mk_92 : ab_MK cm_ms mr_92 := wz_MK wz_C5 wz_W5k rfl (lw_in_2 (p := 178) rfl) (ks := [0, 0, 0, 0, 0, 0, 0, 0, 0, 0]) (by decide +kernel)
set_option maxRecDepth 1000000 in
theorem mk_93 : ab_MK cm_ms mr_93 := wz_MK wz_C0 wz_W0k rfl (lw_in_2 (p := 136) rfl) (ks := [0, 1, 0, 0, 0, 0, 0, 0, 0, 0, 2, 0, 0, 2, 0, 0, 2, 0, 0, 2, 0, 0, 2, 0, 1, 0]) (by decide +kernel)
set_option maxRecDepth 1000000 in
theorem mk_94 : ab_MK cm_ms mr_94 := wz_MK wz_C0 wz_W0k rfl (lw_in_2 (p := 140) rfl) (ks := [0, 0, 0, 0, 0, 1, 0, 0, 0, 3, 0, 1, 0, 0, 0, 0, 0, 0, 0, 1, 0, 0, 4, 0, 0, 0]) (by decide +kernel)
set_option maxRecDepth 1000000 in
theorem mk_95 : ab_MK cm_ms mr_95 := wz_MK wz_C0 wz_W0k rfl (lw_in_2 (p := 144) rfl) (ks := [0, 0, 0, 0, 1, 0, 0, 0, 5, 0, 0, 0, 4, 0, 0, 6, 0, 3, 0, 0, 7, 8, 9, 0, 10, 0, 0, 0, 6, 11, 12, 0, 0, 5, 0, 0, 7, 0, 0, 0, 13, 14, 0, 0, 15, 0, 16, 0, 13, 17, 0, 18, 19, 0, 0, 13, 20, 21, 0]) (by decide +kernel)
set_option maxRecDepth 1000000 in
theorem mk_96 : ab_MK cm_ms mr_96 := wz_MK wz_C0 wz_W0k rfl (lw_in_3 (p := 141) rfl) (ks := [0, 10, 0]) (by decide +kernel)
set_option maxRecDepth 1000000 in
theorem mk_97 : ab_MK cm_ms mr_97 := wz_MK wz_C0 wz_W0k rfl (lw_in_3 (p := 145) rfl) (ks := [0, 22, 0, 0, 0, 23, 0, 0, 0]) (by decide +kernel)
set_option maxRecDepth 1000000 in
theorem mk_98 : ab_MK cm_ms mr_98 := wz_MK wz_C0 wz_W0k rfl (lw_in_3 (p := 149) rfl) (ks := [0, 0, 24, 0, 0, 0, 0, 0, 0, 0, 0, 5, 0, 0, 0, 0, 0, 13, 25, 0, 0, 21, 0, 0, 0, 16, 26, 0, 0, 21, 0, 0, 0, 13, 27, 0, 0, 21, 0, 0, 0, 16, 0, 13, 0, 28, 0, 0, 0, 0, 21, 0, 0, 0, 13, 29, 0, 0, 21, 0, 0, 0, 13, 30, 0, 0, 21, 0, 0, 0, 16, 0, 13, 0, 31, 21, 0]) (by decide +kernel)
set_option maxRecDepth 1000000 in
theorem mk_99 : ab_MK cm_ms mr_99 := wz_MK wz_C0 wz_W0k rfl (lw_in_3 (p := 169) rfl) (ks := [0, 0, 32, 0, 0, 0, 0, 0, 0, 0, 0, 5, 0, 0, 0, 0, 0, 13, 33, 0, 0, 21, 0, 0, 0, 13, 34, 0, 0, 21, 0, 0, 0, 13, 35, 0, 0, 21, 0, 0, 0, 13, 36, 0, 0, 21, 0, 0, 0, 16, 0, 37, 0, 0, 0, 0, 21, 0, 0, 0, 16, 0, 13, 0, 38, 0, 0, 0, 0, 21, 0, 0, 0, 16, 0, 13, 0, 39, 21, 0, 0, 0, 16, 0, 13, 0, 40, 21, 0]) (by decide +kernel)
set_option maxRecDepth 1000000 in
theorem mk_100 : ab_MK cm_ms mr_100 := wz_MK wz_C0 wz_W0k rfl (lw_in_3 (p := 199) rfl) (ks := [0, 41, 0, 0, 0, 0, 0, 0, 0, 0, 5, 0, 0, 0, 16, 42, 0, 0, 21, 0]) (by decide +kernel)
set_option maxRecDepth 1000000 in
theorem mk_101 : ab_MK cm_ms mr_101 := wz_MK wz_C0 wz_W0k rfl (lw_in_3 (p := 207) rfl) (ks := [0, 41, 0, 0, 0, 5, 0, 0, 0, 16, 0, 13, 43, 21, 0]) (by decide +kernel)
set_option maxRecDepth 1000000 in
theorem mk_102 : ab_MK cm_ms mr_102 := wz_MK wz_C0 wz_W0k rfl (lw_in_3 (p := 216) rfl) (ks := [0, 41, 0, 0, 0, 5, 0, 0, 0, 0, 0, 0, 0, 13, 20, 0, 0, 16, 26, 0, 0, 0, 16, 26, 0, 0, 0, 0, 0, 0, 0, 0, 0, 21, 0]) (by decide +kernel)
set_option maxRecDepth 1000000 in
theorem mk_103 : ab_MK cm_ms mr_103 := wz_MK wz_C0 wz_W0k rfl (lw_in_3 (p := 220) rfl) (ks := [0, 41, 0, 0, 0, 5, 0, 0, 0, 0, 0, 0, 0, 13, 44, 0, 0, 16, 0, 13, 0, 38, 0, 0, 16, 0, 13, 0, 45, 0, 0, 0, 0, 0, 0, 0, 0, 0, 0, 0, 21, 0]) (by decide +kernel)
set_option maxRecDepth 1000000 in
theorem mk_104 : ab_MK cm_ms mr_104 := wz_MK wz_C0 wz_W0k rfl (lw_in_3 (p := 229) rfl) (ks := [0, 41, 0, 0, 0, 5, 0, 0, 0, 13, 0, 16, 0, 13, 46, 47, 21, 0]) (by decide +kernel)
set_option maxRecDepth 1000000 in
theorem mk_105 : ab_MK cm_ms mr_105 := wz_MK wz_C0 wz_W0k rfl (lw_in_3 (p := 239) rfl) (ks := [0, 0, 32, 0, 0, 0, 5, 0, 0, 0, 13, 0, 48, 21, 0]) (by decide +kernel)
set_option maxRecDepth 1000000 in
theorem mk_106 : ab_MK cm_ms mr_106 := wz_MK wz_C0 wz_W0k rfl (lw_in_4 (p := 7) rfl) (ks := [0, 0, 32, 0, 0, 0, 5, 0, 0, 0, 13, 0, 49, 21, 0]) (by decide +kernel)
set_option maxRecDepth 1000000 in
theorem mk_107 : ab_MK cm_ms mr_107 := wz_MK wz_C0 wz_W0k rfl (lw_in_4 (p := 15) rfl) (ks := [0, 0, 24, 0, 0, 0, 5, 0, 0, 0, 0, 0, 0, 0, 0, 5, 0, 0, 0, 50, 0, 0, 51, 26, 0, 0, 21, 0]) (by decide +kernel)
set_option maxRecDepth 1000000 in
theorem mk_108 : ab_MK cm_ms mr_108 := wz_MK wz_C0 wz_W0k rfl (lw_in_4 (p := 32) rfl) (ks := [0, 0, 32, 0, 0, 0, 5, 0, 0, 0, 0, 0, 0, 0, 0, 5, 0, 0, 0, 50, 0, 0, 51, 0, 13, 0, 39, 21, 0]) (by decide +kernel)
set_option maxRecDepth 1000000 in
theorem mk_109 : ab_MK cm_ms mr_109 := wz_MK wz_C0 wz_W0k rfl (lw_in_4 (p := 36) rfl) (ks := [0, 0, 32, 0, 0, 0, 5, 0, 0, 0, 0, 52, 21, 0]) (by decide +kernel)
set_option maxRecDepth 1000000 in
theorem mk_110 : ab_MK cm_ms mr_110 := wz_MK wz_C0 wz_W0k rfl (lw_in_4 (p := 44) rfl) (ks := [0, 41, 0, 0, 0, 5, 0, 0, 51, 0, 16, 53, 0, 0, 0, 0, 0, 0, 51, 0, 13, 43, 0, 0, 0, 21, 0, 0, 51, 0, 13, 54, 0, 0, 0, 0, 21, 0]) (by decide +kernel)
set_option maxRecDepth 1000000 in
theorem mk_111 : ab_MK cm_ms mr_111 := wz_MK wz_C0 wz_W0k rfl (lw_in_4 (p := 48) rfl) (ks := [0, 41, 0, 0, 0, 5, 0, 0, 0, 0, 0, 0, 0, 0, 0, 13, 44, 0, 0, 16, 0, 13, 0, 38, 0, 0, 0, 52, 0, 0, 0, 0, 0, 0, 0, 0, 0, 0, 0, 0, 0, 0, 0, 0, 0, 21, 0]) (by decide +kernel)
set_option maxRecDepth 1000000 in
theorem mk_112 : ab_MK cm_ms mr_112 := wz_MK wz_C0 wz_W0k rfl (lw_in_4 (p := 19) rfl) (ks := [0, 51, 0, 16, 53, 0, 0, 0, 0, 0, 0, 51, 0, 13, 54, 0, 0, 0]) (by decide +kernel)
set_option maxRecDepth 1000000 in
theorem mk_113 : ab_MK cm_ms mr_113 := wz_MK wz_C0 wz_W0k rfl (lw_in_4 (p := 40) rfl) (ks := [0, 51, 0, 16, 53, 0, 0, 0, 0, 0, 0, 51, 0, 13, 0, 45, 0, 0, 0, 0, 51, 0, 13, 54, 0, 0, 0, 0]) (by decide +kernel)
set_option maxRecDepth 1000000 in
theorem mk_114 : ab_MK cm_ms mr_114 := wz_MK wz_C0 wz_W0k rfl (lw_in_4 (p := 52) rfl) (ks := [0, 0, 55, 0, 0, 0, 0, 13, 0, 0, 56, 0, 0, 0, 5, 0, 0, 57, 0, 13, 0, 16, 0, 0, 58, 0, 0, 0, 0, 0, 0, 5, 0, 0, 0, 21, 0]) (by decide +kernel)
set_option maxRecDepth 1000000 in
theorem mk_115 : ab_MK cm_ms mr_115 := wz_MK wz_C0 wz_W0k rfl (lw_in_4 (p := 88) rfl) (ks := [0, 0, 55, 0, 0, 0, 0, 57, 0, 13, 0, 16, 0, 59, 0, 0, 57, 60, 21, 0]) (by decide +kernel)
set_option maxRecDepth 1000000 in
theorem mk_116 : ab_MK cm_ms mr_116 := wz_MK wz_C0 wz_W0k rfl (lw_in_4 (p := 101) rfl) (ks := [0, 0, 55, 0, 0, 0, 0, 57, 0, 13, 0, 16, 0, 59, 0, 0, 57, 61, 21, 0]) (by decide +kernel)
set_option maxRecDepth 1000000 in
theorem mk_117 : ab_MK cm_ms mr_117 := wz_MK wz_C0 wz_W0k rfl (lw_in_4 (p := 105) rfl) (ks := [0, 0, 55, 0, 0, 0, 0, 57, 0, 13, 0, 16, 0, 59, 0, 0, 57, 62, 21, 0]) (by decide +kernel)
set_option maxRecDepth 1000000 in
theorem mk_118 : ab_MK cm_ms mr_118 := wz_MK wz_C0 wz_W0k rfl (lw_in_4 (p := 109) rfl) (ks := [0, 0, 32, 0, 0, 0, 5, 0, 0, 0, 57, 0, 13, 0, 16, 0, 63, 21, 0]) (by decide +kernel)
set_option maxRecDepth 1000000 in
theorem mk_119 : ab_MK cm_ms mr_119 := wz_MK wz_C0 wz_W0k rfl (lw_in_4 (p := 56) rfl) (ks := [0, 0, 0, 0, 0, 0, 0, 0, 0, 0, 64, 0]) (by decide +kernel)
set_option maxRecDepth 1000000 in
theorem mk_120 : ab_MK cm_ms mr_120 := wz_MK wz_C0 wz_W0k rfl (lw_in_4 (p := 122) rfl) (ks := [0, 0, 24, 0, 0, 0, 5, 0, 0, 0, 65, 0, 0, 0, 5, 0, 0, 0, 16, 0, 13, 0, 0, 66, 21, 0]) (by decide +kernel)
set_option maxRecDepth 1000000 in
theorem mk_121 : ab_MK cm_ms mr_121 := wz_MK wz_C0 wz_W0k rfl (lw_in_4 (p := 135) rfl) (ks := [0, 0, 0, 65, 64, 0, 0, 0, 0, 0, 0, 0, 0, 0, 0, 0, 13, 20, 0, 0, 16, 0, 13, 0, 0, 66, 0, 0, 0, 0, 0, 0, 0, 0, 0, 0, 0, 0, 21, 0]) (by decide +kernel)
set_option maxRecDepth 1000000 in
theorem mk_122 : ab_MK cm_ms mr_122 := wz_MK wz_C0 wz_W0k rfl (lw_in_4 (p := 139) rfl) (ks := [0, 0, 0, 65, 64, 0, 0, 0, 0, 0, 0, 0, 0, 0, 13, 20, 0, 0, 16, 0, 13, 0, 28, 0, 0, 16, 0, 13, 0, 0, 66, 0, 0, 0, 0, 0, 0, 0, 0, 0, 0, 0, 21, 0]) (by decide +kernel)
set_option maxRecDepth 1000000 in
theorem mk_123 : ab_MK cm_ms mr_123 := wz_MK wz_C0 wz_W0k rfl (lw_in_4 (p := 143) rfl) (ks := [0, 0, 0, 65, 64, 0, 0, 0, 0, 16, 0, 13, 46, 0, 0, 0, 0, 0, 0, 0, 0, 0, 0, 13, 20, 0, 0, 0, 0, 0, 0, 0, 0, 0, 13, 0, 47, 0, 0, 0, 0, 0, 0, 0, 0, 0, 67, 0, 0, 0, 67, 0, 0, 0, 0, 0, 0, 0, 21, 0]) (by decide +kernel)
set_option maxRecDepth 1000000 in
theorem mk_124 : ab_MK cm_ms mr_124 := wz_MK wz_C0 wz_W0k rfl (lw_in_4 (p := 148) rfl) (ks := [0, 41, 0, 0, 0, 5, 0, 0, 0, 13, 68, 21, 0]) (by decide +kernel)
set_option maxRecDepth 1000000 in
theorem mk_125 : ab_MK cm_ms mr_125 := wz_MK wz_C0 wz_W0k rfl (lw_in_4 (p := 160) rfl) (ks := [0, 41, 0, 0, 0, 5, 0, 0, 0, 13, 69, 0, 13, 0, 13, 68, 70, 0, 21, 0]) (by decide +kernel)
set_option maxRecDepth 1000000 in
theorem mk_126 : ab_MK cm_ms mr_126 := wz_MK wz_C0 wz_W0k rfl (lw_in_4 (p := 166) rfl) (ks := [0, 41, 0, 0, 0, 5, 0, 0, 0, 13, 71, 21, 0]) (by decide +kernel)
set_option maxRecDepth 1000000 in
theorem mk_127 : ab_MK cm_ms mr_127 := wz_MK wz_C0 wz_W0k rfl (lw_in_4 (p := 126) rfl) (ks := [0, 0, 0, 0, 0, 0, 0, 0, 0]) (by decide +kernel)
set_option maxRecDepth 1000000 in
theorem mk_128 : ab_MK cm_ms mr_128 := wz_MK wz_C0 wz_W0k rfl (lw_in_4 (p := 178) rfl) (ks := [0, 0, 72, 0, 0, 0, 72, 0, 0, 0, 5, 0, 0, 0, 13, 0, 0, 73, 21, 0]) (by decide +kernel)
set_option maxRecDepth 1000000 in
theorem mk_129 : ab_MK cm_ms mr_129 := wz_MK wz_C0 wz_W0k rfl (lw_in_4 (p := 194) rfl) (ks := [0, 41, 0, 0, 0, 5, 0, 0, 74, 0, 13, 75, 0, 0, 74, 76, 21, 0]) (by decide +kernel)
set_option maxRecDepth 1000000 in
theorem mk_130 : ab_MK cm_ms mr_130 := wz_MK wz_C0 wz_W0k rfl (lw_in_4 (p := 212) rfl) (ks := [0, 0, 72, 0, 0, 0, 5, 0, 0, 74, 0, 13, 75, 0, 0, 74, 77, 0, 0, 21, 0]) (by decide +kernel)
set_option maxRecDepth 1000000 in
theorem mk_131 : ab_MK cm_ms mr_131 := wz_MK wz_C0 wz_W0k rfl (lw_in_4 (p := 216) rfl) (ks := [0, 78, 0, 0, 0, 0, 0, 79, 80, 21, 0]) (by decide +kernel)
set_option maxRecDepth 1000000 in
theorem mk_132 : ab_MK cm_ms mr_132 := wz_MK wz_C0 wz_W0k rfl (lw_in_4 (p := 234) rfl) (ks := [0, 78, 0, 0, 0, 0, 0, 79, 80, 0, 0, 0, 5, 0, 0, 0, 79, 81, 0, 0, 21, 0]) (by decide +kernel)
set_option maxRecDepth 1000000 in
theorem mk_133 : ab_MK cm_ms mr_133 := wz_MK wz_C0 wz_W0k rfl (lw_in_4 (p := 238) rfl) (ks := [0, 78, 0, 0, 0, 0, 0, 79, 82, 21, 0]) (by decide +kernel)
set_option maxRecDepth 1000000 in
theorem mk_134 : ab_MK cm_ms mr_134 := wz_MK wz_C0 wz_W0k rfl (lw_in_5 (p := 6) rfl) (ks := [0, 78, 0, 0, 0, 0, 0, 79, 83, 21, 0]) (by decide +kernel)
set_option maxRecDepth 1000000 in
theorem mk_135 : ab_MK cm_ms mr_135 := wz_MK wz_C0 wz_W0k rfl (lw_in_5 (p := 14) rfl) (ks := [0, 78, 0, 0, 0, 0, 0, 79, 0, 13, 84, 21, 0]) (by decide +kernel)
set_option maxRecDepth 1000000 in
theorem mk_136 : ab_MK cm_ms mr_136 := wz_MK wz_C0 wz_W0k rfl (lw_in_5 (p := 29) rfl) (ks := [0, 78, 0, 0, 0, 0, 79, 0, 13, 84, 0, 0, 0, 0, 0, 0, 0, 0, 79, 0, 85, 21, 0]) (by decide +kernel)
set_option maxRecDepth 1000000 in
theorem mk_137 : ab_MK cm_ms mr_137 := wz_MK wz_C0 wz_W0k rfl (lw_in_4 (p := 220) rfl) (ks := [0, 41, 0, 0, 0, 5, 0, 0, 0, 0, 79, 0, 13, 86, 0, 0]) (by decide +kernel)
set_option maxRecDepth 1000000 in
theorem mk_138 : ab_MK cm_ms mr_138 := wz_MK wz_C0 wz_W0k rfl (lw_in_5 (p := 34) rfl) (ks := [0, 0, 87, 0, 0, 0, 0, 0, 0, 0, 0, 0, 88, 0, 0, 0, 0, 88, 21, 0]) (by decide +kernel)
set_option maxRecDepth 1000000 in
theorem mk_139 : ab_MK cm_ms mr_139 := wz_MK wz_C0 wz_W0k rfl (lw_in_5 (p := 45) rfl) (ks := [0, 0, 87, 0, 0, 0, 0, 0, 0, 0, 0, 0, 0, 0, 0, 89, 0, 0, 0, 0, 0, 0, 21, 0]) (by decide +kernel)
set_option maxRecDepth 1000000 in
theorem mk_140 : ab_MK cm_ms mr_140 := wz_MK wz_C0 wz_W0k rfl (lw_in_5 (p := 52) rfl) (ks := [0, 0, 87, 0, 0, 0, 0, 0, 0, 0, 0, 0, 0, 89, 0, 0, 0, 0, 0, 0, 0, 0, 0, 0, 0, 21, 0, 0, 0, 0, 0, 21, 0]) (by decide +kernel)
set_option maxRecDepth 1000000 in
theorem mk_141 : ab_MK cm_ms mr_141 := wz_MK wz_C0 wz_W0k rfl (lw_in_5 (p := 38) rfl) (ks := [0, 0, 0, 0, 0, 0, 0, 0, 0, 64, 0]) (by decide +kernel)
set_option maxRecDepth 1000000 in
theorem mk_142 : ab_MK cm_ms mr_142 := wz_MK wz_C0 wz_W0k rfl (lw_in_5 (p := 41) rfl) (ks := [0, 0, 0, 0, 0, 0, 0, 0, 0, 0, 0, 0, 0, 0, 0]) (by decide +kernel)
set_option maxRecDepth 1000000 in
theorem mk_143 : ab_MK cm_ms mr_143 := wz_MK wz_C0 wz_W0k rfl (lw_in_5 (p := 48) rfl) (ks := [0, 0, 0, 0, 0, 0, 0, 0, 0, 0, 0, 0, 0, 0, 0, 0, 0, 0, 0, 88, 0, 0, 0, 0, 0, 0, 0, 88, 0, 0, 0, 0, 88, 0, 0, 0, 0, 0, 0, 0, 88, 0, 0, 0, 0, 0]) (by decide +kernel)
set_option maxRecDepth 1000000 in
theorem mk_144 : ab_MK cm_ms mr_144 := wz_MK wz_C0 wz_W0k rfl (lw_in_5 (p := 56) rfl) (ks := [0, 0, 32, 0, 0, 0, 5, 0, 0, 0, 0, 50, 0, 90, 0, 13, 0, 51, 0, 91, 0, 0, 21, 0, 0, 0, 0, 90, 92, 0, 0, 90, 93, 0]) (by decide +kernel)
set_option maxRecDepth 1000000 in
theorem mk_145 : ab_MK cm_ms mr_145 := wz_MK wz_C0 wz_W0k rfl (lw_in_5 (p := 74) rfl) (ks := [0, 0, 32, 0, 0, 0, 5, 0, 0, 0, 0, 50, 0, 90, 0, 13, 0, 51, 0, 94, 0, 0, 21, 0, 0, 0, 0, 90, 92, 0, 0, 90, 93, 0]) (by decide +kernel)
set_option maxRecDepth 1000000 in
theorem mk_146 : ab_MK cm_ms mr_146 := wz_MK wz_C0 wz_W0k rfl (lw_in_5 (p := 84) rfl) (ks := [0, 0, 24, 0, 0, 0, 5, 0, 0, 0, 0, 95, 0, 0, 0, 5, 0, 0, 51, 0, 16, 53, 0, 90, 0, 96, 0, 0, 0, 0, 0, 0, 90, 0, 13, 0, 51, 97, 0, 0, 0, 0, 51, 26, 0, 0, 21, 0]) (by decide +kernel)
set_option maxRecDepth 1000000 in
theorem mk_147 : ab_MK cm_ms mr_147 := wz_MK wz_C0 wz_W0k rfl (lw_in_5 (p := 99) rfl) (ks := [0, 0, 32, 0, 0, 0, 5, 0, 0, 0, 0, 95, 0, 0, 0, 5, 0, 0, 51, 0, 16, 53, 0, 90, 0, 96, 0, 0, 0, 0, 0, 0, 0, 0, 90, 0, 13, 0, 51, 97, 0, 51, 0, 13, 0, 45, 0, 0, 0, 0, 0, 0, 21, 0]) (by decide +kernel)
set_option maxRecDepth 1000000 in
theorem mk_148 : ab_MK cm_ms mr_148 := wz_MK wz_C0 wz_W0k rfl (lw_in_5 (p := 88) rfl) (ks := [0, 0, 0, 98, 0, 0, 0, 0, 0, 0, 0, 0, 0, 0]) (by decide +kernel)
set_option maxRecDepth 1000000 in
theorem mk_149 : ab_MK cm_ms mr_149 := wz_MK wz_C0 wz_W0k rfl (lw_in_5 (p := 103) rfl) (ks := [0, 0, 32, 0, 0, 0, 5, 0, 0, 16, 0, 13, 0, 38, 0, 0, 0, 5, 0, 0, 18, 0, 16, 99, 0, 0, 16, 0, 13, 0, 100, 0, 0, 0, 0, 21, 0]) (by decide +kernel)
set_option maxRecDepth 1000000 in
theorem mk_150 : ab_MK cm_ms mr_150 := wz_MK wz_C0 wz_W0k rfl (lw_in_5 (p := 114) rfl) (ks := [0, 41, 0, 0, 0, 5, 0, 0, 16, 101, 0, 0, 0, 0, 5, 0, 0, 18, 0, 16, 99, 0, 16, 0, 13, 54, 0, 0, 16, 0, 13, 43, 21, 0]) (by decide +kernel)
set_option maxRecDepth 1000000 in
theorem mk_151 : ab_MK cm_ms mr_151 := wz_MK wz_C0 wz_W0k rfl (lw_in_5 (p := 118) rfl) (ks := [0, 0, 24, 0, 0, 0, 5, 0, 0, 16, 26, 0, 0, 0, 0, 0, 5, 0, 0, 18, 0, 16, 99, 0, 16, 26, 0, 0, 0, 0, 16, 0, 13, 0, 0, 102, 0, 0, 21, 0]) (by decide +kernel)
set_option maxRecDepth 1000000 in
theorem mk_152 : ab_MK cm_ms mr_152 := wz_MK wz_C0 wz_W0k rfl (lw_in_5 (p := 123) rfl) (ks := [0, 18, 0, 16, 103, 0, 0, 0, 5, 0, 0, 0, 0, 0, 21, 0, 0, 0]) (by decide +kernel)
set_option maxRecDepth 1000000 in
theorem mk_153 : ab_MK cm_ms mr_153 := wz_MK wz_C0 wz_W0k rfl (lw_in_5 (p := 131) rfl) (ks := [0, 41, 0, 0, 0, 5, 0, 0, 18, 0, 16, 104, 0, 0, 0, 0, 0, 0, 5, 0, 0, 0, 21, 0]) (by decide +kernel)
set_option maxRecDepth 1000000 in
theorem mk_154 : ab_MK cm_ms mr_154 := wz_MK wz_C0 wz_W0k rfl (lw_in_5 (p := 139) rfl) (ks := [0, 18, 0, 0, 16, 105, 0, 0, 0, 5, 0, 0, 0, 0, 0, 21, 0, 0, 0]) (by decide +kernel)
set_option maxRecDepth 1000000 in
theorem mk_155 : ab_MK cm_ms mr_155 := wz_MK wz_C0 wz_W0k rfl (lw_in_5 (p := 147) rfl) (ks := [0, 0, 0, 13, 106, 0, 0, 13, 107, 0, 0, 13, 108, 0, 0, 13, 20, 0, 0, 13, 44, 0, 0, 13, 29, 0, 13, 20, 109, 0, 0, 13, 36, 0, 13, 44, 109, 0, 0, 13, 69, 0, 0, 13, 110, 0, 0, 13, 111, 67, 0, 0, 16, 101, 0, 0, 18, 112, 0, 0, 18, 113, 0, 0, 1, 0, 0, 0]) (by decide +kernel)
set_option maxRecDepth 1000000 in
theorem mk_156 : ab_MK cm_ms mr_156 := wz_MK wz_C0 wz_W0k rfl (lw_in_5 (p := 152) rfl) (ks := [0, 22, 0]) (by decide +kernel)
set_option maxRecDepth 1000000 in
theorem mk_157 : ab_MK cm_ms mr_157 := wz_MK wz_C0 wz_W0k rfl (lw_in_2 (p := 148) rfl) (ks := [0, 0, 114, 0, 0]) (by decide +kernel)
set_option maxRecDepth 1000000 in
theorem mk_158 : ab_MK cm_ms mr_158 := wz_MK wz_C0 wz_W0k rfl (lw_in_4 (p := 60) rfl) (ks := [0, 41, 0, 0, 0, 5, 0, 0, 0, 0, 0, 0, 5, 0, 0, 0, 0, 41, 0, 0, 0, 0, 0]) (by decide +kernel)
set_option maxRecDepth 1000000 in
theorem mk_159 : ab_MK cm_ms mr_159 := wz_MK wz_C0 wz_W0k rfl (lw_in_3 (p := 137) rfl) (ks := [0, 0, 114, 0, 0]) (by decide +kernel)
set_option maxRecDepth 1000000 in
theorem mk_160 : ab_MK cm_ms mr_160 := wz_MK wz_C0 wz_W0k rfl (lw_in_3 (p := 203) rfl) (ks := [0, 13, 20, 0, 0, 0, 0, 0]) (by decide +kernel)
set_option maxRecDepth 1000000 in
theorem mk_161 : ab_MK cm_ms mr_161 := wz_MK wz_C0 wz_W0k rfl (lw_in_3 (p := 153) rfl) (ks := [0, 0, 0, 0, 13, 20, 0, 0, 0, 0, 0]) (by decide +kernel)
set_option maxRecDepth 1000000 in
theorem mk_162 : ab_MK cm_ms mr_162 := wz_MK wz_C0 wz_W0k rfl (lw_in_3 (p := 173) rfl) (ks := [0, 0, 0, 0, 13, 44, 0, 0, 0, 0, 0]) (by decide +kernel)
set_option maxRecDepth 1000000 in
theorem mk_163 : ab_MK cm_ms mr_163 := wz_MK wz_C0 wz_W0k rfl (lw_in_4 (p := 182) rfl) (ks := [0, 0, 0, 0, 13, 110, 0, 0, 0, 0, 0]) (by decide +kernel)
set_option maxRecDepth 1000000 in
theorem mk_164 : ab_MK cm_ms mr_164 := wz_MK wz_C9 wz_W9k rfl (lw_in_6 (p := 105) rfl) (ks := [0, 0, 1, 0, 0, 2, 0]) (by decide +kernel)
set_option maxRecDepth 1000000 in
theorem mk_165 : ab_MK cm_ms mr_165 := wz_MK wz_C9 wz_W9k rfl (lw_in_6 (p := 112) rfl) (ks := [0, 0, 2, 0, 0]) (by decide +kernel)
set_option maxRecDepth 1000000 in
theorem mk_166 : ab_MK cm_ms mr_166 := wz_MK wz_C9 wz_W9k rfl (lw_in_8 (p := 140) rfl) (ks := [0, 0, 2, 0, 0]) (by decide +kernel)
set_option maxRecDepth 1000000 in
theorem mk_167 : ab_MK cm_ms mr_167 := wz_MK wz_C9 wz_W9k rfl (lw_in_6 (p := 108) rfl) (ks := [0, 0, 0, 0, 0, 0, 0, 0, 0, 0]) (by decide +kernel)
set_option maxRecDepth 1000000 in
theorem mk_168 : ab_MK cm_ms mr_168 := wz_MK wz_C9 wz_W9k rfl (lw_in_6 (p := 230) rfl) (ks := [0, 0, 0, 0, 0, 0, 0, 0, 0, 0, 0]) (by decide +kernel)
set_option maxRecDepth 1000000 in
theorem mk_169 : ab_MK cm_ms mr_169 := wz_MK wz_C9 wz_W9k rfl (lw_in_7 (p := 216) rfl) (ks := [0, 0, 0, 0, 0, 0, 0, 0, 0, 0, 0, 0, 0, 0, 0, 0, 0, 0, 0]) (by decide +kernel)
set_option maxRecDepth 1000000 in
theorem mk_170 : ab_MK cm_ms mr_170 := wz_MK wz_C9 wz_W9k rfl (lw_in_7 (p := 10) rfl) (ks := [0, 0, 0, 0, 0, 0, 0, 0, 0, 0, 0, 0, 0, 0, 0, 0, 0, 0]) (by decide +kernel)
set_option maxRecDepth 1000000 in
theorem mk_171 : ab_MK cm_ms mr_171 := wz_MK wz_C9 wz_W9k rfl (lw_in_8 (p := 98) rfl) (ks := [0, 0, 0, 0, 0, 0, 0, 0, 0, 0, 0, 0, 0, 0, 0, 0, 0, 0, 0, 0, 0, 0, 0, 0, 0]) (by decide +kernel)
set_option maxRecDepth 1000000 in
theorem mk_172 : ab_MK cm_ms mr_172 := wz_MK wz_C9 wz_W9k rfl (lw_in_6 (p := 97) rfl) (ks := [0, 0, 1, 0, 3, 0, 0, 0, 0, 0, 0, 0, 0, 0, 0, 0, 0, 0, 0, 0, 0, 0, 0, 0, 0, 0, 0, 0, 0, 0, 0, 0, 0, 0, 0, 0, 0, 0, 0, 4, 0, 3, 0, 0, 0, 0, 0, 0, 0, 0, 0, 0, 0, 0, 0, 0, 3, 0, 0, 5, 0, 0, 0, 3, 0]) (by decide +kernel)
set_option maxRecDepth 1000000 in
theorem mk_173 : ab_MK cm_ms mr_173 := wz_MK wz_C9 wz_W9k rfl (lw_in_6 (p := 120) rfl) (ks := [0, 0, 6, 0, 0, 4, 0, 0, 0, 0, 0]) (by decide +kernel)
set_option maxRecDepth 1000000 in
theorem mk_174 : ab_MK cm_ms mr_174 := wz_MK wz_C9 wz_W9k rfl (lw_in_6 (p := 123) rfl) (ks := [0, 0, 0, 0, 0, 0, 0, 0, 0, 0]) (by decide +kernel)
set_option maxRecDepth 1000000 in
theorem mk_175 : ab_MK cm_ms mr_175 := wz_MK wz_C9 wz_W9k rfl (lw_in_6 (p := 126) rfl) (ks := [0, 0, 0, 0, 0, 0, 0, 0, 0, 0]) (by decide +kernel)
set_option maxRecDepth 1000000 in
theorem mk_176 : ab_MK cm_ms mr_176 := wz_MK wz_C9 wz_W9k rfl (lw_in_6 (p := 116) rfl) (ks := [0, 7, 0, 0, 0, 8, 0, 0, 0, 0, 0, 0, 9, 0, 0, 8, 0, 0, 0, 10, 0, 0, 11, 0, 0, 0, 0, 0, 12, 0, 0, 13, 0, 0, 14, 0, 0, 0, 8, 14, 0, 0, 15, 0, 0, 0, 16, 0, 15, 0, 0, 8, 0, 0, 0, 15, 0, 0, 10, 0, 0, 0, 0, 13, 0, 0, 15, 0, 0, 0, 0, 0, 12, 0, 0, 17, 0, 0, 0, 0, 0, 8, 17, 0, 0, 0, 0, 0, 0, 0, 18, 0, 0, 0, 8, 0, 0, 0, 11, 0, 0, 0, 0, 0, 13, 0, 0, 0, 0, 0, 0, 0, 12, 0, 0, 0, 0, 0, 13, 0, 0, 0, 0, 0, 0, 0, 12, 0]) (by decide +kernel)
set_option maxRecDepth 1000000 in
theorem mk_177 : ab_MK cm_ms mr_177 := wz_MK wz_C9 wz_W9k rfl (lw_in_6 (p := 145) rfl) (ks := [0, 19, 0, 0, 0, 0, 20, 0, 0, 21, 0, 0, 22, 0]) (by decide +kernel)
set_option maxRecDepth 1000000 in
theorem mk_178 : ab_MK cm_ms mr_178 := wz_MK wz_C9 wz_W9k rfl (lw_in_6 (p := 135) rfl) (ks := [0, 19, 0, 0, 23, 0, 0, 0, 15, 0, 24, 0, 0, 0, 0, 0, 0, 0, 0, 0, 15, 0, 0, 0, 0, 16, 0, 0, 0, 0, 25, 0, 0, 0, 0, 0, 0, 0, 0, 0]) (by decide +kernel)
set_option maxRecDepth 1000000 in
theorem mk_179 : ab_MK cm_ms mr_179 := wz_MK wz_C9 wz_W9k rfl (lw_in_6 (p := 158) rfl) (ks := [0, 0, 26, 0, 0, 0, 0, 27, 0, 0]) (by decide +kernel)
set_option maxRecDepth 1000000 in
theorem mk_180 : ab_MK cm_ms mr_180 := wz_MK wz_C9 wz_W9k rfl (lw_in_6 (p := 154) rfl) (ks := [0, 19, 0, 0, 0, 28, 0, 0, 0, 0, 29, 30, 0]) (by decide +kernel)
set_option maxRecDepth 1000000 in
theorem mk_181 : ab_MK cm_ms mr_181 := wz_MK wz_C9 wz_W9k rfl (lw_in_6 (p := 185) rfl) (ks := [0, 23, 0, 0, 0, 0, 26, 0, 0, 0, 26, 0, 0, 0, 26, 0, 0, 0, 26, 0, 0, 0, 26, 0, 0, 0, 26, 0, 0, 0, 26, 0, 0, 0, 26, 0, 0, 0, 0, 29, 30, 0]) (by decide +kernel)
set_option maxRecDepth 1000000 in
theorem mk_182 : ab_MK cm_ms mr_182 := wz_MK wz_C9 wz_W9k rfl (lw_in_6 (p := 195) rfl) (ks := [0, 0, 0, 0, 0, 0, 31, 0, 0, 0, 0, 0, 0, 31, 0, 0, 0, 0, 0, 15, 0, 0, 0, 0, 0, 0, 0, 0, 0, 15, 0, 0, 0, 0, 31, 0, 0, 0, 0, 0, 0, 0, 0, 0, 16, 0, 0, 0, 0, 0, 0, 0, 0, 0, 0, 0, 0, 0, 0, 0, 0, 0]) (by decide +kernel)
set_option maxRecDepth 1000000 in
theorem mk_183 : ab_MK cm_ms mr_183 := wz_MK wz_C9 wz_W9k rfl (lw_in_6 (p := 181) rfl) (ks := [0, 19, 0, 0, 0, 32, 0, 19, 0, 0, 33, 0, 0, 0, 0, 29, 30, 0, 19, 0, 0, 0, 0, 0, 0, 15, 0, 0, 31, 0, 0, 0, 0, 0, 0, 0, 0, 16, 0, 0, 0, 0, 0, 0, 31, 0, 0, 0, 0, 15, 0, 0, 27, 0]) (by decide +kernel)
set_option maxRecDepth 1000000 in
theorem mk_184 : ab_MK cm_ms mr_184 := wz_MK wz_C9 wz_W9k rfl (lw_in_6 (p := 223) rfl) (ks := [0, 19, 0, 0, 0, 0, 32, 0, 19, 0, 0, 0, 0, 33, 0, 0, 0, 0, 34, 0, 0, 0, 0, 29, 30, 0, 19, 0, 0, 0, 0, 0, 0, 0]) (by decide +kernel)
set_option maxRecDepth 1000000 in
theorem mk_185 : ab_MK cm_ms mr_185 := wz_MK wz_C9 wz_W9k rfl (lw_in_6 (p := 219) rfl) (ks := [0, 0, 0, 35, 0]) (by decide +kernel)
set_option maxRecDepth 1000000 in
theorem mk_186 : ab_MK cm_ms mr_186 := wz_MK wz_C9 wz_W9k rfl (lw_in_6 (p := 227) rfl) (ks := [0, 0, 0, 35, 0]) (by decide +kernel)
set_option maxRecDepth 1000000 in
theorem mk_187 : ab_MK cm_ms mr_187 := wz_MK wz_C9 wz_W9k rfl (lw_in_6 (p := 173) rfl) (ks := [0, 19, 0, 0, 27, 0]) (by decide +kernel)
set_option maxRecDepth 1000000 in
theorem mk_188 : ab_MK cm_ms mr_188 := wz_MK wz_C9 wz_W9k rfl (lw_in_6 (p := 162) rfl) (ks := [0, 19, 0, 0, 0, 0, 23, 0, 0, 0, 0, 0, 29, 30, 0, 0, 18, 0, 0, 34, 0, 0, 0, 0, 29, 30, 0, 19, 0, 0, 0, 0, 18, 0, 0, 27, 0, 0]) (by decide +kernel)
set_option maxRecDepth 1000000 in
theorem mk_189 : ab_MK cm_ms mr_189 := wz_MK wz_C9 wz_W9k rfl (lw_in_6 (p := 150) rfl) (ks := [0, 0, 36, 0, 0, 0, 37, 0]) (by decide +kernel)
set_option maxRecDepth 1000000 in
theorem mk_190 : ab_MK cm_ms mr_190 := wz_MK wz_C9 wz_W9k rfl (lw_in_6 (p := 199) rfl) (ks := [0, 0, 26, 0, 0, 0, 0, 0, 26, 0, 0, 0, 0, 0, 26, 0, 0, 0, 0, 0, 0, 0, 0, 0, 0, 29, 30, 0, 19, 0, 0, 0, 0, 0]) (by decide +kernel)
set_option maxRecDepth 1000000 in
theorem mk_191 : ab_MK cm_ms mr_191 := wz_MK wz_C9 wz_W9k rfl (lw_in_6 (p := 101) rfl) (ks := [0, 38, 0, 0, 0, 3, 34, 0, 0, 0, 39, 0, 0, 0, 5, 0, 0, 21, 0, 0, 20, 0, 0, 0, 0, 0, 0, 31, 0, 0, 0, 0, 0, 0, 0, 40, 0, 0, 13, 0, 27, 0, 41, 0, 19, 0, 0, 23, 0, 0, 0, 27, 0, 41, 0, 0, 19, 0, 0, 23, 0, 0, 0, 0, 29, 30, 0, 19, 0, 0, 31, 0, 0, 0, 0, 31, 0, 0, 0, 0, 0, 0, 29, 30, 0, 19, 0, 0, 0, 39, 0, 0, 31, 0, 0, 42, 0, 0, 43, 0, 0, 44, 45, 0, 0, 46, 0, 0, 47, 0, 0, 48, 0, 42, 0, 0, 0]) (by decide +kernel)
set_option maxRecDepth 1000000 in
theorem mk_192 : ab_MK cm_ms mr_192 := wz_MK wz_C9 wz_W9k rfl (lw_in_7 (p := 14) rfl) (ks := [0, 0, 0, 0, 0, 0, 0, 0, 0, 0, 0, 0, 0, 0, 0, 42, 0, 0, 0, 0, 0, 0, 42, 0, 0, 0, 0, 0, 0, 0, 0, 0, 0, 0, 0]) (by decide +kernel)
set_option maxRecDepth 1000000 in
theorem mk_193 : ab_MK cm_ms mr_193 := wz_MK wz_C9 wz_W9k rfl (lw_in_6 (p := 169) rfl) (ks := [0, 0, 26, 0, 0, 0, 0, 0, 0, 0, 0, 29, 30, 0, 31, 0, 0, 0, 0, 0, 0, 29, 30, 0, 49, 0, 0]) (by decide +kernel)
set_option maxRecDepth 1000000 in
theorem mk_194 : ab_MK cm_ms mr_194 := wz_MK wz_C9 wz_W9k rfl (lw_in_6 (p := 130) rfl) (ks := [0, 0, 26, 0, 0, 50, 0, 0, 0, 0, 31, 0, 0, 0, 0, 0, 0, 0, 51, 0, 0, 52, 0, 0, 0, 0, 31, 0, 0, 0, 0, 0, 0, 0, 51, 0, 0, 53, 0, 0, 0, 0, 31, 0, 0, 0, 0, 0, 0, 0, 51, 0, 0, 54, 0, 0, 0, 0, 31, 0, 0, 0, 0, 0, 0, 0, 51, 0, 0, 55, 0, 0, 0, 0, 31, 0, 0, 0, 0, 0, 0, 0, 51, 0, 0, 56, 0, 0, 0, 0, 31, 0, 0, 0, 0, 0, 0, 0, 51, 0, 0, 57, 0, 0, 0, 0, 51, 0, 0, 58, 0, 0, 0, 0, 29, 30, 0]) (by decide +kernel)
set_option maxRecDepth 1000000 in
theorem mk_195 : ab_MK cm_ms mr_195 := wz_MK wz_C9 wz_W9k rfl (lw_in_6 (p := 141) rfl) (ks := [0, 31, 0, 0, 0, 0, 0, 0, 29, 30, 0, 19, 0, 0, 0, 27, 0, 31, 0, 0, 0, 0, 0, 59, 0, 0, 31, 0, 0, 0, 0, 0, 59, 0, 0, 31, 0, 0, 0, 0, 0, 59, 0, 0, 19, 0, 0, 31, 0, 0, 0, 0]) (by decide +kernel)
set_option maxRecDepth 1000000 in
theorem mk_196 : ab_MK cm_ms mr_196 := wz_MK wz_C9 wz_W9k rfl (lw_in_6 (p := 177) rfl) (ks := [0, 19, 0, 0, 0, 0, 0, 31, 0, 0, 0, 0, 0, 0, 0, 31, 0, 0, 60, 0, 31, 0, 0, 61, 0, 0, 49, 0, 31, 0, 0, 0, 0, 0, 0, 0, 59, 0, 0, 31, 0, 0, 0, 0, 0, 0, 0, 59, 0, 0, 19, 0, 0, 31, 0, 0, 0, 0, 0, 0, 0]) (by decide +kernel)
set_option maxRecDepth 1000000 in
theorem mk_197 : ab_MK cm_ms mr_197 := wz_MK wz_C9 wz_W9k rfl (lw_in_6 (p := 208) rfl) (ks := [0, 19, 0, 0, 0, 0, 0, 31, 0, 0, 0, 0, 0, 0, 0, 0, 31, 0, 0, 0, 60, 0, 31, 0, 0, 0, 0, 0, 59, 0, 0, 31, 0, 0, 0, 0, 0, 0, 0, 59, 0, 0, 31, 0, 0, 0, 0, 0, 0, 0, 59, 0, 0, 19, 0, 0, 31, 0, 0, 0, 0, 0, 0, 0]) (by decide +kernel)
set_option maxRecDepth 1000000 in
theorem mk_198 : ab_MK cm_ms mr_198 := wz_MK wz_C9 wz_W9k rfl (lw_in_6 (p := 215) rfl) (ks := [0, 62, 0, 0, 49, 0, 63, 0, 0, 19, 0, 0, 31, 0, 0, 0, 0, 0, 64, 0, 0, 0, 0, 29, 30, 0, 49, 0, 19, 0, 0, 0, 31, 0, 0, 0, 0, 0, 0, 0, 0, 0, 0, 0, 31, 0, 0, 0, 0, 0, 0, 0]) (by decide +kernel)
set_option maxRecDepth 1000000 in
theorem mk_199 : ab_MK cm_ms mr_199 := wz_MK wz_C9 wz_W9k rfl (lw_in_6 (p := 234) rfl) (ks := [0, 63, 0, 0, 49, 0, 63, 0, 0, 19, 0, 0, 31, 0, 0, 0, 0, 0, 64, 0, 0, 0, 0, 29, 30, 0, 19, 0, 0, 0, 0, 0, 0, 0, 29, 30, 0, 49, 0, 19, 0, 0, 0, 31, 0, 0, 0, 0, 0, 0, 0, 0, 0, 0, 0, 31, 0, 0, 0, 0, 0, 0, 0]) (by decide +kernel)
set_option maxRecDepth 1000000 in
theorem mk_200 : ab_MK cm_ms mr_200 := wz_MK wz_C9 wz_W9k rfl (lw_in_6 (p := 238) rfl) (ks := [0, 62, 0, 0, 49, 0, 62, 0, 0, 19, 0, 0, 0, 0, 0, 31, 0, 0, 0, 0, 0, 64, 0, 0, 0, 0, 29, 30, 0, 49, 0, 19, 0, 0, 0, 31, 0, 0, 0, 0, 0, 0, 0, 0, 0, 0, 0, 31, 0, 0, 0, 0, 0, 0, 0, 0, 0, 0, 0, 31, 0, 0, 0, 0, 0, 0, 0]) (by decide +kernel)
set_option maxRecDepth 1000000 in
theorem mk_201 : ab_MK cm_ms mr_201 := wz_MK wz_C9 wz_W9k rfl (lw_in_7 (p := 2) rfl) (ks := [0, 19, 0, 0, 0, 0, 0, 31, 0, 0, 0, 60, 0, 31, 0, 0, 31, 0, 0, 0, 0, 0, 0, 0, 59, 0, 0, 19, 0, 0, 31, 0, 0, 0, 0, 0, 0, 0]) (by decide +kernel)
set_option maxRecDepth 1000000 in
theorem mk_202 : ab_MK cm_ms mr_202 := wz_MK wz_C9 wz_W9k rfl (lw_in_7 (p := 7) rfl) (ks := [0, 61, 0, 0, 19, 0, 0, 31, 0, 0, 0, 0, 0, 0, 0, 0, 29, 30, 0, 49, 0, 0, 0, 37, 0, 0, 19, 0, 0, 0, 31, 0, 0, 0, 0, 0, 0, 0, 0, 31, 0, 0, 0, 0, 0, 0, 0]) (by decide +kernel)
set_option maxRecDepth 1000000 in
theorem mk_203 : ab_MK cm_ms mr_203 := wz_MK wz_C9 wz_W9k rfl (lw_in_7 (p := 18) rfl) (ks := [0, 0, 1, 0, 65, 0]) (by decide +kernel)
set_option maxRecDepth 1000000 in
theorem mk_204 : ab_MK cm_ms mr_204 := wz_MK wz_C9 wz_W9k rfl (lw_in_7 (p := 22) rfl) (ks := [0, 0, 1, 0, 66, 0, 0, 0, 67, 0, 0, 0]) (by decide +kernel)
set_option maxRecDepth 1000000 in
theorem mk_205 : ab_MK cm_ms mr_205 := wz_MK wz_C9 wz_W9k rfl (lw_in_7 (p := 30) rfl) (ks := [0, 68, 0, 0, 0, 0, 42, 0, 0, 0, 0, 34, 0, 0, 0, 0, 0]) (by decide +kernel)
set_option maxRecDepth 1000000 in
theorem mk_206 : ab_MK cm_ms mr_206 := wz_MK wz_C9 wz_W9k rfl (lw_in_7 (p := 50) rfl) (ks := [0, 68, 0, 0, 0, 0, 42, 0, 0, 0, 0, 34, 0, 0, 0, 0, 0]) (by decide +kernel)
set_option maxRecDepth 1000000 in
theorem mk_207 : ab_MK cm_ms mr_207 := wz_MK wz_C9 wz_W9k rfl (lw_in_8 (p := 4) rfl) (ks := [0, 68, 0, 0, 0, 0, 42, 0, 0, 0, 0, 34, 0, 0, 0, 0, 0]) (by decide +kernel)
set_option maxRecDepth 1000000 in
theorem mk_208 : ab_MK cm_ms mr_208 := wz_MK wz_C9 wz_W9k rfl (lw_in_7 (p := 102) rfl) (ks := [0, 0, 42, 0, 0, 0, 0, 0, 0]) (by decide +kernel)
set_option maxRecDepth 1000000 in
theorem mk_209 : ab_MK cm_ms mr_209 := wz_MK wz_C9 wz_W9k rfl (lw_in_7 (p := 34) rfl) (ks := [0, 0, 0, 0, 42, 0, 0, 0, 0, 0, 0, 0]) (by decide +kernel)
set_option maxRecDepth 1000000 in
theorem mk_210 : ab_MK cm_ms mr_210 := wz_MK wz_C9 wz_W9k rfl (lw_in_7 (p := 78) rfl) (ks := [0, 0, 0, 0, 0, 0, 42, 0, 0, 0, 0, 0, 0, 0, 69, 0, 0, 0, 0, 0, 0, 0, 0, 0, 0, 0, 0]) (by decide +kernel)
set_option maxRecDepth 1000000 in
theorem mk_211 : ab_MK cm_ms mr_211 := wz_MK wz_C9 wz_W9k rfl (lw_in_7 (p := 42) rfl) (ks := [0, 0, 0, 69, 0, 0, 42, 0, 0, 0, 0, 0, 64, 0, 0, 0, 0, 0, 42, 0, 0, 0, 0, 0, 0, 0, 0, 0, 0, 0]) (by decide +kernel)
set_option maxRecDepth 1000000 in
theorem mk_212 : ab_MK cm_ms mr_212 := wz_MK wz_C9 wz_W9k rfl (lw_in_7 (p := 62) rfl) (ks := [0, 0, 0, 0, 0, 0, 42, 0, 0, 0, 0, 0, 0, 0, 0, 70, 0, 0, 0, 0, 0, 0, 0, 0, 0, 0, 0, 0]) (by decide +kernel)
set_option maxRecDepth 1000000 in
theorem mk_213 : ab_MK cm_ms mr_213 := wz_MK wz_C9 wz_W9k rfl (lw_in_7 (p := 66) rfl) (ks := [0, 0, 0, 0, 0, 0, 42, 0, 0, 0, 0, 0, 0, 64, 0, 0, 42, 0, 0, 0, 0, 0, 0, 0, 0, 0, 0, 0, 0, 0, 0, 0, 0]) (by decide +kernel)
set_option maxRecDepth 1000000 in
theorem mk_214 : ab_MK cm_ms mr_214 := wz_MK wz_C9 wz_W9k rfl (lw_in_7 (p := 58) rfl) (ks := [0, 0, 0, 0, 71, 72, 0]) (by decide +kernel)
set_option maxRecDepth 1000000 in
theorem mk_215 : ab_MK cm_ms mr_215 := wz_MK wz_C9 wz_W9k rfl (lw_in_7 (p := 90) rfl) (ks := [0, 0, 0, 73, 0, 42, 0, 0, 0, 0, 0, 0, 0, 0, 0, 0, 0, 0, 0]) (by decide +kernel)
set_option maxRecDepth 1000000 in
theorem mk_216 : ab_MK cm_ms mr_216 := wz_MK wz_C9 wz_W9k rfl (lw_in_7 (p := 54) rfl) (ks := [0, 0, 0, 0, 64, 0, 0, 42, 0, 0, 0, 0, 0, 0, 0, 0, 0, 0, 0, 0, 0, 0, 0]) (by decide +kernel)
set_option maxRecDepth 1000000 in
theorem mk_217 : ab_MK cm_ms mr_217 := wz_MK wz_C9 wz_W9k rfl (lw_in_7 (p := 170) rfl) (ks := [0, 0, 0, 71, 0, 0, 0, 0, 0, 42, 0, 0, 0, 0, 0, 64, 0, 0, 0, 0, 0, 0, 0, 42, 0, 0, 0, 0, 0, 0, 0, 0, 0, 0, 0, 42, 0, 0, 0, 0, 0, 0, 0, 0, 0, 0, 42, 0, 0, 0, 0, 0, 0, 0, 0, 0, 0, 0]) (by decide +kernel)
set_option maxRecDepth 1000000 in
theorem mk_218 : ab_MK cm_ms mr_218 := wz_MK wz_C9 wz_W9k rfl (lw_in_7 (p := 166) rfl) (ks := [0, 0, 0, 74, 0, 0, 0, 0, 75, 0, 0, 0, 0, 0, 0, 0, 0, 0, 0, 0, 0, 0]) (by decide +kernel)
set_option maxRecDepth 1000000 in
theorem mk_219 : ab_MK cm_ms mr_219 := wz_MK wz_C9 wz_W9k rfl (lw_in_7 (p := 130) rfl) (ks := [0, 0, 0, 0, 42, 0, 0, 0, 0, 0, 0, 0, 0, 0, 42, 0, 0, 0, 0, 0, 0, 0, 0, 0, 0, 0, 42, 0, 0, 0, 0, 0, 0, 0, 0, 0, 0, 0, 0, 0, 0]) (by decide +kernel)
set_option maxRecDepth 1000000 in
theorem mk_220 : ab_MK cm_ms mr_220 := wz_MK wz_C9 wz_W9k rfl (lw_in_7 (p := 126) rfl) (ks := [0, 44, 0, 0, 76, 0, 0, 43, 0, 0, 0, 0, 0, 0, 0, 76, 77, 0, 0, 0]) (by decide +kernel)
set_option maxRecDepth 1000000 in
theorem mk_221 : ab_MK cm_ms mr_221 := wz_MK wz_C9 wz_W9k rfl (lw_in_7 (p := 26) rfl) (ks := [0, 38, 0, 0, 78, 0, 0, 0, 0, 34, 0, 0, 0, 39, 0, 0, 0, 0, 42, 0, 0, 0, 0, 0, 0, 0, 0, 44, 0, 0, 0, 0, 42, 0, 0, 0, 0, 0, 0, 0, 0, 0, 0, 0, 44, 0, 69, 0, 0, 0, 0, 0, 0, 42, 0, 0, 0, 0, 0, 0, 42, 0, 0, 0, 0, 0, 0, 0, 79, 0]) (by decide +kernel)
set_option maxRecDepth 1000000 in
theorem mk_222 : ab_MK cm_ms mr_222 := wz_MK wz_C9 wz_W9k rfl (lw_in_7 (p := 38) rfl) (ks := [0, 0, 0, 0, 0, 0, 42, 0, 0, 0, 0, 0, 0, 44, 0, 0, 70, 0, 0, 0, 0, 0, 0, 0, 0, 0, 0, 0, 0]) (by decide +kernel)
set_option maxRecDepth 1000000 in
theorem mk_223 : ab_MK cm_ms mr_223 := wz_MK wz_C9 wz_W9k rfl (lw_in_7 (p := 46) rfl) (ks := [0, 38, 0, 0, 80, 0, 0, 0, 0, 34, 0, 0, 0, 39, 0, 0, 0, 0, 42, 0, 0, 0, 0, 0, 0, 0, 0, 0, 0, 42, 0, 0, 0, 0, 0, 0, 44, 0, 0, 0, 0, 0, 0, 0, 0, 0, 44, 0, 81, 0, 0, 0, 0, 0, 0, 0, 44, 0, 73, 0, 0, 0, 44, 0, 71, 0]) (by decide +kernel)
set_option maxRecDepth 1000000 in
theorem mk_224 : ab_MK cm_ms mr_224 := wz_MK wz_C9 wz_W9k rfl (lw_in_7 (p := 70) rfl) (ks := [0, 38, 0, 68, 0, 0, 0, 0, 34, 0, 0, 44, 0, 0, 0, 0, 0, 0, 0, 39, 0]) (by decide +kernel)
set_option maxRecDepth 1000000 in
theorem mk_225 : ab_MK cm_ms mr_225 := wz_MK wz_C9 wz_W9k rfl (lw_in_7 (p := 74) rfl) (ks := [0, 38, 0, 68, 0, 0, 0, 44, 82, 0, 0, 0, 39, 0]) (by decide +kernel)
set_option maxRecDepth 1000000 in
theorem mk_226 : ab_MK cm_ms mr_226 := wz_MK wz_C9 wz_W9k rfl (lw_in_7 (p := 82) rfl) (ks := [0, 38, 0, 68, 0, 0, 0, 39, 0, 0, 0, 0, 0, 0, 0, 42, 0, 0, 0, 0, 44, 0, 0, 0, 44, 0, 0, 0, 0, 0, 0, 0, 0, 0]) (by decide +kernel)
set_option maxRecDepth 1000000 in
theorem mk_227 : ab_MK cm_ms mr_227 := wz_MK wz_C9 wz_W9k rfl (lw_in_7 (p := 86) rfl) (ks := [0, 38, 0, 68, 0, 0, 0, 39, 0, 0, 0, 0, 0, 0, 0, 42, 0, 0, 0, 0, 0, 0, 44, 0, 81, 0, 0, 0, 44, 0, 74, 0, 0, 0, 0, 0, 0, 0, 0, 0, 0, 0, 0]) (by decide +kernel)
set_option maxRecDepth 1000000 in
theorem mk_228 : ab_MK cm_ms mr_228 := wz_MK wz_C9 wz_W9k rfl (lw_in_7 (p := 98) rfl) (ks := [0, 83, 0, 0, 44, 82, 0, 0, 0, 0]) (by decide +kernel)
set_option maxRecDepth 1000000 in
theorem mk_229 : ab_MK cm_ms mr_229 := wz_MK wz_C9 wz_W9k rfl (lw_in_7 (p := 94) rfl) (ks := [0, 38, 0, 68, 0, 0, 0, 84, 72, 0, 0, 0, 39, 0]) (by decide +kernel)
set_option maxRecDepth 1000000 in
theorem mk_230 : ab_MK cm_ms mr_230 := wz_MK wz_C9 wz_W9k rfl (lw_in_7 (p := 106) rfl) (ks := [0, 38, 0, 0, 80, 0, 0, 0, 39, 0, 0, 0, 0, 0, 0, 0, 0, 0, 42, 0, 0, 0, 0, 0, 42, 0, 0, 0, 0, 0, 0, 0, 0, 0, 0, 0, 0, 0, 0, 0, 0, 0, 0, 0, 0, 0, 0]) (by decide +kernel)
set_option maxRecDepth 1000000 in
theorem mk_231 : ab_MK cm_ms mr_231 := wz_MK wz_C9 wz_W9k rfl (lw_in_7 (p := 114) rfl) (ks := [0, 0, 0, 0, 0, 0, 0, 0, 42, 0, 0, 0, 0, 0, 64, 0, 0, 0, 85, 0, 0, 0, 0, 85, 0, 0, 0, 0, 0, 0, 0, 0, 0]) (by decide +kernel)
set_option maxRecDepth 1000000 in
theorem mk_232 : ab_MK cm_ms mr_232 := wz_MK wz_C9 wz_W9k rfl (lw_in_7 (p := 110) rfl) (ks := [0, 38, 0, 0, 80, 0, 0, 0, 85, 0, 0, 0, 39, 0]) (by decide +kernel)
set_option maxRecDepth 1000000 in
theorem mk_233 : ab_MK cm_ms mr_233 := wz_MK wz_C9 wz_W9k rfl (lw_in_7 (p := 122) rfl) (ks := [0, 0, 0, 0, 0, 0, 0, 0, 0, 0]) (by decide +kernel)
set_option maxRecDepth 1000000 in
theorem mk_234 : ab_MK cm_ms mr_234 := wz_MK wz_C9 wz_W9k rfl (lw_in_7 (p := 118) rfl) (ks := [0, 38, 0, 0, 0, 78, 0, 0, 0, 34, 86, 0, 0, 0, 0, 0, 39, 0, 0, 0, 87, 0, 76, 0, 0, 0]) (by decide +kernel)
set_option maxRecDepth 1000000 in
theorem mk_235 : ab_MK cm_ms mr_235 := wz_MK wz_C9 wz_W9k rfl (lw_in_7 (p := 134) rfl) (ks := [0, 38, 0, 0, 0, 80, 0, 0, 0, 34, 86, 0, 0, 0, 0, 0, 39, 0, 0, 0, 87, 0, 0, 76, 0, 73, 0]) (by decide +kernel)
set_option maxRecDepth 1000000 in
theorem mk_236 : ab_MK cm_ms mr_236 := wz_MK wz_C9 wz_W9k rfl (lw_in_7 (p := 142) rfl) (ks := [0, 0, 87, 0, 0, 0, 0, 0, 0, 0, 76, 0, 74, 0, 0, 0, 0, 0, 76, 77, 0, 0, 0, 0]) (by decide +kernel)
set_option maxRecDepth 1000000 in
theorem mk_237 : ab_MK cm_ms mr_237 := wz_MK wz_C9 wz_W9k rfl (lw_in_7 (p := 138) rfl) (ks := [0, 38, 0, 0, 80, 0, 0, 0, 88, 0, 0, 0, 39, 0]) (by decide +kernel)
set_option maxRecDepth 1000000 in
theorem mk_238 : ab_MK cm_ms mr_238 := wz_MK wz_C9 wz_W9k rfl (lw_in_7 (p := 146) rfl) (ks := [0, 38, 0, 68, 0, 0, 0, 39, 0, 0, 0, 87, 0, 0, 0, 0, 0, 0, 0, 76, 82, 0, 0, 0, 0, 0, 76, 77, 0, 0, 0, 0]) (by decide +kernel)
set_option maxRecDepth 1000000 in
theorem mk_239 : ab_MK cm_ms mr_239 := wz_MK wz_C9 wz_W9k rfl (lw_in_7 (p := 150) rfl) (ks := [0, 38, 0, 68, 0, 0, 0, 39, 0, 0, 0, 0, 0, 0, 0, 42, 0, 0, 0, 0, 0, 44, 0, 81, 0, 0, 0, 88, 0, 0, 0, 0, 0, 0, 0, 0, 0, 0, 88, 0, 0, 0, 0, 0, 0, 0]) (by decide +kernel)
set_option maxRecDepth 1000000 in
theorem mk_240 : ab_MK cm_ms mr_240 := wz_MK wz_C9 wz_W9k rfl (lw_in_7 (p := 162) rfl) (ks := [0, 0, 87, 0, 0, 0, 0, 0, 0, 0, 0, 0, 0, 0, 0, 0, 0, 0, 0, 0, 0, 0, 0, 0, 0, 76, 77, 0, 0, 0, 0, 0, 0, 0, 0, 0, 0, 0, 0, 0, 0, 0, 0, 0, 76, 0, 81, 0, 0, 0, 0, 0, 0, 76, 0, 89, 0, 0, 42, 0, 0, 0, 0, 0, 0, 0, 0, 0, 0, 0, 0, 0, 0, 0, 0]) (by decide +kernel)
set_option maxRecDepth 1000000 in
theorem mk_241 : ab_MK cm_ms mr_241 := wz_MK wz_C9 wz_W9k rfl (lw_in_7 (p := 158) rfl) (ks := [0, 0, 0, 0, 0, 0, 0, 0, 0, 0, 0, 0, 0, 0, 0, 0, 0, 0, 0, 42, 0, 0, 0, 0, 0, 0, 0, 0, 0, 0, 0, 0, 0, 0, 0, 0, 0, 0, 0, 0, 0]) (by decide +kernel)
set_option maxRecDepth 1000000 in
theorem mk_242 : ab_MK cm_ms mr_242 := wz_MK wz_C9 wz_W9k rfl (lw_in_7 (p := 154) rfl) (ks := [0, 38, 0, 0, 68, 0, 68, 0, 0, 0, 0, 34, 0, 0, 0, 0, 90, 0, 0, 0, 0, 86, 0, 0, 0, 0, 0, 39, 0, 0, 0, 0, 91, 0, 0, 0, 0, 0, 39, 0, 0, 0]) (by decide +kernel)
set_option maxRecDepth 1000000 in
theorem mk_243 : ab_MK cm_ms mr_243 := wz_MK wz_C9 wz_W9k rfl (lw_in_7 (p := 181) rfl) (ks := [0, 0, 0, 0, 0, 0, 0, 0, 0, 0, 0, 0, 0, 0, 0]) (by decide +kernel)
set_option maxRecDepth 1000000 in
theorem mk_244 : ab_MK cm_ms mr_244 := wz_MK wz_C9 wz_W9k rfl (lw_in_7 (p := 178) rfl) (ks := [0, 0, 0, 0, 0, 0, 0, 0, 92, 0, 0, 0, 0, 90, 0, 0, 0, 0, 91, 0, 0, 0, 0, 0, 0, 0, 0, 0, 0, 0, 0, 0, 0, 0]) (by decide +kernel)
set_option maxRecDepth 1000000 in
theorem mk_245 : ab_MK cm_ms mr_245 := wz_MK wz_C9 wz_W9k rfl (lw_in_7 (p := 174) rfl) (ks := [0, 38, 0, 0, 68, 0, 0, 0, 34, 86, 0, 0, 0, 0, 0, 39, 0, 0, 0, 93, 0]) (by decide +kernel)
set_option maxRecDepth 1000000 in
theorem mk_246 : ab_MK cm_ms mr_246 := wz_MK wz_C9 wz_W9k rfl (lw_in_7 (p := 185) rfl) (ks := [0, 38, 0, 0, 68, 0, 0, 0, 34, 86, 0, 0, 0, 0, 0, 39, 0, 0, 0, 0, 93, 0, 91, 0]) (by decide +kernel)
set_option maxRecDepth 1000000 in
theorem mk_247 : ab_MK cm_ms mr_247 := wz_MK wz_C9 wz_W9k rfl (lw_in_7 (p := 189) rfl) (ks := [0, 38, 0, 0, 68, 0, 0, 0, 34, 86, 0, 0, 0, 0, 0, 39, 0, 0, 0, 0, 93, 0, 91, 0, 0, 76, 0, 0, 0]) (by decide +kernel)
set_option maxRecDepth 1000000 in
theorem mk_248 : ab_MK cm_ms mr_248 := wz_MK wz_C9 wz_W9k rfl (lw_in_7 (p := 193) rfl) (ks := [0, 38, 0, 0, 80, 0, 0, 0, 39, 0, 0, 44, 0, 0, 0, 64, 0, 0, 0, 0, 0, 0, 0, 0, 0, 0, 0, 0, 92, 0, 0, 0, 0, 90, 0, 0, 0, 0, 91, 0, 0, 76, 0, 0, 0, 64, 0, 0, 0, 0, 0, 0, 0, 0, 0]) (by decide +kernel)
set_option maxRecDepth 1000000 in
theorem mk_249 : ab_MK cm_ms mr_249 := wz_MK wz_C9 wz_W9k rfl (lw_in_7 (p := 201) rfl) (ks := [0, 0, 44, 0, 69, 0, 0, 0, 0, 84, 0, 0, 0, 0, 0, 0, 0, 0, 0, 0, 0, 0, 0, 83, 0, 0, 0, 0, 0, 0, 0, 0, 0, 0, 72, 0, 0, 0, 0, 0, 0, 0, 0, 72, 0, 0, 0, 0, 0, 0, 0, 0, 0, 0, 0]) (by decide +kernel)
set_option maxRecDepth 1000000 in
theorem mk_250 : ab_MK cm_ms mr_250 := wz_MK wz_C9 wz_W9k rfl (lw_in_7 (p := 197) rfl) (ks := [0, 38, 0, 0, 0, 78, 0, 0, 0, 34, 86, 0, 0, 0, 0, 0, 39, 0, 0, 0, 0, 94, 0]) (by decide +kernel)
set_option maxRecDepth 1000000 in
theorem mk_251 : ab_MK cm_ms mr_251 := wz_MK wz_C9 wz_W9k rfl (lw_in_7 (p := 205) rfl) (ks := [0, 38, 0, 0, 68, 0, 0, 0, 34, 86, 0, 0, 0, 0, 0, 39, 0, 0, 0, 0, 0, 0, 0, 0, 0, 42, 0, 0, 0, 0, 0, 0, 94, 0, 0, 0, 0, 0, 0, 0, 0, 94, 0, 0, 0, 0, 0]) (by decide +kernel)
set_option maxRecDepth 1000000 in
theorem mk_252 : ab_MK cm_ms mr_252 := wz_MK wz_C9 wz_W9k rfl (lw_in_7 (p := 209) rfl) (ks := [0, 38, 0, 0, 68, 0, 0, 0, 34, 86, 0, 0, 0, 0, 0, 39, 0, 0, 0, 0, 0, 0, 0, 42, 0, 0, 0, 0, 0, 0, 44, 0, 69, 0, 0, 0, 0, 94, 0, 0, 0, 0, 0, 0, 0, 0, 0, 0, 0, 0]) (by decide +kernel)
set_option maxRecDepth 1000000 in
theorem mk_253 : ab_MK cm_ms mr_253 := wz_MK wz_C9 wz_W9k rfl (lw_in_7 (p := 213) rfl) (ks := [0, 38, 0, 0, 68, 0, 0, 0, 34, 86, 0, 0, 0, 0, 0, 39, 0, 0, 0, 0, 0, 0, 0, 83, 0, 0, 0, 84, 0, 0, 0, 0, 0, 0, 72, 0, 0, 0, 0, 0, 95, 0, 95, 0, 0, 0, 0, 0, 0, 0]) (by decide +kernel)
set_option maxRecDepth 1000000 in
theorem mk_254 : ab_MK cm_ms mr_254 := wz_MK wz_C9 wz_W9k rfl (lw_in_7 (p := 228) rfl) (ks := [0, 0, 0, 0, 0, 0, 42, 0, 0, 0, 0, 0, 0, 64, 0, 0, 42, 0, 0, 0, 0, 0, 0, 95, 0, 0, 0, 0, 0, 0, 0, 0]) (by decide +kernel)
set_option maxRecDepth 1000000 in
theorem mk_255 : ab_MK cm_ms mr_255 := wz_MK wz_C9 wz_W9k rfl (lw_in_7 (p := 224) rfl) (ks := [0, 0, 0, 0, 0, 0, 83, 0, 0, 0, 0, 0, 0, 96, 0, 0, 0, 0, 0, 96, 0, 0, 0, 0, 0, 0, 0]) (by decide +kernel)
set_option maxRecDepth 1000000 in
theorem mk_256 : ab_MK cm_ms mr_256 := wz_MK wz_C9 wz_W9k rfl (lw_in_7 (p := 220) rfl) (ks := [0, 38, 0, 68, 0, 0, 97, 0, 0, 0, 39, 0]) (by decide +kernel)
set_option maxRecDepth 1000000 in
theorem mk_257 : ab_MK cm_ms mr_257 := wz_MK wz_C9 wz_W9k rfl (lw_in_7 (p := 232) rfl) (ks := [0, 38, 0, 68, 0, 0, 0, 39, 0, 0, 97, 0, 0, 42, 0, 0, 0, 0, 0, 0, 0, 96, 0, 0]) (by decide +kernel)
set_option maxRecDepth 1000000 in
theorem mk_258 : ab_MK cm_ms mr_258 := wz_MK wz_C9 wz_W9k rfl (lw_in_7 (p := 236) rfl) (ks := [0, 38, 0, 68, 0, 0, 0, 39, 0, 0, 83, 0, 0, 0, 0, 0, 83, 0, 0, 95, 0, 95, 0, 0, 0, 83, 0, 0, 0, 0, 0, 83, 0, 0, 0, 0, 96, 0, 0, 0, 0, 0, 0, 0]) (by decide +kernel)
set_option maxRecDepth 1000000 in
theorem mk_259 : ab_MK cm_ms mr_259 := wz_MK wz_C9 wz_W9k rfl (lw_in_8 (p := 8) rfl) (ks := [0, 42, 0, 0, 0, 0, 0, 42, 0, 0, 0, 0, 0, 0, 0, 0, 0, 0, 0, 0, 0, 0, 0, 0, 0, 0, 0, 0]) (by decide +kernel)
set_option maxRecDepth 1000000 in
theorem mk_260 : ab_MK cm_ms mr_260 := wz_MK wz_C9 wz_W9k rfl (lw_in_8 (p := 0) rfl) (ks := [0, 38, 0, 0, 98, 0, 0, 0, 98, 0, 0, 0, 0, 99, 0, 0, 0, 39, 0]) (by decide +kernel)
set_option maxRecDepth 1000000 in
theorem mk_261 : ab_MK cm_ms mr_261 := wz_MK wz_C9 wz_W9k rfl (lw_in_8 (p := 21) rfl) (ks := [0, 0, 42, 0, 0, 0, 0, 0, 0, 100, 0, 0, 0, 0, 0, 100, 0, 0, 99, 0, 0, 0, 0, 101, 0, 0, 0, 0, 102, 0, 100, 0, 0, 103, 0, 0, 43, 0, 0, 0, 0, 0, 42, 0, 0, 0, 0, 0, 64, 0, 0, 0, 100, 0, 0, 0, 0, 0, 0, 0, 0, 0, 0, 0, 0, 0, 0, 0, 100, 0, 0, 0, 0, 0, 99, 0, 104, 0, 0, 0]) (by decide +kernel)
set_option maxRecDepth 1000000 in
theorem mk_262 : ab_MK cm_ms mr_262 := wz_MK wz_C9 wz_W9k rfl (lw_in_8 (p := 16) rfl) (ks := [0, 105, 102, 0, 100, 0, 0, 0, 0, 0, 0, 0, 104, 0]) (by decide +kernel)
set_option maxRecDepth 1000000 in
theorem mk_263 : ab_MK cm_ms mr_263 := wz_MK wz_C9 wz_W9k rfl (lw_in_8 (p := 12) rfl) (ks := [0, 38, 0, 68, 0, 0, 0, 39, 0, 0, 42, 0, 0, 0, 0, 0, 0, 0, 106, 0, 101, 0]) (by decide +kernel)
set_option maxRecDepth 1000000 in
theorem mk_264 : ab_MK cm_ms mr_264 := wz_MK wz_C9 wz_W9k rfl (lw_in_8 (p := 25) rfl) (ks := [0, 38, 0, 0, 98, 0, 0, 0, 39, 0, 0, 106, 0, 103, 0, 0, 0]) (by decide +kernel)
set_option maxRecDepth 1000000 in
theorem mk_265 : ab_MK cm_ms mr_265 := wz_MK wz_C9 wz_W9k rfl (lw_in_8 (p := 37) rfl) (ks := [0, 0, 76, 45, 0, 0, 0, 0, 42, 0, 0, 0, 0, 0, 64, 0, 0, 0, 76, 0, 75, 0, 0, 0, 0, 0, 0, 0, 0, 0, 0, 0, 0, 42, 0, 0, 0, 0, 0, 0, 76, 0, 0, 0, 0, 0, 42, 0, 0, 0, 0, 0, 0, 0, 0, 0, 0, 0, 0, 0, 0, 0]) (by decide +kernel)
set_option maxRecDepth 1000000 in
theorem mk_266 : ab_MK cm_ms mr_266 := wz_MK wz_C9 wz_W9k rfl (lw_in_8 (p := 33) rfl) (ks := [0, 0, 0, 0, 107, 0, 0, 108, 0, 0, 0, 42, 0, 0, 0, 0, 0, 109, 0, 0, 0, 0, 0, 0, 110, 0, 0, 0, 0, 0, 0, 0, 0, 0, 0, 42, 0, 0, 0, 0, 0, 0, 111, 0, 0, 0, 112, 0, 0, 0, 0, 0, 0, 112, 0, 0, 107, 0, 0, 113, 0, 0, 108, 0, 0, 114, 0, 0, 109, 0, 0, 0, 0, 42, 0, 0, 0, 0, 110, 0, 0, 0, 0, 0, 0, 0, 0, 0, 0, 0, 0, 0, 0, 0, 112, 0, 0, 0, 109, 0, 0]) (by decide +kernel)
set_option maxRecDepth 1000000 in
theorem mk_267 : ab_MK cm_ms mr_267 := wz_MK wz_C9 wz_W9k rfl (lw_in_8 (p := 29) rfl) (ks := [0, 38, 0, 68, 0, 0, 0, 39, 0, 0, 0, 115, 0, 0, 112, 0]) (by decide +kernel)
set_option maxRecDepth 1000000 in
theorem mk_268 : ab_MK cm_ms mr_268 := wz_MK wz_C9 wz_W9k rfl (lw_in_8 (p := 41) rfl) (ks := [0, 38, 0, 68, 0, 0, 0, 0, 0, 39, 0, 0, 0, 115, 0, 0, 0, 0, 0, 39, 0, 0, 0]) (by decide +kernel)
set_option maxRecDepth 1000000 in
theorem mk_269 : ab_MK cm_ms mr_269 := wz_MK wz_C9 wz_W9k rfl (lw_in_8 (p := 45) rfl) (ks := [0, 38, 0, 68, 0, 0, 0, 39, 0, 0, 0, 115, 0, 0, 113, 0]) (by decide +kernel)
set_option maxRecDepth 1000000 in
theorem mk_270 : ab_MK cm_ms mr_270 := wz_MK wz_C9 wz_W9k rfl (lw_in_8 (p := 49) rfl) (ks := [0, 38, 0, 68, 0, 0, 0, 39, 0, 0, 0, 115, 0, 0, 114, 0]) (by decide +kernel)
set_option maxRecDepth 1000000 in
theorem mk_271 : ab_MK cm_ms mr_271 := wz_MK wz_C9 wz_W9k rfl (lw_in_8 (p := 61) rfl) (ks := [0, 110, 0, 0, 0, 112, 0, 110, 0, 0, 0, 0, 0, 110, 0, 0, 0, 0, 112, 0, 110, 0, 0, 0, 0]) (by decide +kernel)
set_option maxRecDepth 1000000 in
theorem mk_272 : ab_MK cm_ms mr_272 := wz_MK wz_C9 wz_W9k rfl (lw_in_8 (p := 57) rfl) (ks := [0, 0, 115, 0, 0, 0, 0, 0, 0, 0, 42, 0, 0, 0, 0, 112, 0, 0, 0, 0, 0, 116, 0, 0, 116, 0, 0, 0, 0, 0, 0, 0]) (by decide +kernel)
set_option maxRecDepth 1000000 in
theorem mk_273 : ab_MK cm_ms mr_273 := wz_MK wz_C9 wz_W9k rfl (lw_in_8 (p := 53) rfl) (ks := [0, 38, 0, 68, 0, 0, 117, 0, 0, 0, 39, 0]) (by decide +kernel)
set_option maxRecDepth 1000000 in
theorem mk_274 : ab_MK cm_ms mr_274 := wz_MK wz_C9 wz_W9k rfl (lw_in_8 (p := 65) rfl) (ks := [0, 38, 0, 68, 0, 0, 0, 39, 0, 0, 117, 0, 0, 0, 0, 0, 0, 0, 116, 0]) (by decide +kernel)
set_option maxRecDepth 1000000 in
theorem mk_275 : ab_MK cm_ms mr_275 := wz_MK wz_C9 wz_W9k rfl (lw_in_8 (p := 72) rfl) (ks := [0, 0, 0, 0, 0, 0, 0, 0, 0, 0, 0, 0, 0, 0, 0]) (by decide +kernel)
set_option maxRecDepth 1000000 in
theorem mk_276 : ab_MK cm_ms mr_276 := wz_MK wz_C9 wz_W9k rfl (lw_in_8 (p := 69) rfl) (ks := [0, 38, 0, 0, 68, 0, 0, 0, 34, 86, 0, 0, 0, 0, 0, 0, 0, 0, 118, 0, 0, 0, 0, 118, 0, 0, 0, 2, 0, 0]) (by decide +kernel)
set_option maxRecDepth 1000000 in
theorem mk_277 : ab_MK cm_ms mr_277 := wz_MK wz_C9 wz_W9k rfl (lw_in_8 (p := 83) rfl) (ks := [0, 0, 0, 0, 0, 0, 0, 118, 0, 0, 0, 118, 0, 0, 0, 0, 0, 0, 0, 0, 118, 0, 0, 0, 118, 0, 0, 0, 0, 0]) (by decide +kernel)
set_option maxRecDepth 1000000 in
theorem mk_278 : ab_MK cm_ms mr_278 := wz_MK wz_C9 wz_W9k rfl (lw_in_8 (p := 80) rfl) (ks := [0, 0, 0, 0, 119, 0, 0, 0, 0, 0, 0, 0, 0, 0, 0, 0, 0, 0, 0, 0, 0, 0, 0, 0, 0, 120, 0, 0, 0, 0, 0, 0, 0, 0, 0, 0, 0, 0, 0, 0, 119, 0, 0, 0, 0, 0]) (by decide +kernel)
set_option maxRecDepth 1000000 in
theorem mk_279 : ab_MK cm_ms mr_279 := wz_MK wz_C9 wz_W9k rfl (lw_in_8 (p := 76) rfl) (ks := [0, 38, 0, 0, 68, 0, 0, 0, 34, 86, 0, 0, 0, 0, 0, 39, 0, 0, 0, 121, 0]) (by decide +kernel)
set_option maxRecDepth 1000000 in
theorem mk_280 : ab_MK cm_ms mr_280 := wz_MK wz_C9 wz_W9k rfl (lw_in_8 (p := 87) rfl) (ks := [0, 38, 0, 0, 68, 0, 0, 0, 34, 86, 0, 0, 0, 0, 0, 39, 0, 0, 0, 121, 0, 0, 122, 0]) (by decide +kernel)
set_option maxRecDepth 1000000 in
theorem mk_281 : ab_MK cm_ms mr_281 := wz_MK wz_C9 wz_W9k rfl (lw_in_8 (p := 95) rfl) (ks := [0, 0, 123, 0, 0, 124, 0, 0, 125, 0, 0, 0, 0, 83, 0, 0, 0, 87, 0, 0, 0, 0, 0, 0, 42, 0, 0, 0, 0, 0, 0, 64, 0, 0, 42, 0, 0, 0, 0, 0, 0, 42, 0, 0, 0, 0, 0, 0, 0, 0, 64, 0, 0, 76, 0, 0, 0, 0, 0, 0, 0, 126, 0, 0, 123, 0, 0, 127, 0, 0, 76, 0, 74, 0, 0, 0, 0, 0, 124, 0, 0, 128, 0, 0, 0, 76, 0, 73, 0, 0, 0, 125, 0, 0, 0]) (by decide +kernel)
set_option maxRecDepth 1000000 in
theorem mk_282 : ab_MK cm_ms mr_282 := wz_MK wz_C9 wz_W9k rfl (lw_in_8 (p := 91) rfl) (ks := [0, 38, 0, 0, 80, 0, 0, 0, 39, 0, 0, 0, 0, 129, 0, 127, 0, 126, 0, 130, 0]) (by decide +kernel)
set_option maxRecDepth 1000000 in
theorem mk_283 : ab_MK cm_ms mr_283 := wz_MK wz_C9 wz_W9k rfl (lw_in_8 (p := 102) rfl) (ks := [0, 38, 0, 0, 80, 0, 0, 0, 39, 0, 0, 0, 0, 129, 0, 128, 0, 126, 0, 130, 0]) (by decide +kernel)
set_option maxRecDepth 1000000 in
theorem mk_284 : ab_MK cm_ms mr_284 := wz_MK wz_C9 wz_W9k rfl (lw_in_8 (p := 110) rfl) (ks := [0, 0, 0, 0, 0, 0, 131, 34, 0, 0, 0, 0, 34, 0, 0, 0, 0, 0, 87, 0, 0, 132, 0, 0, 0, 0, 0, 0, 0, 0, 0, 76, 77, 0, 0, 0, 0, 42, 0, 0, 0, 0, 0, 0, 0, 0, 133, 0, 0, 0, 0, 0, 0, 42, 0, 0, 0, 0, 76, 0, 0, 0, 0, 0, 0, 134, 0, 0, 0, 0, 0, 76, 0, 74, 0, 0, 0, 132, 0, 0, 0, 0]) (by decide +kernel)
set_option maxRecDepth 1000000 in
theorem mk_285 : ab_MK cm_ms mr_285 := wz_MK wz_C9 wz_W9k rfl (lw_in_8 (p := 106) rfl) (ks := [0, 38, 0, 0, 0, 78, 0, 0, 0, 135, 0, 0, 0, 0, 0, 39, 0, 0, 76, 0, 0, 0]) (by decide +kernel)
set_option maxRecDepth 1000000 in
theorem mk_286 : ab_MK cm_ms mr_286 := wz_MK wz_C9 wz_W9k rfl (lw_in_8 (p := 116) rfl) (ks := [0, 38, 0, 0, 0, 80, 0, 0, 0, 135, 0, 0, 0, 0, 0, 39, 0, 0, 134, 0]) (by decide +kernel)
set_option maxRecDepth 1000000 in
theorem mk_287 : ab_MK cm_ms mr_287 := wz_MK wz_C9 wz_W9k rfl (lw_in_8 (p := 124) rfl) (ks := [0, 136, 0, 0, 0, 0, 0, 0, 0, 0, 137, 0, 0, 137, 0, 0, 0, 0, 0, 0, 0, 0, 0, 136, 0, 0, 47, 0, 44, 0, 0, 137, 0, 0, 136, 0, 0, 43, 0, 0, 136, 0, 0, 47, 0]) (by decide +kernel)
set_option maxRecDepth 1000000 in
theorem mk_288 : ab_MK cm_ms mr_288 := wz_MK wz_C9 wz_W9k rfl (lw_in_8 (p := 120) rfl) (ks := [0, 38, 0, 0, 80, 0, 0, 0, 39, 0, 0, 0, 44, 0, 81, 0, 0, 0, 39, 0, 0, 138, 0, 0, 44, 0, 89, 0, 0, 0, 0, 0]) (by decide +kernel)
set_option maxRecDepth 1000000 in
theorem mk_289 : ab_MK cm_ms mr_289 := wz_MK wz_C9 wz_W9k rfl (lw_in_8 (p := 128) rfl) (ks := [0, 38, 0, 68, 0, 0, 0, 39, 0, 0, 44, 0, 0, 0, 0, 0, 0, 39, 0, 0, 138, 0, 0, 44, 77, 0, 0, 44, 82, 0]) (by decide +kernel)
set_option maxRecDepth 1000000 in
theorem mk_290 : ab_MK cm_ms mr_290 := wz_MK wz_C9 wz_W9k rfl (lw_in_8 (p := 132) rfl) (ks := [0, 38, 0, 0, 78, 0, 0, 0, 39, 0, 0, 44, 0, 0, 0, 0, 0, 39, 0, 0, 138, 0, 44, 0, 0, 0, 0, 44, 0, 0, 0, 0, 44, 0, 0, 42, 0, 0, 0, 0, 0, 0, 0, 0, 0, 0, 0, 0, 0, 0]) (by decide +kernel)
set_option maxRecDepth 1000000 in
theorem mk_291 : ab_MK cm_ms mr_291 := wz_MK wz_C9 wz_W9k rfl (lw_in_8 (p := 136) rfl) (ks := [0, 38, 0, 136, 0, 0, 0, 139, 0, 0, 0, 136, 0, 0, 47, 0, 137, 0, 0, 136, 0, 0, 44, 0, 0, 43, 0, 0]) (by decide +kernel)
set_option maxRecDepth 1000000 in
theorem mk_292 : ab_MK cm_ms mr_292 := wz_MK wz_C9 wz_W9k rfl (lw_in_8 (p := 144) rfl) (ks := [0, 38, 0, 68, 0, 0, 0, 39, 0, 0, 140, 0, 0, 0, 0, 39, 0, 0, 44, 0, 0, 141, 0, 0, 140, 0, 0, 43, 0, 0, 140, 0, 0, 48, 0, 140, 0, 0, 0]) (by decide +kernel)
set_option maxRecDepth 1000000 in
theorem mk_293 : ab_MK cm_ms mr_293 := wz_MK wz_C9 wz_W9k rfl (lw_in_8 (p := 148) rfl) (ks := [0, 38, 0, 0, 0, 140, 0, 0, 34, 0, 0, 0, 139, 0, 0, 141, 0, 0, 0, 0, 44, 0, 0, 43, 0, 0, 47, 0, 0]) (by decide +kernel)
set_option maxRecDepth 1000000 in
theorem mk_294 : ab_MK cm_ms mr_294 := wz_MK wz_C9 wz_W9k rfl (lw_in_8 (p := 152) rfl) (ks := [0, 0, 0, 0, 0, 68, 0, 0, 0, 42, 0, 0, 0, 0, 44, 0, 0, 0, 64, 0, 0, 0, 0, 0, 0, 0, 1, 0, 0, 0, 0, 0, 0, 0, 1, 0, 0]) (by decide +kernel)
set_option maxRecDepth 1000000 in
theorem mk_295 : ab_MK cm_ms mr_295 := wz_MK wz_C9 wz_W9k rfl (lw_in_8 (p := 156) rfl) (ks := [0, 0, 1, 0, 0, 0, 0, 3, 0, 0, 68, 0, 0, 0, 0, 34, 0, 0, 0, 0, 0, 0, 0, 0, 34, 0, 0, 42, 0, 0, 0, 0, 0, 0, 0, 44, 0, 0, 0, 0, 0, 0, 0, 136, 0, 0, 0, 0, 0, 140, 0, 0, 0]) (by decide +kernel)
set_option maxRecDepth 1000000 in
theorem mk_296 : ab_MK cm_ms mr_296 := wz_MK wz_C9 wz_W9k rfl (lw_in_8 (p := 160) rfl) (ks := [0, 0, 1, 0, 66, 0]) (by decide +kernel)
theorem mb_0 : ∀ q ∈ ms_0, ab_MK cm_ms q := List.forall_mem_cons.mpr ⟨mk_0, List.forall_mem_cons.mpr ⟨mk_1, List.forall_mem_cons.mpr ⟨mk_2, List.forall_mem_cons.mpr ⟨mk_3, List.forall_mem_cons.mpr ⟨mk_4, List.forall_mem_cons.mpr ⟨mk_5, List.forall_mem_cons.mpr ⟨mk_6, List.forall_mem_cons.mpr ⟨mk_7, List.forall_mem_cons.mpr ⟨mk_8, List.forall_mem_cons.mpr ⟨mk_9, List.forall_mem_cons.mpr ⟨mk_10, List.forall_mem_cons.mpr ⟨mk_11, List.forall_mem_cons.mpr ⟨mk_12, List.forall_mem_cons.mpr ⟨mk_13, List.forall_mem_cons.mpr ⟨mk_14, List.forall_mem_cons.mpr ⟨mk_15, List.forall_mem_cons.mpr ⟨mk_16, List.forall_mem_cons.mpr ⟨mk_17, List.forall_mem_cons.mpr ⟨mk_18, List.forall_mem_cons.mpr ⟨mk_19, fun _ h => absurd h List.not_mem_nil⟩⟩⟩⟩⟩⟩⟩⟩⟩⟩⟩⟩⟩⟩⟩⟩⟩⟩⟩⟩
theorem mb_1 : ∀ q ∈ ms_1, ab_MK cm_ms q := List.forall_mem_cons.mpr ⟨mk_20, List.forall_mem_cons.mpr ⟨mk_21, List.forall_mem_cons.mpr ⟨mk_22, List.forall_mem_cons.mpr ⟨mk_23, List.forall_mem_cons.mpr ⟨mk_24, List.forall_mem_cons.mpr ⟨mk_25, List.forall_mem_cons.mpr ⟨mk_26, List.forall_mem_cons.mpr ⟨mk_27, List.forall_mem_cons.mpr ⟨mk_28, List.forall_mem_cons.mpr ⟨mk_29, List.forall_mem_cons.mpr ⟨mk_30, List.forall_mem_cons.mpr ⟨mk_31, List.forall_mem_cons.mpr ⟨mk_32, List.forall_mem_cons.mpr ⟨mk_33, List.forall_mem_cons.mpr ⟨mk_34, List.forall_mem_cons.mpr ⟨mk_35, List.forall_mem_cons.mpr ⟨mk_36, List.forall_mem_cons.mpr ⟨mk_37, List.forall_mem_cons.mpr ⟨mk_38, List.forall_mem_cons.mpr ⟨mk_39, fun _ h => absurd h List.not_mem_nil⟩⟩⟩⟩⟩⟩⟩⟩⟩⟩⟩⟩⟩⟩⟩⟩⟩⟩⟩⟩
theorem mb_2 : ∀ q ∈ ms_2, ab_MK cm_ms q := List.forall_mem_cons.mpr ⟨mk_40, List.forall_mem_cons.mpr ⟨mk_41, List.forall_mem_cons.mpr ⟨mk_42, List.forall_mem_cons.mpr ⟨mk_43, List.forall_mem_cons.mpr ⟨mk_44, List.forall_mem_cons.mpr ⟨mk_45, List.forall_mem_cons.mpr ⟨mk_46, List.forall_mem_cons.mpr ⟨mk_47, List.forall_mem_cons.mpr ⟨mk_48, List.forall_mem_cons.mpr ⟨mk_49, List.forall_mem_cons.mpr ⟨mk_50, List.forall_mem_cons.mpr ⟨mk_51, List.forall_mem_cons.mpr ⟨mk_52, List.forall_mem_cons.mpr ⟨mk_53, List.forall_mem_cons.mpr ⟨mk_54, List.forall_mem_cons.mpr ⟨mk_55, List.forall_mem_cons.mpr ⟨mk_56, List.forall_mem_cons.mpr ⟨mk_57, List.forall_mem_cons.mpr ⟨mk_58, List.forall_mem_cons.mpr ⟨mk_59, fun _ h => absurd h List.not_mem_nil⟩⟩⟩⟩⟩⟩⟩⟩⟩⟩⟩⟩⟩⟩⟩⟩⟩⟩⟩⟩
theorem mb_3 : ∀ q ∈ ms_3, ab_MK cm_ms q := List.forall_mem_cons.mpr ⟨mk_60, List.forall_mem_cons.mpr ⟨mk_61, List.forall_mem_cons.mpr ⟨mk_62, List.forall_mem_cons.mpr ⟨mk_63, List.forall_mem_cons.mpr ⟨mk_64, List.forall_mem_cons.mpr ⟨mk_65, List.forall_mem_cons.mpr ⟨mk_66, List.forall_mem_cons.mpr ⟨mk_67, List.forall_mem_cons.mpr ⟨mk_68, List.forall_mem_cons.mpr ⟨mk_69, List.forall_mem_cons.mpr ⟨mk_70, List.forall_mem_cons.mpr ⟨mk_71, List.forall_mem_cons.mpr ⟨mk_72, List.forall_mem_cons.mpr ⟨mk_73, List.forall_mem_cons.mpr ⟨mk_74, List.forall_mem_cons.mpr ⟨mk_75, List.forall_mem_cons.mpr ⟨mk_76, List.forall_mem_cons.mpr ⟨mk_77, List.forall_mem_cons.mpr ⟨mk_78, List.forall_mem_cons.mpr ⟨mk_79, fun _ h => absurd h List.not_mem_nil⟩⟩⟩⟩⟩⟩⟩⟩⟩⟩⟩⟩⟩⟩⟩⟩⟩⟩⟩⟩
theorem mb_4 : ∀ q ∈ ms_4, ab_MK cm_ms q := List.forall_mem_cons.mpr ⟨mk_80, List.forall_mem_cons.mpr ⟨mk_81, List.forall_mem_cons.mpr ⟨mk_82, List.forall_mem_cons.mpr ⟨mk_83, List.forall_mem_cons.mpr ⟨mk_84, List.forall_mem_cons.mpr ⟨mk_85, List.forall_mem_cons.mpr ⟨mk_86, List.forall_mem_cons.mpr ⟨mk_87, List.forall_mem_cons.mpr ⟨mk_88, List.forall_mem_cons.mpr ⟨mk_89, List.forall_mem_cons.mpr ⟨mk_90, List.forall_mem_cons.mpr ⟨mk_91, List.forall_mem_cons.mpr ⟨mk_92, List.forall_mem_cons.mpr ⟨mk_93, List.forall_mem_cons.mpr ⟨mk_94, List.forall_mem_cons.mpr ⟨mk_95, List.forall_mem_cons.mpr ⟨mk_96, List.forall_mem_cons.mpr ⟨mk_97, List.forall_mem_cons.mpr ⟨mk_98, List.forall_mem_cons.mpr ⟨mk_99, fun _ h => absurd h List.not_mem_nil⟩⟩⟩⟩⟩⟩⟩⟩⟩⟩⟩⟩⟩⟩⟩⟩⟩⟩⟩⟩
theorem mb_5 : ∀ q ∈ ms_5, ab_MK cm_ms q := List.forall_mem_cons.mpr ⟨mk_100, List.forall_mem_cons.mpr ⟨mk_101, List.forall_mem_cons.mpr ⟨mk_102, List.forall_mem_cons.mpr ⟨mk_103, List.forall_mem_cons.mpr ⟨mk_104, List.forall_mem_cons.mpr ⟨mk_105, List.forall_mem_cons.mpr ⟨mk_106, List.forall_mem_cons.mpr ⟨mk_107, List.forall_mem_cons.mpr ⟨mk_108, List.forall_mem_cons.mpr ⟨mk_109, List.forall_mem_cons.mpr ⟨mk_110, List.forall_mem_cons.mpr ⟨mk_111, List.forall_mem_cons.mpr ⟨mk_112, List.forall_mem_cons.mpr ⟨mk_113, List.forall_mem_cons.mpr ⟨mk_114, List.forall_mem_cons.mpr ⟨mk_115, List.forall_mem_cons.mpr ⟨mk_116, List.forall_mem_cons.mpr ⟨mk_117, List.forall_mem_cons.mpr ⟨mk_118, List.forall_mem_cons.mpr ⟨mk_119, fun _ h => absurd h List.not_mem_nil⟩⟩⟩⟩⟩⟩⟩⟩⟩⟩⟩⟩⟩⟩⟩⟩⟩⟩⟩⟩
theorem mb_6 : ∀ q ∈ ms_6, ab_MK cm_ms q := List.forall_mem_cons.mpr ⟨mk_120, List.forall_mem_cons.mpr ⟨mk_121, List.forall_mem_cons.mpr ⟨mk_122, List.forall_mem_cons.mpr ⟨mk_123, List.forall_mem_cons.mpr ⟨mk_124, List.forall_mem_cons.mpr ⟨mk_125, List.forall_mem_cons.mpr ⟨mk_126, List.forall_mem_cons.mpr ⟨mk_127, List.forall_mem_cons.mpr ⟨mk_128, List.forall_mem_cons.mpr ⟨mk_129, List.forall_mem_cons.mpr ⟨mk_130, List.forall_mem_cons.mpr ⟨mk_131, List.forall_mem_cons.mpr ⟨mk_132, List.forall_mem_cons.mpr ⟨mk_133, List.forall_mem_cons.mpr ⟨mk_134, List.forall_mem_cons.mpr ⟨mk_135, List.forall_mem_cons.mpr ⟨mk_136, List.forall_mem_cons.mpr ⟨mk_137, List.forall_mem_cons.mpr ⟨mk_138, List.forall_mem_cons.mpr ⟨mk_139, fun _ h => absurd h List.not_mem_nil⟩⟩⟩⟩⟩⟩⟩⟩⟩⟩⟩⟩⟩⟩⟩⟩⟩⟩⟩⟩
theorem mb_7 : ∀ q ∈ ms_7, ab_MK cm_ms q := List.forall_mem_cons.mpr ⟨mk_140, List.forall_mem_cons.mpr ⟨mk_141, List.forall_mem_cons.mpr ⟨mk_142, List.forall_mem_cons.mpr ⟨mk_143, List.forall_mem_cons.mpr ⟨mk_144, List.forall_mem_cons.mpr ⟨mk_145, List.forall_mem_cons.mpr ⟨mk_146, List.forall_mem_cons.mpr ⟨mk_147, List.forall_mem_cons.mpr ⟨mk_148, List.forall_mem_cons.mpr ⟨mk_149, List.forall_mem_cons.mpr ⟨mk_150, List.forall_mem_cons.mpr ⟨mk_151, List.forall_mem_cons.mpr ⟨mk_152, List.forall_mem_cons.mpr ⟨mk_153, List.forall_mem_cons.mpr ⟨mk_154, List.forall_mem_cons.mpr ⟨mk_155, List.forall_mem_cons.mpr ⟨mk_156, List.forall_mem_cons.mpr ⟨mk_157, List.forall_mem_cons.mpr ⟨mk_158, List.forall_mem_cons.mpr ⟨mk_159, fun _ h => absurd h List.not_mem_nil⟩⟩⟩⟩⟩⟩⟩⟩⟩⟩⟩⟩⟩⟩⟩⟩⟩⟩⟩⟩
theorem mb_8 : ∀ q ∈ ms_8, ab_MK cm_ms q := List.forall_mem_cons.mpr ⟨mk_160, List.forall_mem_cons.mpr ⟨mk_161, List.forall_mem_cons.mpr ⟨mk_162, List.forall_mem_cons.mpr ⟨mk_163, List.forall_mem_cons.mpr ⟨mk_164, List.forall_mem_cons.mpr ⟨mk_165, List.forall_mem_cons.mpr ⟨mk_166, List.forall_mem_cons.mpr ⟨mk_167, List.forall_mem_cons.mpr ⟨mk_168, List.forall_mem_cons.mpr ⟨mk_169, List.forall_mem_cons.mpr ⟨mk_170, List.forall_mem_cons.mpr ⟨mk_171, List.forall_mem_cons.mpr ⟨mk_172, List.forall_mem_cons.mpr ⟨mk_173, List.forall_mem_cons.mpr ⟨mk_174, List.forall_mem_cons.mpr ⟨mk_175, List.forall_mem_cons.mpr ⟨mk_176, List.forall_mem_cons.mpr ⟨mk_177, List.forall_mem_cons.mpr ⟨mk_178, List.forall_mem_cons.mpr ⟨mk_179, fun _ h => absurd h List.not_mem_nil⟩⟩⟩⟩⟩⟩⟩⟩⟩⟩⟩⟩⟩⟩⟩⟩⟩⟩⟩⟩
theorem mb_9 : ∀ q ∈ ms_9, ab_MK cm_ms q := List.forall_mem_cons.mpr ⟨mk_180, List.forall_mem_cons.mpr ⟨mk_181, List.forall_mem_cons.mpr ⟨mk_182, List.forall_mem_cons.mpr ⟨mk_183, List.forall_mem_cons.mpr ⟨mk_184, List.forall_mem_cons.mpr ⟨mk_185, List.forall_mem_cons.mpr ⟨mk_186, List.forall_mem_cons.mpr ⟨mk_187, List.forall_mem_cons.mpr ⟨mk_188, List.forall_mem_cons.mpr ⟨mk_189, List.forall_mem_cons.mpr ⟨mk_190, List.forall_mem_cons.mpr ⟨mk_191, List.forall_mem_cons.mpr ⟨mk_192, List.forall_mem_cons.mpr ⟨mk_193, List.forall_mem_cons.mpr ⟨mk_194, List.forall_mem_cons.mpr ⟨mk_195, List.forall_mem_cons.mpr ⟨mk_196, List.forall_mem_cons.mpr ⟨mk_197, List.forall_mem_cons.mpr ⟨mk_198, List.forall_mem_cons.mpr ⟨mk_199, fun _ h => absurd h List.not_mem_nil⟩⟩⟩⟩⟩⟩⟩⟩⟩⟩⟩⟩⟩⟩⟩⟩⟩⟩⟩⟩
theorem mb_10 : ∀ q ∈ ms_10, ab_MK cm_ms q := List.forall_mem_cons.mpr ⟨mk_200, List.forall_mem_cons.mpr ⟨mk_201, List.forall_mem_cons.mpr ⟨mk_202, List.forall_mem_cons.mpr ⟨mk_203, List.forall_mem_cons.mpr ⟨mk_204, List.forall_mem_cons.mpr ⟨mk_205, List.forall_mem_cons.mpr ⟨mk_206, List.forall_mem_cons.mpr ⟨mk_207, List.forall_mem_cons.mpr ⟨mk_208, List.forall_mem_cons.mpr ⟨mk_209, List.forall_mem_cons.mpr ⟨mk_210, List.forall_mem_cons.mpr ⟨mk_211, List.forall_mem_cons.mpr ⟨mk_212, List.forall_mem_cons.mpr ⟨mk_213, List.forall_mem_cons.mpr ⟨mk_214, List.forall_mem_cons.mpr ⟨mk_215, List.forall_mem_cons.mpr ⟨mk_216, List.forall_mem_cons.mpr ⟨mk_217, List.forall_mem_cons.mpr ⟨mk_218, List.forall_mem_cons.mpr ⟨mk_219, fun _ h => absurd h List.not_mem_nil⟩⟩⟩⟩⟩⟩⟩⟩⟩⟩⟩⟩⟩⟩⟩⟩⟩⟩⟩⟩
theorem mb_11 : ∀ q ∈ ms_11, ab_MK cm_ms q := List.forall_mem_cons.mpr ⟨mk_220, List.forall_mem_cons.mpr ⟨mk_221, List.forall_mem_cons.mpr ⟨mk_222, List.forall_mem_cons.mpr ⟨mk_223, List.forall_mem_cons.mpr ⟨mk_224, List.forall_mem_cons.mpr ⟨mk_225, List.forall_mem_cons.mpr ⟨mk_226, List.forall_mem_cons.mpr ⟨mk_227, List.forall_mem_cons.mpr ⟨mk_228, List.forall_mem_cons.mpr ⟨mk_229, List.forall_mem_cons.mpr ⟨mk_230, List.forall_mem_cons.mpr ⟨mk_231, List.forall_mem_cons.mpr ⟨mk_232, List.forall_mem_cons.mpr ⟨mk_233, List.forall_mem_cons.mpr ⟨mk_234, List.forall_mem_cons.mpr ⟨mk_235, List.forall_mem_cons.mpr ⟨mk_236, List.forall_mem_cons.mpr ⟨mk_237, List.forall_mem_cons.mpr ⟨mk_238, List.forall_mem_cons.mpr ⟨mk_239, fun _ h => absurd h List.not_mem_nil⟩⟩⟩⟩⟩⟩⟩⟩⟩⟩⟩⟩⟩⟩⟩⟩⟩⟩⟩⟩
theorem mb_12 : ∀ q ∈ ms_12, ab_MK cm_ms q := List.forall_mem_cons.mpr ⟨mk_240, List.forall_mem_cons.mpr ⟨mk_241, List.forall_mem_cons.mpr ⟨mk_242, List.forall_mem_cons.mpr ⟨mk_243, List.forall_mem_cons.mpr ⟨mk_244, List.forall_mem_cons.mpr ⟨mk_245, List.forall_mem_cons.mpr ⟨mk_246, List.forall_mem_cons.mpr ⟨mk_247, List.forall_mem_cons.mpr ⟨mk_248, List.forall_mem_cons.mpr ⟨mk_249, List.forall_mem_cons.mpr ⟨mk_250, List.forall_mem_cons.mpr ⟨mk_251, List.forall_mem_cons.mpr ⟨mk_252, List.forall_mem_cons.mpr ⟨mk_253, List.forall_mem_cons.mpr ⟨mk_254, List.forall_mem_cons.mpr ⟨mk_255, List.forall_mem_cons.mpr ⟨mk_256, List.forall_mem_cons.mpr ⟨mk_257, List.forall_mem_cons.mpr ⟨mk_258, List.forall_mem_cons.mpr ⟨mk_259, fun _ h => absurd h List.not_mem_nil⟩⟩⟩⟩⟩⟩⟩⟩⟩⟩⟩⟩⟩⟩⟩⟩⟩⟩⟩⟩
theorem mb_13 : ∀ q ∈ ms_13, ab_MK cm_ms q := List.forall_mem_cons.mpr ⟨mk_260, List.forall_mem_cons.mpr ⟨mk_261, List.forall_mem_cons.mpr ⟨mk_262, List.forall_mem_cons.mpr ⟨mk_263, List.forall_mem_cons.mpr ⟨mk_264, List.forall_mem_cons.mpr ⟨mk_265, List.forall_mem_cons.mpr ⟨mk_266, List.forall_mem_cons.mpr ⟨mk_267, List.forall_mem_cons.mpr ⟨mk_268, List.forall_mem_cons.mpr ⟨mk_269, List.forall_mem_cons.mpr ⟨mk_270, List.forall_mem_cons.mpr ⟨mk_271, List.forall_mem_cons.mpr ⟨mk_272, List.forall_mem_cons.mpr ⟨mk_273, List.forall_mem_cons.mpr ⟨mk_274, List.forall_mem_cons.mpr ⟨mk_275, List.forall_mem_cons.mpr ⟨mk_276, List.forall_mem_cons.mpr ⟨mk_277, List.forall_mem_cons.mpr ⟨mk_278, List.forall_mem_cons.mpr ⟨mk_279, fun _ h => absurd h List.not_mem_nil⟩⟩⟩⟩⟩⟩⟩⟩⟩⟩⟩⟩⟩⟩⟩⟩⟩⟩⟩⟩
theorem mb_14 : ∀ q ∈ ms_14, ab_MK cm_ms q := List.forall_mem_cons.mpr ⟨mk_280, List.forall_mem_cons.mpr ⟨mk_281, List.forall_mem_cons.mpr ⟨mk_282, List.forall_mem_cons.mpr ⟨mk_283, List.forall_mem_cons.mpr ⟨mk_284, List.forall_mem_cons.mpr ⟨mk_285, List.forall_mem_cons.mpr ⟨mk_286, List.forall_mem_cons.mpr ⟨mk_287, List.forall_mem_cons.mpr ⟨mk_288, List.forall_mem_cons.mpr ⟨mk_289, List.forall_mem_cons.mpr ⟨mk_290, List.forall_mem_cons.mpr ⟨mk_291, List.forall_mem_cons.mpr ⟨mk_292, List.forall_mem_cons.mpr ⟨mk_293, List.forall_mem_cons.mpr ⟨mk_294, List.forall_mem_cons.mpr ⟨mk_295, List.forall_mem_cons.mpr ⟨mk_296, fun _ h => absurd h List.not_mem_nil⟩⟩⟩⟩⟩⟩⟩⟩⟩⟩⟩⟩⟩⟩⟩⟩⟩
theorem cm_ms_all : ∀ q ∈ cm_ms, ab_MK cm_ms q := List.forall_mem_append.mpr ⟨mb_0, List.forall_mem_append.mpr ⟨mb_1, List.forall_mem_append.mpr ⟨mb_2, List.forall_mem_append.mpr ⟨mb_3, List.forall_mem_append.mpr ⟨mb_4, List.forall_mem_append.mpr ⟨mb_5, List.forall_mem_append.mpr ⟨mb_6, List.forall_mem_append.mpr ⟨mb_7, List.forall_mem_append.mpr ⟨mb_8, List.forall_mem_append.mpr ⟨mb_9, List.forall_mem_append.mpr ⟨mb_10, List.forall_mem_append.mpr ⟨mb_11, List.forall_mem_append.mpr ⟨mb_12, List.forall_mem_append.mpr ⟨mb_13, mb_14⟩⟩⟩⟩⟩⟩⟩⟩⟩⟩⟩⟩⟩⟩
theorem cm_ms_ok : ∀ (k : Nat) (mi : ev_MI), cm_ms[k]? = some mi → cm_MOK cm_ms mi := fun k mi h => (cm_ms_all mi (List.mem_of_getElem? h)).1
theorem cm_ms_rc : ∀ (k : Nat) (mi : ev_MI), cm_ms[k]? = some mi → ∀ q ∈ mi.2.2.2.2.2.2, ab_RC cm_ms q := fun k mi h => (cm_ms_all mi (List.mem_of_getElem? h)).2
noncomputable abbrev ab_A : Type := Nat × Int × List Nat
/-- a variable: its bounds, and the operation on two values that it is (0: none) -/
noncomputable abbrev ab_Ke : Type := Int × Int × Nat × ab_A × ab_A
noncomputable abbrev ab_K : Type := List ab_Ke
/-- what is known of places of the memory -/
noncomputable abbrev ab_Ca : Type := List (Nat × Nat × ab_A)
noncomputable abbrev ab_S : Type := Nat × List (Nat × ab_A) × List ab_A × ab_K × ab_Ca
noncomputable def ab_c (n : Int) : ab_A := (0, n, [])
noncomputable def ab_x (k : Nat) : ab_A := (3, (k : Int), [])
noncomputable def ab_i (ρ : List Int32) (a : ab_A) : Option Int32 := match a.1 with
  | 0 => some (Int32.ofInt a.2.1)
  | 3 => ρ[a.2.1.toNat]?
  | _ => none
noncomputable def ab_v (ρ : List Int32) (a : ab_A) (v : Value) : Prop := match a.1 with
  | 0 => v = .int (Int32.ofInt a.2.1)
  | 1 => ∃ c, c ∈ a.2.2 ∧ v = .ref c
  | 2 => v = .null
  | 3 => ∃ x, ρ[a.2.1.toNat]? = some x ∧ v = .int x
  | 6 => ∃ x, v = .long x
  | 7 => v = .null ∨ ∃ c, c ∈ a.2.2 ∧ v = .ref c
  | _ => False
noncomputable def ab_isI (a : ab_A) : Bool := Nat.beq a.1 0 || Nat.beq a.1 3
theorem ab_vi {ρ : List Int32} {a : ab_A} {v : Value} (h : ab_isI a = true) (hv : ab_v ρ a v) : ∃ x, ab_i ρ a = some x ∧ v = .int x := by
  obtain ⟨t, n, cs⟩ := a
  simp only [ab_isI, Bool.or_eq_true, Nat.beq_eq] at h
  rcases h with rfl | rfl
  · exact ⟨_, rfl, hv⟩
  · exact hv
theorem ab_iv {ρ : List Int32} {a : ab_A} {x : Int32} (h : ab_i ρ a = some x) : ab_v ρ a (.int x) := by
  obtain ⟨t, n, cs⟩ := a
  unfold ab_i at h
  split at h
  · rename_i e
    dsimp only at e
    subst e
    cases h
    rfl
  · rename_i e
    dsimp only at e
    subst e
    exact ⟨x, h, rfl⟩
  · cases h
theorem ab_ivI {ρ : List Int32} {a : ab_A} {x : Int32} (h : ab_i ρ a = some x) : ab_isI a = true := by
  obtain ⟨t, n, cs⟩ := a
  unfold ab_i at h
  split at h
  · rename_i e
    dsimp only at e
    subst e
    rfl
  · rename_i e
    dsimp only at e
    subst e
    rfl
  · cases h
theorem ab_vint {ρ : List Int32} {a : ab_A} {x : Int32} (h : ab_v ρ a (.int x)) : ab_i ρ a = some x := by
  obtain ⟨t, n, cs⟩ := a
  unfold ab_v at h
  split at h
  · rename_i e
    dsimp only at e
    subst e
    cases h
    rfl
  · obtain ⟨c, -, h⟩ := h
    cases h
  · cases h
  · rename_i e
    dsimp only at e
    subst e
    obtain ⟨y, h1, h2⟩ := h
    cases h2
    exact h1
  · obtain ⟨c, h⟩ := h
    cases h
  · rcases h with h | ⟨c, -, h⟩ <;> cases h
  · exact h.elim
/-- the category of a value by its tag -/
theorem ab_cat {ρ : List Int32} {a : ab_A} {v : Value} (hv : ab_v ρ a v) : (a.1 = 6 ∧ v.category = 2) ∨ (a.1 ≠ 6 ∧ v.category = 1) := by
  obtain ⟨t, n, cs⟩ := a
  unfold ab_v at hv
  split at hv
  · rename_i e; dsimp only at e; subst e; subst hv; exact Or.inr ⟨(by dsimp only; omega), rfl⟩
  · rename_i e; dsimp only at e; subst e; obtain ⟨c, -, rfl⟩ := hv; exact Or.inr ⟨(by dsimp only; omega), rfl⟩
  · rename_i e; dsimp only at e; subst e; subst hv; exact Or.inr ⟨(by dsimp only; omega), rfl⟩
  · rename_i e; dsimp only at e; subst e; obtain ⟨c, -, rfl⟩ := hv; exact Or.inr ⟨(by dsimp only; omega), rfl⟩
  · rename_i e; dsimp only at e; subst e; obtain ⟨c, rfl⟩ := hv; exact Or.inl ⟨rfl, rfl⟩
  · rename_i e
    dsimp only at e
    subst e
    rcases hv with rfl | ⟨c, -, rfl⟩
    · exact Or.inr ⟨(by dsimp only; omega), rfl⟩
    · exact Or.inr ⟨(by dsimp only; omega), rfl⟩
  · exact hv.elim
/-- variables are added behind -/
theorem ab_i_ap {ρ ext : List Int32} {a : ab_A} {x : Int32} (h : ab_i ρ a = some x) : ab_i (ρ ++ ext) a = some x := by
  unfold ab_i at h ⊢
  split at h
  · exact h
  · exact ev_ap h
  · cases h
theorem ab_v_ap {ρ ext : List Int32} {a : ab_A} {v : Value} (h : ab_v ρ a v) : ab_v (ρ ++ ext) a v := by
  unfold ab_v at h ⊢
  split at h
  · exact h
  · exact h
  · exact h
  · obtain ⟨x, h1, h2⟩ := h
    exact ⟨x, ev_ap h1, h2⟩
  · exact h
  · exact h
  · exact h
noncomputable def ab_e (ρ : List Int32) (r : ab_Ke) (x : Int32) : Prop := ev_inb (r.1, r.2.1) x ∧ (r.2.2.1 = 0 ∨ ∃ y z, ab_i ρ r.2.2.2.1 = some y ∧ ab_i ρ r.2.2.2.2 = some z ∧ x = ev_f r.2.2.1 y z)
noncomputable def ab_k (ρ : List Int32) (K : ab_K) : Prop := K.length = ρ.length ∧ ∀ (j : Nat) (r : ab_Ke) (x : Int32), K[j]? = some r → ρ[j]? = some x → ab_e ρ r x
theorem ab_e_ap {ρ ext : List Int32} {r : ab_Ke} {x : Int32} (h : ab_e ρ r x) : ab_e (ρ ++ ext) r x := by
  refine ⟨h.1, ?_⟩
  rcases h.2 with h | ⟨y, z, h1, h2, h3⟩
  · exact Or.inl h
  · exact Or.inr ⟨y, z, ab_i_ap h1, ab_i_ap h2, h3⟩
/-- the bounds of an int -/
noncomputable def ab_bd (K : ab_K) (a : ab_A) : Int × Int := match a.1 with
  | 0 => ((Int32.ofInt a.2.1).toInt, (Int32.ofInt a.2.1).toInt)
  | 3 => (match K[a.2.1.toNat]? with
    | some r => (r.1, r.2.1)
    | none => ev_ful)
  | _ => ev_ful
theorem ab_bd_in {ρ : List Int32} {K : ab_K} {a : ab_A} {x : Int32} (hk : ab_k ρ K) (h : ab_i ρ a = some x) : ev_inb (ab_bd K a) x := by
  unfold ab_i at h
  unfold ab_bd
  split at h
  · cases h
    exact ⟨Int.le_refl _, Int.le_refl _⟩
  · split
    · rename_i r hr
      exact (hk.2 _ r x hr h).1
    · exact ev_ful_in x
  · cases h
/-- a new variable, or a number where both are numbers -/
noncomputable def ab_new (K : ab_K) (op : Nat) (a b : ab_A) : ab_A × ab_K :=
  if a.1 == 0 && b.1 == 0 then (ab_c (ev_f op (Int32.ofInt a.2.1) (Int32.ofInt b.2.1)).toInt, K)
  else (ab_x K.length, K ++ [((ev_bd op (ab_bd K a) (ab_bd K b)).1, (ev_bd op (ab_bd K a) (ab_bd K b)).2, op, a, b)])
noncomputable def ab_any (K : ab_K) (b : Int × Int) : ab_A × ab_K := (ab_x K.length, K ++ [(b.1, b.2, 0, ab_c 0, ab_c 0)])
theorem ab_push {ρ : List Int32} {K : ab_K} {r : ab_Ke} {x : Int32} (hk : ab_k ρ K) (hr : ab_e ρ r x) : ab_k (ρ ++ [x]) (K ++ [r]) := by
  refine ⟨by simp [hk.1], fun j q y h1 h2 => ?_⟩
  by_cases hj : j < K.length
  · rw [List.getElem?_append_left hj] at h1
    rw [List.getElem?_append_left (by rw [← hk.1]; exact hj)] at h2
    exact ab_e_ap (hk.2 j q y h1 h2)
  · rw [List.getElem?_append_right (by omega)] at h1
    rw [List.getElem?_append_right (by rw [← hk.1]; omega)] at h2
    have h3 : j - K.length < 1 := (List.getElem?_eq_some_iff.mp h1).1
    have h4 : j - K.length = 0 := by omega
    have h5 : j - ρ.length = 0 := by rw [← hk.1]; omega
    rw [h4] at h1
    rw [h5] at h2
    cases h1
    cases h2
    exact ab_e_ap hr
theorem ab_x_at {ρ : List Int32} {K : ab_K} (hk : ab_k ρ K) (x : Int32) : ab_i (ρ ++ [x]) (ab_x K.length) = some x := by
  show (ρ ++ [x])[((K.length : Int)).toNat]? = some x
  rw [Int.toNat_natCast, hk.1]
  simp
theorem ab_c_at (ρ : List Int32) (x : Int32) : ab_i ρ (ab_c x.toInt) = some x := by
  show some (Int32.ofInt x.toInt) = some x
  rw [Int32.ofInt_toInt]
theorem ab_new_ok {ρ : List Int32} {K K' : ab_K} {op : Nat} {a b c : ab_A} {x y : Int32} (hk : ab_k ρ K) (ha : ab_i ρ a = some x) (hb : ab_i ρ b = some y) (h : ab_new K op a b = (c, K')) : ∃ ext, ab_k (ρ ++ ext) K' ∧ ab_i (ρ ++ ext) c = some (ev_f op x y) := by
  unfold ab_new at h
  split at h
  · rename_i hz
    cases h
    simp only [Bool.and_eq_true, beq_iff_eq] at hz
    obtain ⟨ta, na, ca⟩ := a
    obtain ⟨tb, nb, cb⟩ := b
    obtain ⟨rfl, rfl⟩ := hz
    cases ha
    cases hb
    exact ⟨[], by simpa using hk, by rw [List.append_nil]; exact ab_c_at _ _⟩
  · cases h
    exact ⟨[ev_f op x y], ab_push hk ⟨ev_bd_in (ab_bd_in hk ha) (ab_bd_in hk hb), Or.inr ⟨x, y, ha, hb, rfl⟩⟩, ab_x_at hk _⟩
theorem ab_any_ok {ρ : List Int32} {K K' : ab_K} {b : Int × Int} {c : ab_A} {x : Int32} (hk : ab_k ρ K) (hx : ev_inb b x) (h : ab_any K b = (c, K')) : ∃ ext, ab_k (ρ ++ ext) K' ∧ ab_i (ρ ++ ext) c = some x := by
  cases h
  exact ⟨[x], ab_push hk ⟨hx, Or.inl rfl⟩, ab_x_at hk _⟩
noncomputable def ab_set1 (K : ab_K) (a : ab_A) (b : Int × Int) : ab_K := if a.1 == 3 then (match K[a.2.1.toNat]? with
    | some r => K.set a.2.1.toNat (b.1, b.2, r.2.2)
    | none => K) else K
theorem ab_set1_ok {ρ : List Int32} {K : ab_K} {a : ab_A} {b : Int × Int} {x : Int32} (hk : ab_k ρ K) (ha : ab_i ρ a = some x) (hb : ev_inb b x) : ab_k ρ (ab_set1 K a b) := by
  unfold ab_set1
  split
  · rename_i h3
    split
    · rename_i r hr
      have hl := (List.getElem?_eq_some_iff.mp hr).1
      refine ⟨by rw [List.length_set]; exact hk.1, fun j q y h1 h2 => ?_⟩
      by_cases hj : j = a.2.1.toNat
      · subst hj
        rw [List.getElem?_set_self hl] at h1
        cases h1
        have h4 : a.1 = 3 := beq_iff_eq.mp h3
        unfold ab_i at ha
        rw [h4] at ha
        have ha : ρ[a.2.1.toNat]? = some x := ha
        rw [ha] at h2
        cases h2
        exact ⟨hb, (hk.2 _ r x hr ha).2⟩
      · rw [List.getElem?_set_ne (Ne.symm hj)] at h1
        exact hk.2 j q y h1 h2
    · exact hk
  · exact hk
/-- the bounds of x when x r y holds -/
noncomputable def ab_nar (r : Nat) (x y : Int × Int) : Int × Int := match r with
  | 0 => (max x.1 y.1, min x.2 y.2)
  | 1 => if y.1 = y.2 then (if x.1 = y.1 then (x.1 + 1, x.2) else if x.2 = y.1 then (x.1, x.2 - 1) else x) else x
  | 2 => (x.1, min x.2 (y.2 - 1))
  | 3 => (max x.1 y.1, x.2)
  | 4 => (max x.1 (y.1 + 1), x.2)
  | _ => (x.1, min x.2 y.2)
theorem ab_nar_in {r : Nat} {b d : Int × Int} {x y : Int32} (hx : ev_inb b x) (hy : ev_inb d y) (h : ev_cmp r x y = true) : ev_inb (ab_nar r b d) x := by
  obtain ⟨x1, x2⟩ := hx
  obtain ⟨y1, y2⟩ := hy
  unfold ab_nar
  unfold ev_cmp at h
  split
  · have h : x = y := of_decide_eq_true h
    subst h
    exact ⟨by dsimp only; omega, by dsimp only; omega⟩
  · have h : ¬ x = y := by simpa using h
    have h : x.toInt ≠ y.toInt := fun q => h (Int32.toInt_inj.mp q)
    split
    · split
      · exact ⟨by dsimp only; omega, by dsimp only; omega⟩
      · split
        · exact ⟨by dsimp only; omega, by dsimp only; omega⟩
        · exact ⟨x1, x2⟩
    · exact ⟨x1, x2⟩
  · have h := Int32.lt_iff_toInt_lt.mp (of_decide_eq_true h)
    exact ⟨by dsimp only; omega, by dsimp only; omega⟩
  · have h := Int32.le_iff_toInt_le.mp (of_decide_eq_true h)
    exact ⟨by dsimp only; omega, by dsimp only; omega⟩
  · have h := Int32.lt_iff_toInt_lt.mp (of_decide_eq_true h)
    exact ⟨by dsimp only; omega, by dsimp only; omega⟩
  · rename_i n0 n1 n2 n3 n4
    have h : x ≤ y := by
      rcases r with _ | _ | _ | _ | _ | r
      · exact absurd rfl n0
      · exact absurd rfl n1
      · exact absurd rfl n2
      · exact absurd rfl n3
      · exact absurd rfl n4
      · exact of_decide_eq_true h
    have h := Int32.le_iff_toInt_le.mp h
    exact ⟨by dsimp only; omega, by dsimp only; omega⟩
noncomputable def ab_swp (r : Nat) : Nat := match r with
  | 0 => 0
  | 1 => 1
  | 2 => 4
  | 3 => 5
  | 4 => 2
  | _ => 3
theorem ab_swp_ok {r : Nat} {x y : Int32} (h : ev_cmp r x y = true) : ev_cmp (ab_swp r) y x = true := by
  rcases r with _ | _ | _ | _ | _ | r
  · simp only [ev_cmp, ab_swp, decide_eq_true_eq] at h ⊢
    exact h.symm
  · simp only [ev_cmp, ab_swp, Bool.not_eq_true', decide_eq_false_iff_not] at h ⊢
    exact fun q => h q.symm
  · simpa [ev_cmp, ab_swp] using h
  · simpa [ev_cmp, ab_swp] using h
  · simpa [ev_cmp, ab_swp] using h
  · simpa [ev_cmp, ab_swp] using h
noncomputable def ab_ngt (r : Nat) : Nat := match r with
  | 0 => 1
  | 1 => 0
  | 2 => 3
  | 3 => 2
  | 4 => 5
  | _ => 4
theorem ab_ngt_ok {r : Nat} {x y : Int32} (h : ev_cmp r x y = false) : ev_cmp (ab_ngt r) x y = true := by
  rcases r with _ | _ | _ | _ | _ | r
  · simpa [ev_cmp, ab_ngt] using h
  · simpa [ev_cmp, ab_ngt] using h
  · simpa [ev_cmp, ab_ngt] using h
  · simpa [ev_cmp, ab_ngt] using h
  · simpa [ev_cmp, ab_ngt] using h
  · simpa [ev_cmp, ab_ngt] using h
/-- back through a sum: x + c within bounds, so x -/
noncomputable def ab_back (K : ab_K) (a : ab_A) : ab_K := if a.1 == 3 then (match K[a.2.1.toNat]? with
    | some r => (match r.2.2.2.2.1 with
      | 0 =>
        let u := r.2.2.2.1
        let c := (Int32.ofInt r.2.2.2.2.2.1).toInt
        let b := ab_bd K u
        if r.2.2.1 = 1 ∧ -2147483648 ≤ b.1 + c ∧ b.2 + c ≤ 2147483647 then ab_set1 K u (max b.1 (r.1 - c), min b.2 (r.2.1 - c))
        else if r.2.2.1 = 2 ∧ -2147483648 ≤ b.1 - c ∧ b.2 - c ≤ 2147483647 then ab_set1 K u (max b.1 (r.1 + c), min b.2 (r.2.1 + c))
        else K
      | _ => K)
    | none => K) else K
theorem ab_back_ok {ρ : List Int32} {K : ab_K} {a : ab_A} {x : Int32} (hk : ab_k ρ K) (ha : ab_i ρ a = some x) : ab_k ρ (ab_back K a) := by
  unfold ab_back
  split
  · rename_i h3
    split
    · rename_i r hr
      split
      · rename_i h0
        have h4 : a.1 = 3 := beq_iff_eq.mp h3
        unfold ab_i at ha
        rw [h4] at ha
        have ha : ρ[a.2.1.toNat]? = some x := ha
        obtain ⟨⟨b1, b2⟩, hd⟩ := hk.2 _ r x hr ha
        dsimp only at b1 b2 ⊢
        have hc : ab_i ρ r.2.2.2.2 = some (Int32.ofInt r.2.2.2.2.2.1) := by
          unfold ab_i
          rw [h0]
          rfl
        split
        · rename_i hc1
          rcases hd with hd | ⟨y, z, hy, hz, e⟩
          · omega
          · rw [hc] at hz
            cases hz
            obtain ⟨y1, y2⟩ := ab_bd_in hk hy
            rw [hc1.1] at e
            have e : x = y + Int32.ofInt r.2.2.2.2.2.1 := e
            have e2 : x.toInt = y.toInt + (Int32.ofInt r.2.2.2.2.2.1).toInt := by
              rw [e, Int32.toInt_add]
              exact ev_bm (by omega) (by omega)
            exact ab_set1_ok hk hy ⟨by dsimp only; omega, by dsimp only; omega⟩
        · split
          · rename_i hc1
            rcases hd with hd | ⟨y, z, hy, hz, e⟩
            · omega
            · rw [hc] at hz
              cases hz
              obtain ⟨y1, y2⟩ := ab_bd_in hk hy
              rw [hc1.1] at e
              have e : x = y - Int32.ofInt r.2.2.2.2.2.1 := e
              have e2 : x.toInt = y.toInt - (Int32.ofInt r.2.2.2.2.2.1).toInt := by
                rw [e, Int32.toInt_sub]
                exact ev_bm (by omega) (by omega)
              exact ab_set1_ok hk hy ⟨by dsimp only; omega, by dsimp only; omega⟩
          · exact hk
      · exact hk
    · exact hk
  · exact hk
/-- a relation: r is y - x within bounds, so x is at most y's highest less r's lowest -/
noncomputable def ab_rel1 (K : ab_K) (r : ab_Ke) : ab_K := if -2147483648 ≤ (ab_bd K r.2.2.2.1).1 - (ab_bd K r.2.2.2.2).2 ∧ (ab_bd K r.2.2.2.1).2 - (ab_bd K r.2.2.2.2).1 ≤ 2147483647 then ab_set1 K r.2.2.2.2 ((ab_bd K r.2.2.2.2).1, min (ab_bd K r.2.2.2.2).2 ((ab_bd K r.2.2.2.1).2 - r.1)) else K
noncomputable def ab_rel : List ab_Ke → ab_K → ab_K
  | [], K => K
  | r :: l, K => ab_rel l (if r.2.2.1 = 22 then ab_rel1 K r else K)
theorem ab_rel1_ok {ρ : List Int32} {K : ab_K} {r : ab_Ke} {w : Int32} (hk : ab_k ρ K) (h22 : r.2.2.1 = 22) (hr : ab_e ρ r w) : ab_k ρ (ab_rel1 K r) := by
  unfold ab_rel1
  split
  · rename_i hc
    rcases hr.2 with hz | ⟨y, x, hy, hx, e⟩
    · omega
    · obtain ⟨y1, y2⟩ := ab_bd_in hk hy
      obtain ⟨x1, x2⟩ := ab_bd_in hk hx
      obtain ⟨w1, w2⟩ := hr.1
      rw [h22] at e
      have e : w = y - x := e
      have e2 : w.toInt = y.toInt - x.toInt := by
        rw [e, Int32.toInt_sub]
        exact ev_bm (by omega) (by omega)
      dsimp only at w1 w2
      exact ab_set1_ok hk hx ⟨by dsimp only; omega, by dsimp only; omega⟩
  · exact hk
theorem ab_rel_ok {ρ : List Int32} : ∀ (l : List ab_Ke) {K : ab_K}, (∀ r ∈ l, ∃ w, ab_e ρ r w) → ab_k ρ K → ab_k ρ (ab_rel l K)
  | [], K, _, hk => hk
  | r :: l, K, hl, hk => by
    unfold ab_rel
    refine ab_rel_ok l (fun q hq => hl q (List.mem_cons_of_mem _ hq)) ?_
    split
    · rename_i h22
      obtain ⟨w, hw⟩ := hl r List.mem_cons_self
      exact ab_rel1_ok hk h22 hw
    · exact hk
theorem ab_k_all {ρ : List Int32} {K : ab_K} (hk : ab_k ρ K) : ∀ r ∈ K, ∃ w, ab_e ρ r w := by
  intro r hr
  obtain ⟨j, hj⟩ := List.getElem?_of_mem hr
  have hl : j < ρ.length := by rw [← hk.1]; exact (List.getElem?_eq_some_iff.mp hj).1
  exact ⟨ρ[j], hk.2 j r _ hj (List.getElem?_eq_getElem hl)⟩
/-- what is known when a r b holds: none if it can't -/
noncomputable def ab_br (r : Nat) (a b : ab_A) (K : ab_K) : Option ab_K :=
  let x := ab_bd K a
  let y := ab_bd K b
  let x' := ab_nar r x y
  let y' := ab_nar (ab_swp r) y x
  if x'.1 ≤ x'.2 ∧ y'.1 ≤ y'.2 then some (ab_rel K (ab_back (ab_back (ab_set1 (ab_set1 K a x') b y') a) b)) else none
theorem ab_br_ok {ρ : List Int32} {K : ab_K} {r : Nat} {a b : ab_A} {x y : Int32} (hk : ab_k ρ K) (ha : ab_i ρ a = some x) (hb : ab_i ρ b = some y) (h : ev_cmp r x y = true) : ∃ K', ab_br r a b K = some K' ∧ ab_k ρ K' := by
  have hx := ab_bd_in hk ha
  have hy := ab_bd_in hk hb
  have h1 := ab_nar_in hx hy h
  have h2 := ab_nar_in hy hx (ab_swp_ok h)
  unfold ab_br
  dsimp only
  rw [if_pos ⟨Int.le_trans h1.1 h1.2, Int.le_trans h2.1 h2.2⟩]
  exact ⟨_, rfl, ab_rel_ok K (ab_k_all hk) (ab_back_ok (ab_back_ok (ab_set1_ok (ab_set1_ok hk ha h1) hb h2) ha) hb)⟩
