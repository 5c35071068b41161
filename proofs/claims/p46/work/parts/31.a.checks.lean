noncomputable def cm_chk (ms : List ev_MI) (P : ev_P) (cc : ByteArray) (q : Nat × ev_Row) (ps : List Nat) : Bool := match cm_rowI ms P q.2 with
  | some (i, n, cs) => decide (decode cc q.1 = .ok (i, n)) && (decide (cs.map some = ps.map (fun j => lw_tbl[j]?)) && cs.all goodWord)
  | none => false
noncomputable def cm_chkAll (ms : List ev_MI) (P : ev_P) (cc : ByteArray) : List (Nat × ev_Row) → List (List Nat) → Bool
  | [], [] => true
  | q :: rows, p :: ps => cm_chk ms P cc q p && cm_chkAll ms P cc rows ps
  | _, _ => false
theorem cm_chkAll_ok {ms : List ev_MI} {P : ev_P} {cc : ByteArray} : ∀ {rows : List (Nat × ev_Row)} {ps : List (List Nat)}, cm_chkAll ms P cc rows ps = true → ∀ q ∈ rows, cm_RowOK ms P cc q
  | [], [], _ => fun q hq => nomatch hq
  | [], _ :: _, h => by cases h
  | _ :: _, [], h => by cases h
  | q :: rows, p :: ps, h => by
    unfold cm_chkAll at h
    simp only [Bool.and_eq_true] at h
    obtain ⟨h1, h3⟩ := h
    intro q' hq'
    rcases List.mem_cons.mp hq' with rfl | hq'
    · unfold cm_chk at h1
      split at h1
      · rename_i i n cs hi
        simp only [Bool.and_eq_true, decide_eq_true_eq] at h1
        obtain ⟨a1, a2, a3⟩ := h1
        refine ⟨i, n, cs, hi, a1, fun w hw => ?_⟩
        have hg := List.all_eq_true.mp a3 w hw
        have hm : some w ∈ p.map (fun j => lw_tbl[j]?) := by rw [← a2]; exact List.mem_map.mpr ⟨w, hw, rfl⟩
        obtain ⟨j, -, hj⟩ := List.mem_map.mp hm
        exact lw_good_at j hj hg
      · cases h1
    · exact cm_chkAll_ok h3 q' hq'
noncomputable def ab_rc1 (ms : List ev_MI) (q : Nat × ev_Row) : Bool := if 200 ≤ q.2.1 ∧ q.2.1 < 210 then (match ms[q.2.2.1.toNat]? with
  | some mi => ev_nar1 mi.1 q.2.2.2.2.1.toNat && (if q.2.1 = 200 then (match q.2.2.2.2.2 with
    | [ci] => if ci = 99 then decide (mi.1.cls = "java/lang/String") else decide ((vwCl[ci.toNat]?).map (fun r => r.1) = some mi.1.cls)
    | _ => false) else true)
  | none => false) else true
theorem ab_rc1_ok {ms : List ev_MI} {q : Nat × ev_Row} (h : ab_rc1 ms q = true) : ab_RC ms q := by
  intro h1 h2
  unfold ab_rc1 at h
  rw [if_pos ⟨h1, h2⟩] at h
  split at h
  · rename_i mi hmi
    rw [Bool.and_eq_true] at h
    refine ⟨mi, hmi, h.1, fun h3 ci hci => ?_⟩
    have h4 := h.2
    rw [if_pos h3, hci] at h4
    dsimp only at h4
    split at h4
    · rename_i h99
      exact Or.inl ⟨h99, of_decide_eq_true h4⟩
    · rename_i h99
      exact Or.inr ⟨h99, of_decide_eq_true h4⟩
  · cases h
noncomputable def ab_MK (ms : List ev_MI) (mi : ev_MI) : Prop := cm_MOK ms mi ∧ ∀ q ∈ mi.2.2.2.2.2.2, ab_RC ms q
noncomputable def oc_0 : List cm_O := [cm_iconst, cm_bipush, cm_sipush, cm_lconst, cm_iload, cm_iloadn]
noncomputable def oc_1 : List cm_O := [cm_lload, cm_lloadn, cm_aload, cm_aloadn, cm_istore, cm_istoren]
noncomputable def oc_2 : List cm_O := [cm_lstore, cm_lstoren, cm_astore, cm_astoren, cm_iadd, cm_isub]
noncomputable def oc_3 : List cm_O := [cm_imul, cm_iand, cm_ior, cm_ixor, cm_ishl, cm_ishr]
noncomputable def oc_4 : List cm_O := [cm_iushr, cm_idiv, cm_irem, cm_ineg, cm_i2b, cm_i2l]
noncomputable def oc_5 : List cm_O := [cm_lcmp, cm_dup, cm_pop, cm_dup2, cm_iinc, cm_icmp_eq]
noncomputable def oc_6 : List cm_O := [cm_icmp_ne, cm_icmp_lt, cm_icmp_ge, cm_icmp_gt, cm_icmp_le, cm_if_eq]
noncomputable def oc_7 : List cm_O := [cm_if_ne, cm_if_lt, cm_if_ge, cm_if_gt, cm_if_le, cm_goto]
noncomputable def oc_8 : List cm_O := [cm_sw, cm_get, cm_put, cm_no, cm_iaload, cm_baload]
noncomputable def oc_9 : List cm_O := [cm_laload, cm_aaload, cm_iastore, cm_bastore, cm_no, cm_no]
noncomputable def oc_10 : List cm_O := [cm_no, cm_no, cm_no, cm_no, cm_alen, cm_sald]
noncomputable def oc_11 : List cm_O := [cm_no, cm_mmin, cm_ldc, cm_ldcS, cm_getV, cm_getC]
noncomputable def oc_12 : List cm_O := [cm_gets, cm_alenS, cm_baloadS, cm_i2c, cm_ladd, cm_lsub]
noncomputable def oc_13 : List cm_O := [cm_lmul, cm_ldiv, cm_lrem, cm_ldc2, cm_getsF, cm_ldcw]
noncomputable def oc_14 : List cm_O := [cm_mmax, cm_mabs, cm_copyi, cm_getT, cm_tald, cm_alenT]
noncomputable def oc_15 : List cm_O := [cm_lastore, cm_pop2]
theorem ac_at {α : Type} {A B : List α} {N k : Nat} {x y : Option α} (h : A.length = N) (hb : y = B[k - N]?) (ha : x = A[k]?) : cond (Nat.ble N k) y x = (A ++ B)[k]? := by
  subst h
  cases hk : Nat.ble A.length k with
  | true => exact hb.trans (List.getElem?_append_right (Nat.le_of_ble_eq_true hk)).symm
  | false =>
    have hlt : k < A.length := Nat.lt_of_not_le (fun z => by
      have := Nat.ble_eq_true_of_le z
      rw [hk] at this
      cases this)
    exact ha.trans (List.getElem?_append_left hlt).symm
noncomputable def cm_opF (k : Nat) : Option cm_O := cond (Nat.ble 48 k) (cond (Nat.ble 24 (k - 48)) (cond (Nat.ble 12 ((k - 48) - 24)) (cond (Nat.ble 6 (((k - 48) - 24) - 12)) (oc_15[(((k - 48) - 24) - 12) - 6]?) (oc_14[((k - 48) - 24) - 12]?)) (cond (Nat.ble 6 ((k - 48) - 24)) (oc_13[((k - 48) - 24) - 6]?) (oc_12[(k - 48) - 24]?))) (cond (Nat.ble 12 (k - 48)) (cond (Nat.ble 6 ((k - 48) - 12)) (oc_11[((k - 48) - 12) - 6]?) (oc_10[(k - 48) - 12]?)) (cond (Nat.ble 6 (k - 48)) (oc_9[(k - 48) - 6]?) (oc_8[k - 48]?)))) (cond (Nat.ble 24 k) (cond (Nat.ble 12 (k - 24)) (cond (Nat.ble 6 ((k - 24) - 12)) (oc_7[((k - 24) - 12) - 6]?) (oc_6[(k - 24) - 12]?)) (cond (Nat.ble 6 (k - 24)) (oc_5[(k - 24) - 6]?) (oc_4[k - 24]?))) (cond (Nat.ble 12 k) (cond (Nat.ble 6 (k - 12)) (oc_3[(k - 12) - 6]?) (oc_2[k - 12]?)) (cond (Nat.ble 6 k) (oc_1[k - 6]?) (oc_0[k]?))))
theorem cm_opF_eq (k : Nat) : cm_opF k = cm_ops[k]? := by
  have e : cm_ops = (((oc_0 ++ oc_1) ++ (oc_2 ++ oc_3)) ++ ((oc_4 ++ oc_5) ++ (oc_6 ++ oc_7))) ++ (((oc_8 ++ oc_9) ++ (oc_10 ++ oc_11)) ++ ((oc_12 ++ oc_13) ++ (oc_14 ++ oc_15))) := rfl
  rw [e]
  unfold cm_opF
  exact ac_at rfl (ac_at rfl (ac_at rfl (ac_at rfl rfl rfl) (ac_at rfl rfl rfl)) (ac_at rfl (ac_at rfl rfl rfl) (ac_at rfl rfl rfl))) (ac_at rfl (ac_at rfl (ac_at rfl rfl rfl) (ac_at rfl rfl rfl)) (ac_at rfl (ac_at rfl rfl rfl) (ac_at rfl rfl rfl)))
noncomputable def cm_rowF (ms : List ev_MI) (P : ev_P) (r : ev_Row) : Option (Instr × Nat × List Cond) :=
  match r.1 with
  | 200 => (match ms[r.2.1.toNat]? with
    | some mi => some (.invokevirtual r.2.2.1.toNat, 3, [.methodLink P.2.2.2.1 r.2.2.1.toNat mi.1, .instanceMethod mi.1, .selects mi.1.cls mi.1 mi.1, .initialized mi.1.cls])
    | none => none)
  | 201 => (match ms[r.2.1.toNat]? with
    | some mi => some (.invokestatic r.2.2.1.toNat, 3, [.methodLink P.2.2.2.1 r.2.2.1.toNat mi.1, .static mi.1, .initialized mi.1.cls])
    | none => none)
  | 210 => some (.ireturn, 1, [])
  | 211 => some (.lreturn, 1, [])
  | 212 => some (.areturn, 1, [])
  | 213 => some (.return_, 1, [])
  | k => (match cm_opF k with
    | some o => o.1 P r.2
    | none => none)
theorem cm_rowF_eq (ms : List ev_MI) (P : ev_P) (r : ev_Row) : cm_rowF ms P r = cm_rowI ms P r := by
  have e : cm_opF = fun k => cm_ops[k]? := funext cm_opF_eq
  unfold cm_rowF
  rw [e]
  rfl
theorem fd_bind {α β : Type} {r : Decoder α} {f : α → Decoder β} {cc : ByteArray} {p p' : Nat} {x : α} (h : r cc p = .ok (x, p')) : (r >>= f) cc p = f x cc p' := by
  have e : (r >>= f) cc p = Except.bind (r cc p) (fun q => match q with | (a, s) => f a cc s) := rfl
  rw [e, h]
  rfl
theorem fd_map {α β : Type} {r : Decoder α} {f : α → β} {cc : ByteArray} {p p' : Nat} {x : α} (h : r cc p = .ok (x, p')) : (f <$> r) cc p = .ok (f x, p') := by
  have e : (f <$> r) cc p = Except.bind (r cc p) (fun q => match q with | (a, s) => Except.ok (f a, s)) := rfl
  rw [e, h]
  rfl
theorem fd_u1 {cc : ByteArray} {p : Nat} {b : UInt8} {l : List UInt8} (h : cc.data.toList.drop p = b :: l) : (Reader.u1 : Decoder Nat) cc p = .ok (b.toNat, p + 1) ∧ cc.data.toList.drop (p + 1) = l := by
  have hlt : p < cc.data.toList.length := by
    have e := congrArg List.length h
    rw [List.length_drop, List.length_cons] at e
    omega
  have hs : p < cc.size := hlt
  have g : cc.data.toList[p]'hlt = b := by
    have q : (cc.data.toList.drop p)[0]? = some b := by rw [h]; rfl
    rw [List.getElem?_drop, Nat.add_zero, List.getElem?_eq_getElem hlt] at q
    exact Option.some.inj q
  refine ⟨?_, ?_⟩
  · have e : (Reader.u1 : Decoder Nat) cc p = (dite (p < cc.size) (fun h => (do set (p + 1); pure (cc[p]'h).toNat : Decoder Nat)) (fun _ => throw (HasTruncated.truncated p))) cc p := rfl
    rw [e, dif_pos hs]
    show Except.ok ((cc.data.toList[p]'hlt).toNat, p + 1) = _
    rw [g]
  · have q : (cc.data.toList.drop p).drop 1 = l := by rw [h]; rfl
    rw [List.drop_drop] at q
    exact q
theorem fd_u2 {cc : ByteArray} {p : Nat} {a b : UInt8} {l : List UInt8} (h : cc.data.toList.drop p = a :: b :: l) : (Reader.u2 : Decoder Nat) cc p = .ok (a.toNat * 256 + b.toNat, p + 2) := by
  have h1 := fd_u1 h
  have h2 := fd_u1 h1.2
  unfold Reader.u2
  refine Eq.trans (fd_bind h1.1) ?_
  refine Eq.trans (fd_bind h2.1) ?_
  rfl
theorem fd_dec {cc : ByteArray} {p n : Nat} {i : Instr} (h : (Decoder.instr p) cc p = .ok (i, p + n)) : decode cc p = .ok (i, n) := by
  have e : decode cc p = Except.bind ((Decoder.instr p) cc p) (fun q => match q with | (a, s) => Except.ok (a, s - p)) := rfl
  rw [e, h]
  show Except.ok (i, p + n - p) = _
  rw [Nat.add_sub_cancel_left]
noncomputable def fd_1 (op n : Nat) : List UInt8 → Bool
  | a :: _ => Nat.beq a.toNat op && Nat.beq n 1
  | _ => false
noncomputable def fd_2 (op : Nat) (f : Nat → Bool) (n : Nat) : List UInt8 → Bool
  | a :: b :: _ => Nat.beq a.toNat op && (Nat.beq n 2 && f b.toNat)
  | _ => false
noncomputable def fd_3 (op : Nat) (f : Nat → Bool) (n : Nat) : List UInt8 → Bool
  | a :: b :: c :: _ => Nat.beq a.toNat op && (Nat.beq n 3 && f (b.toNat * 256 + c.toNat))
  | _ => false
theorem fd_1_ok {cc : ByteArray} {p op n : Nat} (h : fd_1 op n (cc.data.toList.drop p) = true) : (Reader.u1 : Decoder Nat) cc p = .ok (op, p + 1) ∧ n = 1 := by
  unfold fd_1 at h
  split at h
  · rename_i a l hl
    rw [Bool.and_eq_true] at h
    rw [← Nat.eq_of_beq_eq_true h.1]
    exact ⟨(fd_u1 hl).1, Nat.eq_of_beq_eq_true h.2⟩
  · cases h
theorem fd_2_ok {cc : ByteArray} {p op n : Nat} {f : Nat → Bool} (h : fd_2 op f n (cc.data.toList.drop p) = true) : ∃ x, (Reader.u1 : Decoder Nat) cc p = .ok (op, p + 1) ∧ (Reader.u1 : Decoder Nat) cc (p + 1) = .ok (x, p + 2) ∧ f x = true ∧ n = 2 := by
  unfold fd_2 at h
  split at h
  · rename_i a b l hl
    rw [Bool.and_eq_true, Bool.and_eq_true] at h
    rw [← Nat.eq_of_beq_eq_true h.1]
    exact ⟨b.toNat, (fd_u1 hl).1, (fd_u1 (fd_u1 hl).2).1, h.2.2, Nat.eq_of_beq_eq_true h.2.1⟩
  · cases h
theorem fd_3_ok {cc : ByteArray} {p op n : Nat} {f : Nat → Bool} (h : fd_3 op f n (cc.data.toList.drop p) = true) : ∃ x, (Reader.u1 : Decoder Nat) cc p = .ok (op, p + 1) ∧ (Reader.u2 : Decoder Nat) cc (p + 1) = .ok (x, p + 3) ∧ f x = true ∧ n = 3 := by
  unfold fd_3 at h
  split at h
  · rename_i a b c l hl
    rw [Bool.and_eq_true, Bool.and_eq_true] at h
    rw [← Nat.eq_of_beq_eq_true h.1]
    exact ⟨b.toNat * 256 + c.toNat, (fd_u1 hl).1, fd_u2 (fd_u1 hl).2, h.2.2, Nat.eq_of_beq_eq_true h.2.1⟩
  · cases h
theorem fx_iadd {cc : ByteArray} {p : Nat} (h : (Reader.u1 : Decoder Nat) cc p = .ok (96, p + 1)) : decode cc p = .ok (.iadd, 1) := fd_dec (by
  refine Eq.trans (fd_bind h) ?_
  rfl)
theorem fx_isub {cc : ByteArray} {p : Nat} (h : (Reader.u1 : Decoder Nat) cc p = .ok (100, p + 1)) : decode cc p = .ok (.isub, 1) := fd_dec (by
  refine Eq.trans (fd_bind h) ?_
  rfl)
theorem fx_imul {cc : ByteArray} {p : Nat} (h : (Reader.u1 : Decoder Nat) cc p = .ok (104, p + 1)) : decode cc p = .ok (.imul, 1) := fd_dec (by
  refine Eq.trans (fd_bind h) ?_
  rfl)
theorem fx_iand {cc : ByteArray} {p : Nat} (h : (Reader.u1 : Decoder Nat) cc p = .ok (126, p + 1)) : decode cc p = .ok (.iand, 1) := fd_dec (by
  refine Eq.trans (fd_bind h) ?_
  rfl)
theorem fx_ior {cc : ByteArray} {p : Nat} (h : (Reader.u1 : Decoder Nat) cc p = .ok (128, p + 1)) : decode cc p = .ok (.ior, 1) := fd_dec (by
  refine Eq.trans (fd_bind h) ?_
  rfl)
theorem fx_ishl {cc : ByteArray} {p : Nat} (h : (Reader.u1 : Decoder Nat) cc p = .ok (120, p + 1)) : decode cc p = .ok (.ishl, 1) := fd_dec (by
  refine Eq.trans (fd_bind h) ?_
  rfl)
theorem fx_iaload {cc : ByteArray} {p : Nat} (h : (Reader.u1 : Decoder Nat) cc p = .ok (46, p + 1)) : decode cc p = .ok (.iaload, 1) := fd_dec (by
  refine Eq.trans (fd_bind h) ?_
  rfl)
theorem fx_iastore {cc : ByteArray} {p : Nat} (h : (Reader.u1 : Decoder Nat) cc p = .ok (79, p + 1)) : decode cc p = .ok (.iastore, 1) := fd_dec (by
  refine Eq.trans (fd_bind h) ?_
  rfl)
theorem fx_ireturn {cc : ByteArray} {p : Nat} (h : (Reader.u1 : Decoder Nat) cc p = .ok (172, p + 1)) : decode cc p = .ok (.ireturn, 1) := fd_dec (by
  refine Eq.trans (fd_bind h) ?_
  rfl)
theorem fx_return_ {cc : ByteArray} {p : Nat} (h : (Reader.u1 : Decoder Nat) cc p = .ok (177, p + 1)) : decode cc p = .ok (.return_, 1) := fd_dec (by
  refine Eq.trans (fd_bind h) ?_
  rfl)
theorem fx_iload_n0 {cc : ByteArray} {p : Nat} (h : (Reader.u1 : Decoder Nat) cc p = .ok (26, p + 1)) : decode cc p = .ok (.iload_n 0, 1) := fd_dec (by
  refine Eq.trans (fd_bind h) ?_
  rfl)
theorem fx_iload_n1 {cc : ByteArray} {p : Nat} (h : (Reader.u1 : Decoder Nat) cc p = .ok (27, p + 1)) : decode cc p = .ok (.iload_n 1, 1) := fd_dec (by
  refine Eq.trans (fd_bind h) ?_
  rfl)
theorem fx_iload_n2 {cc : ByteArray} {p : Nat} (h : (Reader.u1 : Decoder Nat) cc p = .ok (28, p + 1)) : decode cc p = .ok (.iload_n 2, 1) := fd_dec (by
  refine Eq.trans (fd_bind h) ?_
  rfl)
theorem fx_iload_n3 {cc : ByteArray} {p : Nat} (h : (Reader.u1 : Decoder Nat) cc p = .ok (29, p + 1)) : decode cc p = .ok (.iload_n 3, 1) := fd_dec (by
  refine Eq.trans (fd_bind h) ?_
  rfl)
theorem fx_aload_n0 {cc : ByteArray} {p : Nat} (h : (Reader.u1 : Decoder Nat) cc p = .ok (42, p + 1)) : decode cc p = .ok (.aload_n 0, 1) := fd_dec (by
  refine Eq.trans (fd_bind h) ?_
  rfl)
theorem fx_aload_n1 {cc : ByteArray} {p : Nat} (h : (Reader.u1 : Decoder Nat) cc p = .ok (43, p + 1)) : decode cc p = .ok (.aload_n 1, 1) := fd_dec (by
  refine Eq.trans (fd_bind h) ?_
  rfl)
theorem fx_aload_n2 {cc : ByteArray} {p : Nat} (h : (Reader.u1 : Decoder Nat) cc p = .ok (44, p + 1)) : decode cc p = .ok (.aload_n 2, 1) := fd_dec (by
  refine Eq.trans (fd_bind h) ?_
  rfl)
theorem fx_aload_n3 {cc : ByteArray} {p : Nat} (h : (Reader.u1 : Decoder Nat) cc p = .ok (45, p + 1)) : decode cc p = .ok (.aload_n 3, 1) := fd_dec (by
  refine Eq.trans (fd_bind h) ?_
  rfl)
theorem fx_istore_n0 {cc : ByteArray} {p : Nat} (h : (Reader.u1 : Decoder Nat) cc p = .ok (59, p + 1)) : decode cc p = .ok (.istore_n 0, 1) := fd_dec (by
  refine Eq.trans (fd_bind h) ?_
  rfl)
theorem fx_istore_n1 {cc : ByteArray} {p : Nat} (h : (Reader.u1 : Decoder Nat) cc p = .ok (60, p + 1)) : decode cc p = .ok (.istore_n 1, 1) := fd_dec (by
  refine Eq.trans (fd_bind h) ?_
  rfl)
theorem fx_istore_n2 {cc : ByteArray} {p : Nat} (h : (Reader.u1 : Decoder Nat) cc p = .ok (61, p + 1)) : decode cc p = .ok (.istore_n 2, 1) := fd_dec (by
  refine Eq.trans (fd_bind h) ?_
  rfl)
theorem fx_istore_n3 {cc : ByteArray} {p : Nat} (h : (Reader.u1 : Decoder Nat) cc p = .ok (62, p + 1)) : decode cc p = .ok (.istore_n 3, 1) := fd_dec (by
  refine Eq.trans (fd_bind h) ?_
  rfl)
theorem fx_iconst0 {cc : ByteArray} {p : Nat} (h : (Reader.u1 : Decoder Nat) cc p = .ok (2, p + 1)) : decode cc p = .ok (.iconst (-1), 1) := fd_dec (by
  refine Eq.trans (fd_bind h) ?_
  rfl)
theorem fx_iconst1 {cc : ByteArray} {p : Nat} (h : (Reader.u1 : Decoder Nat) cc p = .ok (3, p + 1)) : decode cc p = .ok (.iconst (0), 1) := fd_dec (by
  refine Eq.trans (fd_bind h) ?_
  rfl)
theorem fx_iconst2 {cc : ByteArray} {p : Nat} (h : (Reader.u1 : Decoder Nat) cc p = .ok (4, p + 1)) : decode cc p = .ok (.iconst (1), 1) := fd_dec (by
  refine Eq.trans (fd_bind h) ?_
  rfl)
theorem fx_iconst3 {cc : ByteArray} {p : Nat} (h : (Reader.u1 : Decoder Nat) cc p = .ok (5, p + 1)) : decode cc p = .ok (.iconst (2), 1) := fd_dec (by
  refine Eq.trans (fd_bind h) ?_
  rfl)
theorem fx_iconst4 {cc : ByteArray} {p : Nat} (h : (Reader.u1 : Decoder Nat) cc p = .ok (6, p + 1)) : decode cc p = .ok (.iconst (3), 1) := fd_dec (by
  refine Eq.trans (fd_bind h) ?_
  rfl)
theorem fx_iconst5 {cc : ByteArray} {p : Nat} (h : (Reader.u1 : Decoder Nat) cc p = .ok (7, p + 1)) : decode cc p = .ok (.iconst (4), 1) := fd_dec (by
  refine Eq.trans (fd_bind h) ?_
  rfl)
theorem fx_iconst6 {cc : ByteArray} {p : Nat} (h : (Reader.u1 : Decoder Nat) cc p = .ok (8, p + 1)) : decode cc p = .ok (.iconst (5), 1) := fd_dec (by
  refine Eq.trans (fd_bind h) ?_
  rfl)
theorem fx_iload {cc : ByteArray} {p : Nat} {x : Nat} (h : (Reader.u1 : Decoder Nat) cc p = .ok (21, p + 1)) (g : (Reader.u1 : Decoder Nat) cc (p + 1) = .ok (x, p + 2)) : decode cc p = .ok (.iload x, 2) := fd_dec (by
  refine Eq.trans (fd_bind h) ?_
  refine Eq.trans (fd_bind g) ?_
  rfl)
theorem fx_istore {cc : ByteArray} {p : Nat} {x : Nat} (h : (Reader.u1 : Decoder Nat) cc p = .ok (54, p + 1)) (g : (Reader.u1 : Decoder Nat) cc (p + 1) = .ok (x, p + 2)) : decode cc p = .ok (.istore x, 2) := fd_dec (by
  refine Eq.trans (fd_bind h) ?_
  refine Eq.trans (fd_bind g) ?_
  rfl)
theorem fx_bipush {cc : ByteArray} {p : Nat} {x : Nat} (h : (Reader.u1 : Decoder Nat) cc p = .ok (16, p + 1)) (g : (Reader.u1 : Decoder Nat) cc (p + 1) = .ok (x, p + 2)) : decode cc p = .ok (.bipush (Reader.signed 8 x), 2) := fd_dec (by
  refine Eq.trans (fd_bind h) ?_
  refine Eq.trans (fd_bind (fd_map g)) ?_
  rfl)
theorem fx_getfield {cc : ByteArray} {p : Nat} {x : Nat} (h : (Reader.u1 : Decoder Nat) cc p = .ok (180, p + 1)) (g : (Reader.u2 : Decoder Nat) cc (p + 1) = .ok (x, p + 3)) : decode cc p = .ok (.getfield x, 3) := fd_dec (by
  refine Eq.trans (fd_bind h) ?_
  refine Eq.trans (fd_bind g) ?_
  rfl)
theorem fx_putfield {cc : ByteArray} {p : Nat} {x : Nat} (h : (Reader.u1 : Decoder Nat) cc p = .ok (181, p + 1)) (g : (Reader.u2 : Decoder Nat) cc (p + 1) = .ok (x, p + 3)) : decode cc p = .ok (.putfield x, 3) := fd_dec (by
  refine Eq.trans (fd_bind h) ?_
  refine Eq.trans (fd_bind g) ?_
  rfl)
theorem fx_invokevirtual {cc : ByteArray} {p : Nat} {x : Nat} (h : (Reader.u1 : Decoder Nat) cc p = .ok (182, p + 1)) (g : (Reader.u2 : Decoder Nat) cc (p + 1) = .ok (x, p + 3)) : decode cc p = .ok (.invokevirtual x, 3) := fd_dec (by
  refine Eq.trans (fd_bind h) ?_
  refine Eq.trans (fd_bind g) ?_
  rfl)
theorem fx_invokestatic {cc : ByteArray} {p : Nat} {x : Nat} (h : (Reader.u1 : Decoder Nat) cc p = .ok (184, p + 1)) (g : (Reader.u2 : Decoder Nat) cc (p + 1) = .ok (x, p + 3)) : decode cc p = .ok (.invokestatic x, 3) := fd_dec (by
  refine Eq.trans (fd_bind h) ?_
  refine Eq.trans (fd_bind g) ?_
  rfl)
theorem fx_goto {cc : ByteArray} {p : Nat} {x : Nat} (h : (Reader.u1 : Decoder Nat) cc p = .ok (167, p + 1)) (g : (Reader.u2 : Decoder Nat) cc (p + 1) = .ok (x, p + 3)) : decode cc p = .ok (.goto (Reader.signed 16 x), 3) := fd_dec (by
  refine Eq.trans (fd_bind h) ?_
  refine Eq.trans (fd_bind (fd_map g)) ?_
  rfl)
theorem fx_ifCond_eq {cc : ByteArray} {p : Nat} {x : Nat} (h : (Reader.u1 : Decoder Nat) cc p = .ok (153, p + 1)) (g : (Reader.u2 : Decoder Nat) cc (p + 1) = .ok (x, p + 3)) : decode cc p = .ok (.ifCond .eq (Reader.signed 16 x), 3) := fd_dec (by
  refine Eq.trans (fd_bind h) ?_
  refine Eq.trans (fd_bind (fd_map g)) ?_
  rfl)
theorem fx_ifCond_ne {cc : ByteArray} {p : Nat} {x : Nat} (h : (Reader.u1 : Decoder Nat) cc p = .ok (154, p + 1)) (g : (Reader.u2 : Decoder Nat) cc (p + 1) = .ok (x, p + 3)) : decode cc p = .ok (.ifCond .ne (Reader.signed 16 x), 3) := fd_dec (by
  refine Eq.trans (fd_bind h) ?_
  refine Eq.trans (fd_bind (fd_map g)) ?_
  rfl)
theorem fx_ifCond_lt {cc : ByteArray} {p : Nat} {x : Nat} (h : (Reader.u1 : Decoder Nat) cc p = .ok (155, p + 1)) (g : (Reader.u2 : Decoder Nat) cc (p + 1) = .ok (x, p + 3)) : decode cc p = .ok (.ifCond .lt (Reader.signed 16 x), 3) := fd_dec (by
  refine Eq.trans (fd_bind h) ?_
  refine Eq.trans (fd_bind (fd_map g)) ?_
  rfl)
theorem fx_ifCond_ge {cc : ByteArray} {p : Nat} {x : Nat} (h : (Reader.u1 : Decoder Nat) cc p = .ok (156, p + 1)) (g : (Reader.u2 : Decoder Nat) cc (p + 1) = .ok (x, p + 3)) : decode cc p = .ok (.ifCond .ge (Reader.signed 16 x), 3) := fd_dec (by
  refine Eq.trans (fd_bind h) ?_
  refine Eq.trans (fd_bind (fd_map g)) ?_
  rfl)
theorem fx_ifCond_gt {cc : ByteArray} {p : Nat} {x : Nat} (h : (Reader.u1 : Decoder Nat) cc p = .ok (157, p + 1)) (g : (Reader.u2 : Decoder Nat) cc (p + 1) = .ok (x, p + 3)) : decode cc p = .ok (.ifCond .gt (Reader.signed 16 x), 3) := fd_dec (by
  refine Eq.trans (fd_bind h) ?_
  refine Eq.trans (fd_bind (fd_map g)) ?_
  rfl)
theorem fx_ifCond_le {cc : ByteArray} {p : Nat} {x : Nat} (h : (Reader.u1 : Decoder Nat) cc p = .ok (158, p + 1)) (g : (Reader.u2 : Decoder Nat) cc (p + 1) = .ok (x, p + 3)) : decode cc p = .ok (.ifCond .le (Reader.signed 16 x), 3) := fd_dec (by
  refine Eq.trans (fd_bind h) ?_
  refine Eq.trans (fd_bind (fd_map g)) ?_
  rfl)
theorem fx_if_icmp_eq {cc : ByteArray} {p : Nat} {x : Nat} (h : (Reader.u1 : Decoder Nat) cc p = .ok (159, p + 1)) (g : (Reader.u2 : Decoder Nat) cc (p + 1) = .ok (x, p + 3)) : decode cc p = .ok (.if_icmp .eq (Reader.signed 16 x), 3) := fd_dec (by
  refine Eq.trans (fd_bind h) ?_
  refine Eq.trans (fd_bind (fd_map g)) ?_
  rfl)
theorem fx_if_icmp_ne {cc : ByteArray} {p : Nat} {x : Nat} (h : (Reader.u1 : Decoder Nat) cc p = .ok (160, p + 1)) (g : (Reader.u2 : Decoder Nat) cc (p + 1) = .ok (x, p + 3)) : decode cc p = .ok (.if_icmp .ne (Reader.signed 16 x), 3) := fd_dec (by
  refine Eq.trans (fd_bind h) ?_
  refine Eq.trans (fd_bind (fd_map g)) ?_
  rfl)
theorem fx_if_icmp_lt {cc : ByteArray} {p : Nat} {x : Nat} (h : (Reader.u1 : Decoder Nat) cc p = .ok (161, p + 1)) (g : (Reader.u2 : Decoder Nat) cc (p + 1) = .ok (x, p + 3)) : decode cc p = .ok (.if_icmp .lt (Reader.signed 16 x), 3) := fd_dec (by
  refine Eq.trans (fd_bind h) ?_
  refine Eq.trans (fd_bind (fd_map g)) ?_
  rfl)
theorem fx_if_icmp_ge {cc : ByteArray} {p : Nat} {x : Nat} (h : (Reader.u1 : Decoder Nat) cc p = .ok (162, p + 1)) (g : (Reader.u2 : Decoder Nat) cc (p + 1) = .ok (x, p + 3)) : decode cc p = .ok (.if_icmp .ge (Reader.signed 16 x), 3) := fd_dec (by
  refine Eq.trans (fd_bind h) ?_
  refine Eq.trans (fd_bind (fd_map g)) ?_
  rfl)
theorem fx_if_icmp_gt {cc : ByteArray} {p : Nat} {x : Nat} (h : (Reader.u1 : Decoder Nat) cc p = .ok (163, p + 1)) (g : (Reader.u2 : Decoder Nat) cc (p + 1) = .ok (x, p + 3)) : decode cc p = .ok (.if_icmp .gt (Reader.signed 16 x), 3) := fd_dec (by
  refine Eq.trans (fd_bind h) ?_
  refine Eq.trans (fd_bind (fd_map g)) ?_
  rfl)
theorem fx_if_icmp_le {cc : ByteArray} {p : Nat} {x : Nat} (h : (Reader.u1 : Decoder Nat) cc p = .ok (164, p + 1)) (g : (Reader.u2 : Decoder Nat) cc (p + 1) = .ok (x, p + 3)) : decode cc p = .ok (.if_icmp .le (Reader.signed 16 x), 3) := fd_dec (by
  refine Eq.trans (fd_bind h) ?_
  refine Eq.trans (fd_bind (fd_map g)) ?_
  rfl)
noncomputable def fd_cd : ClassFile.Cond → Nat
  | .eq => 0
  | .ne => 1
  | .lt => 2
  | .ge => 3
  | .gt => 4
  | .le => 5
/-- an instruction stands at the head of these bytes -/
noncomputable def fd_is (i : Instr) (n : Nat) (l : List UInt8) : Bool := match i with
  | .iload_n k => fd_1 (26 + k.val) n l
  | .aload_n k => fd_1 (42 + k.val) n l
  | .istore_n k => fd_1 (59 + k.val) n l
  | .iconst t => decide (-1 ≤ t ∧ t ≤ 5) && fd_1 (t + 3).toNat n l
  | .iadd => fd_1 96 n l
  | .isub => fd_1 100 n l
  | .imul => fd_1 104 n l
  | .iand => fd_1 126 n l
  | .ior => fd_1 128 n l
  | .ishl => fd_1 120 n l
  | .iaload => fd_1 46 n l
  | .iastore => fd_1 79 n l
  | .ireturn => fd_1 172 n l
  | .return_ => fd_1 177 n l
  | .iload k => fd_2 21 (fun x => Nat.beq x k) n l
  | .istore k => fd_2 54 (fun x => Nat.beq x k) n l
  | .bipush t => fd_2 16 (fun x => decide (Reader.signed 8 x = t)) n l
  | .getfield k => fd_3 180 (fun x => Nat.beq x k) n l
  | .putfield k => fd_3 181 (fun x => Nat.beq x k) n l
  | .invokevirtual k => fd_3 182 (fun x => Nat.beq x k) n l
  | .invokestatic k => fd_3 184 (fun x => Nat.beq x k) n l
  | .goto o => fd_3 167 (fun x => decide (Reader.signed 16 x = o)) n l
  | .ifCond c o => fd_3 (153 + fd_cd c) (fun x => decide (Reader.signed 16 x = o)) n l
  | .if_icmp c o => fd_3 (159 + fd_cd c) (fun x => decide (Reader.signed 16 x = o)) n l
  | _ => false
theorem fd_is_ok {cc : ByteArray} {p n : Nat} {i : Instr} (h : fd_is i n (cc.data.toList.drop p) = true) : decode cc p = .ok (i, n) := by
  cases i
  case iload_n k =>
    obtain ⟨h1, rfl⟩ := fd_1_ok h
    obtain ⟨k, hk⟩ := k
    have e : k = 0 ∨ k = 1 ∨ k = 2 ∨ k = 3 := by omega
    rcases e with rfl | rfl | rfl | rfl
    · exact fx_iload_n0 h1
    · exact fx_iload_n1 h1
    · exact fx_iload_n2 h1
    · exact fx_iload_n3 h1
  case aload_n k =>
    obtain ⟨h1, rfl⟩ := fd_1_ok h
    obtain ⟨k, hk⟩ := k
    have e : k = 0 ∨ k = 1 ∨ k = 2 ∨ k = 3 := by omega
    rcases e with rfl | rfl | rfl | rfl
    · exact fx_aload_n0 h1
    · exact fx_aload_n1 h1
    · exact fx_aload_n2 h1
    · exact fx_aload_n3 h1
  case istore_n k =>
    obtain ⟨h1, rfl⟩ := fd_1_ok h
    obtain ⟨k, hk⟩ := k
    have e : k = 0 ∨ k = 1 ∨ k = 2 ∨ k = 3 := by omega
    rcases e with rfl | rfl | rfl | rfl
    · exact fx_istore_n0 h1
    · exact fx_istore_n1 h1
    · exact fx_istore_n2 h1
    · exact fx_istore_n3 h1
  case iconst t =>
    have h : (decide (-1 ≤ t ∧ t ≤ 5) && fd_1 (t + 3).toNat n (cc.data.toList.drop p)) = true := h
    rw [Bool.and_eq_true, decide_eq_true_eq] at h
    obtain ⟨h0, h2⟩ := h
    obtain ⟨h1, rfl⟩ := fd_1_ok h2
    have e : t = -1 ∨ t = 0 ∨ t = 1 ∨ t = 2 ∨ t = 3 ∨ t = 4 ∨ t = 5 := by omega
    rcases e with rfl | rfl | rfl | rfl | rfl | rfl | rfl
    · exact fx_iconst0 h1
    · exact fx_iconst1 h1
    · exact fx_iconst2 h1
    · exact fx_iconst3 h1
    · exact fx_iconst4 h1
    · exact fx_iconst5 h1
    · exact fx_iconst6 h1
  case iadd =>
    obtain ⟨h1, rfl⟩ := fd_1_ok h
    exact fx_iadd h1
  case isub =>
    obtain ⟨h1, rfl⟩ := fd_1_ok h
    exact fx_isub h1
  case imul =>
    obtain ⟨h1, rfl⟩ := fd_1_ok h
    exact fx_imul h1
  case iand =>
    obtain ⟨h1, rfl⟩ := fd_1_ok h
    exact fx_iand h1
  case ior =>
    obtain ⟨h1, rfl⟩ := fd_1_ok h
    exact fx_ior h1
  case ishl =>
    obtain ⟨h1, rfl⟩ := fd_1_ok h
    exact fx_ishl h1
  case iaload =>
    obtain ⟨h1, rfl⟩ := fd_1_ok h
    exact fx_iaload h1
  case iastore =>
    obtain ⟨h1, rfl⟩ := fd_1_ok h
    exact fx_iastore h1
  case ireturn =>
    obtain ⟨h1, rfl⟩ := fd_1_ok h
    exact fx_ireturn h1
  case return_ =>
    obtain ⟨h1, rfl⟩ := fd_1_ok h
    exact fx_return_ h1
  case iload k =>
    have h : fd_2 21 (fun x => Nat.beq x k) n (cc.data.toList.drop p) = true := h
    obtain ⟨x, h1, h2, h3, rfl⟩ := fd_2_ok h
    have e : x = k := Nat.eq_of_beq_eq_true h3
    subst e
    exact fx_iload h1 h2
  case istore k =>
    have h : fd_2 54 (fun x => Nat.beq x k) n (cc.data.toList.drop p) = true := h
    obtain ⟨x, h1, h2, h3, rfl⟩ := fd_2_ok h
    have e : x = k := Nat.eq_of_beq_eq_true h3
    subst e
    exact fx_istore h1 h2
  case bipush t =>
    have h : fd_2 16 (fun x => decide (Reader.signed 8 x = t)) n (cc.data.toList.drop p) = true := h
    obtain ⟨x, h1, h2, h3, rfl⟩ := fd_2_ok h
    have e : Reader.signed 8 x = t := of_decide_eq_true h3
    subst e
    exact fx_bipush h1 h2
  case getfield k =>
    have h : fd_3 180 (fun x => Nat.beq x k) n (cc.data.toList.drop p) = true := h
    obtain ⟨x, h1, h2, h3, rfl⟩ := fd_3_ok h
    have e : x = k := Nat.eq_of_beq_eq_true h3
    subst e
    exact fx_getfield h1 h2
  case putfield k =>
    have h : fd_3 181 (fun x => Nat.beq x k) n (cc.data.toList.drop p) = true := h
    obtain ⟨x, h1, h2, h3, rfl⟩ := fd_3_ok h
    have e : x = k := Nat.eq_of_beq_eq_true h3
    subst e
    exact fx_putfield h1 h2
  case invokevirtual k =>
    have h : fd_3 182 (fun x => Nat.beq x k) n (cc.data.toList.drop p) = true := h
    obtain ⟨x, h1, h2, h3, rfl⟩ := fd_3_ok h
    have e : x = k := Nat.eq_of_beq_eq_true h3
    subst e
    exact fx_invokevirtual h1 h2
  case invokestatic k =>
    have h : fd_3 184 (fun x => Nat.beq x k) n (cc.data.toList.drop p) = true := h
    obtain ⟨x, h1, h2, h3, rfl⟩ := fd_3_ok h
    have e : x = k := Nat.eq_of_beq_eq_true h3
    subst e
    exact fx_invokestatic h1 h2
  case goto o =>
    have h : fd_3 167 (fun x => decide (Reader.signed 16 x = o)) n (cc.data.toList.drop p) = true := h
    obtain ⟨x, h1, h2, h3, rfl⟩ := fd_3_ok h
    have e : Reader.signed 16 x = o := of_decide_eq_true h3
    subst e
    exact fx_goto h1 h2
  case ifCond c o =>
    have h : fd_3 (153 + fd_cd c) (fun x => decide (Reader.signed 16 x = o)) n (cc.data.toList.drop p) = true := h
    obtain ⟨x, h1, h2, h3, rfl⟩ := fd_3_ok h
    have e : Reader.signed 16 x = o := of_decide_eq_true h3
    subst e
    cases c
    case eq => exact fx_ifCond_eq h1 h2
    case ne => exact fx_ifCond_ne h1 h2
    case lt => exact fx_ifCond_lt h1 h2
    case ge => exact fx_ifCond_ge h1 h2
    case gt => exact fx_ifCond_gt h1 h2
    case le => exact fx_ifCond_le h1 h2
  case if_icmp c o =>
    have h : fd_3 (159 + fd_cd c) (fun x => decide (Reader.signed 16 x = o)) n (cc.data.toList.drop p) = true := h
    obtain ⟨x, h1, h2, h3, rfl⟩ := fd_3_ok h
    have e : Reader.signed 16 x = o := of_decide_eq_true h3
    subst e
    cases c
    case eq => exact fx_if_icmp_eq h1 h2
    case ne => exact fx_if_icmp_ne h1 h2
    case lt => exact fx_if_icmp_lt h1 h2
    case ge => exact fx_if_icmp_ge h1 h2
    case gt => exact fx_if_icmp_gt h1 h2
    case le => exact fx_if_icmp_le h1 h2
  all_goals exact absurd h Bool.false_ne_true
noncomputable def fd_at (cc : ByteArray) (p : Nat) (i : Instr) (n : Nat) : Bool := fd_is i n (cc.data.toList.drop p) || decide (decode cc p = .ok (i, n))
theorem fd_at_ok {cc : ByteArray} {p n : Nat} {i : Instr} (h : fd_at cc p i n = true) : decode cc p = .ok (i, n) := by
  unfold fd_at at h
  rw [Bool.or_eq_true] at h
  rcases h with h | h
  · exact fd_is_ok h
  · exact of_decide_eq_true h
noncomputable def fd_chk1 (ms : List ev_MI) (P : ev_P) (cc : ByteArray) (l : List UInt8) (q : Nat × ev_Row) (ps : List Nat) : Bool := match cm_rowF ms P q.2 with
  | some (i, n, cs) => (fd_is i n l || decide (decode cc q.1 = .ok (i, n))) && (decide (cs.map some = ps.map lw_at) && cs.all goodWord)
  | none => false
noncomputable def fd_chkR (ms : List ev_MI) (P : ev_P) (cc : ByteArray) : Nat → List UInt8 → List (Nat × ev_Row) → List (List Nat) → Bool
  | _, _, [], [] => true
  | p0, l, q :: rows, p :: ps => Nat.ble p0 q.1 && (fd_chk1 ms P cc (l.drop (q.1 - p0)) q p && fd_chkR ms P cc q.1 (l.drop (q.1 - p0)) rows ps)
  | _, _, _, _ => false
theorem fd_dr {cc : ByteArray} {p0 p : Nat} {l : List UInt8} (hl : l = cc.data.toList.drop p0) (hp : Nat.ble p0 p = true) : l.drop (p - p0) = cc.data.toList.drop p := by
  have := Nat.le_of_ble_eq_true hp
  rw [hl, List.drop_drop, show p0 + (p - p0) = p from by omega]
theorem fd_chkR_ok {ms : List ev_MI} {P : ev_P} {cc : ByteArray} : ∀ {rows : List (Nat × ev_Row)} {ps : List (List Nat)} {p0 : Nat} {l : List UInt8}, l = cc.data.toList.drop p0 → fd_chkR ms P cc p0 l rows ps = true → ∀ q ∈ rows, cm_RowOK ms P cc q
  | [], [], _, _, _, _ => fun q hq => nomatch hq
  | [], _ :: _, _, _, _, h => by cases h
  | _ :: _, [], _, _, _, h => by cases h
  | q :: rows, p :: ps, p0, l, hl, h => by
    unfold fd_chkR at h
    rw [Bool.and_eq_true, Bool.and_eq_true] at h
    obtain ⟨h0, h1, h3⟩ := h
    have hd := fd_dr hl h0
    intro q' hq'
    rcases List.mem_cons.mp hq' with rfl | hq'
    · unfold fd_chk1 at h1
      split at h1
      · rename_i i n cs hi
        rw [cm_rowF_eq] at hi
        rw [Bool.and_eq_true, Bool.and_eq_true, decide_eq_true_eq] at h1
        obtain ⟨a1, a2, a3⟩ := h1
        rw [hd] at a1
        refine ⟨i, n, cs, hi, fd_at_ok a1, fun w hw => ?_⟩
        have hg := List.all_eq_true.mp a3 w hw
        have hm : some w ∈ p.map lw_at := by rw [← a2]; exact List.mem_map.mpr ⟨w, hw, rfl⟩
        obtain ⟨j, -, hj⟩ := List.mem_map.mp hm
        exact lw_good_at j (lw_at_ok hj) hg
      · cases h1
    · exact fd_chkR_ok hd h3 q' hq'
noncomputable def fd_chkAll (ms : List ev_MI) (P : ev_P) (cc : ByteArray) (rows : List (Nat × ev_Row)) (ps : List (List Nat)) : Bool := fd_chkR ms P cc 0 cc.data.toList rows ps
theorem fd_chkAll_ok {ms : List ev_MI} {P : ev_P} {cc : ByteArray} {rows : List (Nat × ev_Row)} {ps : List (List Nat)} (h : fd_chkAll ms P cc rows ps = true) : ∀ q ∈ rows, cm_RowOK ms P cc q := fd_chkR_ok (p0 := 0) rfl h
noncomputable def wz_ind (o : cm_O) : Prop := ∀ (a b : Nat) (c : Bool) (C : String) (d e a' b' : Nat) (c' : Bool) (d' e' : Nat) (t : ev_T), o.1 (a, b, c, C, d, e) t = o.1 (a', b', c', C, d', e') t
theorem wz_c1 {o : cm_O} {l : List cm_O} (h : wz_ind o) (h2 : ∀ o ∈ l, wz_ind o) : ∀ o' ∈ o :: l, wz_ind o' := List.forall_mem_cons.mpr ⟨h, h2⟩
theorem wz_ops : ∀ o ∈ cm_ops, wz_ind o := wz_c1 (fun _ _ _ _ _ _ _ _ _ _ _ _ => rfl) (wz_c1 (fun _ _ _ _ _ _ _ _ _ _ _ _ => rfl) (wz_c1 (fun _ _ _ _ _ _ _ _ _ _ _ _ => rfl) (wz_c1 (fun _ _ _ _ _ _ _ _ _ _ _ _ => rfl) (wz_c1 (fun _ _ _ _ _ _ _ _ _ _ _ _ => rfl) (wz_c1 (fun _ _ _ _ _ _ _ _ _ _ _ _ => rfl) (wz_c1 (fun _ _ _ _ _ _ _ _ _ _ _ _ => rfl) (wz_c1 (fun _ _ _ _ _ _ _ _ _ _ _ _ => rfl) (wz_c1 (fun _ _ _ _ _ _ _ _ _ _ _ _ => rfl) (wz_c1 (fun _ _ _ _ _ _ _ _ _ _ _ _ => rfl) (wz_c1 (fun _ _ _ _ _ _ _ _ _ _ _ _ => rfl) (wz_c1 (fun _ _ _ _ _ _ _ _ _ _ _ _ => rfl) (wz_c1 (fun _ _ _ _ _ _ _ _ _ _ _ _ => rfl) (wz_c1 (fun _ _ _ _ _ _ _ _ _ _ _ _ => rfl) (wz_c1 (fun _ _ _ _ _ _ _ _ _ _ _ _ => rfl) (wz_c1 (fun _ _ _ _ _ _ _ _ _ _ _ _ => rfl) (wz_c1 (fun _ _ _ _ _ _ _ _ _ _ _ _ => rfl) (wz_c1 (fun _ _ _ _ _ _ _ _ _ _ _ _ => rfl) (wz_c1 (fun _ _ _ _ _ _ _ _ _ _ _ _ => rfl) (wz_c1 (fun _ _ _ _ _ _ _ _ _ _ _ _ => rfl) (wz_c1 (fun _ _ _ _ _ _ _ _ _ _ _ _ => rfl) (wz_c1 (fun _ _ _ _ _ _ _ _ _ _ _ _ => rfl) (wz_c1 (fun _ _ _ _ _ _ _ _ _ _ _ _ => rfl) (wz_c1 (fun _ _ _ _ _ _ _ _ _ _ _ _ => rfl) (wz_c1 (fun _ _ _ _ _ _ _ _ _ _ _ _ => rfl) (wz_c1 (fun _ _ _ _ _ _ _ _ _ _ _ _ => rfl) (wz_c1 (fun _ _ _ _ _ _ _ _ _ _ _ _ => rfl) (wz_c1 (fun _ _ _ _ _ _ _ _ _ _ _ _ => rfl) (wz_c1 (fun _ _ _ _ _ _ _ _ _ _ _ _ => rfl) (wz_c1 (fun _ _ _ _ _ _ _ _ _ _ _ _ => rfl) (wz_c1 (fun _ _ _ _ _ _ _ _ _ _ _ _ => rfl) (wz_c1 (fun _ _ _ _ _ _ _ _ _ _ _ _ => rfl) (wz_c1 (fun _ _ _ _ _ _ _ _ _ _ _ _ => rfl) (wz_c1 (fun _ _ _ _ _ _ _ _ _ _ _ _ => rfl) (wz_c1 (fun _ _ _ _ _ _ _ _ _ _ _ _ => rfl) (wz_c1 (fun _ _ _ _ _ _ _ _ _ _ _ _ => rfl) (wz_c1 (fun _ _ _ _ _ _ _ _ _ _ _ _ => rfl) (wz_c1 (fun _ _ _ _ _ _ _ _ _ _ _ _ => rfl) (wz_c1 (fun _ _ _ _ _ _ _ _ _ _ _ _ => rfl) (wz_c1 (fun _ _ _ _ _ _ _ _ _ _ _ _ => rfl) (wz_c1 (fun _ _ _ _ _ _ _ _ _ _ _ _ => rfl) (wz_c1 (fun _ _ _ _ _ _ _ _ _ _ _ _ => rfl) (wz_c1 (fun _ _ _ _ _ _ _ _ _ _ _ _ => rfl) (wz_c1 (fun _ _ _ _ _ _ _ _ _ _ _ _ => rfl) (wz_c1 (fun _ _ _ _ _ _ _ _ _ _ _ _ => rfl) (wz_c1 (fun _ _ _ _ _ _ _ _ _ _ _ _ => rfl) (wz_c1 (fun _ _ _ _ _ _ _ _ _ _ _ _ => rfl) (wz_c1 (fun _ _ _ _ _ _ _ _ _ _ _ _ => rfl) (wz_c1 (fun _ _ _ _ _ _ _ _ _ _ _ _ => rfl) (wz_c1 (fun _ _ _ _ _ _ _ _ _ _ _ _ => rfl) (wz_c1 (fun _ _ _ _ _ _ _ _ _ _ _ _ => rfl) (wz_c1 (fun _ _ _ _ _ _ _ _ _ _ _ _ => rfl) (wz_c1 (fun _ _ _ _ _ _ _ _ _ _ _ _ => rfl) (wz_c1 (fun _ _ _ _ _ _ _ _ _ _ _ _ => rfl) (wz_c1 (fun _ _ _ _ _ _ _ _ _ _ _ _ => rfl) (wz_c1 (fun _ _ _ _ _ _ _ _ _ _ _ _ => rfl) (wz_c1 (fun _ _ _ _ _ _ _ _ _ _ _ _ => rfl) (wz_c1 (fun _ _ _ _ _ _ _ _ _ _ _ _ => rfl) (wz_c1 (fun _ _ _ _ _ _ _ _ _ _ _ _ => rfl) (wz_c1 (fun _ _ _ _ _ _ _ _ _ _ _ _ => rfl) (wz_c1 (fun _ _ _ _ _ _ _ _ _ _ _ _ => rfl) (wz_c1 (fun _ _ _ _ _ _ _ _ _ _ _ _ => rfl) (wz_c1 (fun _ _ _ _ _ _ _ _ _ _ _ _ => rfl) (wz_c1 (fun _ _ _ _ _ _ _ _ _ _ _ _ => rfl) (wz_c1 (fun _ _ _ _ _ _ _ _ _ _ _ _ => rfl) (wz_c1 (fun _ _ _ _ _ _ _ _ _ _ _ _ => rfl) (wz_c1 (fun _ _ _ _ _ _ _ _ _ _ _ _ => rfl) (wz_c1 (fun _ _ _ _ _ _ _ _ _ _ _ _ => rfl) (wz_c1 (fun _ _ _ _ _ _ _ _ _ _ _ _ => rfl) (wz_c1 (fun _ _ _ _ _ _ _ _ _ _ _ _ => rfl) (wz_c1 (fun _ _ _ _ _ _ _ _ _ _ _ _ => rfl) (wz_c1 (fun _ _ _ _ _ _ _ _ _ _ _ _ => rfl) (wz_c1 (fun _ _ _ _ _ _ _ _ _ _ _ _ => rfl) (wz_c1 (fun _ _ _ _ _ _ _ _ _ _ _ _ => rfl) (wz_c1 (fun _ _ _ _ _ _ _ _ _ _ _ _ => rfl) (wz_c1 (fun _ _ _ _ _ _ _ _ _ _ _ _ => rfl) (wz_c1 (fun _ _ _ _ _ _ _ _ _ _ _ _ => rfl) (wz_c1 (fun _ _ _ _ _ _ _ _ _ _ _ _ => rfl) (wz_c1 (fun _ _ _ _ _ _ _ _ _ _ _ _ => rfl) (wz_c1 (fun _ _ _ _ _ _ _ _ _ _ _ _ => rfl) (wz_c1 (fun _ _ _ _ _ _ _ _ _ _ _ _ => rfl) (wz_c1 (fun _ _ _ _ _ _ _ _ _ _ _ _ => rfl) (wz_c1 (fun _ _ _ _ _ _ _ _ _ _ _ _ => rfl) (wz_c1 (fun _ _ _ _ _ _ _ _ _ _ _ _ => rfl) (wz_c1 (fun _ _ _ _ _ _ _ _ _ _ _ _ => rfl) (wz_c1 (fun _ _ _ _ _ _ _ _ _ _ _ _ => rfl) (wz_c1 (fun _ _ _ _ _ _ _ _ _ _ _ _ => rfl) (wz_c1 (fun _ _ _ _ _ _ _ _ _ _ _ _ => rfl) (wz_c1 (fun _ _ _ _ _ _ _ _ _ _ _ _ => rfl) (wz_c1 (fun _ _ _ _ _ _ _ _ _ _ _ _ => rfl) (wz_c1 (fun _ _ _ _ _ _ _ _ _ _ _ _ => rfl) (wz_c1 (fun _ _ _ _ _ _ _ _ _ _ _ _ => rfl) (fun o ho => nomatch ho))))))))))))))))))))))))))))))))))))))))))))))))))))))))))))))))))))))))))))))))))))))))))))
theorem wz_rowP (ms : List ev_MI) (C : String) (n : Nat) (r : ev_Row) : cm_rowI ms (0, 0, false, C, n, 0) r = cm_rowI ms (0, 0, false, C, 0, 0) r := by
  by_cases h : r.1 = 200 ∨ r.1 = 201 ∨ r.1 = 210 ∨ r.1 = 211 ∨ r.1 = 212 ∨ r.1 = 213
  · obtain ⟨k, t⟩ := r
    have h : k = 200 ∨ k = 201 ∨ k = 210 ∨ k = 211 ∨ k = 212 ∨ k = 213 := h
    rcases h with rfl | rfl | rfl | rfl | rfl | rfl <;> rfl
  · have e : ∀ P : ev_P, cm_rowI ms P r = (match cm_ops[r.1]? with
        | some o => o.1 P r.2
        | none => none) := by
      intro P
      unfold cm_rowI
      split
      · omega
      · omega
      · omega
      · omega
      · omega
      · omega
      · rfl
    rw [e, e]
    cases ho : cm_ops[r.1]? with
    | none => rfl
    | some o => exact wz_ops o (List.mem_of_getElem? ho) 0 0 false C n 0 0 0 false 0 0 r.2
/-- the words of a row -/
noncomputable def wz_wd (ms : List ev_MI) (C : String) (r : ev_Row) : Prop := (∀ i n cs, cm_rowI ms (0, 0, false, C, 0, 0) r = some (i, n, cs) → ∀ w ∈ cs, w ∈ lw_good) ∧ ∀ pc, ab_RC ms (pc, r)
noncomputable def wz_w1 (ms : List ev_MI) (C : String) (r : ev_Row) (ps : List Nat) : Bool := match cm_rowI ms (0, 0, false, C, 0, 0) r with
  | some (_, _, cs) => decide (cs.map some = ps.map lw_at) && (cs.all goodWord && ab_rc1 ms (0, r))
  | none => false
theorem wz_w1_ok {ms : List ev_MI} {C : String} {r : ev_Row} {ps : List Nat} (h : wz_w1 ms C r ps = true) : wz_wd ms C r := by
  unfold wz_w1 at h
  split at h
  · rename_i i0 n0 cs0 h0
    simp only [Bool.and_eq_true, decide_eq_true_eq] at h
    obtain ⟨h1, h2, h3⟩ := h
    refine ⟨fun i n cs hi w hw => ?_, fun pc => ?_⟩
    · rw [h0] at hi
      cases hi
      have hg := List.all_eq_true.mp h2 w hw
      have hm : some w ∈ ps.map lw_at := by rw [← h1]; exact List.mem_map.mpr ⟨w, hw, rfl⟩
      obtain ⟨j, -, hj⟩ := List.mem_map.mp hm
      exact lw_good_at j (lw_at_ok hj) hg
    · have z : ab_rc1 ms (pc, r) = true := h3
      exact ab_rc1_ok z
  · cases h
noncomputable def wz_ws (ms : List ev_MI) (C : String) : List ev_Row → List (List Nat) → Bool
  | [], [] => true
  | r :: rs, p :: ps => wz_w1 ms C r p && wz_ws ms C rs ps
  | _, _ => false
theorem wz_ws_ok {ms : List ev_MI} {C : String} : ∀ {rs : List ev_Row} {ps : List (List Nat)}, wz_ws ms C rs ps = true → ∀ r ∈ rs, wz_wd ms C r
  | [], [], _ => fun q hq => nomatch hq
  | [], _ :: _, h => by cases h
  | _ :: _, [], h => by cases h
  | r :: rs, p :: ps, h => by
    unfold wz_ws at h
    rw [Bool.and_eq_true] at h
    exact List.forall_mem_cons.mpr ⟨wz_w1_ok h.1, wz_ws_ok h.2⟩
noncomputable def wz_row (ms : List ev_MI) (P : ev_P) (cc : ByteArray) (W : List ev_Row) (l : List UInt8) (q : Nat × ev_Row) (k : Nat) : Bool := match cm_rowF ms P q.2 with
  | some (i, n, cs) => (fd_is i n l || decide (decode cc q.1 = .ok (i, n))) && (match k with
    | 0 => cs.isEmpty && (Nat.blt q.2.1 200 || Nat.ble 210 q.2.1)
    | k + 1 => decide (W[k]? = some q.2))
  | none => false
noncomputable def wz_rows (ms : List ev_MI) (P : ev_P) (cc : ByteArray) (W : List ev_Row) : Nat → List UInt8 → List (Nat × ev_Row) → List Nat → Bool
  | _, _, [], [] => true
  | p0, l, q :: rows, k :: ks => Nat.ble p0 q.1 && (wz_row ms P cc W (l.drop (q.1 - p0)) q k && wz_rows ms P cc W q.1 (l.drop (q.1 - p0)) rows ks)
  | _, _, _, _ => false
theorem wz_row_ok {ms : List ev_MI} {C : String} {ml : Nat} {cc : ByteArray} {W : List ev_Row} {q : Nat × ev_Row} {k : Nat} {l : List UInt8} (hW : ∀ r ∈ W, wz_wd ms C r) (hl : l = cc.data.toList.drop q.1) (h : wz_row ms (0, 0, false, C, ml, 0) cc W l q k = true) : cm_RowOK ms (0, 0, false, C, ml, 0) cc q ∧ ab_RC ms q := by
  unfold wz_row at h
  split at h
  · rename_i i n cs hi
    rw [cm_rowF_eq] at hi
    rw [Bool.and_eq_true] at h
    have h1 := h.1
    rw [hl] at h1
    have hd := fd_at_ok h1
    cases k with
    | zero =>
      have h2 : (cs.isEmpty && (Nat.blt q.2.1 200 || Nat.ble 210 q.2.1)) = true := h.2
      rw [Bool.and_eq_true, Bool.or_eq_true] at h2
      have he : cs = [] := List.isEmpty_iff.mp h2.1
      refine ⟨⟨i, n, cs, hi, hd, fun w hw => ?_⟩, fun a b => ?_⟩
      · rw [he] at hw
        cases hw
      · rcases h2.2 with g | g
        · have := Nat.le_of_ble_eq_true (show Nat.ble (q.2.1 + 1) 200 = true from g)
          omega
        · have := Nat.le_of_ble_eq_true g
          omega
    | succ k =>
      have h2 : W[k]? = some q.2 := of_decide_eq_true h.2
      have hw := hW _ (List.mem_of_getElem? h2)
      refine ⟨⟨i, n, cs, hi, hd, hw.1 i n cs ?_⟩, hw.2 q.1⟩
      rw [← wz_rowP ms C ml]
      exact hi
  · cases h
theorem wz_rows_ok {ms : List ev_MI} {C : String} {ml : Nat} {cc : ByteArray} {W : List ev_Row} (hW : ∀ r ∈ W, wz_wd ms C r) : ∀ {rows : List (Nat × ev_Row)} {ks : List Nat} {p0 : Nat} {l : List UInt8}, l = cc.data.toList.drop p0 → wz_rows ms (0, 0, false, C, ml, 0) cc W p0 l rows ks = true → ∀ q ∈ rows, cm_RowOK ms (0, 0, false, C, ml, 0) cc q ∧ ab_RC ms q
  | [], [], _, _, _, _ => fun q hq => nomatch hq
  | [], _ :: _, _, _, _, h => by cases h
  | _ :: _, [], _, _, _, h => by cases h
  | q :: rows, k :: ks, p0, l, hl, h => by
    unfold wz_rows at h
    rw [Bool.and_eq_true, Bool.and_eq_true] at h
    obtain ⟨h0, h1, h3⟩ := h
    have hd := fd_dr hl h0
    exact List.forall_mem_cons.mpr ⟨wz_row_ok hW hd h1, wz_rows_ok hW hd h3⟩
noncomputable def wz_cl (C : String) : Prop := plainName C = true ∧ C ≠ "java/lang/invoke/MethodHandle" ∧ C ≠ "java/lang/invoke/VarHandle"
noncomputable def wz_m (ms : List ev_MI) (W : List ev_Row) (y : MethodName) (cc : ByteArray) (ml : Nat) (ty : Option FieldType) (rows : List (Nat × ev_Row)) (ks : List Nat) : Bool :=
  Nat.ble ml 21 && wz_rows ms (0, 0, false, y.cls, ml, 0) cc W 0 cc.data.toList rows ks
theorem wz_MK {ms : List ev_MI} {C : String} {W : List ev_Row} (hC : wz_cl C) (hW : ∀ r ∈ W, wz_wd ms C r) {mi : ev_MI} (hc : mi.1.cls = C) {j : Nat} (h1 : lw_tbl[j]? = some (Cond.code mi.1 mi.2.1 mi.2.2.1 mi.2.2.2.1)) {ks : List Nat} (h : wz_m ms W mi.1 mi.2.1 mi.2.2.1 mi.2.2.2.1 mi.2.2.2.2.2.2 ks = true) : ab_MK ms mi := by
  unfold wz_m at h
  rw [Bool.and_eq_true] at h
  obtain ⟨h2, h3⟩ := h
  subst hc
  have hr := wz_rows_ok hW (p0 := 0) rfl h3
  exact ⟨⟨hC.1, lw_good_at j h1 rfl, Nat.le_of_ble_eq_true h2, hC.2, fun q hq => (hr q hq).1⟩, fun q hq => (hr q hq).2⟩
theorem wz_C0 : wz_cl "BarberMinutes" := by unfold wz_cl; decide +kernel
theorem wz_C1 : wz_cl "BarberMinutes$Agenda" := by unfold wz_cl; decide +kernel
theorem wz_C2 : wz_cl "BarberMinutes$Chance" := by unfold wz_cl; decide +kernel
theorem wz_C3 : wz_cl "BarberMinutes$Minutes" := by unfold wz_cl; decide +kernel
theorem wz_C4 : wz_cl "BarberMinutes$Past" := by unfold wz_cl; decide +kernel
theorem wz_C5 : wz_cl "BarberMinutes$Reader" := by unfold wz_cl; decide +kernel
theorem wz_C6 : wz_cl "BarberMinutes$Sweepings" := by unfold wz_cl; decide +kernel
theorem wz_C7 : wz_cl "BarberMinutes$Tour" := by unfold wz_cl; decide +kernel
theorem wz_C8 : wz_cl "BarberMinutes$Town" := by unfold wz_cl; decide +kernel
theorem wz_C9 : wz_cl "BarberMinutesModel" := by unfold wz_cl; decide +kernel
theorem wz_C10 : wz_cl "java/lang/Integer" := by unfold wz_cl; decide +kernel
theorem wz_C11 : wz_cl "java/lang/String" := by unfold wz_cl; decide +kernel
theorem wz_C12 : wz_cl "java/lang/StringLatin1" := by unfold wz_cl; decide +kernel
theorem wz_C13 : wz_cl "jdk/internal/util/Preconditions" := by unfold wz_cl; decide +kernel
noncomputable def wz_W0_0 : List ev_Row := [(49, 8, 1, 75, []), (200, 94, 79, 1, [8]), (49, 8, 0, 9, []), (50, 8, 1, 75, []), (200, 157, 83, 1, [8]), (49, 8, 2, 16, []), (49, 8, 4, 27, []), (200, 64, 87, 3, [4]), (50, 8, 12, 91, []), (49, 8, 12, 91, []), (200, 65, 94, 0, [4]), (50, 8, 13, 98, []), (49, 8, 3, 23, []), (50, 8, 4, 27, []), (50, 8, 3, 23, []), (49, 8, 5, 33, []), (200, 22, 100, 1, [2]), (49, 8, 7, 43, []), (200, 38, 104, 0, [3]), (49, 7, 3, 107, []), (200, 159, 110, 1, [8]), (49, 8, 14, 113, []), (49, 8, 13, 98, []), (200, 161, 116, 1, [8]), (49, 7, 4, 120, [])]
set_option maxRecDepth 1000000 in
theorem wz_W0_0k : ∀ r ∈ wz_W0_0, wz_wd cm_ms "BarberMinutes" r := wz_ws_ok (ps := [[443], [492, 494, 0, 116], [442], [443], [500, 502, 1, 116], [444], [446], [504, 505, 506, 117], [454], [454], [714, 715, 716, 117], [455], [445], [446], [445], [447], [718, 719, 720, 119], [449], [725, 726, 727, 120], [219], [729, 731, 24, 116], [456], [455], [745, 747, 25, 116], [221]]) (by decide +kernel)
noncomputable def wz_W0_1 : List ev_Row := [(49, 2, 0, 124, []), (49, 7, 6, 127, []), (200, 25, 130, 2, [2]), (49, 7, 7, 134, []), (49, 7, 8, 137, []), (200, 29, 140, 2, [2]), (200, 162, 144, 1, [8]), (49, 7, 10, 147, []), (49, 7, 11, 150, []), (49, 7, 12, 153, []), (49, 7, 13, 156, []), (200, 33, 159, 1, [2]), (200, 34, 162, 2, [2]), (200, 31, 165, 2, [2]), (200, 30, 168, 2, [2]), (200, 160, 171, 0, [8]), (49, 2, 1, 175, []), (200, 26, 178, 1, [2]), (49, 7, 9, 182, []), (200, 32, 185, 2, [2]), (200, 27, 188, 1, [2]), (200, 13, 191, 1, [7]), (200, 14, 194, 1, [7]), (200, 15, 197, 1, [7]), (200, 112, 200, 1, [8])]
set_option maxRecDepth 1000000 in
theorem wz_W0_1k : ∀ r ∈ wz_W0_1, wz_wd cm_ms "BarberMinutes" r := wz_ws_ok (ps := [[314], [226], [749, 750, 751, 119], [230], [233], [753, 754, 755, 119], [765, 767, 27, 116], [243], [246], [250], [253], [769, 770, 771, 119], [773, 774, 775, 119], [778, 779, 780, 119], [790, 783, 784, 119], [795, 797, 28, 116], [317], [803, 804, 805, 119], [240], [816, 817, 818, 119], [825, 826, 827, 119], [830, 787, 788, 118], [835, 836, 837, 118], [843, 844, 845, 118], [851, 853, 29, 116]]) (by decide +kernel)
noncomputable def wz_W0_2 : List ev_Row := [(49, 8, 6, 37, []), (200, 113, 203, 1, [8]), (200, 23, 206, 1, [2]), (200, 24, 210, 1, [2]), (200, 119, 213, 1, [8]), (201, 43, 216, 3, []), (49, 8, 8, 50, []), (200, 44, 220, 4, [0]), (200, 45, 224, 3, [0]), (49, 0, 2, 228, []), (49, 0, 3, 231, []), (49, 0, 4, 234, []), (200, 48, 237, 3, [0]), (200, 158, 241, 1, [8]), (200, 127, 245, 1, [8]), (200, 37, 248, 3, [2]), (201, 0, 252, 1, []), (200, 18, 257, 0, [7]), (200, 16, 260, 0, [7]), (200, 17, 263, 1, [7]), (200, 19, 266, 0, [7]), (200, 163, 269, 1, [8]), (200, 21, 272, 2, [7]), (49, 8, 9, 57, []), (200, 50, 276, 1, [6])]
set_option maxRecDepth 1000000 in
theorem wz_W0_2k : ∀ r ∈ wz_W0_2, wz_wd cm_ms "BarberMinutes" r := wz_ws_ok (ps := [[448], [872, 874, 30, 116], [855, 856, 857, 119], [859, 860, 861, 119], [888, 890, 31, 116], [896, 897, 121], [450], [901, 902, 903, 121], [924, 925, 926, 121], [369], [371], [373], [945, 946, 947, 121], [892, 894, 32, 116], [958, 960, 36, 116], [962, 963, 964, 119], [979, 621, 131], [984, 985, 986, 118], [996, 627, 628, 118], [997, 989, 990, 118], [1002, 1003, 1004, 118], [1014, 1016, 38, 116], [1018, 1019, 1020, 118], [451], [1030, 1031, 1032, 122]]) (by decide +kernel)
noncomputable def wz_W0_3 : List ev_Row := [(49, 6, 2, 279, []), (49, 6, 1, 282, []), (200, 137, 285, 0, [8]), (49, 8, 10, 64, []), (49, 5, 1, 288, []), (49, 5, 0, 291, []), (200, 55, 294, 0, [5]), (200, 56, 297, 0, [5]), (200, 58, 300, 1, [5]), (200, 57, 303, 1, [5]), (200, 53, 306, 1, [5]), (200, 141, 307, 1, [8]), (201, 142, 310, 3, []), (201, 143, 314, 2, []), (49, 8, 11, 71, []), (200, 59, 318, 3, [1]), (49, 1, 1, 321, []), (49, 1, 0, 325, []), (200, 60, 328, 3, [1]), (200, 148, 331, 2, [8]), (50, 1, 2, 334, []), (200, 63, 337, 2, [1]), (83, 65537, 341, 0, []), (200, 39, 342, 1, [3]), (200, 35, 345, 2, [2])]
set_option maxRecDepth 1000000 in
theorem wz_W0_3k : ∀ r ∈ wz_W0_3, wz_wd cm_ms "BarberMinutes" r := wz_ws_ok (ps := [[395], [393], [1052, 1054, 41, 116], [452], [414], [412], [1074, 1075, 1076, 123], [1082, 1083, 1084, 123], [1090, 1091, 1092, 123], [1105, 1095, 1096, 123], [1056, 1057, 1058, 123], [1110, 1112, 43, 116], [1114, 1115, 116], [1121, 1122, 116], [453], [1132, 1133, 1134, 124], [432], [430], [1150, 1151, 1152, 124], [1160, 1162, 45, 116], [434], [1165, 1166, 1167, 124], [1164], [1179, 1180, 1181, 120], [1185, 913, 914, 119]]) (by decide +kernel)
noncomputable def wz_W0_4 : List ev_Row := [(49, 2, 3, 348, []), (200, 36, 351, 3, [2]), (200, 40, 355, 1, [3]), (200, 41, 359, 1, [3]), (200, 42, 363, 2, [3]), (49, 7, 0, 370, []), (49, 7, 1, 373, []), (49, 7, 2, 376, []), (201, 12, 379, 2, []), (49, 7, 15, 383, []), (49, 7, 18, 386, []), (49, 3, 3, 389, []), (49, 3, 4, 392, []), (50, 8, 14, 113, [])]
set_option maxRecDepth 1000000 in
theorem wz_W0_4k : ∀ r ∈ wz_W0_4, wz_wd cm_ms "BarberMinutes" r := wz_ws_ok (ps := [[321], [1194, 917, 918, 119], [1199, 1200, 1201, 120], [1207, 1208, 1209, 120], [1215, 1216, 1217, 120], [206], [210], [214], [1223, 618, 118], [259], [266], [344], [346], [456]]) (by decide +kernel)
noncomputable def wz_W0 : List ev_Row := wz_W0_0 ++ (wz_W0_1 ++ (wz_W0_2 ++ (wz_W0_3 ++ (wz_W0_4))))
theorem wz_W0k : ∀ r ∈ wz_W0, wz_wd cm_ms "BarberMinutes" r := (List.forall_mem_append.mpr ⟨wz_W0_0k, (List.forall_mem_append.mpr ⟨wz_W0_1k, (List.forall_mem_append.mpr ⟨wz_W0_2k, (List.forall_mem_append.mpr ⟨wz_W0_3k, wz_W0_4k⟩)⟩)⟩)⟩)
noncomputable def wz_W1_0 : List ev_Row := [(49, 7, 9, 22, []), (49, 0, 0, 11, []), (200, 23, 28, 1, [2]), (200, 47, 32, 3, [0]), (67, 36, 0, 0, []), (50, 0, 1, 42, []), (50, 0, 2, 45, []), (50, 0, 3, 48, []), (50, 0, 4, 51, []), (200, 46, 54, 4, [0]), (49, 0, 1, 42, []), (49, 0, 3, 48, []), (49, 2, 2, 58, []), (200, 34, 61, 2, [2]), (200, 24, 65, 1, [2]), (200, 35, 69, 2, [2]), (49, 7, 12, 72, []), (200, 49, 75, 3, [0]), (200, 33, 79, 1, [2])]
set_option maxRecDepth 1000000 in
theorem wz_W1_0k : ∀ r ∈ wz_W1_0, wz_wd cm_ms "BarberMinutes$Agenda" r := wz_ws_ok (ps := [[237], [366], [905, 856, 857, 119], [906, 908, 33, 121], [928, 509, 126, 510], [367], [368], [370], [372], [929, 931, 34, 121], [367], [370], [319], [910, 774, 775, 119], [911, 860, 861, 119], [912, 913, 914, 119], [249], [949, 951, 35, 121], [953, 770, 771, 119]]) (by decide +kernel)
noncomputable def wz_W1 : List ev_Row := wz_W1_0
theorem wz_W1k : ∀ r ∈ wz_W1, wz_wd cm_ms "BarberMinutes$Agenda" r := wz_W1_0k
noncomputable def wz_W2_0 : List ev_Row := [(200, 30, 9, 2, [2]), (49, 7, 3, 15, []), (200, 13, 21, 1, [7]), (49, 7, 11, 25, []), (201, 0, 29, 1, []), (49, 7, 2, 34, []), (201, 61, 37, 2, []), (200, 62, 43, 2, [1]), (200, 31, 47, 2, [2]), (81, 100, 50, 0, []), (50, 1, 0, 52, []), (50, 1, 1, 56, []), (200, 24, 59, 1, [2]), (49, 1, 2, 63, []), (68, 65537, 66, 0, []), (50, 1, 2, 63, []), (49, 2, 0, 67, [])]
set_option maxRecDepth 1000000 in
theorem wz_W2_0k : ∀ r ∈ wz_W2_0, wz_wd cm_ms "BarberMinutes$Chance" r := wz_ws_ok (ps := [[1136, 783, 784, 119], [216], [1137, 787, 788, 118], [245], [1138, 621, 131], [212], [1139, 1140, 124], [1142, 1144, 44, 124], [1154, 779, 780, 119], [1155], [429], [431], [1169, 860, 861, 119], [433], [1170], [433], [313]]) (by decide +kernel)
noncomputable def wz_W2 : List ev_Row := wz_W2_0
theorem wz_W2k : ∀ r ∈ wz_W2, wz_wd cm_ms "BarberMinutes$Chance" r := wz_W2_0k
noncomputable def wz_W3_0 : List ev_Row := [(49, 7, 5, 18, []), (49, 2, 0, 9, []), (86, 23, 0, 0, []), (49, 2, 1, 15, []), (50, 2, 2, 29, []), (50, 2, 3, 33, []), (49, 2, 2, 29, []), (49, 2, 3, 33, []), (49, 7, 3, 36, []), (49, 7, 0, 39, []), (67, 42, 0, 0, []), (49, 7, 1, 48, []), (200, 25, 51, 2, [2]), (200, 26, 55, 1, [2]), (49, 7, 10, 59, []), (49, 7, 7, 62, []), (49, 7, 9, 65, []), (200, 28, 68, 3, [2]), (200, 30, 72, 2, [2]), (200, 13, 76, 1, [7]), (200, 31, 80, 2, [2]), (49, 7, 11, 83, []), (200, 33, 86, 1, [2]), (49, 7, 13, 90, []), (200, 36, 93, 3, [2])]
set_option maxRecDepth 1000000 in
theorem wz_W3_0k : ∀ r ∈ wz_W3_0, wz_wd cm_ms "BarberMinutes$Minutes" r := wz_ws_ok (ps := [[224], [312], [722, 724, 723, 132], [315], [318], [320], [318], [320], [218], [204], [863, 509, 126, 510], [208], [807, 750, 751, 119], [829, 804, 805, 119], [242], [231], [239], [757, 759, 26, 119], [782, 783, 784, 119], [786, 787, 788, 118], [820, 779, 780, 119], [247], [777, 770, 771, 119], [254], [916, 917, 918, 119]]) (by decide +kernel)
noncomputable def wz_W3_1 : List ev_Row := [(49, 7, 4, 97, []), (200, 27, 100, 1, [2]), (49, 7, 6, 103, [])]
set_option maxRecDepth 1000000 in
theorem wz_W3_1k : ∀ r ∈ wz_W3_1, wz_wd cm_ms "BarberMinutes$Minutes" r := wz_ws_ok (ps := [[222], [966, 826, 827, 119], [227]]) (by decide +kernel)
noncomputable def wz_W3 : List ev_Row := wz_W3_0 ++ (wz_W3_1)
theorem wz_W3k : ∀ r ∈ wz_W3, wz_wd cm_ms "BarberMinutes$Minutes" r := (List.forall_mem_append.mpr ⟨wz_W3_0k, wz_W3_1k⟩)
noncomputable def wz_W4_0 : List ev_Row := [(50, 3, 3, 21, []), (50, 3, 4, 25, []), (49, 3, 0, 11, []), (49, 3, 2, 28, []), (200, 23, 31, 1, [2]), (50, 3, 2, 28, []), (49, 3, 3, 21, []), (67, 35, 0, 0, []), (49, 3, 4, 25, []), (49, 3, 1, 17, [])]
set_option maxRecDepth 1000000 in
theorem wz_W4_0k : ∀ r ∈ wz_W4_0, wz_wd cm_ms "BarberMinutes$Past" r := wz_ws_ok (ps := [[343], [345], [340], [342], [1183, 856, 857, 119], [342], [343], [1184, 509, 126, 510], [345], [341]]) (by decide +kernel)
noncomputable def wz_W4 : List ev_Row := wz_W4_0
theorem wz_W4k : ∀ r ∈ wz_W4, wz_wd cm_ms "BarberMinutes$Past" r := wz_W4_0k
noncomputable def wz_W5_0 : List ev_Row := [(50, 4, 0, 22, []), (67, 26, 0, 0, []), (50, 4, 1, 32, []), (50, 4, 2, 36, []), (50, 4, 7, 39, []), (49, 4, 7, 39, []), (200, 8, 43, 0, [7]), (50, 4, 8, 48, []), (50, 4, 9, 52, []), (50, 4, 10, 55, []), (200, 88, 58, 0, [4]), (200, 67, 61, 0, [4]), (49, 4, 9, 52, []), (49, 4, 3, 64, []), (200, 66, 67, 1, [4]), (49, 7, 3, 71, []), (49, 4, 4, 74, []), (200, 84, 77, 0, [4]), (49, 4, 8, 48, []), (200, 69, 81, 1, [4]), (201, 68, 85, 1, []), (200, 70, 88, 0, [4]), (200, 71, 91, 0, [4]), (200, 72, 94, 0, [4]), (200, 73, 97, 0, [4])]
set_option maxRecDepth 1000000 in
theorem wz_W5_0k : ∀ r ∈ wz_W5_0, wz_wd cm_ms "BarberMinutes$Reader" r := wz_ws_ok (ps := [[151], [508, 509, 126, 510], [152], [153], [158], [158], [511, 512, 513, 118], [159], [160], [161], [515, 517, 2, 117], [538, 540, 5, 117], [160], [154], [609, 611, 8, 117], [217], [155], [542, 544, 6, 117], [159], [613, 615, 9, 117], [631, 632, 117], [634, 636, 10, 117], [649, 651, 13, 117], [674, 676, 17, 117], [685, 687, 18, 117]]) (by decide +kernel)
noncomputable def wz_W5_1 : List ev_Row := [(200, 74, 100, 0, [4]), (200, 75, 103, 0, [4]), (200, 76, 106, 0, [4]), (200, 77, 109, 0, [4]), (49, 7, 9, 112, []), (49, 7, 7, 115, []), (201, 12, 118, 2, []), (49, 7, 13, 122, []), (200, 16, 125, 0, [7]), (49, 7, 15, 128, []), (200, 78, 133, 1, [4]), (200, 79, 137, 2, [4]), (50, 7, 0, 140, []), (50, 7, 1, 144, []), (50, 7, 2, 149, []), (200, 80, 152, 2, [4]), (200, 83, 156, 0, [4]), (200, 9, 163, 3, [7]), (200, 10, 173, 3, [7]), (200, 81, 176, 1, [4]), (49, 7, 8, 179, []), (200, 11, 184, 1, [7]), (49, 7, 18, 187, []), (49, 7, 17, 190, []), (50, 7, 18, 187, [])]
set_option maxRecDepth 1000000 in
theorem wz_W5_1k : ∀ r ∈ wz_W5_1, wz_wd cm_ms "BarberMinutes$Reader" r := wz_ws_ok (ps := [[693, 695, 20, 117], [697, 699, 21, 117], [701, 703, 22, 117], [710, 712, 23, 117], [238], [229], [617, 618, 118], [252], [626, 627, 628, 118], [258], [639, 641, 11, 117], [643, 645, 12, 117], [205], [209], [213], [653, 655, 14, 117], [661, 663, 16, 117], [670, 671, 672, 118], [681, 682, 683, 118], [689, 691, 19, 117], [234], [706, 707, 708, 118], [265], [263], [265]]) (by decide +kernel)
noncomputable def wz_W5_2 : List ev_Row := [(200, 86, 193, 1, [4]), (49, 4, 5, 197, []), (200, 82, 200, 0, [4]), (49, 4, 10, 55, []), (49, 4, 11, 11, []), (49, 4, 6, 203, []), (49, 4, 12, 15, []), (49, 4, 13, 19, []), (201, 85, 213, 1, []), (200, 1, 229, 0, [99]), (200, 2, 234, 1, [99]), (201, 87, 238, 2, []), (81, 32, 242, 0, []), (81, 97, 244, 0, []), (49, 4, 2, 36, []), (49, 4, 1, 32, []), (49, 4, 0, 22, []), (50, 4, 4, 74, []), (50, 4, 5, 197, []), (50, 4, 6, 203, []), (50, 4, 3, 64, []), (201, 91, 246, 1, []), (200, 89, 250, 0, [4]), (201, 92, 253, 1, []), (200, 90, 256, 0, [4])]
set_option maxRecDepth 1000000 in
theorem wz_W5_2k : ∀ r ∈ wz_W5_2, wz_wd cm_ms "BarberMinutes$Reader" r := wz_ws_ok (ps := [[557, 559, 7, 117], [156], [657, 659, 15, 117], [161], [162], [157], [163], [164], [546, 547, 117], [561, 562, 563, 127], [571, 572, 573, 127], [526, 527, 117], [529], [530], [153], [152], [151], [155], [156], [157], [154], [519, 520, 117], [522, 524, 3, 117], [531, 532, 117], [534, 536, 4, 117]]) (by decide +kernel)
noncomputable def wz_W5 : List ev_Row := wz_W5_0 ++ (wz_W5_1 ++ (wz_W5_2))
theorem wz_W5k : ∀ r ∈ wz_W5, wz_wd cm_ms "BarberMinutes$Reader" r := (List.forall_mem_append.mpr ⟨wz_W5_0k, (List.forall_mem_append.mpr ⟨wz_W5_1k, wz_W5_2k⟩)⟩)
noncomputable def wz_W6_0 : List ev_Row := [(50, 5, 1, 22, []), (49, 7, 9, 26, []), (200, 54, 31, 2, [5]), (49, 5, 0, 9, []), (49, 5, 1, 22, []), (49, 5, 2, 18, []), (200, 22, 35, 1, [2]), (200, 35, 39, 2, [2]), (49, 2, 1, 42, []), (49, 7, 17, 45, []), (84, 48, 0, 0, []), (200, 57, 54, 1, [5])]
set_option maxRecDepth 1000000 in
theorem wz_W6_0k : ∀ r ∈ wz_W6_0, wz_wd cm_ms "BarberMinutes$Sweepings" r := wz_ws_ok (ps := [[413], [235], [1060, 1062, 42, 123], [411], [413], [415], [1064, 719, 720, 119], [1065, 913, 914, 119], [316], [262], [1098, 1099, 126, 1100], [1094, 1095, 1096, 123]]) (by decide +kernel)
noncomputable def wz_W6 : List ev_Row := wz_W6_0
theorem wz_W6k : ∀ r ∈ wz_W6, wz_wd cm_ms "BarberMinutes$Sweepings" r := wz_W6_0k
noncomputable def wz_W7_0 : List ev_Row := [(50, 6, 2, 18, []), (49, 7, 15, 22, []), (49, 6, 0, 9, []), (200, 51, 27, 4, [6]), (200, 52, 31, 3, [6]), (200, 21, 35, 2, [7]), (49, 6, 2, 18, []), (49, 6, 1, 15, []), (86, 39, 0, 0, [])]
set_option maxRecDepth 1000000 in
theorem wz_W7_0k : ∀ r ∈ wz_W7_0, wz_wd cm_ms "BarberMinutes$Tour" r := wz_ws_ok (ps := [[394], [256], [391], [1034, 1036, 39, 122], [1038, 1040, 40, 122], [1042, 1019, 1020, 118], [394], [392], [1043, 724, 723, 132]]) (by decide +kernel)
noncomputable def wz_W7 : List ev_Row := wz_W7_0
theorem wz_W7k : ∀ r ∈ wz_W7, wz_wd cm_ms "BarberMinutes$Tour" r := wz_W7_0k
noncomputable def wz_W8_0 : List ev_Row := [(50, 7, 0, 48, []), (50, 7, 1, 52, []), (50, 7, 2, 55, []), (50, 7, 3, 58, []), (50, 7, 9, 61, []), (50, 7, 15, 64, []), (50, 7, 18, 67, []), (49, 7, 17, 45, []), (49, 7, 3, 58, []), (49, 7, 4, 9, []), (49, 7, 5, 15, []), (49, 7, 6, 18, []), (49, 7, 7, 21, []), (49, 7, 8, 24, []), (49, 7, 9, 61, []), (49, 7, 10, 27, []), (49, 7, 11, 30, []), (49, 7, 12, 33, []), (49, 7, 13, 36, []), (49, 7, 15, 64, []), (49, 7, 16, 42, []), (201, 0, 70, 1, []), (49, 7, 14, 39, []), (201, 12, 76, 2, []), (200, 17, 80, 1, [7])]
set_option maxRecDepth 1000000 in
theorem wz_W8_0k : ∀ r ∈ wz_W8_0, wz_wd cm_ms "BarberMinutes$Town" r := wz_ws_ok (ps := [[203], [207], [211], [215], [236], [257], [264], [261], [215], [220], [223], [225], [228], [232], [236], [241], [244], [248], [251], [257], [260], [620, 621, 131], [255], [630, 618, 118], [988, 989, 990, 118]]) (by decide +kernel)
noncomputable def wz_W8_1 : List ev_Row := [(200, 20, 83, 1, [7]), (85, 87, 0, 0, []), (67, 92, 0, 0, [])]
set_option maxRecDepth 1000000 in
theorem wz_W8_1k : ∀ r ∈ wz_W8_1, wz_wd cm_ms "BarberMinutes$Town" r := wz_ws_ok (ps := [[1006, 1008, 37, 118], [1022, 1023, 126, 1024], [1025, 509, 126, 510]]) (by decide +kernel)
noncomputable def wz_W8 : List ev_Row := wz_W8_0 ++ (wz_W8_1)
theorem wz_W8k : ∀ r ∈ wz_W8, wz_wd cm_ms "BarberMinutes$Town" r := (List.forall_mem_append.mpr ⟨wz_W8_0k, wz_W8_1k⟩)
noncomputable def wz_W9_0 : List ev_Row := [(50, 9, 0, 47, []), (50, 9, 11, 50, []), (49, 9, 2, 53, []), (49, 9, 1, 7, []), (50, 9, 2, 53, []), (49, 9, 3, 56, []), (49, 9, 5, 59, []), (200, 173, 62, 1, [9]), (50, 9, 4, 66, []), (50, 9, 8, 69, []), (50, 9, 7, 72, []), (50, 9, 6, 75, []), (50, 9, 5, 59, []), (201, 174, 78, 1, []), (49, 9, 8, 69, []), (49, 9, 12, 17, []), (201, 175, 82, 1, []), (49, 9, 7, 72, []), (49, 9, 13, 85, []), (50, 9, 13, 85, []), (50, 9, 9, 89, []), (50, 9, 10, 13, []), (49, 9, 6, 75, []), (200, 1, 92, 0, [99]), (200, 2, 98, 1, [99])]
set_option maxRecDepth 1000000 in
theorem wz_W9_0k : ∀ r ∈ wz_W9_0, wz_wd cm_ms "BarberMinutesModel" r := wz_ws_ok (ps := [[1303], [1314], [1305], [1304], [1305], [1306], [1308], [1432, 1434, 50, 125], [1307], [1311], [1310], [1309], [1308], [1436, 1437, 125], [1311], [1315], [1439, 1440, 125], [1310], [1316], [1316], [1312], [1313], [1309], [1451, 562, 563, 127], [1452, 572, 573, 127]]) (by decide +kernel)
noncomputable def wz_W9_1 : List ev_Row := [(200, 178, 102, 1, [9]), (200, 176, 106, 0, [9]), (200, 179, 109, 1, [9]), (49, 9, 4, 66, []), (200, 177, 112, 2, [9]), (49, 9, 16, 23, []), (200, 181, 132, 0, [9]), (200, 182, 135, 0, [9]), (201, 167, 138, 3, []), (200, 184, 142, 2, [9]), (200, 180, 146, 1, [9]), (200, 188, 150, 2, [9]), (200, 164, 159, 0, [9]), (200, 165, 162, 1, [9]), (50, 9, 3, 56, []), (200, 194, 165, 0, [9]), (49, 9, 15, 20, []), (201, 170, 168, 5, []), (49, 9, 17, 26, []), (200, 192, 172, 1, [9]), (50, 9, 14, 176, []), (50, 9, 20, 179, []), (50, 9, 21, 182, []), (200, 187, 185, 0, [9]), (200, 195, 188, 0, [9])]
set_option maxRecDepth 1000000 in
theorem wz_W9_1k : ∀ r ∈ wz_W9_1, wz_wd cm_ms "BarberMinutesModel" r := wz_ws_ok (ps := [[1447, 1449, 52, 125], [1428, 1430, 49, 125], [1470, 1472, 57, 125], [1307], [1457, 1459, 54, 125], [1319], [1497, 1499, 63, 125], [1507, 1509, 64, 125], [1421, 1422, 125], [1535, 1537, 69, 125], [1466, 1468, 56, 125], [1474, 1476, 58, 125], [1417, 1419, 47, 125], [1424, 1426, 48, 125], [1306], [1442, 1444, 51, 125], [1318], [1563, 1564, 125], [1320], [1566, 1568, 75, 125], [1317], [1323], [1324], [1485, 1487, 60, 125], [1453, 1455, 53, 125]]) (by decide +kernel)
noncomputable def wz_W9_2 : List ev_Row := [(200, 193, 191, 2, [9]), (200, 196, 195, 0, [9]), (200, 197, 198, 0, [9]), (200, 198, 201, 0, [9]), (200, 199, 204, 0, [9]), (200, 200, 207, 0, [9]), (200, 201, 210, 0, [9]), (200, 202, 213, 0, [9]), (200, 189, 218, 3, [9]), (200, 183, 226, 1, [9]), (200, 190, 230, 0, [9]), (200, 185, 243, 0, [9]), (200, 186, 246, 0, [9]), (201, 168, 249, 2, []), (49, 9, 9, 89, []), (49, 9, 11, 50, []), (49, 9, 10, 13, []), (49, 9, 14, 176, []), (200, 209, 254, 2, [9]), (200, 211, 258, 3, [9]), (200, 212, 262, 2, [9]), (200, 213, 266, 1, [9]), (200, 214, 269, 2, [9]), (200, 215, 272, 2, [9]), (200, 217, 275, 2, [9])]
set_option maxRecDepth 1000000 in
theorem wz_W9_2k : ∀ r ∈ wz_W9_2, wz_wd cm_ms "BarberMinutesModel" r := wz_ws_ok (ps := [[1481, 1483, 59, 125], [1489, 1491, 61, 125], [1520, 1522, 66, 125], [1527, 1529, 67, 125], [1546, 1548, 71, 125], [1550, 1552, 72, 125], [1554, 1556, 73, 125], [1559, 1561, 74, 125], [1462, 1464, 55, 125], [1493, 1495, 62, 125], [1511, 1513, 65, 125], [1531, 1533, 68, 125], [1539, 1541, 70, 125], [1543, 1544, 125], [1312], [1314], [1313], [1317], [1586, 1588, 77, 125], [1594, 1596, 79, 125], [1614, 1616, 83, 125], [1618, 1620, 84, 125], [1610, 1612, 82, 125], [1642, 1644, 86, 125], [1722, 1724, 97, 125]]) (by decide +kernel)
noncomputable def wz_W9_3 : List ev_Row := [(49, 9, 22, 35, []), (200, 219, 279, 1, [9]), (200, 205, 282, 1, [9]), (200, 222, 285, 1, [9]), (200, 206, 288, 1, [9]), (200, 216, 291, 2, [9]), (200, 210, 294, 1, [9]), (200, 208, 298, 0, [9]), (200, 228, 301, 0, [9]), (200, 231, 304, 1, [9]), (200, 233, 307, 2, [9]), (200, 220, 311, 1, [9]), (200, 236, 314, 1, [9]), (200, 218, 317, 2, [9]), (200, 241, 320, 2, [9]), (200, 240, 323, 2, [9]), (201, 243, 326, 1, []), (200, 244, 329, 1, [9]), (200, 249, 332, 2, [9]), (201, 169, 335, 1, []), (200, 254, 338, 2, [9]), (200, 255, 341, 0, [9]), (200, 207, 344, 1, [9]), (200, 259, 347, 2, [9]), (49, 9, 23, 38, [])]
set_option maxRecDepth 1000000 in
theorem wz_W9_3k : ∀ r ∈ wz_W9_3, wz_wd cm_ms "BarberMinutesModel" r := wz_ws_ok (ps := [[1325], [1682, 1684, 92, 125], [1582, 1584, 76, 125], [1590, 1592, 78, 125], [1602, 1604, 80, 125], [1606, 1608, 81, 125], [1630, 1632, 85, 125], [1654, 1656, 88, 125], [1650, 1652, 87, 125], [1666, 1668, 89, 125], [1674, 1676, 90, 125], [1678, 1680, 91, 125], [1694, 1696, 93, 125], [1718, 1720, 96, 125], [1710, 1712, 94, 125], [1714, 1716, 95, 125], [1734, 1735, 125], [1730, 1732, 98, 125], [1753, 1755, 99, 125], [1769, 1770, 125], [1780, 1782, 101, 125], [1776, 1778, 100, 125], [1796, 1798, 102, 125], [1800, 1802, 103, 125], [1326]]) (by decide +kernel)
noncomputable def wz_W9_4 : List ev_Row := [(49, 9, 25, 350, []), (50, 9, 25, 350, []), (49, 9, 24, 41, []), (200, 261, 353, 3, [9]), (83, 1000000, 357, 0, []), (200, 262, 358, 0, [9]), (50, 9, 27, 361, []), (50, 9, 28, 364, []), (50, 9, 29, 367, []), (49, 9, 26, 44, []), (200, 265, 370, 1, [9]), (49, 9, 27, 361, []), (49, 9, 28, 364, []), (49, 9, 29, 367, []), (200, 266, 373, 1, [9]), (200, 271, 376, 1, [9]), (200, 272, 379, 0, [9]), (201, 275, 382, 3, []), (50, 9, 30, 386, []), (201, 277, 389, 3, []), (200, 278, 393, 1, [9]), (49, 9, 30, 386, []), (50, 9, 31, 396, []), (50, 9, 32, 400, []), (50, 9, 33, 403, [])]
set_option maxRecDepth 1000000 in
theorem wz_W9_4k : ∀ r ∈ wz_W9_4, wz_wd cm_ms "BarberMinutesModel" r := wz_ws_ok (ps := [[1328], [1328], [1327], [1813, 1815, 105, 125], [1812], [1808, 1810, 104, 125], [1330], [1331], [1332], [1329], [1829, 1831, 107, 125], [1330], [1331], [1332], [1825, 1827, 106, 125], [1853, 1855, 109, 125], [1849, 1851, 108, 125], [1865, 1866, 125], [1333], [1876, 1877, 125], [1872, 1874, 110, 125], [1333], [1334], [1335], [1336]]) (by decide +kernel)
noncomputable def wz_W9_5 : List ev_Row := [(49, 9, 31, 396, []), (49, 9, 32, 400, []), (49, 9, 33, 403, []), (200, 281, 406, 1, [9]), (201, 171, 409, 3, []), (83, 65536, 413, 0, []), (50, 9, 34, 414, []), (83, 65537, 417, 0, []), (49, 9, 34, 414, []), (200, 284, 418, 4, [9]), (49, 9, 20, 179, []), (49, 9, 18, 29, []), (200, 287, 422, 0, [9]), (200, 166, 425, 1, [9]), (49, 9, 21, 182, []), (49, 9, 19, 32, [])]
set_option maxRecDepth 1000000 in
theorem wz_W9_5k : ∀ r ∈ wz_W9_5, wz_wd cm_ms "BarberMinutesModel" r := wz_ws_ok (ps := [[1334], [1335], [1336], [1887, 1889, 111, 125], [1891, 1892, 125], [1906], [1337], [1907], [1337], [1902, 1904, 112, 125], [1323], [1321], [1916, 1918, 113, 125], [1932, 1934, 114, 125], [1324], [1322]]) (by decide +kernel)
noncomputable def wz_W9 : List ev_Row := wz_W9_0 ++ (wz_W9_1 ++ (wz_W9_2 ++ (wz_W9_3 ++ (wz_W9_4 ++ (wz_W9_5)))))
theorem wz_W9k : ∀ r ∈ wz_W9, wz_wd cm_ms "BarberMinutesModel" r := (List.forall_mem_append.mpr ⟨wz_W9_0k, (List.forall_mem_append.mpr ⟨wz_W9_1k, (List.forall_mem_append.mpr ⟨wz_W9_2k, (List.forall_mem_append.mpr ⟨wz_W9_3k, (List.forall_mem_append.mpr ⟨wz_W9_4k, wz_W9_5k⟩)⟩)⟩)⟩)⟩)
noncomputable def wz_W10_0 : List ev_Row := [(83, 1431655765, 265, 0, []), (83, 858993459, 266, 0, []), (83, 252645135, 267, 0, [])]
set_option maxRecDepth 1000000 in
theorem wz_W10_0k : ∀ r ∈ wz_W10_0, wz_wd cm_ms "java/lang/Integer" r := wz_ws_ok (ps := [[623], [624], [625]]) (by decide +kernel)
noncomputable def wz_W10 : List ev_Row := wz_W10_0
theorem wz_W10k : ∀ r ∈ wz_W10, wz_wd cm_ms "java/lang/Integer" r := wz_W10_0k
noncomputable def wz_W11_0 : List ev_Row := [(70, 9, 0, 0, []), (200, 3, 335, 0, [99]), (200, 4, 492, 0, [99]), (201, 6, 495, 2, []), (72, 38, 0, 0, []), (71, 15, 0, 0, []), (82, 1053, 0, 0, []), (201, 7, 1059, 3, [])]
set_option maxRecDepth 1000000 in
theorem wz_W11_0k : ∀ r ∈ wz_W11_0, wz_wd cm_ms "java/lang/String" r := wz_ws_ok (ps := [[1970], [565, 566, 567, 127], [575, 576, 577, 127], [579, 580, 128], [569], [1971], [585], [587, 588, 129]]) (by decide +kernel)
noncomputable def wz_W11 : List ev_Row := wz_W11_0
theorem wz_W11k : ∀ r ∈ wz_W11, wz_wd cm_ms "java/lang/String" r := wz_W11_0k
noncomputable def wz_W12_0 : List ev_Row := [(201, 5, 9, 2, [])]
set_option maxRecDepth 1000000 in
theorem wz_W12_0k : ∀ r ∈ wz_W12_0, wz_wd cm_ms "java/lang/StringLatin1" r := wz_ws_ok (ps := [[582, 583, 127]]) (by decide +kernel)
noncomputable def wz_W12 : List ev_Row := wz_W12_0
theorem wz_W12k : ∀ r ∈ wz_W12, wz_wd cm_ms "java/lang/StringLatin1" r := wz_W12_0k
noncomputable def wz_W13 : List ev_Row := []
theorem wz_W13k : ∀ r ∈ wz_W13, wz_wd cm_ms "jdk/internal/util/Preconditions" r := fun r hr => nomatch hr
