/-! AB: runs -/
def ab_ops : List ab_O := [ab_iconst, ab_bipush, ab_sipush, ab_lconst, ab_iload, ab_iloadn, ab_lload, ab_lloadn, ab_aload, ab_aloadn, ab_istore, ab_istoren, ab_lstore, ab_lstoren, ab_astore, ab_astoren, ab_iadd, ab_isub, ab_imul, ab_iand, ab_ior, ab_ixor, ab_ishl, ab_ishr, ab_iushr, ab_idiv, ab_irem, ab_ineg, ab_i2b, ab_i2l, ab_lcmp, ab_dup, ab_pop, ab_dup2, ab_iinc, ab_icmp_eq, ab_icmp_ne, ab_icmp_lt, ab_icmp_ge, ab_icmp_gt, ab_icmp_le, ab_if_eq, ab_if_ne, ab_if_lt, ab_if_ge, ab_if_gt, ab_if_le, ab_goto, ab_sw, ab_get, ab_put, ab_no, ab_iaload, ab_baload, ab_laload, ab_aaload, ab_iastore, ab_bastore, ab_no, ab_no, ab_no, ab_no, ab_no, ab_no, ab_alen, ab_no, ab_no, ab_mmin, ab_ldc, ab_ldcS, ab_getV, ab_getC, ab_gets, ab_alenS, ab_baloadS, ab_i2c, ab_ladd, ab_lsub, ab_lmul, ab_no, ab_no, ab_ldc2, ab_getsF, ab_ldcw, ab_mmax, ab_mabs, ab_copyi, ab_getT, ab_tald, ab_alenT, ab_lastore, ab_pop2]
def ab_All2 : List cm_O → List ab_O → Prop
  | [], [] => True
  | o :: os, a :: as => ab_Snd o a ∧ ab_All2 os as
  | _, _ => False
theorem ab_All2_at : ∀ {os : List cm_O} {as : List ab_O}, ab_All2 os as → ∀ (k : Nat) (a : ab_O), as[k]? = some a → ∃ o, os[k]? = some o ∧ ab_Snd o a
  | [], [], _, k, a, h => by cases h
  | [], _ :: _, h, _, _, _ => h.elim
  | _ :: _, [], h, _, _, _ => h.elim
  | o :: os, x :: as, h, 0, a, e => by cases e; exact ⟨o, rfl, h.1⟩
  | o :: os, x :: as, h, k + 1, a, e => ab_All2_at h.2 k a e
theorem ab_ops_ok : ab_All2 cm_ops ab_ops := ⟨ab_iconst_ok, ⟨ab_bipush_ok, ⟨ab_sipush_ok, ⟨ab_lconst_ok, ⟨ab_iload_ok, ⟨ab_iloadn_ok, ⟨ab_lload_ok, ⟨ab_lloadn_ok, ⟨ab_aload_ok, ⟨ab_aloadn_ok, ⟨ab_istore_ok, ⟨ab_istoren_ok, ⟨ab_lstore_ok, ⟨ab_lstoren_ok, ⟨ab_astore_ok, ⟨ab_astoren_ok, ⟨ab_iadd_ok, ⟨ab_isub_ok, ⟨ab_imul_ok, ⟨ab_iand_ok, ⟨ab_ior_ok, ⟨ab_ixor_ok, ⟨ab_ishl_ok, ⟨ab_ishr_ok, ⟨ab_iushr_ok, ⟨ab_idiv_ok, ⟨ab_irem_ok, ⟨ab_ineg_ok, ⟨ab_i2b_ok, ⟨ab_i2l_ok, ⟨ab_lcmp_ok, ⟨ab_dup_ok, ⟨ab_pop_ok, ⟨ab_dup2_ok, ⟨ab_iinc_ok, ⟨ab_icmp_eq_ok, ⟨ab_icmp_ne_ok, ⟨ab_icmp_lt_ok, ⟨ab_icmp_ge_ok, ⟨ab_icmp_gt_ok, ⟨ab_icmp_le_ok, ⟨ab_if_eq_ok, ⟨ab_if_ne_ok, ⟨ab_if_lt_ok, ⟨ab_if_ge_ok, ⟨ab_if_gt_ok, ⟨ab_if_le_ok, ⟨ab_goto_ok, ⟨ab_sw_ok, ⟨ab_get_ok, ⟨ab_put_ok, ⟨ab_no_ok _, ⟨ab_iaload_ok, ⟨ab_baload_ok, ⟨ab_laload_ok, ⟨ab_aaload_ok, ⟨ab_iastore_ok, ⟨ab_bastore_ok, ⟨ab_no_ok _, ⟨ab_no_ok _, ⟨ab_no_ok _, ⟨ab_no_ok _, ⟨ab_no_ok _, ⟨ab_no_ok _, ⟨ab_alen_ok, ⟨ab_no_ok _, ⟨ab_no_ok _, ⟨ab_mmin_ok, ⟨ab_ldc_ok, ⟨ab_ldcS_ok, ⟨ab_getV_ok, ⟨ab_getC_ok, ⟨ab_gets_ok, ⟨ab_alenS_ok, ⟨ab_baloadS_ok, ⟨ab_i2c_ok, ⟨ab_ladd_ok, ⟨ab_lsub_ok, ⟨ab_lmul_ok, ⟨ab_no_ok _, ⟨ab_no_ok _, ⟨ab_ldc2_ok, ⟨ab_getsF_ok, ⟨ab_ldcw_ok, ⟨ab_mmax_ok, ⟨ab_mabs_ok, ⟨ab_copyi_ok, ⟨ab_getT_ok, ⟨ab_tald_ok, ⟨ab_alenT_ok, ⟨ab_lastore_ok, ⟨ab_pop2_ok, trivial⟩⟩⟩⟩⟩⟩⟩⟩⟩⟩⟩⟩⟩⟩⟩⟩⟩⟩⟩⟩⟩⟩⟩⟩⟩⟩⟩⟩⟩⟩⟩⟩⟩⟩⟩⟩⟩⟩⟩⟩⟩⟩⟩⟩⟩⟩⟩⟩⟩⟩⟩⟩⟩⟩⟩⟩⟩⟩⟩⟩⟩⟩⟩⟩⟩⟩⟩⟩⟩⟩⟩⟩⟩⟩⟩⟩⟩⟩⟩⟩⟩⟩⟩⟩⟩⟩⟩⟩⟩⟩⟩⟩
abbrev ab_Out : Type := List ab_A × ab_K × ab_Ca
abbrev ab_Cl : Type := Nat → List ab_A → ab_K → ab_Ca → Option (List ab_Out)
def ab_take (recv : Bool) (n : Nat) (st : List ab_A) : Option (List ab_A × List ab_A) :=
  if recv = true then (match st.drop n with
    | x :: rest => if (st.take n).length = n then some (x :: (st.take n).reverse, rest) else none
    | [] => none)
  else (if (st.take n).length = n then some ((st.take n).reverse, st.drop n) else none)
/-- the receiver: one of the class's cells (99: a text) -/
def ab_recv (ci : Int) : List ab_A → Bool
  | a :: _ => decide (a.1 = 1) && a.2.2.all (fun c => if ci = 99 then decide (1001 ≤ c) && (decide (c < 1081) && decide (c % 2 = 1)) else decide ((cm_kind c).1 = ci.toNat))
  | [] => false
def ab_rcv (r : ev_Row) (as : List ab_A) : Bool := if r.1 = 200 then (match r.2.2.2.2 with
  | [ci] => ab_recv ci as
  | _ => false) else true
def ab_inv (cl : ab_Cl) (r : ev_Row) (S : ab_S) : Option (List ab_S) := match ab_take (!(r.1 == 201)) r.2.2.2.1.toNat S.2.2.1 with
  | some (as, rest) => if ab_cs rest ≤ 8 ∧ ab_rcv r as = true then (match cl r.2.1.toNat as S.2.2.2.1 S.2.2.2.2 with
      | some outs => some (outs.map (fun o => (S.1 + 3, S.2.1, o.1 ++ rest, o.2)))
      | none => none) else none
  | none => none
def ab_pick (L : List (Nat × ab_A)) : List Nat → Option (List (Nat × ab_A))
  | [] => some []
  | i :: r => match ev_at L i, ab_pick L r with
    | some v, some l => some ((i, v) :: l)
    | _, _ => none
theorem ab_pick_at {L : List (Nat × ab_A)} : ∀ {live : List Nat} {L' : List (Nat × ab_A)}, ab_pick L live = some L' → ∀ q ∈ L', ev_at L q.1 = some q.2
  | [], L', h => by cases h; exact fun q hq => nomatch hq
  | i :: r, L', h => by
    unfold ab_pick at h
    split at h
    · rename_i v l h1 h2
      cases h
      intro q hq
      rcases List.mem_cons.mp hq with rfl | hq
      · exact h1
      · exact ab_pick_at h2 q hq
    · cases h
theorem ab_pick_ok {ρ : List Int32} {L : List (Nat × ab_A)} {CL : List (Nat × Value)} (hl : ab_l ρ L CL) : ∀ {live : List Nat} {L' : List (Nat × ab_A)}, ab_pick L live = some L' → ∃ CL', cm_pick CL live = some CL' ∧ ab_l ρ L' CL'
  | [], L', h => by cases h; exact ⟨[], rfl, fun q hq => nomatch hq⟩
  | i :: r, L', h => by
    unfold ab_pick at h
    split at h
    · rename_i v l h1 h2
      cases h
      obtain ⟨CL', e1, e2⟩ := ab_pick_ok hl h2
      obtain ⟨x, x1, x2⟩ := hl _ (ev_at_mem h1)
      refine ⟨(i, x) :: CL', by unfold cm_pick; rw [x1, e1], fun q hq => ?_⟩
      rcases List.mem_cons.mp hq with rfl | hq
      · exact ⟨x, by unfold cm_look; rw [if_pos rfl], x2⟩
      · by_cases e : i = q.1
        · have := ab_pick_at h2 q hq
          rw [← e, h1] at this
          cases this
          exact ⟨x, by unfold cm_look; rw [if_pos e], x2⟩
        · obtain ⟨y, y1, y2⟩ := e2 q hq
          exact ⟨y, by unfold cm_look; rw [if_neg e]; exact y1, y2⟩
    · cases h
def ab_all {α β : Type} (f : α → Option (List β)) : List α → Option (List β)
  | [] => some []
  | S :: r => match f S, ab_all f r with
    | some a, some b => some (a ++ b)
    | _, _ => none
theorem ab_all_ok {α β : Type} {f : α → Option (List β)} : ∀ {Ss : List α} {o : List β}, ab_all f Ss = some o → ∀ S ∈ Ss, ∃ o', f S = some o' ∧ ∀ x ∈ o', x ∈ o
  | [], o, h => fun S hS => nomatch hS
  | S :: r, o, h => by
    unfold ab_all at h
    split at h
    · rename_i a b ha hb
      cases h
      intro S' hS'
      rcases List.mem_cons.mp hS' with rfl | hS'
      · exact ⟨a, ha, fun x hx => List.mem_append_left _ hx⟩
      · obtain ⟨o', h1, h2⟩ := ab_all_ok hb S' hS'
        exact ⟨o', h1, fun x hx => List.mem_append_right _ (h2 x hx)⟩
    · cases h
def ab_stop (stops : List (Nat × List Nat)) (k : ab_S → Option (List (Bool × ab_S))) (S : ab_S) : Option (List (Bool × ab_S)) := match ev_at stops S.1 with
  | none => k S
  | some live => (match ab_pick S.2.1 live with
    | some L => some [(true, S.1, L, S.2.2)]
    | none => none)
def ol_0 : List ab_O := [ab_iconst, ab_bipush, ab_sipush, ab_lconst, ab_iload, ab_iloadn]
def ol_1 : List ab_O := [ab_lload, ab_lloadn, ab_aload, ab_aloadn, ab_istore, ab_istoren]
def ol_2 : List ab_O := [ab_lstore, ab_lstoren, ab_astore, ab_astoren, ab_iadd, ab_isub]
def ol_3 : List ab_O := [ab_imul, ab_iand, ab_ior, ab_ixor, ab_ishl, ab_ishr]
def ol_4 : List ab_O := [ab_iushr, ab_idiv, ab_irem, ab_ineg, ab_i2b, ab_i2l]
def ol_5 : List ab_O := [ab_lcmp, ab_dup, ab_pop, ab_dup2, ab_iinc, ab_icmp_eq]
def ol_6 : List ab_O := [ab_icmp_ne, ab_icmp_lt, ab_icmp_ge, ab_icmp_gt, ab_icmp_le, ab_if_eq]
def ol_7 : List ab_O := [ab_if_ne, ab_if_lt, ab_if_ge, ab_if_gt, ab_if_le, ab_goto]
def ol_8 : List ab_O := [ab_sw, ab_get, ab_put, ab_no, ab_iaload, ab_baload]
def ol_9 : List ab_O := [ab_laload, ab_aaload, ab_iastore, ab_bastore, ab_no, ab_no]
def ol_10 : List ab_O := [ab_no, ab_no, ab_no, ab_no, ab_alen, ab_no]
def ol_11 : List ab_O := [ab_no, ab_mmin, ab_ldc, ab_ldcS, ab_getV, ab_getC]
def ol_12 : List ab_O := [ab_gets, ab_alenS, ab_baloadS, ab_i2c, ab_ladd, ab_lsub]
def ol_13 : List ab_O := [ab_lmul, ab_no, ab_no, ab_ldc2, ab_getsF, ab_ldcw]
def ol_14 : List ab_O := [ab_mmax, ab_mabs, ab_copyi, ab_getT, ab_tald, ab_alenT]
def ol_15 : List ab_O := [ab_lastore, ab_pop2]
theorem ap_at {α : Type} {A B : List α} {N k : Nat} {x y : Option α} (h : A.length = N) (hb : y = B[k - N]?) (ha : x = A[k]?) : cond (Nat.ble N k) y x = (A ++ B)[k]? := by
  subst h
  cases hk : Nat.ble A.length k with
  | true => exact hb.trans (List.getElem?_append_right (Nat.le_of_ble_eq_true hk)).symm
  | false =>
    have hlt : k < A.length := Nat.lt_of_not_le (fun z => by
      have := Nat.ble_eq_true_of_le z
      rw [hk] at this
      cases this)
    exact ha.trans (List.getElem?_append_left hlt).symm
def ab_opF (k : Nat) : Option ab_O := cond (Nat.ble 48 k) (cond (Nat.ble 24 (k - 48)) (cond (Nat.ble 12 ((k - 48) - 24)) (cond (Nat.ble 6 (((k - 48) - 24) - 12)) (ol_15[(((k - 48) - 24) - 12) - 6]?) (ol_14[((k - 48) - 24) - 12]?)) (cond (Nat.ble 6 ((k - 48) - 24)) (ol_13[((k - 48) - 24) - 6]?) (ol_12[(k - 48) - 24]?))) (cond (Nat.ble 12 (k - 48)) (cond (Nat.ble 6 ((k - 48) - 12)) (ol_11[((k - 48) - 12) - 6]?) (ol_10[(k - 48) - 12]?)) (cond (Nat.ble 6 (k - 48)) (ol_9[(k - 48) - 6]?) (ol_8[k - 48]?)))) (cond (Nat.ble 24 k) (cond (Nat.ble 12 (k - 24)) (cond (Nat.ble 6 ((k - 24) - 12)) (ol_7[((k - 24) - 12) - 6]?) (ol_6[(k - 24) - 12]?)) (cond (Nat.ble 6 (k - 24)) (ol_5[(k - 24) - 6]?) (ol_4[k - 24]?))) (cond (Nat.ble 12 k) (cond (Nat.ble 6 (k - 12)) (ol_3[(k - 12) - 6]?) (ol_2[k - 12]?)) (cond (Nat.ble 6 k) (ol_1[k - 6]?) (ol_0[k]?))))
theorem ab_opF_eq (k : Nat) : ab_opF k = ab_ops[k]? := by
  have e : ab_ops = (((ol_0 ++ ol_1) ++ (ol_2 ++ ol_3)) ++ ((ol_4 ++ ol_5) ++ (ol_6 ++ ol_7))) ++ (((ol_8 ++ ol_9) ++ (ol_10 ++ ol_11)) ++ ((ol_12 ++ ol_13) ++ (ol_14 ++ ol_15))) := rfl
  rw [e]
  unfold ab_opF
  exact ap_at rfl (ap_at rfl (ap_at rfl (ap_at rfl rfl rfl) (ap_at rfl rfl rfl)) (ap_at rfl (ap_at rfl rfl rfl) (ap_at rfl rfl rfl))) (ap_at rfl (ap_at rfl (ap_at rfl rfl rfl) (ap_at rfl rfl rfl)) (ap_at rfl (ap_at rfl rfl rfl) (ap_at rfl rfl rfl)))
/-- rows: by the tail behind the last one -/
def ab_srt : List (Nat × ev_Row) → Bool
  | [] => true
  | q :: l => (match l with
    | [] => true
    | p :: _ => Nat.blt q.1 p.1) && ab_srt l
theorem ab_srt_tl {q : Nat × ev_Row} {l : List (Nat × ev_Row)} (h : ab_srt (q :: l) = true) : ab_srt l = true := by
  unfold ab_srt at h
  rw [Bool.and_eq_true] at h
  exact h.2
theorem ab_srt_lt : ∀ {l : List (Nat × ev_Row)} {q : Nat × ev_Row}, ab_srt (q :: l) = true → ∀ x ∈ l, q.1 < x.1
  | [], q, _ => fun x hx => nomatch hx
  | p :: l, q, h => by
    have h2 := ab_srt_tl h
    have h : (Nat.blt q.1 p.1 && ab_srt (p :: l)) = true := h
    rw [Bool.and_eq_true] at h
    have h1 : q.1 < p.1 := Nat.le_of_ble_eq_true (show Nat.ble (q.1 + 1) p.1 = true from h.1)
    intro x hx
    rcases List.mem_cons.mp hx with rfl | hx
    · exact h1
    · exact Nat.lt_trans h1 (ab_srt_lt h2 x hx)
theorem ab_at_mid : ∀ {pre : List (Nat × ev_Row)} {q : Nat × ev_Row} {tl : List (Nat × ev_Row)}, ab_srt (pre ++ q :: tl) = true → ev_at (pre ++ q :: tl) q.1 = some q.2
  | [], q, tl, _ => by
    show cond (Nat.beq q.1 q.1) (some q.2) (ev_at tl q.1) = some q.2
    exact (congrArg (fun b => cond b (some q.2) (ev_at tl q.1)) (Nat.beq_refl q.1)).trans rfl
  | p :: pre, q, tl, h => by
    have h1 : p.1 < q.1 := ab_srt_lt (show ab_srt (p :: (pre ++ q :: tl)) = true from h) q (List.mem_append_right _ List.mem_cons_self)
    have h2 : ab_srt (pre ++ q :: tl) = true := ab_srt_tl (show ab_srt (p :: (pre ++ q :: tl)) = true from h)
    show cond (Nat.beq p.1 q.1) (some p.2) (ev_at (pre ++ q :: tl) q.1) = some q.2
    cases hb : Nat.beq p.1 q.1 with
    | true =>
      have := Nat.eq_of_beq_eq_true hb
      omega
    | false => exact ab_at_mid h2
def ab_tl (rows : List (Nat × ev_Row)) (pc : Nat) : List (Nat × ev_Row) := match rows with
  | [] => []
  | q :: l => cond (Nat.beq q.1 pc) (q :: l) (ab_tl l pc)
theorem ab_tl_ok : ∀ {rows : List (Nat × ev_Row)} {pc : Nat} {q : Nat × ev_Row} {tl : List (Nat × ev_Row)}, ab_tl rows pc = q :: tl → q.1 = pc ∧ ∃ pre, rows = pre ++ q :: tl
  | [], pc, q, tl, h => by cases h
  | p :: l, pc, q, tl, h => by
    have h : cond (Nat.beq p.1 pc) (p :: l) (ab_tl l pc) = q :: tl := h
    cases hb : Nat.beq p.1 pc with
    | true =>
      rw [hb] at h
      have h : p :: l = q :: tl := h
      cases h
      exact ⟨Nat.eq_of_beq_eq_true hb, [], rfl⟩
    | false =>
      rw [hb] at h
      obtain ⟨h1, pre, h2⟩ := ab_tl_ok (show ab_tl l pc = q :: tl from h)
      exact ⟨h1, p :: pre, congrArg (List.cons p) h2⟩
def ab_nx (rows tl : List (Nat × ev_Row)) (pc : Nat) : List (Nat × ev_Row) := match tl with
  | [] => ab_tl rows pc
  | q :: l => cond (Nat.beq q.1 pc) (q :: l) (ab_tl rows pc)
theorem ab_nx_ok {rows tl : List (Nat × ev_Row)} {pc : Nat} {q : Nat × ev_Row} {tl' : List (Nat × ev_Row)} (hs : ab_srt rows = true) (ht : ∃ pre, rows = pre ++ tl) (h : ab_nx rows tl pc = q :: tl') : ev_at rows pc = some q.2 ∧ q ∈ rows ∧ ∃ pre, rows = pre ++ tl' := by
  have k : q.1 = pc ∧ ∃ pre, rows = pre ++ q :: tl' := by
    cases tl with
    | nil => exact ab_tl_ok (show ab_tl rows pc = q :: tl' from h)
    | cons p l =>
      have h : cond (Nat.beq p.1 pc) (p :: l) (ab_tl rows pc) = q :: tl' := h
      cases hb : Nat.beq p.1 pc with
      | true =>
        rw [hb] at h
        have h : p :: l = q :: tl' := h
        cases h
        exact ⟨Nat.eq_of_beq_eq_true hb, ht⟩
      | false =>
        rw [hb] at h
        exact ab_tl_ok (show ab_tl rows pc = q :: tl' from h)
  obtain ⟨k1, pre, k2⟩ := k
  subst k1
  subst k2
  exact ⟨ab_at_mid hs, List.mem_append_right _ List.mem_cons_self, pre ++ [q], by simp⟩
/-- a run to its ends: at stops (true), at returns (false) -/
def ab_runT (cl : ab_Cl) (h : ab_H) (md : ab_Md) (P : ev_P) (rows : List (Nat × ev_Row)) (stops : List (Nat × List Nat)) : Nat → List (Nat × ev_Row) → ab_S → Option (List (Bool × ab_S))
  | 0, _, _ => none
  | n + 1, tl, S => match ab_nx rows tl S.1 with
    | [] => none
    | r :: tl' =>
      if 210 ≤ r.2.1 then some [(false, S)]
      else if 200 ≤ r.2.1 then (match ab_inv cl r.2 S with
        | some Ss => ab_all (ab_stop stops (ab_runT cl h md P rows stops n tl')) Ss
        | none => none)
      else (match ab_opF r.2.1 with
        | some o => (match o h md P r.2.2 S with
          | some Ss => ab_all (ab_stop stops (ab_runT cl h md P rows stops n tl')) Ss
          | none => none)
        | none => none)
def ab_run (cl : ab_Cl) (h : ab_H) (md : ab_Md) (P : ev_P) (rows : List (Nat × ev_Row)) (stops : List (Nat × List Nat)) (n : Nat) (S : ab_S) : Option (List (Bool × ab_S)) := cond (ab_srt rows) (ab_runT cl h md P rows stops n rows S) none
theorem ab_s_app {ρ : List Int32} : ∀ {a b : List ab_A} {x y : List Value}, ab_s ρ a x → ab_s ρ b y → ab_s ρ (a ++ b) (x ++ y)
  | [], _, [], _, _, h => h
  | [], _, _ :: _, _, h, _ => h.elim
  | _ :: _, _, [], _, h, _ => h.elim
  | _ :: _, _, _ :: _, _, h1, h2 => ⟨h1.1, ab_s_app h1.2 h2⟩
theorem ab_s_rev {ρ : List Int32} : ∀ {a : List ab_A} {x : List Value}, ab_s ρ a x → ab_s ρ a.reverse x.reverse
  | [], [], _ => trivial
  | [], _ :: _, h => h.elim
  | _ :: _, [], h => h.elim
  | a :: as, x :: xs, h => by
    rw [List.reverse_cons, List.reverse_cons]
    exact ab_s_app (ab_s_rev h.2) ⟨h.1, trivial⟩
theorem ab_s_split {ρ : List Int32} : ∀ (n : Nat) {a : List ab_A} {x : List Value}, ab_s ρ a x → ab_s ρ (a.take n) (x.take n) ∧ ab_s ρ (a.drop n) (x.drop n)
  | 0, _, _, h => ⟨trivial, h⟩
  | _ + 1, [], [], _ => ⟨trivial, trivial⟩
  | _ + 1, [], _ :: _, h => h.elim
  | _ + 1, _ :: _, [], h => h.elim
  | n + 1, _ :: _, _ :: _, h => ⟨⟨h.1, (ab_s_split n h.2).1⟩, (ab_s_split n h.2).2⟩
theorem ab_s_len {ρ : List Int32} : ∀ {a : List ab_A} {x : List Value}, ab_s ρ a x → a.length = x.length
  | [], [], _ => rfl
  | [], _ :: _, h => h.elim
  | _ :: _, [], h => h.elim
  | _ :: _, _ :: _, h => congrArg Nat.succ (ab_s_len h.2)
theorem ab_take_ok {ρ : List Int32} {recv : Bool} {n : Nat} {st as rest : List ab_A} {sc : List Value} (h : ab_take recv n st = some (as, rest)) (hs : ab_s ρ st sc) : ∃ vs restc, cm_take recv n sc = some (vs, restc) ∧ ab_s ρ as vs ∧ ab_s ρ rest restc := by
  obtain ⟨t1, t2⟩ := ab_s_split n hs
  have hl := ab_s_len t1
  unfold ab_take at h
  unfold cm_take
  split at h
  · rename_i hr
    rw [if_pos hr]
    split at h
    · rename_i x rest' hd
      split at h
      · rename_i hn
        cases h
        rw [hd] at t2
        obtain ⟨v, sc', e1, e2, e3⟩ := ab_s_cons t2
        rw [e1]
        dsimp only
        rw [if_pos (by rw [← hl]; exact hn)]
        exact ⟨_, _, rfl, ⟨e2, ab_s_rev t1⟩, e3⟩
      · cases h
    · cases h
  · rename_i hr
    rw [if_neg hr]
    split at h
    · rename_i hn
      cases h
      rw [if_pos (by rw [← hl]; exact hn)]
      exact ⟨_, _, rfl, ab_s_rev t1, t2⟩
    · cases h
section ABR
variable {ms : List ev_MI} {h : ab_H} {N : cm_M → Prop} {M0 : cm_M} {md : ab_Md} {d : Nat} {cl : ab_Cl} {E : cm_E} {P : ev_P} {rows : List (Nat × ev_Row)} {stops : List (Nat × List Nat)} {J : cm_S → Prop} {Z : Nat → cm_S → Prop}
/-- what a call may answer -/
def ab_Post (h : ab_H) (N : cm_M → Prop) (M0 : cm_M) (md : ab_Md) (ρ : List Int32) (outs : List ab_Out) : cm_K := fun v M' => ∃ o ∈ outs, ∃ ext, ab_s (ρ ++ ext) o.1 v.toList ∧ ab_k (ρ ++ ext) o.2.1 ∧ ab_m h N M0 md (ρ ++ ext) o.2.2 M'
def ab_ClOk (ms : List ev_MI) (h : ab_H) (N : cm_M → Prop) (M0 : cm_M) (md : ab_Md) (d : Nat) (cl : ab_Cl) : Prop := ∀ (k : Nat) (as : List ab_A) (K : ab_K) (Ca : ab_Ca) (outs : List ab_Out) (ρ : List Int32) (vs : List Value) (M : cm_M), cl k as K Ca = some outs → ab_s ρ as vs → ab_k ρ K → ab_m h N M0 md ρ Ca M → cm_Call ms d k vs M (ab_Post h N M0 md ρ outs)
theorem ab_inv_ok (hcl : ab_ClOk ms h N M0 md d cl) {q : Nat × ev_Row} (hrc : ab_RC ms q) (h200 : 200 ≤ q.2.1) (h210 : q.2.1 < 210) {S : ab_S} {Ss : List ab_S} {C : cm_S} {ρ : List Int32} {k : cm_S → Prop} (hi : ab_inv cl q.2 S = some Ss) (hG : ab_G h N M0 md ρ S C) (hk : ∀ S' ∈ Ss, ∀ (ext : List Int32) (C' : cm_S), ab_G h N M0 md (ρ ++ ext) S' C' → k C') : cm_inv ms (cm_Call ms d) q.2 C k := by
  obtain ⟨pc, L, st, K, Ca⟩ := S
  obtain ⟨cpc, CL, sc, M⟩ := C
  obtain ⟨e0, gl, gs, gk, gm⟩ := hG
  dsimp only at e0 gl gs gk gm
  subst e0
  obtain ⟨mi, hmi, hn, hrv⟩ := hrc h200 h210
  obtain ⟨qpc, op, t1, t2, t3, t4⟩ := q
  dsimp only at hmi hn hrv h200 h210 hi ⊢
  unfold ab_inv at hi
  dsimp only at hi
  split at hi
  · rename_i as rest htk
    split at hi
    · rename_i hc
      split at hi
      · rename_i outs hcall
        cases hi
        obtain ⟨vs, restc, e1, e2, e3⟩ := ab_take_ok htk gs
        unfold cm_inv
        dsimp only
        rw [hmi]
        dsimp only
        rw [e1]
        have hcs := ab_cs_ok e3
        refine ⟨by rw [hcs]; exact hc.1, hn, fun h2 => ?_, cm_Call_up (hcl _ _ _ _ _ ρ vs M hcall e2 gk gm) (Nat.le_refl _) (fun v M' hp => ?_)⟩
        · obtain ⟨ci, hci, hrecv⟩ : ∃ ci, t4 = [ci] ∧ ab_recv ci as = true := by
            have h3 := hc.2
            unfold ab_rcv at h3
            rw [if_pos h2] at h3
            split at h3
            · rename_i ci e
              exact ⟨ci, e, h3⟩
            · cases h3
          have hrv := hrv h2 ci hci
          unfold ab_recv at hrecv
          split at hrecv
          · rename_i a as'
            simp only [Bool.and_eq_true, decide_eq_true_eq] at hrecv
            obtain ⟨v, vs', rfl, hv, -⟩ := ab_s_cons e2
            obtain ⟨c, hc1, rfl⟩ := ab_v1 hrecv.1 hv
            have hcc := List.all_eq_true.mp hrecv.2 c hc1
            rcases hrv with ⟨h99, hs⟩ | ⟨h99, hs⟩
            · rw [if_pos h99] at hcc
              simp only [Bool.and_eq_true, decide_eq_true_eq] at hcc
              exact Or.inl ⟨hcc.1, hcc.2.1, hcc.2.2, hs⟩
            · rw [if_neg h99] at hcc
              simp only [decide_eq_true_eq] at hcc
              exact Or.inr (by rw [hcc]; exact hs)
          · cases hrecv
        · obtain ⟨o, ho, ext, p1, p2, p3⟩ := hp
          exact hk _ (List.mem_map.mpr ⟨o, ho, rfl⟩) ext (cpc + 3, CL, v.toList ++ restc, M') ⟨rfl, ab_l_ap gl, ab_s_app p1 (ab_s_ap e3), p2, p3⟩
      · cases hi
    · cases hi
  · cases hi
theorem ab_runT_ok (hN : ab_NP h N) (hcl : ab_ClOk ms h N M0 md d cl) (hrc : ∀ q ∈ rows, ab_RC ms q) (hs : ab_srt rows = true) : ∀ (n : Nat) (tl : List (Nat × ev_Row)) (S : ab_S) (fs : List (Bool × ab_S)) (C : cm_S) (ρ : List Int32), (∃ pre, rows = pre ++ tl) → ab_runT cl h md P rows stops n tl S = some fs → ab_G h N M0 md ρ S C → (∀ f ∈ fs, ∀ (ext : List Int32) (C' : cm_S), ab_G h N M0 md (ρ ++ ext) f.2 C' → (f.1 = true → J C') ∧ (f.1 = false → ∀ r, ev_at rows C'.1 = some r → 210 ≤ r.1 → Z r.1 C')) → cm_wp ms (cm_Call ms d) E P rows stops J Z n C
  | 0, tl, S, fs, C, ρ, _, hr, _, _ => by cases hr
  | n + 1, tl, S, fs, C, ρ, htl, hr, hG, hf => by
    have hst : ∀ (tl' : List (Nat × ev_Row)), (∃ pre, rows = pre ++ tl') → ∀ (Ss : List ab_S), ab_all (ab_stop stops (ab_runT cl h md P rows stops n tl')) Ss = some fs → ∀ S' ∈ Ss, ∀ (ext : List Int32) (C' : cm_S), ab_G h N M0 md (ρ ++ ext) S' C' → cm_stop stops J (cm_wp ms (cm_Call ms d) E P rows stops J Z n) C' := by
      intro tl' htl' Ss hall S' hS' ext C' hG'
      obtain ⟨o', h1, h2⟩ := ab_all_ok hall S' hS'
      unfold ab_stop at h1
      unfold cm_stop
      rw [hG'.1]
      split at h1
      · rename_i e
        rw [e]
        exact ab_runT_ok hN hcl hrc hs n tl' S' o' C' (ρ ++ ext) htl' h1 hG' (fun f hf1 ext' C2 hG2 => hf f (h2 f hf1) (ext ++ ext') C2 (by rw [← List.append_assoc]; exact hG2))
      · rename_i live e
        rw [e]
        split at h1
        · rename_i L' hL'
          cases h1
          obtain ⟨CL', e1, e2⟩ := ab_pick_ok hG'.2.1 hL'
          dsimp only
          rw [e1]
          exact (hf _ (h2 _ (List.mem_singleton.mpr rfl)) ext (S'.1, CL', C'.2.2) ⟨rfl, e2, hG'.2.2⟩).1 rfl
        · cases h1
    unfold ab_runT at hr
    unfold cm_wp
    rw [hG.1]
    split at hr
    · cases hr
    · rename_i r tl' hnx
      obtain ⟨hrr, hmem, htl'⟩ := ab_nx_ok hs htl hnx
      rw [hrr]
      dsimp only
      split at hr
      · rename_i h210
        rw [if_pos h210]
        cases hr
        exact (hf _ (List.mem_singleton.mpr rfl) [] C (by rw [ab_nil]; exact hG)).2 rfl r.2 (by rw [hG.1]; exact hrr) h210
      · rename_i h210
        rw [if_neg h210]
        split at hr
        · rename_i h200
          rw [if_pos h200]
          split at hr
          · rename_i Ss hSs
            exact ab_inv_ok hcl (hrc _ (ev_at_mem hrr)) h200 (by dsimp only; omega) hSs hG (hst tl' htl' Ss hr)
          · cases hr
        · rename_i h200
          rw [if_neg h200]
          split at hr
          · rename_i o ho
            split at hr
            · rename_i Ss hSs
              rw [ab_opF_eq] at ho
              obtain ⟨co, hco, hsnd⟩ := ab_All2_at ab_ops_ok r.2.1 o ho
              rw [hco]
              exact hsnd h N M0 md E P r.2.2 S Ss C ρ _ hN hSs hG (hst tl' htl' Ss hr)
            · cases hr
          · cases hr
theorem ab_run_ok (hN : ab_NP h N) (hcl : ab_ClOk ms h N M0 md d cl) (hrc : ∀ q ∈ rows, ab_RC ms q) (n : Nat) (S : ab_S) (fs : List (Bool × ab_S)) (C : cm_S) (ρ : List Int32) (hr : ab_run cl h md P rows stops n S = some fs) (hG : ab_G h N M0 md ρ S C) (hf : ∀ f ∈ fs, ∀ (ext : List Int32) (C' : cm_S), ab_G h N M0 md (ρ ++ ext) f.2 C' → (f.1 = true → J C') ∧ (f.1 = false → ∀ r, ev_at rows C'.1 = some r → 210 ≤ r.1 → Z r.1 C')) : cm_wp ms (cm_Call ms d) E P rows stops J Z n C := by
  unfold ab_run at hr
  cases hs : ab_srt rows with
  | true =>
    rw [hs] at hr
    exact ab_runT_ok hN hcl hrc hs n rows S fs C ρ ⟨[], rfl⟩ hr hG hf
  | false =>
    rw [hs] at hr
    have hr : (none : Option (List (Bool × ab_S))) = some fs := hr
    cases hr
end ABR
