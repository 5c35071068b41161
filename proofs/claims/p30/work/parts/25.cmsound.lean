/-! CM: the run is right -/
theorem cm_take_ok {recv : Bool} {n : Nat} {st as rest : List Value} (h : cm_take recv n st = some (as, rest)) : ∃ xs : List Value, xs.length = n ∧ ((recv = true ∧ ∃ v, as = v :: xs ∧ st = xs.reverse ++ v :: rest) ∨ (recv = false ∧ as = xs ∧ st = xs.reverse ++ rest)) := by
  have hsp : st = st.take n ++ st.drop n := (List.take_append_drop n st).symm
  unfold cm_take at h
  split at h
  · rename_i hr
    split at h
    · rename_i x rest' hd
      split at h
      · rename_i hl
        cases h
        exact ⟨(st.take n).reverse, by rw [List.length_reverse]; exact hl, Or.inl ⟨hr, x, rfl, by rw [List.reverse_reverse, ← hd]; exact hsp⟩⟩
      · cases h
    · cases h
  · rename_i hr
    split at h
    · rename_i hl
      cases h
      exact ⟨(st.take n).reverse, by rw [List.length_reverse]; exact hl, Or.inr ⟨by simpa using hr, rfl, by rw [List.reverse_reverse]; exact hsp⟩⟩
    · cases h
theorem cm_callW {p : Program} {l : Launch} {e : Env} {R : Room} {s : State} {m : MethodId} {args : Array Value} {below : List Frame} {meth : Method} {c : Code} {H : Heap} {locs : List Loc} {ce sl pc : Nat} {ls : Array Slot} {rest st0 : List Value} {a : Array Value} {A A1 : Nat → Prop} {H0 : Heap} {free : Addr → Prop} {Q : State → Prop} {D : va_G} {adr : Nat → Nat} {P0 : cm_K}
    (hr : va_Run p l e R s m args below meth c H locs ce sl 0 0 (F0 m pc ls st0) rest (cm_Q D adr A1 P0 a) free) (hS : va_S A H0 H locs) (hA : ∀ q, A1 q → A q) (hf : ∀ q, free q → A q)
    (kk : ∀ (v : Option Value) (M' : cm_M) (ws' : va_W) (t : State) (H1 : Heap) (locs1 : List Loc), P0 v M' → t.heap = H1 → s.vm.Alike t.vm → va_P D vwCl ws' H1 → va_D A1 ws' → cm_w t adr M' ws' → va_S A H0 H1 locs1 → W p l e R s m args below meth c H1 locs1 ce sl Q (F0 m (pc + 3) ls ((v.map (cm_v adr)).toList ++ rest))) :
    W p l e R s m args below meth c H locs ce sl Q (F0 m pc ls st0) := by
  intro T hT X
  obtain ⟨v, st₀, t, T', L, h0, X', hL, e1, e2, ⟨⟨v', M', ws', hv0, hv, hP, hD, hw⟩, hz, hk⟩, st⟩ := hr T hT X
  cases hv
  rw [h0] at hz hk
  obtain ⟨t2, a1, b1⟩ := kk v' M' ws' t T'.heap (locs ++ L) hv0 e1.symm (by rw [← e2]; exact X'.warmed.alike) (by rw [e1]; exact hP) hD hw
    ⟨Nat.le_trans hS.1 (by rw [e1]; exact hz), fun q h1 h2 => by rw [e1, hk q (Nat.lt_of_lt_of_le h1 hS.1) (fun z => h2 (hA q z))]; exact hS.2.1 q h1 h2, fun q hq => by
      rcases List.mem_append.mp hq with h | h
      · exact hS.2.2 q h
      · exact hf _ (hL q h)⟩ T' rfl X'
  exact ⟨t2, st t2 a1, b1⟩
theorem cm_Pb_blind {D : va_G} {adr : Nat → Nat} {ws : va_W} {sz : Nat} {M : cm_M} {asc : List Value} : FrameBlind (va_Pc asc (cm_Pb D adr ws sz M)) := fun a U gf mk q => by
  obtain ⟨q0, q1, q2, q3, q4, q5, q6⟩ := q
  exact ⟨q0, q1, q2, va_K.moved (u := U) (U := U.calling gf mk a) (Vm.Alike.refl U.vm) q3, q4, cm_w_moved (u := U) (U := U.calling gf mk a) (Vm.Alike.refl U.vm) q5, cm_N_same (u := U) (U := U.calling gf mk a) rfl q6⟩
theorem cm_rowI_op {ms : List ev_MI} {P : ev_P} {r : ev_Row} (h : r.1 < 200) : cm_rowI ms P r = (match cm_ops[r.1]? with
    | some o => o.1 P r.2
    | none => none) := by
  unfold cm_rowI
  split
  · omega
  · omega
  · omega
  · omega
  · omega
  · omega
  · rfl
section CMS
variable {p : Program} {l : Launch} {e : Env} {R : Room} {s : State} {m : MethodId} {args : Array Value} {below : List Frame} {meth : Method} {c : Code} {cc : ByteArray} {Q : State → Prop} {D : va_G} {A : Nat → Prop} {adr : Nat → Nat} {ce sl : Nat} {E : cm_E} {P : ev_P} {ms : List ev_MI} {d : Nat}
set_option maxHeartbeats 4000000 in
theorem cm_inv_ok (hMS : ∀ (k : Nat) (mi : ev_MI), ms[k]? = some mi → cm_MOK ms mi) (hRm : d + 1 ≤ R.frames ∧ 40 * (d + 1) ≤ R.locals) (X : cm_X p R s m args c cc P.2.2.2.2.1 P.2.2.2.1 D A adr ce sl E)
    {q : Nat × ev_Row} (hq : cm_RowOK ms P cc q) (h200 : 200 ≤ q.2.1) (h210 : q.2.1 < 210) {S : cm_S} (hpc : S.1 = q.1) (h : cm_inv ms (cm_Call0 ms d) q.2 S (cm_Go p l e R s m args below meth c Q P.2.2.2.2.1 D A adr ce sl)) : cm_Go p l e R s m args below meth c Q P.2.2.2.2.1 D A adr ce sl S := by
  intro ws H locs ls hR
  obtain ⟨hx, hb, hml, hown, hts, hK, hA, hN, hcC, hcS, hf, hlc, hscr⟩ := X
  obtain ⟨pc, L, st, M⟩ := S
  obtain ⟨qpc, op, t1, t2, t3, t4⟩ := q
  have hpc : pc = qpc := hpc
  subst hpc
  obtain ⟨i, n, cs, hi, hd, hw⟩ := hq
  dsimp only at hi hd h200 h210
  unfold cm_inv at h
  dsimp only at h
  split at h
  rotate_left
  · exact h.elim
  rename_i mi hmi
  obtain ⟨hpl, hcd, hnL, hmh, -⟩ := hMS _ mi hmi
  split at h
  rotate_left
  · exact h.elim
  rename_i as rest htk
  obtain ⟨hc1, hc4, hc5, mi', d', P0, hmi', hdd, hP0, hM⟩ := h
  rw [hmi] at hmi'
  cases hmi'
  obtain ⟨hP, hD, hS, hW, hL⟩ := hR
  have hnp : (parseMethodDescriptor mi.1.desc).map (fun d => d.parameters.length) = some t3.toNat := by simpa [ev_nar1] using hc4
  have hroom : (cm_rm d').frames + 1 ≤ R.frames ∧ 8 + (mi.2.2.1 + 11) + (cm_rm d').locals ≤ R.locals := by
    simp only [cm_rm]
    omega
  have hG : GoodIn lw_good (Cond.code mi.1 mi.2.1 mi.2.2.1 mi.2.2.2.1 :: lw_good) := lw_good_good (fun w h => by
    rcases List.mem_cons.mp h with rfl | h
    · exact hcd
    · exact h)
  have hcap : ce + 0 ≤ R.cells ∧ sl + 0 ≤ R.slots := ⟨hcC, hcS⟩
  have hfree : ∀ q, va_A ws H.size q → A q := by
    intro q h
    rcases h with ⟨k, e, h⟩ | h
    · exact hD.2 k (q, e) h
    · exact hA q (Nat.le_trans hS.1 h)
  obtain ⟨xs, hxl, hor⟩ := cm_take_ok htk
  have hsum : ((rest.map (cm_v adr)).map fun v => v.category).sum ≤ 8 := by rw [cm_v_cats]; exact hc1
  have hkk : ∀ (v : Option Value) (M' : cm_M) (ws' : va_W) (t : State) (H1 : Heap) (locs1 : List Loc), P0 v M' → t.heap = H1 → s.vm.Alike t.vm → va_P D vwCl ws' H1 → va_D (va_A ws H.size) ws' → cm_w t adr M' ws' → va_S A s.heap H1 locs1 → W p l e R s m args below meth c H1 locs1 ce sl Q (F0 m (pc + 3) ls ((v.map (cm_v adr)).toList ++ rest.map (cm_v adr))) := by
    intro v M' ws' t H1 locs1 ho ht hvm hP1 hD1 hw1 hS1
    have := hP0 v M' ho ws' H1 locs1 ls ⟨hP1, hD1.weaken (fun _ _ _ h => hfree _ h), hS1, cm_w_moved hvm.symm hw1, hL⟩
    have e1 : (v.toList ++ rest).map (cm_v adr) = (v.map (cm_v adr)).toList ++ rest.map (cm_v adr) := by
      rw [List.map_append]
      cases v <;> rfl
    rw [← e1]
    exact this
  have hpre : ∀ (asc : List Value), ∀ U : State, U.heap = H → s.WarmedH U.vm → va_Pc asc (cm_Pb D adr ws H.size M) asc.toArray U := fun asc U hU hWm =>
    ⟨rfl, by rw [hU], by rw [hU]; exact hP, va_K.moved hWm.alike hK, hD.weaken (fun _ _ _ _ => trivial), cm_w_moved hWm.alike hW, cm_N_call hWm hU hS hfree hN⟩
  have h4 : op = 200 ∨ op = 201 ∨ 201 < op := by omega
  rcases h4 with rfl | rfl | hbig
  · have hi : some ((.invokevirtual t2.toNat : Instr), (3 : Nat), ([.methodLink P.2.2.2.1 t2.toNat mi.1, .instanceMethod mi.1, .selects mi.1.cls mi.1 mi.1, .initialized mi.1.cls] : List Cond)) = some (i, n, cs) := by
      simpa [cm_rowI, hmi] using hi
    cases hi
    rcases hor with ⟨-, v, rfl, rfl⟩ | ⟨hf0, -⟩
    rotate_left
    · cases hf0
    have hGV : GoodIn lw_good (wsV P.2.2.2.1 t2.toNat mi.1.cls mi.1 (Cond.code mi.1 mi.2.1 mi.2.2.1 mi.2.2.2.1 :: lw_good)) := lw_good_good (fun w h => by
      unfold wsV at h
      rcases List.mem_append.mp h with h | h
      · exact hw w h
      · exact (hG w h).1)
    have hmap : (xs.reverse ++ v :: rest).map (cm_v adr) = (xs.map (cm_v adr)).reverse ++ cm_v adr v :: rest.map (cm_v adr) := by
      rw [List.map_append, List.map_reverse, List.map_cons]
    have h5 := hc5 rfl
    cases v with
    | ref cn =>
      show W p l e R s m args below meth c H locs ce sl Q (F0 m pc ls ((xs.reverse ++ Value.ref cn :: rest).map (cm_v adr)))
      rw [hmap]
      rcases h5 with ⟨h51, h52, h53, h54⟩ | h5
      · obtain ⟨r, -, a1, -⟩ := cm_str hN h51 h52
        obtain ⟨cell, k1, k2, k3, k4⟩ := va_O.kept (a1 h53).2.2 hS.2.1
        exact cm_callW (va_runV (As := xs.map (cm_v adr)) (rest := rest.map (cm_v adr)) ⟨hx, hb, hml, hown, hts⟩ (hM l D adr ws H.size) (cwV t3.toNat hts hGV rfl rfl rfl ⟨rfl, hmh.1, hmh.2, hnp⟩ hroom) ⟨cm_Pb_blind, ⟨cell, k1, k2, by rw [h54]; exact k3⟩, fun U hU hWm => hpre _ U hU hWm⟩ rfl (by rw [List.length_map]; exact hxl) hL.1 rfl (lv_room hsum) hd hcap) hS (fun q h => hfree q h) hfree hkk
      · obtain ⟨r, hr1, hr2⟩ : ∃ r, vwCl[(cm_kind cn).1]? = some r ∧ r.1 = mi.1.cls := by
          cases hz : vwCl[(cm_kind cn).1]? with
          | none => rw [hz] at h5; cases h5
          | some r => rw [hz] at h5; exact ⟨r, rfl, Option.some.inj h5⟩
        have hlt : (cm_kind cn).1 < 10 := (List.getElem?_eq_some_iff.mp hr1).1
        obtain ⟨fs, e1, e2, e3⟩ := cm_obj hW (show cm_kind cn = ((cm_kind cn).1, (cm_kind cn).2) from rfl) (by omega)
        have hrecv := va_recv hK hP hr1 e1
        rw [hr2] at hrecv
        exact cm_callW (va_runV (As := xs.map (cm_v adr)) (rest := rest.map (cm_v adr)) ⟨hx, hb, hml, hown, hts⟩ (hM l D adr ws H.size) (cwV t3.toNat hts hGV rfl rfl rfl ⟨rfl, hmh.1, hmh.2, hnp⟩ hroom) ⟨cm_Pb_blind, hrecv, fun U hU hWm => hpre _ U hU hWm⟩ rfl (by rw [List.length_map]; exact hxl) hL.1 rfl (lv_room hsum) hd hcap) hS (fun q h => hfree q h) hfree hkk
    | _ => exact h5.elim
  · have hi : some ((.invokestatic t2.toNat : Instr), (3 : Nat), ([.methodLink P.2.2.2.1 t2.toNat mi.1, .static mi.1, .initialized mi.1.cls] : List Cond)) = some (i, n, cs) := by
      simpa [cm_rowI, hmi] using hi
    cases hi
    rcases hor with ⟨hf0, -⟩ | ⟨-, rfl, rfl⟩
    · cases hf0
    · have hGS : GoodIn lw_good (va_wsS P.2.2.2.1 t2.toNat mi.1 (Cond.code mi.1 mi.2.1 mi.2.2.1 mi.2.2.2.1 :: lw_good)) := lw_good_good (fun w h => by
        unfold va_wsS at h
        rcases List.mem_append.mp h with h | h
        · exact hw w h
        · exact (hG w h).1)
      have hmap : (as.reverse ++ rest).map (cm_v adr) = (as.map (cm_v adr)).reverse ++ rest.map (cm_v adr) := by
        rw [List.map_append, List.map_reverse]
      show W p l e R s m args below meth c H locs ce sl Q (F0 m pc ls ((as.reverse ++ rest).map (cm_v adr)))
      rw [hmap]
      exact cm_callW (va_runS (As := as.map (cm_v adr)) (rest := rest.map (cm_v adr)) ⟨hx, hb, hml, hown, hts⟩ (hM l D adr ws H.size) (va_cwS t3.toNat hts hGS rfl rfl rfl ⟨hmh.1, hmh.2, hnp⟩ hroom) ⟨cm_Pb_blind, fun U hU hWm => hpre _ U hU hWm⟩ rfl (by rw [List.length_map]; exact hxl) hL.1 rfl (lv_room hsum) hd hcap) hS (fun q h => hfree q h) hfree hkk
  · exfalso
    have : cm_rowI ms P (op, t1, t2, t3, t4) = none := by
      unfold cm_rowI
      split
      · omega
      · omega
      · omega
      · omega
      · omega
      · omega
      · have : cm_ops[op]? = none := by
          apply List.getElem?_eq_none
          have : cm_ops.length = 92 := rfl
          omega
        simp [this]
    rw [this] at hi
    cases hi
theorem cm_pick_mem : ∀ {L L' : List (Nat × Value)} {live : List Nat}, cm_pick L live = some L' → ∀ q ∈ L', q ∈ L
  | L, L', [], h => by cases h; exact fun q hq => nomatch hq
  | L, L', i :: r, h => by
    unfold cm_pick at h
    split at h
    · rename_i v l h1 h2
      cases h
      intro q hq
      rcases List.mem_cons.mp hq with rfl | hq
      · exact cm_look_mem h1
      · exact cm_pick_mem h2 q hq
    · cases h
theorem cm_inv_im {C : cm_C} {r : ev_Row} {S : cm_S} {k1 k2 : cm_S → Prop} (hC : ∀ k as M P1 P2, (∀ v M', P1 v M' → P2 v M') → C k as M P1 → C k as M P2) (h : cm_inv ms C r S k1) (hk : ∀ S, k1 S → k2 S) : cm_inv ms C r S k2 := by
  unfold cm_inv at h ⊢
  split at h
  · split at h
    · exact ⟨h.1, h.2.1, h.2.2.1, hC _ _ _ _ _ (fun v M' q => hk _ q) h.2.2.2⟩
    · exact h
  · exact h
/-- from a good run back to its start -/
theorem cm_wp_ok (hMS : ∀ (k : Nat) (mi : ev_MI), ms[k]? = some mi → cm_MOK ms mi) (hRm : d + 1 ≤ R.frames ∧ 40 * (d + 1) ≤ R.locals) (X : cm_X p R s m args c cc P.2.2.2.2.1 P.2.2.2.1 D A adr ce sl E) {rows : List (Nat × ev_Row)} (hrows : ∀ q ∈ rows, cm_RowOK ms P cc q) {stops : List (Nat × List Nat)} {J : cm_S → Prop} {Z : Nat → cm_S → Prop}
    (hJ : ∀ S, J S → cm_Go p l e R s m args below meth c Q P.2.2.2.2.1 D A adr ce sl S) (hZ : ∀ (r : ev_Row) (S : cm_S), ev_at rows S.1 = some r → 210 ≤ r.1 → Z r.1 S → cm_Go p l e R s m args below meth c Q P.2.2.2.2.1 D A adr ce sl S) : ∀ (n : Nat) (S : cm_S), cm_wp ms (cm_Call0 ms d) E P rows stops J Z n S → cm_Go p l e R s m args below meth c Q P.2.2.2.2.1 D A adr ce sl S
  | 0, S, h => h.elim
  | n + 1, S, h => by
    have hst : ∀ S', cm_stop stops J (cm_wp ms (cm_Call0 ms d) E P rows stops J Z n) S' → cm_Go p l e R s m args below meth c Q P.2.2.2.2.1 D A adr ce sl S' := by
      intro S' h'
      unfold cm_stop at h'
      split at h'
      · exact cm_wp_ok hMS hRm X hrows hJ hZ n S' h'
      · split at h'
        · rename_i L' hL'
          exact cm_Go_sub (L' := L') (hJ _ h') (cm_pick_mem hL')
        · exact h'.elim
    unfold cm_wp at h
    split at h
    · exact h.elim
    · rename_i r hr
      have hq := hrows _ (ev_at_mem hr)
      split at h
      · rename_i h210
        exact hZ r S hr h210 h
      · rename_i h210
        split at h
        · rename_i h200
          exact cm_inv_ok hMS hRm X hq h200 (by dsimp only; omega) rfl (cm_inv_im (fun k as M P1 P2 hp hc => cm_Call_up0 hc (Nat.le_refl _) hp) h hst)
        · split at h
          · rename_i o ho
            obtain ⟨i, k, cs, hi, hd, hw⟩ := hq
            rw [cm_rowI_op (by dsimp only; omega)] at hi
            dsimp only at hi hd
            rw [ho] at hi
            exact cm_ops_ok o (List.mem_of_getElem? ho) p l e R s m args below meth c cc Q D A adr ce sl E P r.2 S i k cs X hi hd hw (cm_ops_im o (List.mem_of_getElem? ho) E P r.2 S _ _ h hst)
          · exact h.elim
end CMS
