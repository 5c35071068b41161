/-! THE RUN IS RIGHT -/
def ev_rm (d mc ms : Nat) : Room := { frames := d + 1, cells := mc, slots := ms, locals := 40 * (d + 1) }
def ev_rv (g : ev_G) : Option ev_A → Option Value → Prop
  | none, none => True
  | some a, some v => ev_v g a = some v
  | _, _ => False
def ev_Q (D : va_G) (g : ev_G) (A : Nat → Prop) (outs : List ev_Out) : Array Value → State → Outcome → State → Prop := fun _ st oc t =>
  (∃ (o : ev_Out) (g' : ev_G) (ws' : va_W) (v : Option Value), o ∈ outs ∧ oc = .returned v ∧ ev_rv g' o.1 v ∧ ev_le g g' ∧ va_P D vwCl ws' t.heap ∧ va_D A ws' ∧ ev_w t g' o.2.1 ws' ∧ ev_b o.2.2 g'.2.2) ∧ va_F A st t
def ev_Pb (D : va_G) (g : ev_G) (ws : va_W) (sz : Nat) (w : List ev_C) (U : State) : Prop := U.heap.size = sz ∧ va_P D vwCl ws U.heap ∧ va_K D vwCl [] U ∧ va_D (fun _ => True) ws ∧ ev_w U g w ws ∧ ev_N g.2.1 (va_A ws sz) U U.heap
def ev_Met (l : Launch) (mi : ev_MI) (d : Nat) (D : va_G) (g : ev_G) (ws : va_W) (sz : Nat) (w : List ev_C) (asc : List Value) (outs : List ev_Out) : Prop :=
  Met l mi.1 (Cond.code mi.1 mi.2.1 mi.2.2.1 mi.2.2.2.1 :: lw_good) (ev_rm d mi.2.2.2.2.1 mi.2.2.2.2.2.1) (va_Pc asc (ev_Pb D g ws sz w)) (ev_Q D g (va_A ws sz) outs) mi.2.2.2.2.1 mi.2.2.2.2.2.1 (va_A ws sz)
/-- calls are right, at a depth -/
def ev_Cs (ms : List ev_MI) (call : Nat → List ev_A → List ev_C → ev_K → Option (List ev_Out)) (d : Nat) : Prop :=
  ∀ (k : Nat) (mi : ev_MI) (as : List ev_A) (w : List ev_C) (K : ev_K) (outs : List ev_Out), ms[k]? = some mi → call k as w K = some outs → ∃ d', d = d' + 1 ∧ ∀ (l : Launch) (D : va_G) (g : ev_G) (ws : va_W) (sz : Nat) (asc : List Value), ev_s g as asc → ev_b K g.2.2 → ev_Met l mi d' D g ws sz w asc outs
theorem ev_s_app {g : ev_G} : ∀ {a b : List ev_A} {x y : List Value}, ev_s g a x → ev_s g b y → ev_s g (a ++ b) (x ++ y)
  | [], _, [], _, _, h => h
  | [], _, _ :: _, _, h, _ => h.elim
  | _ :: _, _, [], _, h, _ => h.elim
  | _ :: _, _, _ :: _, _, h1, h2 => ⟨h1.1, ev_s_app h1.2 h2⟩
theorem ev_s_rev {g : ev_G} : ∀ {a : List ev_A} {x : List Value}, ev_s g a x → ev_s g a.reverse x.reverse
  | [], [], _ => trivial
  | [], _ :: _, h => h.elim
  | _ :: _, [], h => h.elim
  | a :: as, x :: xs, h => by
    rw [List.reverse_cons, List.reverse_cons]
    exact ev_s_app (ev_s_rev h.2) ⟨h.1, trivial⟩
theorem ev_s_split {g : ev_G} : ∀ (n : Nat) {a : List ev_A} {x : List Value}, ev_s g a x → ev_s g (a.take n) (x.take n) ∧ ev_s g (a.drop n) (x.drop n)
  | 0, _, _, h => ⟨trivial, h⟩
  | _ + 1, [], [], _ => ⟨trivial, trivial⟩
  | _ + 1, [], _ :: _, h => h.elim
  | _ + 1, _ :: _, [], h => h.elim
  | n + 1, _ :: _, _ :: _, h => ⟨⟨h.1, (ev_s_split n h.2).1⟩, (ev_s_split n h.2).2⟩
theorem ev_s_len {g : ev_G} : ∀ {a : List ev_A} {x : List Value}, ev_s g a x → a.length = x.length
  | [], [], _ => rfl
  | [], _ :: _, h => h.elim
  | _ :: _, [], h => h.elim
  | _ :: _, _ :: _, h => congrArg Nat.succ (ev_s_len h.2)
/-- what a call takes: the arguments as a list, in their order; the stack below them -/
theorem ev_take_ok {recv : Bool} {n : Nat} {st as rest : List ev_A} (h : ev_take recv n st = some (as, rest)) {g : ev_G} {sc : List Value} (hs : ev_s g st sc) :
    ∃ (xs restc : List Value), xs.length = n ∧ ev_s g rest restc ∧ ((recv = true ∧ ∃ (a : ev_A) (as' : List ev_A) (v : Value), as = a :: as' ∧ ev_v g a = some v ∧ ev_s g as' xs ∧ sc = xs.reverse ++ v :: restc) ∨ (recv = false ∧ ev_s g as xs ∧ sc = xs.reverse ++ restc)) := by
  obtain ⟨t1, t2⟩ := ev_s_split n hs
  have hsp : sc = sc.take n ++ sc.drop n := (List.take_append_drop n sc).symm
  unfold ev_take at h
  split at h
  · rename_i hr
    split at h
    · rename_i x rest' hd
      split at h
      · rename_i hl
        cases h
        rw [hd] at t2
        obtain ⟨v, sc', e1, e2, e3⟩ := ev_s_cons t2
        refine ⟨(sc.take n).reverse, sc', by rw [List.length_reverse, ← ev_s_len t1]; exact hl, e3, Or.inl ⟨hr, x, _, v, rfl, e2, ev_s_rev t1, ?_⟩⟩
        rw [List.reverse_reverse, ← e1]
        exact hsp
      · cases h
    · cases h
  · rename_i hr
    split at h
    · rename_i hl
      cases h
      refine ⟨(sc.take n).reverse, sc.drop n, by rw [List.length_reverse, ← ev_s_len t1]; exact hl, t2, Or.inr ⟨by simpa using hr, ev_s_rev t1, ?_⟩⟩
      rw [List.reverse_reverse]
      exact hsp
    · cases h
/-- behind a call -/
theorem ev_callW {p : Program} {l : Launch} {e : Env} {R : Room} {s : State} {m : MethodId} {args : Array Value} {below : List Frame} {meth : Method} {c : Code} {H : Heap} {locs : List Loc} {ce sl mc ms pc : Nat} {ls : Array Slot} {rest st0 : List Value} {a : Array Value} {A A1 : Nat → Prop} {H0 : Heap} {free : Addr → Prop} {Q : State → Prop} {D : va_G} {g : ev_G} {outs : List ev_Out}
    (hr : va_Run p l e R s m args below meth c H locs ce sl mc ms (F0 m pc ls st0) rest (ev_Q D g A1 outs a) free) (hS : va_S A H0 H locs) (hA : ∀ q, A1 q → A q) (hf : ∀ q, free q → A q)
    (kk : ∀ (o : ev_Out) (g' : ev_G) (ws' : va_W) (v : Option Value) (t : State) (H1 : Heap) (locs1 : List Loc), o ∈ outs → t.heap = H1 → s.vm.Alike t.vm → ev_rv g' o.1 v → ev_le g g' → va_P D vwCl ws' H1 → va_D A1 ws' → ev_w t g' o.2.1 ws' → ev_b o.2.2 g'.2.2 → va_S A H0 H1 locs1 → W p l e R s m args below meth c H1 locs1 (ce + mc) (sl + ms) Q (F0 m (pc + 3) ls (v.toList ++ rest))) :
    W p l e R s m args below meth c H locs ce sl Q (F0 m pc ls st0) := by
  intro T hT X
  obtain ⟨v, st₀, t, T', L, h0, X', hL, e1, e2, ⟨⟨o, g', ws', v', ho, hv, hrv, hle, hP, hD, hw, hb⟩, hz, hk⟩, st⟩ := hr T hT X
  cases hv
  rw [h0] at hz hk
  obtain ⟨t2, a1, b1⟩ := kk o g' ws' v t T'.heap (locs ++ L) ho e1.symm (by rw [← e2]; exact X'.warmed.alike) hrv hle (by rw [e1]; exact hP) hD hw hb
    ⟨Nat.le_trans hS.1 (by rw [e1]; exact hz), fun q h1 h2 => by rw [e1, hk q (Nat.lt_of_lt_of_le h1 hS.1) (fun z => h2 (hA q z))]; exact hS.2.1 q h1 h2, fun q hq => by
      rcases List.mem_append.mp hq with h | h
      · exact hS.2.2 q h
      · exact hf _ (hL q h)⟩ T' rfl X'
  exact ⟨t2, st t2 a1, b1⟩
theorem ev_Pb_blind {D : va_G} {g : ev_G} {ws : va_W} {sz : Nat} {w : List ev_C} {asc : List Value} : FrameBlind (va_Pc asc (ev_Pb D g ws sz w)) := fun a U gf mk q => by
  obtain ⟨q0, q1, q2, q3, q4, q5, q6⟩ := q
  exact ⟨q0, q1, q2, va_K.moved (u := U) (U := U.calling gf mk a) (Vm.Alike.refl U.vm) q3, q4, ev_w_moved (u := U) (U := U.calling gf mk a) (Vm.Alike.refl U.vm) q5, ev_N_same (u := U) (U := U.calling gf mk a) rfl q6⟩
theorem ev_rowI_op {ms : List ev_MI} {P : ev_P} {r : ev_Row} (h : r.1 < 200) : ev_rowI ms P r = (match ev_ops[r.1]? with
    | some o => o.1 P r.2
    | none => none) := by
  unfold ev_rowI
  split
  · omega
  · omega
  · omega
  · omega
  · omega
  · omega
  · omega
  · omega
  · rfl
section EVS
variable {p : Program} {l : Launch} {e : Env} {R : Room} {s : State} {m : MethodId} {args : Array Value} {below : List Frame} {meth : Method} {c : Code} {cc : ByteArray} {Q : State → Prop} {D : va_G} {A : Nat → Prop} {g0 : ev_G} {P : ev_P} {ms : List ev_MI} {call : Nat → List ev_A → List ev_C → ev_K → Option (List ev_Out)} {d : Nat}
set_option maxHeartbeats 4000000 in
theorem ev_inv_ok (hMS : ∀ (k : Nat) (mi : ev_MI), ms[k]? = some mi → ev_MOK ms mi) (hC : ev_Cs ms call d) (hRm : d + 1 ≤ R.frames ∧ 40 * (d + 1) ≤ R.locals) (X : ev_X p R s m args meth c cc P.2.2.2.2.1 P.2.2.2.1 P.2.2.1 D A P.1 P.2.1 g0 P.2.2.2.2.2)
    {q : Nat × ev_Row} (hq : ev_RowOK ms P cc q) (h200 : 200 ≤ q.2.1) (h210 : q.2.1 < 210) {S : ev_S} (hpc : S.1 = q.1) {Ss : List ev_S} (h : ev_inv ms call P q.2 S = some Ss) (hk : ∀ S' ∈ Ss, ev_Go p l e R s m args below meth c Q P.2.2.2.2.1 D A g0 S') : ev_Go p l e R s m args below meth c Q P.2.2.2.2.1 D A g0 S := by
  intro g ws H locs ls sc hle hR
  obtain ⟨hx, hb, hml, hown, hts, hK, hA, hN, hini, hcC, hcS, hf, hlc, hscr⟩ := X
  obtain ⟨pc, L, st, w, K, ce, sl⟩ := S
  obtain ⟨qpc, op, t1, t2, t3, t4⟩ := q
  have hpc : pc = qpc := hpc
  subst hpc
  obtain ⟨⟨i, n, cs, hi, hd, hw⟩, hnest⟩ := hq
  dsimp only at hi hd hnest h200 h210
  unfold ev_inv at h
  dsimp only at h
  split at h
  · rename_i mi hmi
    obtain ⟨hpl, hcd, hnL, hmh, -⟩ := hMS _ mi hmi
    split at h
    · rename_i as rest htk
      split at h
      · rename_i hc
        obtain ⟨hc1, hc2, hc3, hc4, hc5, hc6⟩ := hc
        split at h
        · rename_i outs hcall
          cases h
          obtain ⟨hP, hD, hS, hW, hB, hL, hs⟩ := hR
          obtain ⟨d', rfl, hM⟩ := hC _ mi as w K outs hmi hcall
          have hnp : (parseMethodDescriptor mi.1.desc).map (fun d => d.parameters.length) = some t3.toNat := by simpa [ev_nar1] using hc4
          have hroom : (ev_rm d' mi.2.2.2.2.1 mi.2.2.2.2.2.1).frames + 1 ≤ R.frames ∧ 8 + (mi.2.2.1 + 11) + (ev_rm d' mi.2.2.2.2.1 mi.2.2.2.2.2.1).locals ≤ R.locals := by
            simp only [ev_rm]
            omega
          have hG : GoodIn lw_good (Cond.code mi.1 mi.2.1 mi.2.2.1 mi.2.2.2.1 :: lw_good) := lw_good_good (fun w h => by
            rcases List.mem_cons.mp h with rfl | h
            · exact hcd
            · exact h)
          have hcap : ce + mi.2.2.2.2.1 ≤ R.cells ∧ sl + mi.2.2.2.2.2.1 ≤ R.slots := by rw [hcC, hcS]; exact ⟨hc2, hc3⟩
          have hfree : ∀ q, va_A ws H.size q → A q := by
            intro q h
            rcases h with ⟨k, e, h⟩ | h
            · exact hD.2 k (q, e) h
            · exact hA q (Nat.le_trans hS.1 h)
          obtain ⟨xs, restc, hxl, hrest, hor⟩ := ev_take_ok htk hs
          have hsum : (restc.map fun v => v.category).sum ≤ 8 := by rw [ev_cs_ok hrest]; exact hc1
          have hkk : ∀ (o : ev_Out) (g' : ev_G) (ws' : va_W) (v : Option Value) (t : State) (H1 : Heap) (locs1 : List Loc), o ∈ outs → t.heap = H1 → s.vm.Alike t.vm → ev_rv g' o.1 v → ev_le g g' → va_P D vwCl ws' H1 → va_D (va_A ws H.size) ws' → ev_w t g' o.2.1 ws' → ev_b o.2.2 g'.2.2 → va_S A s.heap H1 locs1 → W p l e R s m args below meth c H1 locs1 (ce + mi.2.2.2.2.1) (sl + mi.2.2.2.2.2.1) Q (F0 m (pc + 3) ls (v.toList ++ restc)) := by
            intro o g' ws' v t H1 locs1 ho ht hvm hrv hle' hP1 hD1 hw1 hb1 hS1
            refine hk _ (List.mem_map.mpr ⟨o, ho, rfl⟩) g' ws' H1 locs1 ls _ (ev_le_tr hle hle') ⟨hP1, hD1.weaken (fun _ _ _ h => hfree _ h), hS1, ev_w_moved hvm.symm hw1, hb1, ev_l_le hle' hL, ?_⟩
            refine ev_s_app ?_ (ev_s_le hle' hrest)
            cases ho1 : o.1 with
            | none =>
              cases v with
              | none => exact trivial
              | some v => rw [ho1] at hrv; exact hrv.elim
            | some a =>
              cases v with
              | none => rw [ho1] at hrv; exact hrv.elim
              | some v => rw [ho1] at hrv; exact ⟨hrv, trivial⟩
          have hpre : ∀ (asc : List Value), ∀ U : State, U.heap = H → s.WarmedH U.vm → va_Pc asc (ev_Pb D g ws H.size w) asc.toArray U := fun asc U hU hWm =>
            ⟨rfl, by rw [hU], by rw [hU]; exact hP, va_K.moved hWm.alike hK, hD.weaken (fun _ _ _ _ => trivial), ev_w_moved hWm.alike hW, by rw [hle.2.1]; exact ev_N_call hWm hU hS hfree hN⟩
          have h4 : op = 200 ∨ op = 201 ∨ op = 202 ∨ op = 203 ∨ 203 < op := by omega
          rcases h4 with rfl | rfl | rfl | rfl | hbig
          · have hi : some ((.invokevirtual t2.toNat : Instr), (3 : Nat), ([.methodLink P.2.2.2.1 t2.toNat mi.1, .instanceMethod mi.1, .selects mi.1.cls mi.1 mi.1, .initialized mi.1.cls] : List Cond)) = some (i, n, cs) := by
              simpa [ev_rowI, hmi] using hi
            cases hi
            rcases hor with ⟨-, a, as', v, rfl, hva, hxs, rfl⟩ | ⟨hf0, -⟩
            · have hGV : GoodIn lw_good (wsV P.2.2.2.1 t2.toNat mi.1.cls mi.1 (Cond.code mi.1 mi.2.1 mi.2.2.1 mi.2.2.2.1 :: lw_good)) := lw_good_good (fun w h => by
                unfold wsV at h
                rcases List.mem_append.mp h with h | h
                · exact hw w h
                · exact (hG w h).1)
              have h5 : (if a.1 = 5 then (decide (a.2.toNat % 2 = 1) && (decide (a.2.toNat / 2 < 40) && decide (mi.1.cls = "java/lang/String"))) else (match w[a.2.toNat]? with
                | some cl => decide (a.1 = 1) && decide ((vwCl[cl.1]?).map (fun q => q.1) = some mi.1.cls)
                | none => false)) = true := hc5
              split at h5
              · rename_i ha5
                simp only [Bool.and_eq_true, decide_eq_true_eq] at h5
                obtain ⟨h51, h52, h53⟩ := h5
                obtain ⟨r, hr⟩ : ∃ r, ev_strs[a.2.toNat / 2]? = some r := ⟨_, List.getElem?_eq_getElem (show a.2.toNat / 2 < ev_strs.length from h52)⟩
                obtain ⟨at_, an⟩ := a
                have ha5 : at_ = 5 := ha5
                subst ha5
                have hva2 : v = .ref (g0.2.1 (1 + 2 * (an.toNat / 2))) := by
                  have : g.2.1 = g0.2.1 := hle.2.1
                  rw [← this, show 1 + 2 * (an.toNat / 2) = an.toNat by dsimp only at h51; omega]
                  exact (Option.some.inj hva).symm
                subst hva2
                obtain ⟨cell, k1, k2, k3, k4⟩ := va_O.kept (hN.2.2.1 _ r hr).1 hS.2.1
                exact ev_callW (va_runV (As := xs) (rest := restc) ⟨hx, hb, hml, hown, hts⟩ (hM l D g ws H.size (.ref _ :: xs) ⟨hva, hxs⟩ hB) (cwV t3.toNat hts hGV rfl rfl rfl ⟨rfl, hmh.1, hmh.2, hnp⟩ hroom) ⟨ev_Pb_blind, ⟨cell, k1, k2, by rw [h53]; exact k3⟩, fun U hU hWm => hpre _ U hU hWm⟩ rfl hxl hL.1 rfl (lv_room hsum) hd hcap) hS (fun q h => hfree q h) hfree hkk
              split at h5
              · rename_i cl hcl
                simp only [Bool.and_eq_true, decide_eq_true_eq] at h5
                obtain ⟨ad, x0, rfl, hws, hcc⟩ := ev_ref1 hW h5.1 hva hcl
                obtain ⟨r, hr1, hr2⟩ : ∃ r, vwCl[cl.1]? = some r ∧ r.1 = mi.1.cls := by
                  cases hz : vwCl[cl.1]? with
                  | none => rw [hz] at h5; exact absurd h5.2 (by simp)
                  | some r => rw [hz] at h5; exact ⟨r, rfl, Option.some.inj h5.2⟩
                cases x0 with
                | inl z =>
                  obtain ⟨tt, b1, b2, -⟩ := hcc
                  have : cl.1 < 10 := (List.getElem?_eq_some_iff.mp hr1).1
                  omega
                | inr o =>
                  obtain ⟨ci, fs⟩ := o
                  obtain ⟨b1, -⟩ := hcc
                  dsimp only at b1
                  rw [b1] at hr1
                  have hrecv := va_recv hK hP hr1 hws
                  rw [hr2] at hrecv
                  exact ev_callW (va_runV (As := xs) (rest := restc) ⟨hx, hb, hml, hown, hts⟩ (hM l D g ws H.size (.ref ad :: xs) ⟨hva, hxs⟩ hB) (cwV t3.toNat hts hGV rfl rfl rfl ⟨rfl, hmh.1, hmh.2, hnp⟩ hroom) ⟨ev_Pb_blind, hrecv, fun U hU hWm => hpre _ U hU hWm⟩ rfl hxl hL.1 rfl (lv_room hsum) hd hcap) hS (fun q h => hfree q h) hfree hkk
              · cases h5
            · cases hf0
          · have hi : some ((.invokestatic t2.toNat : Instr), (3 : Nat), ([.methodLink P.2.2.2.1 t2.toNat mi.1, .static mi.1, .initialized mi.1.cls] : List Cond)) = some (i, n, cs) := by
              simpa [ev_rowI, hmi] using hi
            cases hi
            rcases hor with ⟨hf0, -⟩ | ⟨-, hxs, rfl⟩
            · cases hf0
            · have hGS : GoodIn lw_good (va_wsS P.2.2.2.1 t2.toNat mi.1 (Cond.code mi.1 mi.2.1 mi.2.2.1 mi.2.2.2.1 :: lw_good)) := lw_good_good (fun w h => by
                unfold va_wsS at h
                rcases List.mem_append.mp h with h | h
                · exact hw w h
                · exact (hG w h).1)
              exact ev_callW (va_runS (As := xs) (rest := restc) ⟨hx, hb, hml, hown, hts⟩ (hM l D g ws H.size xs hxs hB) (va_cwS t3.toNat hts hGS rfl rfl rfl ⟨hmh.1, hmh.2, hnp⟩ hroom) ⟨ev_Pb_blind, fun U hU hWm => hpre _ U hU hWm⟩ rfl hxl hL.1 rfl (lv_room hsum) hd hcap) hS (fun q h => hfree q h) hfree hkk
          · have hi : some ((.invokespecial t2.toNat : Instr), (3 : Nat), ([.methodLink P.2.2.2.1 t2.toNat mi.1, .instanceMethod mi.1, .initialized mi.1.cls] : List Cond)) = some (i, n, cs) := by
              simpa [ev_rowI, hmi] using hi
            cases hi
            rcases hor with ⟨-, a, as', v, rfl, hva, hxs, rfl⟩ | ⟨hf0, -⟩
            · have h6 : (decide (mi.1.name = "<init>") && mi.2.2.2.1.isNone && ev_isR a) = true := hc6
              simp only [Bool.and_eq_true, decide_eq_true_eq, Option.isNone_iff_eq_none] at h6
              obtain ⟨⟨hy1, hy2⟩, hy3⟩ := h6
              obtain ⟨ad, rfl⟩ := ev_vR hy3 hva
              have hw3 : Cond.code mi.1 mi.2.1 mi.2.2.1 mi.2.2.2.1 = Cond.code mi.1 mi.2.1 mi.2.2.1 none := by rw [hy2]
              exact ev_callW (va_runI (As := xs) (rest := restc) ⟨hx, hb, hml, hown, hts⟩ (hM l D g ws H.size (.ref ad :: xs) ⟨hva, hxs⟩ hB) (cwI t3.toNat hts hG (by rw [hw3]) rfl rfl (hts _ (hw _ (by simp))) (hts _ (hw _ (by simp))) (hts _ (hw _ (by simp))) hy1 ⟨hmh.1, hmh.2, hnp⟩ hroom) ⟨ev_Pb_blind, fun U hU hWm => hpre _ U hU hWm⟩ rfl hxl hL.1 rfl (lv_room hsum) hd hcap) hS (fun q h => hfree q h) hfree hkk
            · cases hf0
          · have hi : some ((.invokespecial t2.toNat : Instr), (3 : Nat), ([.instanceMethod mi.1, .initialized mi.1.cls] : List Cond)) = some (i, n, cs) := by
              simpa [ev_rowI, hmi] using hi
            cases hi
            rcases hor with ⟨-, a, as', v, rfl, hva, hxs, rfl⟩ | ⟨hf0, -⟩
            · have h6 : (decide (mi.1.name = "<init>") && mi.2.2.2.1.isNone && ev_isR a) = true := hc6
              simp only [Bool.and_eq_true, decide_eq_true_eq, Option.isNone_iff_eq_none] at h6
              obtain ⟨⟨hy1, hy2⟩, hy3⟩ := h6
              obtain ⟨ad, rfl⟩ := ev_vR hy3 hva
              have hw3 : Cond.code mi.1 mi.2.1 mi.2.2.1 mi.2.2.2.1 = Cond.code mi.1 mi.2.1 mi.2.2.1 none := by rw [hy2]
              have hnl := hN.1.1 _ (hnest rfl mi hmi)
              exact ev_callW (va_runIN (As := xs) (rest := restc) ⟨hx, hb, hml, hown, hts⟩ (hM l D g ws H.size (.ref ad :: xs) ⟨hva, hxs⟩ hB) ⟨va_cnB t3.toNat hts hG (by rw [hw3]) rfl rfl hnl (hts _ (hw _ (by simp))) ⟨hmh.1, hmh.2, hnp⟩ hroom, hy1, hts _ (hw _ (by simp))⟩ ⟨ev_Pb_blind, fun U hU hWm => hpre _ U hU hWm⟩ rfl hxl hL.1 rfl (lv_room hsum) hd hcap) hS (fun q h => hfree q h) hfree hkk
            · cases hf0
          · exfalso
            have : ev_rowI ms P (op, t1, t2, t3, t4) = none := by
              unfold ev_rowI
              split
              · omega
              · omega
              · omega
              · omega
              · omega
              · omega
              · omega
              · omega
              · have : ev_ops[op]? = none := by
                  apply List.getElem?_eq_none
                  have : ev_ops.length = 84 := rfl
                  omega
                simp [this]
            rw [this] at hi
            cases hi
        · cases h
      · cases h
    · cases h
  · cases h
end EVS

section EVR
variable {p : Program} {l : Launch} {e : Env} {R : Room} {s : State} {m : MethodId} {args : Array Value} {below : List Frame} {meth : Method} {c : Code} {cc : ByteArray} {Q : State → Prop} {D : va_G} {A : Nat → Prop} {g0 : ev_G} {P : ev_P} {ms : List ev_MI} {call : Nat → List ev_A → List ev_C → ev_K → Option (List ev_Out)} {d : Nat} {rows : List (Nat × ev_Row)} {stops : List Nat}
/-- from the ends of a run back to its start -/
theorem ev_run_ok (hMS : ∀ (k : Nat) (mi : ev_MI), ms[k]? = some mi → ev_MOK ms mi) (hC : ev_Cs ms call d) (hRm : d + 1 ≤ R.frames ∧ 40 * (d + 1) ≤ R.locals) (X : ev_X p R s m args meth c cc P.2.2.2.2.1 P.2.2.2.1 P.2.2.1 D A P.1 P.2.1 g0 P.2.2.2.2.2)
    (hrows : ∀ q ∈ rows, ev_RowOK ms P cc q) : ∀ (n : Nat) (S : ev_S) (outs : List ev_S), ev_run ms call P rows stops n S = some outs → (∀ o ∈ outs, ev_Go p l e R s m args below meth c Q P.2.2.2.2.1 D A g0 o) → ev_Go p l e R s m args below meth c Q P.2.2.2.2.1 D A g0 S
  | 0, S, outs, h, hk => by cases h
  | n + 1, S, outs, h, hk => by
    unfold ev_run at h
    split at h
    · cases h
      exact hk S (List.mem_singleton.mpr rfl)
    · split at h
      · cases h
      · rename_i r hr
        have hq := hrows _ (ev_at_mem hr)
        split at h
        · cases h
          exact hk S (List.mem_singleton.mpr rfl)
        · rename_i h210
          split at h
          · rename_i h200
            split at h
            · rename_i Ss hSs
              refine ev_inv_ok hMS hC hRm X hq h200 (by dsimp only; omega) rfl hSs (fun S' hS' => ?_)
              obtain ⟨o', h1, h2⟩ := ev_all_ok h S' hS'
              exact ev_run_ok hMS hC hRm X hrows n S' o' h1 (fun x hx => hk x (h2 x hx))
            · cases h
          · rename_i h200
            split at h
            · rename_i o ho
              split at h
              · rename_i Ss hSs
                obtain ⟨⟨i, k, cs, hi, hd, hw⟩, -⟩ := hq
                rw [ev_rowI_op (by dsimp only; omega)] at hi
                dsimp only at hi hd
                rw [ho] at hi
                refine ev_ops_ok o (List.mem_of_getElem? ho) p l e R s m args below meth c cc Q D A g0 P r.2 S i k cs Ss X hi hd hw hSs (fun S' hS' => ?_)
                obtain ⟨o', h1, h2⟩ := ev_all_ok h S' hS'
                exact ev_run_ok hMS hC hRm X hrows n S' o' h1 (fun x hx => hk x (h2 x hx))
              · cases h
            · cases h
end EVR
theorem ev_args_ok {g : ev_G} : ∀ {as : List ev_A} {xs : List Value} (i : Nat), ev_s g as xs → ∀ q ∈ ev_args i as, ∃ v, ev_v g q.2 = some v ∧ (q.1, v) ∈ lv_args i xs
  | [], [], i, _, q, hq => nomatch hq
  | [], _ :: _, i, h, q, hq => h.elim
  | _ :: _, [], i, h, q, hq => h.elim
  | a :: as, x :: xs, i, h, q, hq => by
    unfold ev_args at hq
    rcases List.mem_cons.mp hq with rfl | hq
    · exact ⟨x, h.1, by unfold lv_args; exact List.mem_cons_self⟩
    · obtain ⟨v, h1, h2⟩ := ev_args_ok (i + if ev_isL a = true then 2 else 1) h.2 q hq
      refine ⟨v, h1, ?_⟩
      unfold lv_args
      refine List.mem_cons_of_mem _ ?_
      rcases ev_cat h.1 with ⟨q1, q2⟩ | ⟨q1, q2⟩
      · rw [if_pos q2]
        rw [if_pos q1] at h2
        exact h2
      · rw [if_neg (by omega)]
        rw [if_neg (by rw [q1]; decide)] at h2
        exact h2
theorem ev_sl_len {g : ev_G} : ∀ {as : List ev_A} {xs : List Value}, ev_s g as xs → (lg_sl xs).length = ev_cs as
  | [], [], _ => rfl
  | [], _ :: _, h => h.elim
  | _ :: _, [], h => h.elim
  | a :: as, x :: xs, h => by
    have ih := ev_sl_len h.2
    simp only [lg_sl, List.flatMap_cons, List.length_append, ev_cs, List.map_cons, List.sum_cons] at ih ⊢
    rw [ih]
    rcases ev_cat h.1 with ⟨q1, q2⟩ | ⟨q1, q2⟩ <;> rw [q1, q2] <;> rfl
set_option maxHeartbeats 4000000 in
/-- the execution of methods by their rows is right, at every depth -/
theorem ev_exec_ok {ms : List ev_MI} (hMS : ∀ (k : Nat) (mi : ev_MI), ms[k]? = some mi → ev_MOK ms mi) : ∀ d : Nat, ev_Cs ms (ev_exec ms d) d
  | 0 => fun k mi as w K outs hmi h => by cases h
  | d + 1 => fun k mi as w K outs hmi h => by
    refine ⟨d, rfl, fun l D g ws sz asc hs hB => ?_⟩
    unfold ev_exec at h
    rw [hmi] at h
    dsimp only at h
    split at h
    · rename_i hcs
      split at h
      · rename_i fs hrun
        obtain ⟨hpl, hcd, hnL, hmh, hrows⟩ := hMS k mi hmi
        refine Met.ofW (cc := mi.2.1) (maxL := mi.2.2.1) (ret := mi.2.2.2.1) hpl rfl ?_
        intro p e s m args below meth c s₁ B hml hv
        obtain ⟨rfl, hsz, hP, hK, hD0, hW, hN⟩ := hv
        subst hsz
        have hD : va_D (va_A ws s.heap.size) ws := hD0.self (sz := s.heap.size)
        have hts : ∀ w ∈ lw_good, w.before asc.toArray s = true := fun w hw => atoms_spec (ws := Cond.code mi.1 mi.2.1 mi.2.2.1 mi.2.2.2.1 :: lw_good) B.pre w (List.mem_cons_of_mem _ hw)
        have hA : ∀ q : Nat, s.heap.size ≤ q → va_A ws s.heap.size q := fun q h => Or.inr h
        have X : ev_X p (ev_rm d mi.2.2.2.2.1 mi.2.2.2.2.2.1) s m asc.toArray meth c mi.2.1 mi.2.2.1 mi.1.cls (decide (mi.1.name = "<init>")) D (va_A ws s.heap.size) mi.2.2.2.2.1 mi.2.2.2.2.2.1 g 0 :=
          ⟨B.exec, B.bytes, hml, findClass_of_methodNamed B.named, hts, hK, hA, hN, fun h => by rw [(name_of_methodNamed B.named B.method).1]; simpa using h, rfl, rfl, by simp [ev_rm], by simp only [ev_rm]; omega, fun L h => by cases h⟩
        have hlocks := B.notSynchronized
        have hr := B.returns
        have hlen : (lg_sl asc).length ≤ mi.2.2.1 := by rw [ev_sl_len hs]; exact hcs
        have hl := lv_entry asc (n := mi.2.2.1) hlen
        rw [lg_entry_eq]
        refine ev_run_ok (P := (mi.2.2.2.2.1, mi.2.2.2.2.2.1, decide (mi.1.name = "<init>"), mi.1.cls, mi.2.2.1, 0)) hMS (ev_exec_ok hMS d) ⟨by simp [ev_rm], by simp [ev_rm]⟩ X hrows 20000 _ fs hrun (fun o ho => ?_) g ws s.heap [] _ [] (ev_le_rf g) ⟨hP, hD, va_S.rf, hW, hB, ⟨hl.1, hl.2.1, fun q hq => ?_⟩, trivial⟩
        · obtain ⟨x, hx1, hx2⟩ := ev_ends_ok h o ho
          obtain ⟨pc, L, st, w', K', ce, sl⟩ := o
          intro g' ws' H locs ls sc hle ⟨hP', hD', hS', hW', hB', hL', hs'⟩
          unfold ev_end at hx1
          split at hx1
          · rename_i hcap
            refine W.widen (k := mi.2.2.2.2.1) (n := mi.2.2.2.2.2.1) hcap.1 hcap.2 ?_
            have qq : ∀ (v : Option Value) (t : State), t.heap = H → s.WarmedH t.vm → ev_rv g' x.1 v → x.2.1 = w' → x.2.2 = K' → ev_Q D g (va_A ws s.heap.size) outs asc.toArray s (.returned v) t := by
              intro v t ht hWm hv e1 e2
              exact ⟨⟨x, g', ws', v, hx2, rfl, hv, hle, by rw [ht]; exact hP', hD', by rw [e1]; exact ev_w_moved hWm.alike hW', by rw [e2]; exact hB'⟩, hS'.F ht⟩
            split at hx1
            · cases hx1
            · rename_i r hrr
              obtain ⟨⟨i, n, cs, hi, hd, -⟩, -⟩ := hrows _ (ev_at_mem hrr)
              dsimp only at hi hd
              split at hx1
              · rename_i ty a e1 e2 e3
                split at hx1
                · rename_i hf
                  cases hx1
                  dsimp only at e3
                  subst e3
                  obtain ⟨v, sc', rfl, hv, hs2⟩ := ev_s_cons hs'
                  cases ev_s_nil hs2
                  obtain ⟨x0, rfl⟩ := ev_vI hf.1 hv
                  have hi : some ((.ireturn : Instr), (1 : Nat), ([] : List Cond)) = some (i, n, cs) := by simpa [ev_rowI, e1] using hi
                  cases hi
                  exact W.zret B.exec B.bytes (hr.trans e2) (ev_fit_ok hf.2 hv).1 (fun t ht hWm => qq _ t ht hWm hv rfl rfl) hS'.2.2 hd
                · cases hx1
              · rename_i a e1 e2 e3
                split at hx1
                · rename_i hf
                  cases hx1
                  dsimp only at e3
                  subst e3
                  obtain ⟨v, sc', rfl, hv, hs2⟩ := ev_s_cons hs'
                  cases ev_s_nil hs2
                  obtain ⟨x0, rfl⟩ := ev_vL hf hv
                  have hi : some ((.lreturn : Instr), (1 : Nat), ([] : List Cond)) = some (i, n, cs) := by simpa [ev_rowI, e1] using hi
                  cases hi
                  exact W.lret B.exec B.bytes (hr.trans e2) (fun t ht hWm => qq _ t ht hWm hv rfl rfl) hS'.2.2 hd
                · cases hx1
              · rename_i nm a e1 e2 e3
                split at hx1
                · rename_i hf
                  cases hx1
                  dsimp only at e3
                  subst e3
                  obtain ⟨v, sc', rfl, hv, hs2⟩ := ev_s_cons hs'
                  cases ev_s_nil hs2
                  have hi : some ((.areturn : Instr), (1 : Nat), ([] : List Cond)) = some (i, n, cs) := by simpa [ev_rowI, e1] using hi
                  cases hi
                  exact W.aret B.exec B.bytes (hr.trans e2) (Or.inl ⟨_, rfl⟩) (ev_vN hf hv) (fun t ht hWm => qq _ t ht hWm hv rfl rfl) hS'.2.2 hd
                · cases hx1
              · rename_i e1 e2 e3
                cases hx1
                dsimp only at e3
                subst e3
                cases ev_s_nil hs'
                have hi : some ((.return_ : Instr), (1 : Nat), ([] : List Cond)) = some (i, n, cs) := by simpa [ev_rowI, e1] using hi
                cases hi
                exact W.vret B.exec B.bytes (hr.trans e2) (fun t ht hWm => qq none t ht hWm trivial rfl rfl) hS'.2.2 hd
              · cases hx1
          · cases hx1
        · obtain ⟨v, h1, h2⟩ := ev_args_ok 0 hs q hq
          exact ⟨v, h1, hl.2.2 _ h2⟩
      · cases h
    · cases h
