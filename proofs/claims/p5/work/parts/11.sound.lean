/-! THE RUN IS RIGHT -/
def ev_rm (d mc ms : Nat) : Room := { frames := d + 1, cells := mc, slots := ms, locals := 40 * (d + 1) }
def ev_rv (g : ev_G) : Option ev_A → Option Value → Prop
  | none, none => True
  | some a, some v => ev_v g a = some v
  | _, _ => False
def ev_Q (D : va_G) (g : ev_G) (A : Nat → Prop) (outs : List ev_Out) : Array Value → State → Outcome → State → Prop := fun _ st oc t =>
  (∃ (o : ev_Out) (g' : ev_G) (ws' : va_W) (v : Option Value), o ∈ outs ∧ oc = .returned v ∧ ev_rv g' o.1 v ∧ ev_le g g' ∧ va_P D vwCl ws' t.heap ∧ va_D A ws' ∧ ev_w t g' o.2.1 ws' ∧ ev_b o.2.2 g'.2.2) ∧ va_F A st t
def ev_Pb (D : va_G) (g : ev_G) (ws : va_W) (sz : Nat) (w : List ev_C) (U : State) : Prop := U.heap.size = sz ∧ va_P D vwCl ws U.heap ∧ va_K D vwCl [] U ∧ va_D (fun _ => True) ws ∧ ev_w U g w ws ∧ ev_N g.2.1 (va_A ws sz) U U.heap
def ev_Met (l : Launch) (mi : ev_MI) (d : Nat) (D : va_G) (g : ev_G) (ws : va_W) (sz : Nat) (w : List ev_C) (asc : List Value) (outs : List ev_Out) : Prop :=
  Met l mi.1 (Cond.code mi.1 mi.2.1 mi.2.2.1 mi.2.2.2.1 :: lw_good) (ev_rm d mi.2.2.2.2.1 mi.2.2.2.2.2.1) (va_Pc asc (ev_Pb D g ws sz w)) (ev_Q D g (va_A ws sz) outs) mi.2.2.2.2.1 mi.2.2.2.2.2.1 (va_A ws sz)
/-- calls are right, at a depth -/
def ev_Cs (ms : List ev_MI) (call : Nat → List ev_A → List ev_C → ev_K → Option (List ev_Out)) (d : Nat) : Prop :=
  ∀ (k : Nat) (mi : ev_MI) (as : List ev_A) (w : List ev_C) (K : ev_K) (outs : List ev_Out), ms[k]? = some mi → call k as w K = some outs → ∃ d', d = d' + 1 ∧ ∀ (l : Launch) (D : va_G) (g : ev_G) (ws : va_W) (sz : Nat) (asc : List Value), ev_s g as asc → ev_b K g.2.2 → ev_Met l mi d' D g ws sz w asc outs
theorem ev_s_app {g : ev_G} : ∀ {a b : List ev_A} {x y : List Value}, ev_s g a x → ev_s g b y → ev_s g (a ++ b) (x ++ y)
  | [], _, [], _, _, h => h
  | [], _, _ :: _, _, h, _ => h.elim
  | _ :: _, _, [], _, h, _ => h.elim
  | _ :: _, _, _ :: _, _, h1, h2 => ⟨h1.1, ev_s_app h1.2 h2⟩
theorem ev_s_rev {g : ev_G} : ∀ {a : List ev_A} {x : List Value}, ev_s g a x → ev_s g a.reverse x.reverse
  | [], [], _ => trivial
  | [], _ :: _, h => h.elim
  | _ :: _, [], h => h.elim
  | a :: as, x :: xs, h => by
    rw [List.reverse_cons, List.reverse_cons]
    exact ev_s_app (ev_s_rev h.2) ⟨h.1, trivial⟩
theorem ev_s_split {g : ev_G} : ∀ (n : Nat) {a : List ev_A} {x : List Value}, ev_s g a x → ev_s g (a.take n) (x.take n) ∧ ev_s g (a.drop n) (x.drop n)
  | 0, _, _, h => ⟨trivial, h⟩
  | _ + 1, [], [], _ => ⟨trivial, trivial⟩
  | _ + 1, [], _ :: _, h => h.elim
  | _ + 1, _ :: _, [], h => h.elim
  | n + 1, _ :: _, _ :: _, h => ⟨⟨h.1, (ev_s_split n h.2).1⟩, (ev_s_split n h.2).2⟩
theorem ev_s_len {g : ev_G} : ∀ {a : List ev_A} {x : List Value}, ev_s g a x → a.length = x.length
  | [], [], _ => rfl
  | [], _ :: _, h => h.elim
  | _ :: _, [], h => h.elim
  | _ :: _, _ :: _, h => congrArg Nat.succ (ev_s_len h.2)
/-- what a call takes: the arguments as a list, in their order; the stack below them -/
theorem ev_take_ok {recv : Bool} {n : Nat} {st as rest : List ev_A} (h : ev_take recv n st = some (as, rest)) {g : ev_G} {sc : List Value} (hs : ev_s g st sc) :
    ∃ (xs restc : List Value), xs.length = n ∧ ev_s g rest restc ∧ ((recv = true ∧ ∃ (a : ev_A) (as' : List ev_A) (v : Value), as = a :: as' ∧ ev_v g a = some v ∧ ev_s g as' xs ∧ sc = xs.reverse ++ v :: restc) ∨ (recv = false ∧ ev_s g as xs ∧ sc = xs.reverse ++ restc)) := by
  obtain ⟨t1, t2⟩ := ev_s_split n hs
  have hsp : sc = sc.take n ++ sc.drop n := (List.take_append_drop n sc).symm
  unfold ev_take at h
  split at h
  · rename_i hr
    split at h
    · rename_i x rest' hd
      split at h
      · rename_i hl
        cases h
        rw [hd] at t2
        obtain ⟨v, sc', e1, e2, e3⟩ := ev_s_cons t2
        refine ⟨(sc.take n).reverse, sc', by rw [List.length_reverse, ← ev_s_len t1]; exact hl, e3, Or.inl ⟨hr, x, _, v, rfl, e2, ev_s_rev t1, ?_⟩⟩
        rw [List.reverse_reverse, ← e1]
        exact hsp
      · cases h
    · cases h
  · rename_i hr
    split at h
    · rename_i hl
      cases h
      refine ⟨(sc.take n).reverse, sc.drop n, by rw [List.length_reverse, ← ev_s_len t1]; exact hl, t2, Or.inr ⟨by simpa using hr, ev_s_rev t1, ?_⟩⟩
      rw [List.reverse_reverse]
      exact hsp
    · cases h
/-- behind a call -/
theorem ev_callW {p : Program} {l : Launch} {e : Env} {R : Room} {s : State} {m : MethodId} {args : Array Value} {below : List Frame} {meth : Method} {c : Code} {H : Heap} {locs : List Loc} {ce sl mc ms pc : Nat} {ls : Array Slot} {rest st0 : List Value} {a : Array Value} {A A1 : Nat → Prop} {H0 : Heap} {free : Addr → Prop} {Q : State → Prop} {D : va_G} {g : ev_G} {outs : List ev_Out}
    (hr : va_Run p l e R s m args below meth c H locs ce sl mc ms (F0 m pc ls st0) rest (ev_Q D g A1 outs a) free) (hS : va_S A H0 H locs) (hA : ∀ q, A1 q → A q) (hf : ∀ q, free q → A q)
    (kk : ∀ (o : ev_Out) (g' : ev_G) (ws' : va_W) (v : Option Value) (t : State) (H1 : Heap) (locs1 : List Loc), o ∈ outs → t.heap = H1 → s.vm.Alike t.vm → ev_rv g' o.1 v → ev_le g g' → va_P D vwCl ws' H1 → va_D A1 ws' → ev_w t g' o.2.1 ws' → ev_b o.2.2 g'.2.2 → va_S A H0 H1 locs1 → W p l e R s m args below meth c H1 locs1 (ce + mc) (sl + ms) Q (F0 m (pc + 3) ls (v.toList ++ rest))) :
    W p l e R s m args below meth c H locs ce sl Q (F0 m pc ls st0) := by
  intro T hT X
  obtain ⟨v, st₀, t, T', L, h0, X', hL, e1, e2, ⟨⟨o, g', ws', v', ho, hv, hrv, hle, hP, hD, hw, hb⟩, hz, hk⟩, st⟩ := hr T hT X
  cases hv
  rw [h0] at hz hk
  obtain ⟨t2, a1, b1⟩ := kk o g' ws' v t T'.heap (locs ++ L) ho e1.symm (by rw [← e2]; exact X'.warmed.alike) hrv hle (by rw [e1]; exact hP) hD hw hb
    ⟨Nat.le_trans hS.1 (by rw [e1]; exact hz), fun q h1 h2 => by rw [e1, hk q (Nat.lt_of_lt_of_le h1 hS.1) (fun z => h2 (hA q z))]; exact hS.2.1 q h1 h2, fun q hq => by
      rcases List.mem_append.mp hq with h | h
      · exact hS.2.2 q h
      · exact hf _ (hL q h)⟩ T' rfl X'
  exact ⟨t2, st t2 a1, b1⟩
theorem ev_Pb_blind {D : va_G} {g : ev_G} {ws : va_W} {sz : Nat} {w : List ev_C} {asc : List Value} : FrameBlind (va_Pc asc (ev_Pb D g ws sz w)) := fun a U gf mk q => by
  obtain ⟨q0, q1, q2, q3, q4, q5, q6⟩ := q
  exact ⟨q0, q1, q2, va_K.moved (u := U) (U := U.calling gf mk a) (Vm.Alike.refl U.vm) q3, q4, ev_w_moved (u := U) (U := U.calling gf mk a) (Vm.Alike.refl U.vm) q5, ev_N_same (u := U) (U := U.calling gf mk a) rfl q6⟩
theorem ev_rowI_op {ms : List ev_MI} {P : ev_P} {r : ev_Row} (h : r.1 < 200) : ev_rowI ms P r = (match ev_ops[r.1]? with
    | some o => o.1 P r.2
    | none => none) := by
  unfold ev_rowI
  split
  · omega
  · omega
  · omega
  · omega
  · omega
  · omega
  · omega
  · omega
  · rfl
section EVS
variable {p : Program} {l : Launch} {e : Env} {R : Room} {s : State} {m : MethodId} {args : Array Value} {below : List Frame} {meth : Method} {c : Code} {cc : ByteArray} {Q : State → Prop} {D : va_G} {A : Nat → Prop} {g0 : ev_G} {P : ev_P} {ms : List ev_MI} {call : Nat → List ev_A → List ev_C → ev_K → Option (List ev_Out)} {d : Nat}
set_option maxHeartbeats 4000000 in
theorem ev_inv_ok (hMS : ∀ (k : Nat) (mi : ev_MI), ms[k]? = some mi → ev_MOK ms mi) (hC : ev_Cs ms call d) (hRm : d + 1 ≤ R.frames ∧ 40 * (d + 1) ≤ R.locals) (X : ev_X p R s m args meth c cc P.2.2.2.2.1 P.2.2.2.1 P.2.2.1 D A P.1 P.2.1 g0 P.2.2.2.2.2)
    {q : Nat × ev_Row} (hq : ev_RowOK ms P cc q) (h200 : 200 ≤ q.2.1) (h210 : q.2.1 < 210) {S : ev_S} (hpc : S.1 = q.1) {Ss : List ev_S} (h : ev_inv ms call P q.2 S = some Ss) (hk : ∀ S' ∈ Ss, ev_Go p l e R s m args below meth c Q P.2.2.2.2.1 D A g0 S') : ev_Go p l e R s m args below meth c Q P.2.2.2.2.1 D A g0 S := by
  intro g ws H locs ls sc hle hR
  obtain ⟨hx, hb, hml, hown, hts, hK, hA, hN, hini, hcC, hcS, hf, hlc, hscr⟩ := X
  obtain ⟨pc, L, st, w, K, ce, sl⟩ := S
  obtain ⟨qpc, op, t1, t2, t3, t4⟩ := q
  have hpc : pc = qpc := hpc
  subst hpc
  obtain ⟨⟨i, n, cs, hi, hd, hw⟩, hnest⟩ := hq
  dsimp only at hi hd hnest h200 h210
  unfold ev_inv at h
  dsimp only at h
  split at h
  · rename_i mi hmi
    obtain ⟨hpl, hcd, hnL, hmh, -⟩ := hMS _ mi hmi
    split at h
    · rename_i as rest htk
      split at h
      · rename_i hc
        obtain ⟨hc1, hc2, hc3, hc4, hc5, hc6⟩ := hc
        split at h
        · rename_i outs hcall
          cases h
          obtain ⟨hP, hD, hS, hW, hB, hL, hs⟩ := hR
          obtain ⟨d', rfl, hM⟩ := hC _ mi as w K outs hmi hcall
          have hnp : (parseMethodDescriptor mi.1.desc).map (fun d => d.parameters.length) = some t3.toNat := by simpa [ev_nar1] using hc4
          have hroom : (ev_rm d' mi.2.2.2.2.1 mi.2.2.2.2.2.1).frames + 1 ≤ R.frames ∧ 8 + (mi.2.2.1 + 11) + (ev_rm d' mi.2.2.2.2.1 mi.2.2.2.2.2.1).locals ≤ R.locals := by
            simp only [ev_rm]
            omega
          have hG : GoodIn lw_good (Cond.code mi.1 mi.2.1 mi.2.2.1 mi.2.2.2.1 :: lw_good) := lw_good_good (fun w h => by
            rcases List.mem_cons.mp h with rfl | h
            · exact hcd
            · exact h)
          have hcap : ce + mi.2.2.2.2.1 ≤ R.cells ∧ sl + mi.2.2.2.2.2.1 ≤ R.slots := by rw [hcC, hcS]; exact ⟨hc2, hc3⟩
          have hfree : ∀ q, va_A ws H.size q → A q := by
            intro q h
            rcases h with ⟨k, e, h⟩ | h
            · exact hD.2 k (q, e) h
            · exact hA q (Nat.le_trans hS.1 h)
          obtain ⟨xs, restc, hxl, hrest, hor⟩ := ev_take_ok htk hs
          have hsum : (restc.map fun v => v.category).sum ≤ 8 := by rw [ev_cs_ok hrest]; exact hc1
          have hkk : ∀ (o : ev_Out) (g' : ev_G) (ws' : va_W) (v : Option Value) (t : State) (H1 : Heap) (locs1 : List Loc), o ∈ outs → t.heap = H1 → s.vm.Alike t.vm → ev_rv g' o.1 v → ev_le g g' → va_P D vwCl ws' H1 → va_D (va_A ws H.size) ws' → ev_w t g' o.2.1 ws' → ev_b o.2.2 g'.2.2 → va_S A s.heap H1 locs1 → W p l e R s m args below meth c H1 locs1 (ce + mi.2.2.2.2.1) (sl + mi.2.2.2.2.2.1) Q (F0 m (pc + 3) ls (v.toList ++ restc)) := by
            intro o g' ws' v t H1 locs1 ho ht hvm hrv hle' hP1 hD1 hw1 hb1 hS1
            refine hk _ (List.mem_map.mpr ⟨o, ho, rfl⟩) g' ws' H1 locs1 ls _ (ev_le_tr hle hle') ⟨hP1, hD1.weaken (fun _ _ _ h => hfree _ h), hS1, ev_w_moved hvm.symm hw1, hb1, ev_l_le hle' hL, ?_⟩
            refine ev_s_app ?_ (ev_s_le hle' hrest)
            cases ho1 : o.1 with
            | none =>
              cases v with
              | none => exact trivial
              | some v => rw [ho1] at hrv; exact hrv.elim
            | some a =>
              cases v with
              | none => rw [ho1] at hrv; exact hrv.elim
              | some v => rw [ho1] at hrv; exact ⟨hrv, trivial⟩
          have hpre : ∀ (asc : List Value), ∀ U : State, U.heap = H → s.WarmedH U.vm → va_Pc asc (ev_Pb D g ws H.size w) asc.toArray U := fun asc U hU hWm =>
            ⟨rfl, by rw [hU], by rw [hU]; exact hP, va_K.moved hWm.alike hK, hD.weaken (fun _ _ _ _ => trivial), ev_w_moved hWm.alike hW, by rw [hle.2.1]; exact ev_N_call hWm hU hS hfree hN⟩
          have h4 : op = 200 ∨ op = 201 ∨ op = 202 ∨ op = 203 ∨ 203 < op := by omega
          rcases h4 with rfl | rfl | rfl | rfl | hbig
          · have hi : some ((.invokevirtual t2.toNat : Instr), (3 : Nat), ([.methodLink P.2.2.2.1 t2.toNat mi.1, .instanceMethod mi.1, .selects mi.1.cls mi.1 mi.1, .initialized mi.1.cls] : List Cond)) = some (i, n, cs) := by
              simpa [ev_rowI, hmi] using hi
            cases hi
            rcases hor with ⟨-, a, as', v, rfl, hva, hxs, rfl⟩ | ⟨hf0, -⟩
            · have hGV : GoodIn lw_good (wsV P.2.2.2.1 t2.toNat mi.1.cls mi.1 (Cond.code mi.1 mi.2.1 mi.2.2.1 mi.2.2.2.1 :: lw_good)) := lw_good_good (fun w h => by
                unfold wsV at h
                rcases List.mem_append.mp h with h | h
                · exact hw w h
                · exact (hG w h).1)
              have h5 : (if a.1 = 5 then (decide (a.2.toNat % 2 = 1) && (decide (a.2.toNat / 2 < 40) && decide (mi.1.cls = "java/lang/String"))) else (match w[a.2.toNat]? with
                | some cl => decide (a.1 = 1) && decide ((vwCl[cl.1]?).map (fun q => q.1) = some mi.1.cls)
                | none => false)) = true := hc5
              split at h5
              · rename_i ha5
                simp only [Bool.and_eq_true, decide_eq_true_eq] at h5
                obtain ⟨h51, h52, h53⟩ := h5
                obtain ⟨r, hr⟩ : ∃ r, ev_strs[a.2.toNat / 2]? = some r := ⟨_, List.getElem?_eq_getElem (show a.2.toNat / 2 < ev_strs.length from h52)⟩
                obtain ⟨at_, an⟩ := a
                have ha5 : at_ = 5 := ha5
                subst ha5
                have hva2 : v = .ref (g0.2.1 (1 + 2 * (an.toNat / 2))) := by
                  have : g.2.1 = g0.2.1 := hle.2.1
                  rw [← this, show 1 + 2 * (an.toNat / 2) = an.toNat by dsimp only at h51; omega]
                  exact (Option.some.inj hva).symm
                subst hva2
                obtain ⟨cell, k1, k2, k3, k4⟩ := va_O.kept (hN.2.2.1 _ r hr).1 hS.2.1
                exact ev_callW (va_runV (As := xs) (rest := restc) ⟨hx, hb, hml, hown, hts⟩ (hM l D g ws H.size (.ref _ :: xs) ⟨hva, hxs⟩ hB) (cwV t3.toNat hts hGV rfl rfl rfl ⟨rfl, hmh.1, hmh.2, hnp⟩ hroom) ⟨ev_Pb_blind, ⟨cell, k1, k2, by rw [h53]; exact k3⟩, fun U hU hWm => hpre _ U hU hWm⟩ rfl hxl hL.1 rfl (lv_room hsum) hd hcap) hS (fun q h => hfree q h) hfree hkk
              split at h5
              · rename_i cl hcl
                simp only [Bool.and_eq_true, decide_eq_true_eq] at h5
                obtain ⟨ad, x0, rfl, hws, hcc⟩ := ev_ref1 hW h5.1 hva hcl
                obtain ⟨r, hr1, hr2⟩ : ∃ r, vwCl[cl.1]? = some r ∧ r.1 = mi.1.cls := by
                  cases hz : vwCl[cl.1]? with
                  | none => rw [hz] at h5; exact absurd h5.2 (by simp)
                  | some r => rw [hz] at h5; exact ⟨r, rfl, Option.some.inj h5.2⟩
                cases x0 with
                | inl z =>
                  obtain ⟨tt, b1, b2, -⟩ := hcc
                  have : cl.1 < 10 := (List.getElem?_eq_some_iff.mp hr1).1
                  omega
                | inr o =>
                  obtain ⟨ci, fs⟩ := o
                  obtain ⟨b1, -⟩ := hcc
                  dsimp only at b1
                  rw [b1] at hr1
                  have hrecv := va_recv hK hP hr1 hws
                  rw [hr2] at hrecv
                  exact ev_callW (va_runV (As := xs) (rest := restc) ⟨hx, hb, hml, hown, hts⟩ (hM l D g ws H.size (.ref ad :: xs) ⟨hva, hxs⟩ hB) (cwV t3.toNat hts hGV rfl rfl rfl ⟨rfl, hmh.1, hmh.2, hnp⟩ hroom) ⟨ev_Pb_blind, hrecv, fun U hU hWm => hpre _ U hU hWm⟩ rfl hxl hL.1 rfl (lv_room hsum) hd hcap) hS (fun q h => hfree q h) hfree hkk
              · cases h5
            · cases hf0
          · have hi : some ((.invokestatic t2.toNat : Instr), (3 : Nat), ([.methodLink P.2.2.2.1 t2.toNat mi.1, .static mi.1, .initialized mi.1.cls] : List Cond)) = some (i, n, cs) := by
              simpa [ev_rowI, hmi] using hi
            cases hi
            rcases hor with ⟨hf0, -⟩ | ⟨-, hxs, rfl⟩
            · cases hf0
            · have hGS : GoodIn lw_good (va_wsS P.2.2.2.1 t2.toNat mi.1 (Cond.code mi.1 mi.2.1 mi.2.2.1 mi.2.2.2.1 :: lw_good)) := lw_good_good (fun w h => by
                unfold va_wsS at h
                rcases List.mem_append.mp h with h | h
                · exact hw w h
                · exact (hG w h).1)
              exact ev_callW (va_runS (As := xs) (rest := restc) ⟨hx, hb, hml, hown, hts⟩ (hM l D g ws H.size xs hxs hB) (va_cwS t3.toNat hts hGS rfl rfl rfl ⟨hmh.1, hmh.2, hnp⟩ hroom) ⟨ev_Pb_blind, fun U hU hWm => hpre _ U hU hWm⟩ rfl hxl hL.1 rfl (lv_room hsum) hd hcap) hS (fun q h => hfree q h) hfree hkk
          · have hi : some ((.invokespecial t2.toNat : Instr), (3 : Nat), ([.methodLink P.2.2.2.1 t2.toNat mi.1, .instanceMethod mi.1, .initialized mi.1.cls] : List Cond)) = some (i, n, cs) := by
              simpa [ev_rowI, hmi] using hi
            cases hi
            rcases hor with ⟨-, a, as', v, rfl, hva, hxs, rfl⟩ | ⟨hf0, -⟩
            · have h6 : (decide (mi.1.name = "<init>") && mi.2.2.2.1.isNone && ev_isR a) = true := hc6
              simp only [Bool.and_eq_true, decide_eq_true_eq, Option.isNone_iff_eq_none] at h6
              obtain ⟨⟨hy1, hy2⟩, hy3⟩ := h6
              obtain ⟨ad, rfl⟩ := ev_vR hy3 hva
              have hw3 : Cond.code mi.1 mi.2.1 mi.2.2.1 mi.2.2.2.1 = Cond.code mi.1 mi.2.1 mi.2.2.1 none := by rw [hy2]
              exact ev_callW (va_runI (As := xs) (rest := restc) ⟨hx, hb, hml, hown, hts⟩ (hM l D g ws H.size (.ref ad :: xs) ⟨hva, hxs⟩ hB) (cwI t3.toNat hts hG (by rw [hw3]) rfl rfl (hts _ (hw _ (by simp))) (hts _ (hw _ (by simp))) (hts _ (hw _ (by simp))) hy1 ⟨hmh.1, hmh.2, hnp⟩ hroom) ⟨ev_Pb_blind, fun U hU hWm => hpre _ U hU hWm⟩ rfl hxl hL.1 rfl (lv_room hsum) hd hcap) hS (fun q h => hfree q h) hfree hkk
            · cases hf0
          · have hi : some ((.invokespecial t2.toNat : Instr), (3 : Nat), ([.instanceMethod mi.1, .initialized mi.1.cls] : List Cond)) = some (i, n, cs) := by
              simpa [ev_rowI, hmi] using hi
            cases hi
            rcases hor with ⟨-, a, as', v, rfl, hva, hxs, rfl⟩ | ⟨hf0, -⟩
            · have h6 : (decide (mi.1.name = "<init>") && mi.2.2.2.1.isNone && ev_isR a) = true := hc6
              simp only [Bool.and_eq_true, decide_eq_true_eq, Option.isNone_iff_eq_none] at h6
              obtain ⟨⟨hy1, hy2⟩, hy3⟩ := h6
              obtain ⟨ad, rfl⟩ := ev_vR hy3 hva
              have hw3 : Cond.code mi.1 mi.2.1 mi.2.2.1 mi.2.2.2.1 = Cond.code mi.1 mi.2.1 mi.2.2.1 none := by rw [hy2]
              have hnl := hN.1.1 _ (hnest rfl mi hmi)
              exact ev_callW (va_runIN (As := xs) (rest := restc) ⟨hx, hb, hml, hown, hts⟩ (hM l D g ws H.size (.ref ad :: xs) ⟨hva, hxs⟩ hB) ⟨va_cnB t3.toNat hts hG (by rw [hw3]) rfl rfl hnl (hts _ (hw _ (by simp))) ⟨hmh.1, hmh.2, hnp⟩ hroom, hy1, hts _ (hw _ (by simp))⟩ ⟨ev_Pb_blind, fun U hU hWm => hpre _ U hU hWm⟩ rfl hxl hL.1 rfl (lv_room hsum) hd hcap) hS (fun q h => hfree q h) hfree hkk
            · cases hf0
          · exfalso
            have : ev_rowI ms P (op, t1, t2, t3, t4) = none := by
              unfold ev_rowI
              split
              · omega
              · omega
              · omega
              · omega
              · omega
              · omega
              · omega
              · omega
              · have : ev_ops[op]? = none := by
                  apply List.getElem?_eq_none
                  have : ev_ops.length = 84 := rfl
                  omega
                simp [this]
            rw [this] at hi
            cases hi
        · cases h
      · cases h
    · cases h
  · cases h
end EVS

section EVR
variable {p : Program} {l : Launch} {e : Env} {R : Room} {s : State} {m : MethodId} {args : Array Value} {below : List Frame} {meth : Method} {c : Code} {cc : ByteArray} {Q : State → Prop} {D : va_G} {A : Nat → Prop} {g0 : ev_G} {P : ev_P} {ms : List ev_MI} {call : Nat → List ev_A → List ev_C → ev_K → Option (List ev_Out)} {d : Nat} {rows : List (Nat × ev_Row)} {stops : List Nat}
/-- from the ends of a run back to its start -/
theorem ev_run_ok (hMS : ∀ (k : Nat) (mi : ev_MI), ms[k]? = some mi → ev_MOK ms mi) (hC : ev_Cs ms call d) (hRm : d + 1 ≤ R.frames ∧ 40 * (d + 1) ≤ R.locals) (X : ev_X p R s m args meth c cc P.2.2.2.2.1 P.2.2.2.1 P.2.2.1 D A P.1 P.2.1 g0 P.2.2.2.2.2)
    (hrows : ∀ q ∈ rows, ev_RowOK ms P cc q) : ∀ (n : Nat) (S : ev_S) (outs : List ev_S), ev_run ms call P rows stops n S = some outs → (∀ o ∈ outs, ev_Go p l e R s m args below meth c Q P.2.2.2.2.1 D A g0 o) → ev_Go p l e R s m args below meth c Q P.2.2.2.2.1 D A g0 S
  | 0, S, outs, h, hk => by cases h
  | n + 1, S, outs, h, hk => by
    unfold ev_run at h
    split at h
    · cases h
      exact hk S (List.mem_singleton.mpr rfl)
    · split at h
      · cases h
      · rename_i r hr
        have hq := hrows _ (ev_at_mem hr)
        split at h
        · cases h
          exact hk S (List.mem_singleton.mpr rfl)
        · rename_i h210
          split at h
          · rename_i h200
            split at h
            · rename_i Ss hSs
              refine ev_inv_ok hMS hC hRm X hq h200 (by dsimp only; omega) rfl hSs (fun S' hS' => ?_)
              obtain ⟨o', h1, h2⟩ := ev_all_ok h S' hS'
              exact ev_run_ok hMS hC hRm X hrows n S' o' h1 (fun x hx => hk x (h2 x hx))
            · cases h
          · rename_i h200
            split at h
            · rename_i o ho
              split at h
              · rename_i Ss hSs
                obtain ⟨⟨i, k, cs, hi, hd, hw⟩, -⟩ := hq
                rw [ev_rowI_op (by dsimp only; omega)] at hi
                dsimp only at hi hd
                rw [ho] at hi
                refine ev_ops_ok o (List.mem_of_getElem? ho) p l e R s m args below meth c cc Q D A g0 P r.2 S i k cs Ss X hi hd hw hSs (fun S' hS' => ?_)
                obtain ⟨o', h1, h2⟩ := ev_all_ok h S' hS'
                exact ev_run_ok hMS hC hRm X hrows n S' o' h1 (fun x hx => hk x (h2 x hx))
              · cases h
            · cases h
end EVR
theorem ev_args_ok {g : ev_G} : ∀ {as : List ev_A} {xs : List Value} (i : Nat), ev_s g as xs → ∀ q ∈ ev_args i as, ∃ v, ev_v g q.2 = some v ∧ (q.1, v) ∈ lv_args i xs
  | [], [], i, _, q, hq => nomatch hq
  | [], _ :: _, i, h, q, hq => h.elim
  | _ :: _, [], i, h, q, hq => h.elim
  | a :: as, x :: xs, i, h, q, hq => by
    unfold ev_args at hq
    rcases List.mem_cons.mp hq with rfl | hq
    · exact ⟨x, h.1, by unfold lv_args; exact List.mem_cons_self⟩
    · obtain ⟨v, h1, h2⟩ := ev_args_ok (i + if ev_isL a = true then 2 else 1) h.2 q hq
      refine ⟨v, h1, ?_⟩
      unfold lv_args
      refine List.mem_cons_of_mem _ ?_
      rcases ev_cat h.1 with ⟨q1, q2⟩ | ⟨q1, q2⟩
      · rw [if_pos q2]
        rw [if_pos q1] at h2
        exact h2
      · rw [if_neg (by omega)]
        rw [if_neg (by rw [q1]; decide)] at h2
        exact h2
theorem ev_sl_len {g : ev_G} : ∀ {as : List ev_A} {xs : List Value}, ev_s g as xs → (lg_sl xs).length = ev_cs as
  | [], [], _ => rfl
  | [], _ :: _, h => h.elim
  | _ :: _, [], h => h.elim
  | a :: as, x :: xs, h => by
    have ih := ev_sl_len h.2
    simp only [lg_sl, List.flatMap_cons, List.length_append, ev_cs, List.map_cons, List.sum_cons] at ih ⊢
    rw [ih]
    rcases ev_cat h.1 with ⟨q1, q2⟩ | ⟨q1, q2⟩ <;> rw [q1, q2] <;> rfl
set_option maxHeartbeats 4000000 in
/-- the execution of methods by their rows is right, at every depth -/
theorem ev_exec_ok {ms : List ev_MI} (hMS : ∀ (k : Nat) (mi : ev_MI), ms[k]? = some mi → ev_MOK ms mi) : ∀ d : Nat, ev_Cs ms (ev_exec ms d) d
  | 0 => fun k mi as w K outs hmi h => by cases h
  | d + 1 => fun k mi as w K outs hmi h => by
    refine ⟨d, rfl, fun l D g ws sz asc hs hB => ?_⟩
    unfold ev_exec at h
    rw [hmi] at h
    dsimp only at h
    split at h
    · rename_i hcs
      split at h
      · rename_i fs hrun
        obtain ⟨hpl, hcd, hnL, hmh, hrows⟩ := hMS k mi hmi
        refine Met.ofW (cc := mi.2.1) (maxL := mi.2.2.1) (ret := mi.2.2.2.1) hpl rfl ?_
        intro p e s m args below meth c s₁ B hml hv
        obtain ⟨rfl, hsz, hP, hK, hD0, hW, hN⟩ := hv
        subst hsz
        have hD : va_D (va_A ws s.heap.size) ws := hD0.self (sz := s.heap.size)
        have hts : ∀ w ∈ lw_good, w.before asc.toArray s = true := fun w hw => atoms_spec (ws := Cond.code mi.1 mi.2.1 mi.2.2.1 mi.2.2.2.1 :: lw_good) B.pre w (List.mem_cons_of_mem _ hw)
        have hA : ∀ q : Nat, s.heap.size ≤ q → va_A ws s.heap.size q := fun q h => Or.inr h
        have X : ev_X p (ev_rm d mi.2.2.2.2.1 mi.2.2.2.2.2.1) s m asc.toArray meth c mi.2.1 mi.2.2.1 mi.1.cls (decide (mi.1.name = "<init>")) D (va_A ws s.heap.size) mi.2.2.2.2.1 mi.2.2.2.2.2.1 g 0 :=
          ⟨B.exec, B.bytes, hml, findClass_of_methodNamed B.named, hts, hK, hA, hN, fun h => by rw [(name_of_methodNamed B.named B.method).1]; simpa using h, rfl, rfl, by simp [ev_rm], by simp only [ev_rm]; omega, fun L h => by cases h⟩
        have hlocks := B.notSynchronized
        have hr := B.returns
        have hlen : (lg_sl asc).length ≤ mi.2.2.1 := by rw [ev_sl_len hs]; exact hcs
        have hl := lv_entry asc (n := mi.2.2.1) hlen
        rw [lg_entry_eq]
        refine ev_run_ok (P := (mi.2.2.2.2.1, mi.2.2.2.2.2.1, decide (mi.1.name = "<init>"), mi.1.cls, mi.2.2.1, 0)) hMS (ev_exec_ok hMS d) ⟨by simp [ev_rm], by simp [ev_rm]⟩ X hrows 20000 _ fs hrun (fun o ho => ?_) g ws s.heap [] _ [] (ev_le_rf g) ⟨hP, hD, va_S.rf, hW, hB, ⟨hl.1, hl.2.1, fun q hq => ?_⟩, trivial⟩
        · obtain ⟨x, hx1, hx2⟩ := ev_ends_ok h o ho
          obtain ⟨pc, L, st, w', K', ce, sl⟩ := o
          intro g' ws' H locs ls sc hle ⟨hP', hD', hS', hW', hB', hL', hs'⟩
          unfold ev_end at hx1
          split at hx1
          · rename_i hcap
            refine W.widen (k := mi.2.2.2.2.1) (n := mi.2.2.2.2.2.1) hcap.1 hcap.2 ?_
            have qq : ∀ (v : Option Value) (t : State), t.heap = H → s.WarmedH t.vm → ev_rv g' x.1 v → x.2.1 = w' → x.2.2 = K' → ev_Q D g (va_A ws s.heap.size) outs asc.toArray s (.returned v) t := by
              intro v t ht hWm hv e1 e2
              exact ⟨⟨x, g', ws', v, hx2, rfl, hv, hle, by rw [ht]; exact hP', hD', by rw [e1]; exact ev_w_moved hWm.alike hW', by rw [e2]; exact hB'⟩, hS'.F ht⟩
            split at hx1
            · cases hx1
            · rename_i r hrr
              obtain ⟨⟨i, n, cs, hi, hd, -⟩, -⟩ := hrows _ (ev_at_mem hrr)
              dsimp only at hi hd
              split at hx1
              · rename_i ty a e1 e2 e3
                split at hx1
                · rename_i hf
                  cases hx1
                  dsimp only at e3
                  subst e3
                  obtain ⟨v, sc', rfl, hv, hs2⟩ := ev_s_cons hs'
                  cases ev_s_nil hs2
                  obtain ⟨x0, rfl⟩ := ev_vI hf.1 hv
                  have hi : some ((.ireturn : Instr), (1 : Nat), ([] : List Cond)) = some (i, n, cs) := by simpa [ev_rowI, e1] using hi
                  cases hi
                  exact W.zret B.exec B.bytes (hr.trans e2) (ev_fit_ok hf.2 hv).1 (fun t ht hWm => qq _ t ht hWm hv rfl rfl) hS'.2.2 hd
                · cases hx1
              · rename_i a e1 e2 e3
                split at hx1
                · rename_i hf
                  cases hx1
                  dsimp only at e3
                  subst e3
                  obtain ⟨v, sc', rfl, hv, hs2⟩ := ev_s_cons hs'
                  cases ev_s_nil hs2
                  obtain ⟨x0, rfl⟩ := ev_vL hf hv
                  have hi : some ((.lreturn : Instr), (1 : Nat), ([] : List Cond)) = some (i, n, cs) := by simpa [ev_rowI, e1] using hi
                  cases hi
                  exact W.lret B.exec B.bytes (hr.trans e2) (fun t ht hWm => qq _ t ht hWm hv rfl rfl) hS'.2.2 hd
                · cases hx1
              · rename_i nm a e1 e2 e3
                split at hx1
                · rename_i hf
                  cases hx1
                  dsimp only at e3
                  subst e3
                  obtain ⟨v, sc', rfl, hv, hs2⟩ := ev_s_cons hs'
                  cases ev_s_nil hs2
                  have hi : some ((.areturn : Instr), (1 : Nat), ([] : List Cond)) = some (i, n, cs) := by simpa [ev_rowI, e1] using hi
                  cases hi
                  exact W.aret B.exec B.bytes (hr.trans e2) (Or.inl ⟨_, rfl⟩) (ev_vN hf hv) (fun t ht hWm => qq _ t ht hWm hv rfl rfl) hS'.2.2 hd
                · cases hx1
              · rename_i e1 e2 e3
                cases hx1
                dsimp only at e3
                subst e3
                cases ev_s_nil hs'
                have hi : some ((.return_ : Instr), (1 : Nat), ([] : List Cond)) = some (i, n, cs) := by simpa [ev_rowI, e1] using hi
                cases hi
                exact W.vret B.exec B.bytes (hr.trans e2) (fun t ht hWm => qq none t ht hWm trivial rfl rfl) hS'.2.2 hd
              · cases hx1
          · cases hx1
        · obtain ⟨v, h1, h2⟩ := ev_args_ok 0 hs q hq
          exact ⟨v, h1, hl.2.2 _ h2⟩
      · cases h
    · cases h
/-! CM: the machine over a typed memory: ints, longs and references by cell and place. A value is the machine's own, but that a reference names a cell by its number in the layout; from 1000 on what was there before: 1000 the script, 1001 + 2 k a text, 1002 + 2 k its bytes, 1100 the table of tens, 1101 a formatter -/
abbrev cm_M : Type := (Nat → Nat → Int32) × (Nat → Nat → Int64) × (Nat → Nat → Option Nat)
/-- where it stands: place, locals, stack, memory -/
abbrev cm_S : Type := Nat × List (Nat × Value) × List Value × cm_M
def cm_v (adr : Nat → Nat) (v : Value) : Value := match v with
  | .ref k => .ref (adr k)
  | v => v
theorem cm_v_cat (adr : Nat → Nat) (v : Value) : (cm_v adr v).category = v.category := by cases v <;> rfl
theorem cm_v_cats (adr : Nat → Nat) (l : List Value) : ((l.map (cm_v adr)).map fun v => v.category).sum = (l.map fun v => v.category).sum := by
  induction l with
  | nil => rfl
  | cons a l ih => simp only [List.map_cons, List.sum_cons, cm_v_cat, ih]
/-- the cells: class (or 100 and the array's type), how many places -/
def cm_lay : List (Nat × Nat) := [(8, 15), (101, 900), (4, 14), (102, 16), (100, 16), (100, 16), (7, 19), (100, 6), (100, 6), (100, 6), (100, 6), (100, 6), (100, 5), (100, 5), (100, 5), (100, 5), (100, 5), (100, 5), (100, 3), (7, 19), (100, 6), (100, 6), (100, 6), (100, 6), (100, 6), (100, 5), (100, 5), (100, 5), (100, 5), (100, 5), (100, 5), (100, 3), (2, 4), (100, 6), (100, 3), (2, 4), (100, 6), (100, 3), (3, 5), (103, 16), (103, 3), (2, 4), (100, 6), (100, 3), (2, 4), (100, 6), (100, 3), (2, 4), (100, 6), (100, 3), (2, 4), (100, 6), (100, 3), (2, 4), (100, 6), (100, 3), (2, 4), (100, 6), (100, 3), (2, 4), (100, 6), (100, 3), (2, 4), (100, 6), (100, 3), (2, 4), (100, 6), (100, 3), (2, 4), (100, 6), (100, 3), (2, 4), (100, 6), (100, 3), (2, 4), (100, 6), (100, 3), (2, 4), (100, 6), (100, 3), (2, 4), (100, 6), (100, 3), (2, 4), (100, 6), (100, 3), (2, 4), (100, 6), (100, 3), (2, 4), (100, 6), (100, 3), (2, 4), (100, 6), (100, 3), (2, 4), (100, 6), (100, 3), (0, 5), (103, 5), (2, 4), (100, 6), (100, 3), (2, 4), (100, 6), (100, 3), (2, 4), (100, 6), (100, 3), (2, 4), (100, 6), (100, 3), (2, 4), (100, 6), (100, 3), (6, 3), (100, 5), (100, 5), (5, 3), (100, 32), (2, 4), (100, 6), (100, 3), (1, 3), (9, 35), (100, 900), (100, 8), (100, 213), (100, 213), (100, 11), (100, 176), (100, 33), (100, 11), (100, 5), (100, 5), (100, 5), (102, 1)]
def cm_kind (c : Nat) : Nat × Nat := match cm_lay[c]? with
  | some q => q
  | none => (999, 0)
theorem cm_kind_at {c : Nat} {q : Nat × Nat} (h : cm_kind c = q) (h9 : q.1 < 999) : cm_lay[c]? = some q := by
  unfold cm_kind at h
  cases hc : cm_lay[c]? with
  | none => rw [hc] at h; subst h; exact absurd h9 (by decide)
  | some r => rw [hc] at h; exact congrArg some h
/-- what a field holds: 0 an int, 2 a long, 3 a reference -/
def cm_ft (ci j : Nat) : Nat := match ev_tyl[ci]? with
  | some ty => (match ty j with
    | .long => 2
    | .object _ => 3
    | .array _ => 3
    | _ => 0)
  | none => 0
/-- a field of truth values -/
def cm_isB (ci j : Nat) : Bool := match ev_tyl[ci]? with
  | some ty => (match ty j with
    | .boolean => true
    | _ => false)
  | none => false
def cm_rq : Option Nat → Value
  | some q => .ref q
  | none => .null
def cm_rd (M : cm_M) (tag c j : Nat) : Value := match tag with
  | 2 => .long (M.2.1 c j)
  | 3 => cm_rq (M.2.2 c j)
  | _ => .int (M.1 c j)
def cm_wi (M : cm_M) (c i : Nat) (x : Int32) : cm_M := (fun c' i' => if c' = c ∧ i' = i then x else M.1 c' i', M.2)
def cm_wl (M : cm_M) (c i : Nat) (x : Int64) : cm_M := (M.1, fun c' i' => if c' = c ∧ i' = i then x else M.2.1 c' i', M.2.2)
def cm_wr (M : cm_M) (c i : Nat) (x : Option Nat) : cm_M := (M.1, M.2.1, fun c' i' => if c' = c ∧ i' = i then x else M.2.2 c' i')
def cm_cp (M : cm_M) (c sp d dp n : Nat) : cm_M := (fun c' i' => if c' = d ∧ dp ≤ i' ∧ i' < dp + n then M.1 c (sp + (i' - dp)) else M.1 c' i', M.2)
def cm_ar (adr : Nat → Nat) (M : cm_M) (k t n : Nat) (a : (Nat → Int32) ⊕ (Nat → Int64) ⊕ (Nat → UInt32) ⊕ (Nat → UInt64) ⊕ (Nat → Option Nat)) : Prop := match a with
  | .inl f => t < 2 ∧ ∀ j, j < n → f j = M.1 k j
  | .inr (.inl f) => t = 2 ∧ ∀ j, j < n → f j = M.2.1 k j
  | .inr (.inr (.inr (.inr f))) => t = 3 ∧ ∀ j, j < n → f j = (M.2.2 k j).map adr
  | _ => False
def cm_c (s : State) (adr : Nat → Nat) (M : cm_M) (k : Nat) (c : Nat × Nat) (x : va_E) : Prop := match x with
  | .inr o => o.1 = c.1 ∧ c.1 < 100 ∧ o.2.length = c.2 ∧ ∀ j, j < c.2 → o.2[j]? = some (cm_v adr (cm_rd M (cm_ft c.1 j) k j))
  | .inl a => ∃ t, t < 4 ∧ c.1 = 100 + t ∧ a.2.1 = c.2 ∧ ArrOfT s a.1 (ev_ty t) ∧ va_RA s a.1 (ev_ty t) ∧ cm_ar adr M k t c.2 a.2.2
/-- the world is as the memory says -/
def cm_w (s : State) (adr : Nat → Nat) (M : cm_M) (ws : va_W) : Prop := ws.length = cm_lay.length ∧ ∀ (k : Nat) (c : Nat × Nat) (q : Nat × va_E), cm_lay[k]? = some c → ws[k]? = some q → q.1 = adr k ∧ cm_c s adr M k c q.2
theorem cm_c_moved {u U : State} {adr : Nat → Nat} {M : cm_M} {k : Nat} {c : Nat × Nat} {x : va_E} (hvm : u.vm.Alike U.vm) (h : cm_c u adr M k c x) : cm_c U adr M k c x := by
  cases x with
  | inr o => exact h
  | inl a =>
    obtain ⟨t, a1, a2, a3, a4, a5, a6⟩ := h
    exact ⟨t, a1, a2, a3, arrOfT_moved hvm a4, a5.moved hvm, a6⟩
theorem cm_w_moved {u U : State} {adr : Nat → Nat} {M : cm_M} {ws : va_W} (hvm : u.vm.Alike U.vm) (h : cm_w u adr M ws) : cm_w U adr M ws := ⟨h.1, fun k c q h1 h2 => ⟨(h.2 k c q h1 h2).1, cm_c_moved hvm (h.2 k c q h1 h2).2⟩⟩
/-- a cell of the layout stands in the world -/
theorem cm_cell {s : State} {adr : Nat → Nat} {M : cm_M} {ws : va_W} {k : Nat} {c : Nat × Nat} (h : cm_w s adr M ws) (hc : cm_lay[k]? = some c) : ∃ x, ws[k]? = some (adr k, x) ∧ cm_c s adr M k c x := by
  have hl : k < ws.length := by rw [h.1]; exact (List.getElem?_eq_some_iff.mp hc).1
  have h1 := List.getElem?_eq_getElem hl
  obtain ⟨e, h2⟩ := h.2 k c _ hc h1
  exact ⟨ws[k].2, by rw [h1, ← e], h2⟩
/-- one cell is written -/
theorem cm_w_set {s : State} {adr : Nat → Nat} {M M' : cm_M} {ws : va_W} {q : Nat} {c0 : Nat × Nat} {x : va_E} (h : cm_w s adr M ws) (hq : cm_lay[q]? = some c0) (hx : cm_c s adr M' q c0 x) (hM : ∀ k c y, k ≠ q → cm_c s adr M k c y → cm_c s adr M' k c y) : cm_w s adr M' (ws.set q (adr q, x)) := by
  refine ⟨by rw [List.length_set]; exact h.1, fun k c z h1 h2 => ?_⟩
  have hl : q < ws.length := by rw [h.1]; exact (List.getElem?_eq_some_iff.mp hq).1
  by_cases hk : k = q
  · subst hk
    rw [List.getElem?_set_self hl] at h2
    cases h2
    rw [hq] at h1
    cases h1
    exact ⟨rfl, hx⟩
  · rw [List.getElem?_set_ne (Ne.symm hk)] at h2
    obtain ⟨a, b⟩ := h.2 k c z h1 h2
    exact ⟨a, hM k c _ hk b⟩
theorem cm_c_ne {s : State} {adr : Nat → Nat} {M M' : cm_M} {k : Nat} {c : Nat × Nat} {x : va_E} (h1 : ∀ j, M'.1 k j = M.1 k j) (h2 : ∀ j, M'.2.1 k j = M.2.1 k j) (h3 : ∀ j, M'.2.2 k j = M.2.2 k j) (h : cm_c s adr M k c x) : cm_c s adr M' k c x := by
  have hr : ∀ t j, cm_rd M' t k j = cm_rd M t k j := by
    intro t j
    unfold cm_rd
    split
    · rw [h2]
    · rw [h3]
    · rw [h1]
  cases x with
  | inr o => exact ⟨h.1, h.2.1, h.2.2.1, fun j hj => by rw [hr]; exact h.2.2.2 j hj⟩
  | inl a =>
    obtain ⟨t, a1, a2, a3, a4, a5, a6⟩ := h
    refine ⟨t, a1, a2, a3, a4, a5, ?_⟩
    obtain ⟨a1, a2, arr⟩ := a
    rcases arr with f | f | f | f | f
    · exact ⟨a6.1, fun j hj => by rw [h1]; exact a6.2 j hj⟩
    · exact ⟨a6.1, fun j hj => by rw [h2]; exact a6.2 j hj⟩
    · exact a6
    · exact a6
    · exact ⟨a6.1, fun j hj => by rw [h3]; exact a6.2 j hj⟩
/-- the words that callees take along: what was there before -/
def cm_tens (j : Nat) : Int32 := ([1, 10, 100, 1000, 10000] : List Int32).getD j 0
def cm_T (adr : Nat → Nat) (A : Nat → Prop) (U : State) (H : Heap) : Prop := va_Z "BarberMinutes" "TENS" "[I" (.ref (adr 1100)) A U H ∧ va_T .int (adr 1100) 5 (fun j => .int (cm_tens j)) A U H ∧ (va_Z "jdk/internal/util/Preconditions" "SIOOBE_FORMATTER" "Ljava/util/function/BiFunction;" .null A U H ∨ va_Z "jdk/internal/util/Preconditions" "SIOOBE_FORMATTER" "Ljava/util/function/BiFunction;" (.ref (adr 1101)) A U H)
def cm_N (adr : Nat → Nat) (A : Nat → Prop) (U : State) (H : Heap) : Prop := ev_N (fun j => adr (1000 + j)) A U H ∧ cm_T adr A U H
theorem cm_T_moved {adr : Nat → Nat} {A : Nat → Prop} {u U : State} {H : Heap} (hvm : u.vm.Alike U.vm) (h : cm_T adr A u H) : cm_T adr A U H := ⟨va_Z.moved hvm h.1, va_T.moved hvm h.2.1, h.2.2.imp (va_Z.moved hvm) (va_Z.moved hvm)⟩
theorem cm_T_kept {adr : Nat → Nat} {A : Nat → Prop} {U : State} {H H1 : Heap} (h : cm_T adr A U H) (hq : ∀ a : Nat, a < H.size → ¬ A a → H1[a]? = H[a]?) : cm_T adr A U H1 := ⟨va_Z.kept h.1 hq, va_T.kept h.2.1 hq, h.2.2.imp (fun z => va_Z.kept z hq) (fun z => va_Z.kept z hq)⟩
theorem cm_T_narrow {adr : Nat → Nat} {A B : Nat → Prop} {U : State} {H : Heap} (h : cm_T adr A U H) (hAB : ∀ q, B q → A q) : cm_T adr B U H := ⟨va_Z.narrow h.1 hAB, va_T.narrow h.2.1 hAB, h.2.2.imp (fun z => va_Z.narrow z hAB) (fun z => va_Z.narrow z hAB)⟩
theorem cm_N_same {adr : Nat → Nat} {A : Nat → Prop} {u U : State} {H : Heap} (h : u.vm = U.vm) (hN : cm_N adr A u H) : cm_N adr A U H := ⟨ev_N_same h hN.1, cm_T_moved (by rw [h]; exact Vm.Alike.refl _) hN.2⟩
theorem cm_N_call {adr : Nat → Nat} {A B : Nat → Prop} {s U : State} {H : Heap} {locs : List Loc} (hW : s.WarmedH U.vm) (hU : U.heap = H) (hS : va_S A s.heap H locs) (hAB : ∀ q, B q → A q) (hN : cm_N adr A s s.heap) : cm_N adr B U U.heap :=
  ⟨ev_N_call hW hU hS hAB hN.1, by rw [hU]; exact cm_T_moved hW.alike (cm_T_narrow (cm_T_kept hN.2 hS.2.1) hAB)⟩
/-- the law's script -/
abbrev cm_E : Type := Option (Nat × (Nat → Int32))
def cm_scr (adr : Nat → Nat) (A : Nat → Prop) (s : State) : cm_E → Prop
  | none => True
  | some q => va_X (adr 1000) q.1 q.2 s s.heap ∧ adr 1000 < s.heap.size ∧ ¬ A (adr 1000)
/-- the fixed facts of a frame -/
def cm_X (p : Program) (R : Room) (s : State) (m : MethodId) (args : Array Value) (c : Code) (cc : ByteArray) (nL : Nat) (own : String) (D : va_G) (A : Nat → Prop) (adr : Nat → Nat) (ce sl : Nat) (E : cm_E) : Prop :=
  p.tables.exec = Jvm.exec ∧ c.code = cc ∧ c.maxLocals = nL ∧ s.vm.findClass own = some m.cls ∧ (∀ w ∈ lw_good, w.before args s = true) ∧ va_K D vwCl [] s ∧ (∀ q : Nat, s.heap.size ≤ q → A q) ∧ cm_N adr A s s.heap ∧ ce ≤ R.cells ∧ sl ≤ R.slots ∧ 1 ≤ R.frames ∧ 40 ≤ R.locals ∧ cm_scr adr A s E
def cm_l (adr : Nat → Nat) (L : List (Nat × Value)) (nL : Nat) (ls : Array Slot) : Prop := lv_has ls nL (L.map (fun q => (q.1, cm_v adr q.2)))
/-- what holds between a state and the machine -/
def cm_R (s : State) (A : Nat → Prop) (D : va_G) (nL : Nat) (adr : Nat → Nat) (L : List (Nat × Value)) (M : cm_M) (ws : va_W) (H : Heap) (locs : List Loc) (ls : Array Slot) : Prop :=
  va_P D vwCl ws H ∧ va_D A ws ∧ va_S A s.heap H locs ∧ cm_w s adr M ws ∧ cm_l adr L nL ls
/-- the goal from a state -/
def cm_Go (p : Program) (l : Launch) (e : Env) (R : Room) (s : State) (m : MethodId) (args : Array Value) (below : List Frame) (meth : Method) (c : Code) (Q : State → Prop) (nL : Nat) (D : va_G) (A : Nat → Prop) (adr : Nat → Nat) (ce sl : Nat) (S : cm_S) : Prop :=
  ∀ (ws : va_W) (H : Heap) (locs : List Loc) (ls : Array Slot), cm_R s A D nL adr S.2.1 S.2.2.2 ws H locs ls → W p l e R s m args below meth c H locs ce sl Q (F0 m S.1 ls (S.2.2.1.map (cm_v adr)))
/-- an operation: what stands in the code; what must hold for it to go on -/
abbrev cm_O : Type := (ev_P → ev_T → Option (Instr × Nat × List Cond)) × (cm_E → ev_P → ev_T → cm_S → (cm_S → Prop) → Prop)
def cm_Snd (o : cm_O) : Prop := ∀ (p : Program) (l : Launch) (e : Env) (R : Room) (s : State) (m : MethodId) (args : Array Value) (below : List Frame) (meth : Method) (c : Code) (cc : ByteArray) (Q : State → Prop) (D : va_G) (A : Nat → Prop) (adr : Nat → Nat) (ce sl : Nat) (E : cm_E) (P : ev_P) (t : ev_T) (S : cm_S) (i : Instr) (n : Nat) (cs : List Cond),
  cm_X p R s m args c cc P.2.2.2.2.1 P.2.2.2.1 D A adr ce sl E → o.1 P t = some (i, n, cs) → decode cc S.1 = .ok (i, n) → (∀ w ∈ cs, w ∈ lw_good) → o.2 E P t S (cm_Go p l e R s m args below meth c Q P.2.2.2.2.1 D A adr ce sl) → cm_Go p l e R s m args below meth c Q P.2.2.2.2.1 D A adr ce sl S
/-- fewer locals told -/
theorem cm_Go_sub {p : Program} {l : Launch} {e : Env} {R : Room} {s : State} {m : MethodId} {args : Array Value} {below : List Frame} {meth : Method} {c : Code} {Q : State → Prop} {nL : Nat} {D : va_G} {A : Nat → Prop} {adr : Nat → Nat} {ce sl pc : Nat} {L L' : List (Nat × Value)} {st : List Value} {M : cm_M} (h : cm_Go p l e R s m args below meth c Q nL D A adr ce sl (pc, L', st, M)) (hL : ∀ q ∈ L', q ∈ L) : cm_Go p l e R s m args below meth c Q nL D A adr ce sl (pc, L, st, M) := by
  intro ws H locs ls ⟨hP, hD, hS, hW, hl⟩
  refine h ws H locs ls ⟨hP, hD, hS, hW, hl.1, hl.2.1, fun q hq => ?_⟩
  obtain ⟨r, hr, rfl⟩ := List.mem_map.mp hq
  exact hl.2.2 _ (List.mem_map.mpr ⟨r, hL r hr, rfl⟩)
def cm_look : List (Nat × Value) → Nat → Option Value
  | [], _ => none
  | q :: L, i => if q.1 = i then some q.2 else cm_look L i
theorem cm_look_mem : ∀ {L : List (Nat × Value)} {i : Nat} {a : Value}, cm_look L i = some a → (i, a) ∈ L
  | [], i, a, h => by cases h
  | q :: L, i, a, h => by
    unfold cm_look at h
    split at h
    · rename_i hq
      cases h
      rw [← hq]
      exact List.mem_cons_self
    · exact List.mem_cons_of_mem _ (cm_look_mem h)
theorem cm_l_at {adr : Nat → Nat} {L : List (Nat × Value)} {nL : Nat} {ls : Array Slot} (h : cm_l adr L nL ls) {i : Nat} {v : Value} (hv : cm_look L i = some v) : ls[i]? = some (.val (cm_v adr v)) := h.2.2 _ (List.mem_map.mpr ⟨_, cm_look_mem hv, rfl⟩)
/-- a store: the new value in front; a long's second half is taken away -/
def cm_st1 (L : List (Nat × Value)) (i : Nat) (v : Value) : List (Nat × Value) := (i, v) :: L.filter (fun q => !(q.1 == i) && !(q.1 + 1 == i && q.2.category == 2))
def cm_st2 (L : List (Nat × Value)) (i : Nat) (v : Value) : List (Nat × Value) := (i, v) :: L.filter (fun q => !(q.1 == i) && (!(q.1 == i + 1) && !(q.1 + 1 == i && q.2.category == 2)))
theorem cm_fl (adr : Nat → Nat) (f : Nat → Nat → Bool) (L : List (Nat × Value)) : (L.map (fun q => (q.1, cm_v adr q.2))).filter (fun q => f q.1 q.2.category) = (L.filter (fun q => f q.1 q.2.category)).map (fun q => (q.1, cm_v adr q.2)) := by
  rw [List.filter_map]
  congr 1
  apply List.filter_congr
  intro q _
  simp only [Function.comp_apply, cm_v_cat]
theorem cm_st1_eq (adr : Nat → Nat) (L : List (Nat × Value)) (i : Nat) (v : Value) : (i, cm_v adr v) :: (L.map (fun q => (q.1, cm_v adr q.2))).filter (fun q => !(q.1 == i) && !(q.1 + 1 == i && q.2.category == 2)) = (cm_st1 L i v).map (fun q => (q.1, cm_v adr q.2)) := by
  unfold cm_st1
  rw [List.map_cons]
  congr 1
  exact cm_fl adr (fun a b => !(a == i) && !(a + 1 == i && b == 2)) L
theorem cm_st2_eq (adr : Nat → Nat) (L : List (Nat × Value)) (i : Nat) (v : Value) : (i, cm_v adr v) :: (L.map (fun q => (q.1, cm_v adr q.2))).filter (fun q => !(q.1 == i) && (!(q.1 == i + 1) && !(q.1 + 1 == i && q.2.category == 2))) = (cm_st2 L i v).map (fun q => (q.1, cm_v adr q.2)) := by
  unfold cm_st2
  rw [List.map_cons]
  congr 1
  exact cm_fl adr (fun a b => !(a == i) && (!(a == i + 1) && !(a + 1 == i && b == 2))) L
/-! CM: operations -/
def cm_adv (S : cm_S) (n : Nat) (st : List Value) : cm_S := (S.1 + n, S.2.1, st, S.2.2.2)
def cm_iconst : cm_O := (ev_iconst.1, fun E P t S k => k (cm_adv S 1 (.int (Int32.ofInt t.1) :: S.2.2.1)))
theorem cm_iconst_ok : cm_Snd cm_iconst := by
  intro p l e R s m args below meth c cc Q D A adr ce sl E P t S i n cs X h1 hd hw h2 ws H locs ls hR
  obtain ⟨hx, hb, hml, hown, hts, hK, hA, hN, hcC, hcS, hf, hlc, hscr⟩ := X
  obtain ⟨pc, L, st, M⟩ := S
  have h1 : some ((.iconst t.1 : Instr), (1 : Nat), ([] : List Cond)) = some (i, n, cs) := h1
  cases h1
  exact lv_iconst (v := Int32.ofInt t.1) hx hb hd rfl (h2 ws H locs ls hR)

def cm_bipush : cm_O := (ev_bipush.1, fun E P t S k => k (cm_adv S 2 (.int ((Int8.ofInt t.1).toInt32) :: S.2.2.1)))
theorem cm_bipush_ok : cm_Snd cm_bipush := by
  intro p l e R s m args below meth c cc Q D A adr ce sl E P t S i n cs X h1 hd hw h2 ws H locs ls hR
  obtain ⟨hx, hb, hml, hown, hts, hK, hA, hN, hcC, hcS, hf, hlc, hscr⟩ := X
  obtain ⟨pc, L, st, M⟩ := S
  have h1 : some ((.bipush t.1 : Instr), (2 : Nat), ([] : List Cond)) = some (i, n, cs) := h1
  cases h1
  exact lv_bipush (v := (Int8.ofInt t.1).toInt32) hx hb hd rfl (h2 ws H locs ls hR)

def cm_sipush : cm_O := (ev_sipush.1, fun E P t S k => k (cm_adv S 3 (.int ((Int16.ofInt t.1).toInt32) :: S.2.2.1)))
theorem cm_sipush_ok : cm_Snd cm_sipush := by
  intro p l e R s m args below meth c cc Q D A adr ce sl E P t S i n cs X h1 hd hw h2 ws H locs ls hR
  obtain ⟨hx, hb, hml, hown, hts, hK, hA, hN, hcC, hcS, hf, hlc, hscr⟩ := X
  obtain ⟨pc, L, st, M⟩ := S
  have h1 : some ((.sipush t.1 : Instr), (3 : Nat), ([] : List Cond)) = some (i, n, cs) := h1
  cases h1
  exact lv_sipush (v := (Int16.ofInt t.1).toInt32) hx hb hd rfl (h2 ws H locs ls hR)

def cm_lconst : cm_O := (ev_lconst.1, fun E P t S k => k (cm_adv S 1 (.long (Int64.ofNat t.1.toNat) :: S.2.2.1)))
theorem cm_lconst_ok : cm_Snd cm_lconst := by
  intro p l e R s m args below meth c cc Q D A adr ce sl E P t S i n cs X h1 hd hw h2 ws H locs ls hR
  obtain ⟨hx, hb, hml, hown, hts, hK, hA, hN, hcC, hcS, hf, hlc, hscr⟩ := X
  obtain ⟨pc, L, st, M⟩ := S
  have h1 : (if h : t.1.toNat < 2 then some ((.lconst ⟨t.1.toNat, h⟩ : Instr), (1 : Nat), ([] : List Cond)) else none) = some (i, n, cs) := h1
  split at h1
  · cases h1
    exact lv_lconst (v := Int64.ofNat t.1.toNat) hx hb hd rfl (h2 ws H locs ls hR)
  · cases h1

def cm_ld (ty : Nat) (n i : Nat) (S : cm_S) (k : cm_S → Prop) : Prop := match ty, cm_look S.2.1 i with
  | 0, some (.int x) => k (cm_adv S n (.int x :: S.2.2.1))
  | 1, some (.long x) => k (cm_adv S n (.long x :: S.2.2.1))
  | 2, some (.ref x) => k (cm_adv S n (.ref x :: S.2.2.1))
  | _, _ => False
theorem cm_ld_ok {ty n i : Nat} {S : cm_S} {k : cm_S → Prop} (h : cm_ld ty n i S k) : ∃ v, cm_look S.2.1 i = some v ∧ k (cm_adv S n (v :: S.2.2.1)) ∧ (ty = 0 → ∃ x, v = .int x) ∧ (ty = 1 → ∃ x, v = .long x) ∧ (ty = 2 → ∃ x, v = .ref x) := by
  unfold cm_ld at h
  split at h
  · rename_i x hx
    exact ⟨_, hx, h, fun _ => ⟨x, rfl⟩, fun q => (by cases q), fun q => (by cases q)⟩
  · rename_i x hx
    exact ⟨_, hx, h, fun q => (by cases q), fun _ => ⟨x, rfl⟩, fun q => (by cases q)⟩
  · rename_i x hx
    exact ⟨_, hx, h, fun q => (by cases q), fun q => (by cases q), fun _ => ⟨x, rfl⟩⟩
  · exact h.elim
def cm_iload : cm_O := (ev_iload.1, fun E P t S k => cm_ld 0 2 t.1.toNat S k)
theorem cm_iload_ok : cm_Snd cm_iload := by
  intro p l e R s m args below meth c cc Q D A adr ce sl E P t S i n cs X h1 hd hw h2 ws H locs ls hR
  obtain ⟨hx, hb, hml, hown, hts, hK, hA, hN, hcC, hcS, hf, hlc, hscr⟩ := X
  obtain ⟨pc, L, st, M⟩ := S
  have h1 : some ((.iload t.1.toNat : Instr), (2 : Nat), ([] : List Cond)) = some (i, n, cs) := h1
  cases h1
  obtain ⟨v, hv, hk, q0, q1, q2⟩ := cm_ld_ok h2
  obtain ⟨x, rfl⟩ := q0 rfl
  exact lv_iload hx hb hd (cm_l_at hR.2.2.2.2 hv) (hk ws H locs ls hR)

def cm_iloadn : cm_O := (ev_iloadn.1, fun E P t S k => cm_ld 0 1 t.1.toNat S k)
theorem cm_iloadn_ok : cm_Snd cm_iloadn := by
  intro p l e R s m args below meth c cc Q D A adr ce sl E P t S i n cs X h1 hd hw h2 ws H locs ls hR
  obtain ⟨hx, hb, hml, hown, hts, hK, hA, hN, hcC, hcS, hf, hlc, hscr⟩ := X
  obtain ⟨pc, L, st, M⟩ := S
  have h1 : (if h : t.1.toNat < 4 then some ((.iload_n ⟨t.1.toNat, h⟩ : Instr), (1 : Nat), ([] : List Cond)) else none) = some (i, n, cs) := h1
  split at h1
  rotate_left
  · cases h1
  cases h1
  obtain ⟨v, hv, hk, q0, q1, q2⟩ := cm_ld_ok h2
  obtain ⟨x, rfl⟩ := q0 rfl
  exact lv_iload_n hx hb hd rfl (cm_l_at hR.2.2.2.2 hv) (hk ws H locs ls hR)

def cm_lload : cm_O := (ev_lload.1, fun E P t S k => cm_ld 1 2 t.1.toNat S k)
theorem cm_lload_ok : cm_Snd cm_lload := by
  intro p l e R s m args below meth c cc Q D A adr ce sl E P t S i n cs X h1 hd hw h2 ws H locs ls hR
  obtain ⟨hx, hb, hml, hown, hts, hK, hA, hN, hcC, hcS, hf, hlc, hscr⟩ := X
  obtain ⟨pc, L, st, M⟩ := S
  have h1 : some ((.lload t.1.toNat : Instr), (2 : Nat), ([] : List Cond)) = some (i, n, cs) := h1
  cases h1
  obtain ⟨v, hv, hk, q0, q1, q2⟩ := cm_ld_ok h2
  obtain ⟨x, rfl⟩ := q1 rfl
  exact lv_lload hx hb hd (cm_l_at hR.2.2.2.2 hv) (hk ws H locs ls hR)

def cm_lloadn : cm_O := (ev_lloadn.1, fun E P t S k => cm_ld 1 1 t.1.toNat S k)
theorem cm_lloadn_ok : cm_Snd cm_lloadn := by
  intro p l e R s m args below meth c cc Q D A adr ce sl E P t S i n cs X h1 hd hw h2 ws H locs ls hR
  obtain ⟨hx, hb, hml, hown, hts, hK, hA, hN, hcC, hcS, hf, hlc, hscr⟩ := X
  obtain ⟨pc, L, st, M⟩ := S
  have h1 : (if h : t.1.toNat < 4 then some ((.lload_n ⟨t.1.toNat, h⟩ : Instr), (1 : Nat), ([] : List Cond)) else none) = some (i, n, cs) := h1
  split at h1
  rotate_left
  · cases h1
  cases h1
  obtain ⟨v, hv, hk, q0, q1, q2⟩ := cm_ld_ok h2
  obtain ⟨x, rfl⟩ := q1 rfl
  exact lv_lload_n hx hb hd rfl (cm_l_at hR.2.2.2.2 hv) (hk ws H locs ls hR)

def cm_aload : cm_O := (ev_aload.1, fun E P t S k => cm_ld 2 2 t.1.toNat S k)
theorem cm_aload_ok : cm_Snd cm_aload := by
  intro p l e R s m args below meth c cc Q D A adr ce sl E P t S i n cs X h1 hd hw h2 ws H locs ls hR
  obtain ⟨hx, hb, hml, hown, hts, hK, hA, hN, hcC, hcS, hf, hlc, hscr⟩ := X
  obtain ⟨pc, L, st, M⟩ := S
  have h1 : some ((.aload t.1.toNat : Instr), (2 : Nat), ([] : List Cond)) = some (i, n, cs) := h1
  cases h1
  obtain ⟨v, hv, hk, q0, q1, q2⟩ := cm_ld_ok h2
  obtain ⟨x, rfl⟩ := q2 rfl
  exact lv_aload hx hb hd (cm_l_at hR.2.2.2.2 hv) (hk ws H locs ls hR)

def cm_aloadn : cm_O := (ev_aloadn.1, fun E P t S k => cm_ld 2 1 t.1.toNat S k)
theorem cm_aloadn_ok : cm_Snd cm_aloadn := by
  intro p l e R s m args below meth c cc Q D A adr ce sl E P t S i n cs X h1 hd hw h2 ws H locs ls hR
  obtain ⟨hx, hb, hml, hown, hts, hK, hA, hN, hcC, hcS, hf, hlc, hscr⟩ := X
  obtain ⟨pc, L, st, M⟩ := S
  have h1 : (if h : t.1.toNat < 4 then some ((.aload_n ⟨t.1.toNat, h⟩ : Instr), (1 : Nat), ([] : List Cond)) else none) = some (i, n, cs) := h1
  split at h1
  rotate_left
  · cases h1
  cases h1
  obtain ⟨v, hv, hk, q0, q1, q2⟩ := cm_ld_ok h2
  obtain ⟨x, rfl⟩ := q2 rfl
  exact lv_aload_n hx hb hd rfl (cm_l_at hR.2.2.2.2 hv) (hk ws H locs ls hR)

def cm_sto (ty : Nat) (n i nL : Nat) (S : cm_S) (k : cm_S → Prop) : Prop := match ty, S.2.2.1 with
  | 0, .int x :: st => i < nL ∧ k (S.1 + n, cm_st1 S.2.1 i (.int x), st, S.2.2.2)
  | 1, .long x :: st => i + 1 < nL ∧ k (S.1 + n, cm_st2 S.2.1 i (.long x), st, S.2.2.2)
  | 2, .ref x :: st => i < nL ∧ k (S.1 + n, cm_st1 S.2.1 i (.ref x), st, S.2.2.2)
  | _, _ => False
def cm_istore : cm_O := (ev_istore.1, fun E P t S k => cm_sto 0 2 t.1.toNat P.2.2.2.2.1 S k)
theorem cm_istore_ok : cm_Snd cm_istore := by
  intro p l e R s m args below meth c cc Q D A adr ce sl E P t S i n cs X h1 hd hw h2 ws H locs ls hR
  obtain ⟨hx, hb, hml, hown, hts, hK, hA, hN, hcC, hcS, hf, hlc, hscr⟩ := X
  obtain ⟨pc, L, st, M⟩ := S
  have h1 : some ((.istore t.1.toNat : Instr), (2 : Nat), ([] : List Cond)) = some (i, n, cs) := h1
  cases h1
  obtain ⟨hP, hD, hS, hW, hL⟩ := hR
  cases st with
  | nil => exact h2.elim
  | cons v st' =>
    cases v with
    | int x =>
      exact lv_istore hx hb hd hL h2.1 (cm_st1_eq adr L t.1.toNat (.int x)) (fun ls' hl' => h2.2 ws H locs ls' ⟨hP, hD, hS, hW, hl'⟩)
    | _ => exact h2.elim

def cm_istoren : cm_O := (ev_istoren.1, fun E P t S k => cm_sto 0 1 t.1.toNat P.2.2.2.2.1 S k)
theorem cm_istoren_ok : cm_Snd cm_istoren := by
  intro p l e R s m args below meth c cc Q D A adr ce sl E P t S i n cs X h1 hd hw h2 ws H locs ls hR
  obtain ⟨hx, hb, hml, hown, hts, hK, hA, hN, hcC, hcS, hf, hlc, hscr⟩ := X
  obtain ⟨pc, L, st, M⟩ := S
  have h1 : (if h : t.1.toNat < 4 then some ((.istore_n ⟨t.1.toNat, h⟩ : Instr), (1 : Nat), ([] : List Cond)) else none) = some (i, n, cs) := h1
  split at h1
  rotate_left
  · cases h1
  cases h1
  obtain ⟨hP, hD, hS, hW, hL⟩ := hR
  cases st with
  | nil => exact h2.elim
  | cons v st' =>
    cases v with
    | int x =>
      exact lv_istore_n hx hb hd rfl hL h2.1 (cm_st1_eq adr L t.1.toNat (.int x)) (fun ls' hl' => h2.2 ws H locs ls' ⟨hP, hD, hS, hW, hl'⟩)
    | _ => exact h2.elim

def cm_lstore : cm_O := (ev_lstore.1, fun E P t S k => cm_sto 1 2 t.1.toNat P.2.2.2.2.1 S k)
theorem cm_lstore_ok : cm_Snd cm_lstore := by
  intro p l e R s m args below meth c cc Q D A adr ce sl E P t S i n cs X h1 hd hw h2 ws H locs ls hR
  obtain ⟨hx, hb, hml, hown, hts, hK, hA, hN, hcC, hcS, hf, hlc, hscr⟩ := X
  obtain ⟨pc, L, st, M⟩ := S
  have h1 : some ((.lstore t.1.toNat : Instr), (2 : Nat), ([] : List Cond)) = some (i, n, cs) := h1
  cases h1
  obtain ⟨hP, hD, hS, hW, hL⟩ := hR
  cases st with
  | nil => exact h2.elim
  | cons v st' =>
    cases v with
    | long x =>
      exact lv_lstore hx hb hd hL h2.1 (cm_st2_eq adr L t.1.toNat (.long x)) (fun ls' hl' => h2.2 ws H locs ls' ⟨hP, hD, hS, hW, hl'⟩)
    | _ => exact h2.elim

def cm_lstoren : cm_O := (ev_lstoren.1, fun E P t S k => cm_sto 1 1 t.1.toNat P.2.2.2.2.1 S k)
theorem cm_lstoren_ok : cm_Snd cm_lstoren := by
  intro p l e R s m args below meth c cc Q D A adr ce sl E P t S i n cs X h1 hd hw h2 ws H locs ls hR
  obtain ⟨hx, hb, hml, hown, hts, hK, hA, hN, hcC, hcS, hf, hlc, hscr⟩ := X
  obtain ⟨pc, L, st, M⟩ := S
  have h1 : (if h : t.1.toNat < 4 then some ((.lstore_n ⟨t.1.toNat, h⟩ : Instr), (1 : Nat), ([] : List Cond)) else none) = some (i, n, cs) := h1
  split at h1
  rotate_left
  · cases h1
  cases h1
  obtain ⟨hP, hD, hS, hW, hL⟩ := hR
  cases st with
  | nil => exact h2.elim
  | cons v st' =>
    cases v with
    | long x =>
      exact lv_lstore_n hx hb hd rfl hL h2.1 (cm_st2_eq adr L t.1.toNat (.long x)) (fun ls' hl' => h2.2 ws H locs ls' ⟨hP, hD, hS, hW, hl'⟩)
    | _ => exact h2.elim

def cm_astore : cm_O := (ev_astore.1, fun E P t S k => cm_sto 2 2 t.1.toNat P.2.2.2.2.1 S k)
theorem cm_astore_ok : cm_Snd cm_astore := by
  intro p l e R s m args below meth c cc Q D A adr ce sl E P t S i n cs X h1 hd hw h2 ws H locs ls hR
  obtain ⟨hx, hb, hml, hown, hts, hK, hA, hN, hcC, hcS, hf, hlc, hscr⟩ := X
  obtain ⟨pc, L, st, M⟩ := S
  have h1 : some ((.astore t.1.toNat : Instr), (2 : Nat), ([] : List Cond)) = some (i, n, cs) := h1
  cases h1
  obtain ⟨hP, hD, hS, hW, hL⟩ := hR
  cases st with
  | nil => exact h2.elim
  | cons v st' =>
    cases v with
    | ref x =>
      exact lv_astore hx hb hd hL h2.1 (cm_st1_eq adr L t.1.toNat (.ref x)) (fun ls' hl' => h2.2 ws H locs ls' ⟨hP, hD, hS, hW, hl'⟩)
    | _ => exact h2.elim

def cm_astoren : cm_O := (ev_astoren.1, fun E P t S k => cm_sto 2 1 t.1.toNat P.2.2.2.2.1 S k)
theorem cm_astoren_ok : cm_Snd cm_astoren := by
  intro p l e R s m args below meth c cc Q D A adr ce sl E P t S i n cs X h1 hd hw h2 ws H locs ls hR
  obtain ⟨hx, hb, hml, hown, hts, hK, hA, hN, hcC, hcS, hf, hlc, hscr⟩ := X
  obtain ⟨pc, L, st, M⟩ := S
  have h1 : (if h : t.1.toNat < 4 then some ((.astore_n ⟨t.1.toNat, h⟩ : Instr), (1 : Nat), ([] : List Cond)) else none) = some (i, n, cs) := h1
  split at h1
  rotate_left
  · cases h1
  cases h1
  obtain ⟨hP, hD, hS, hW, hL⟩ := hR
  cases st with
  | nil => exact h2.elim
  | cons v st' =>
    cases v with
    | ref x =>
      exact lv_astore_n hx hb hd rfl hL h2.1 (cm_st1_eq adr L t.1.toNat (.ref x)) (fun ls' hl' => h2.2 ws H locs ls' ⟨hP, hD, hS, hW, hl'⟩)
    | _ => exact h2.elim

def cm_iadd : cm_O := (ev_iadd.1, fun E P t S k => match S.2.2.1 with
  | .int y :: .int x :: st => k (cm_adv S 1 (.int (x + y) :: st))
  | _ => False)
theorem cm_iadd_ok : cm_Snd cm_iadd := by
  intro p l e R s m args below meth c cc Q D A adr ce sl E P t S i n cs X h1 hd hw h2 ws H locs ls hR
  obtain ⟨hx, hb, hml, hown, hts, hK, hA, hN, hcC, hcS, hf, hlc, hscr⟩ := X
  obtain ⟨pc, L, st, M⟩ := S
  have h1 : some ((.iadd : Instr), (1 : Nat), ([] : List Cond)) = some (i, n, cs) := h1
  cases h1
  unfold cm_iadd at h2
  dsimp only at h2
  split at h2
  · exact lv_iadd hx hb hd (h2 ws H locs ls hR)
  · exact h2.elim

def cm_isub : cm_O := (ev_isub.1, fun E P t S k => match S.2.2.1 with
  | .int y :: .int x :: st => k (cm_adv S 1 (.int (x - y) :: st))
  | _ => False)
theorem cm_isub_ok : cm_Snd cm_isub := by
  intro p l e R s m args below meth c cc Q D A adr ce sl E P t S i n cs X h1 hd hw h2 ws H locs ls hR
  obtain ⟨hx, hb, hml, hown, hts, hK, hA, hN, hcC, hcS, hf, hlc, hscr⟩ := X
  obtain ⟨pc, L, st, M⟩ := S
  have h1 : some ((.isub : Instr), (1 : Nat), ([] : List Cond)) = some (i, n, cs) := h1
  cases h1
  unfold cm_isub at h2
  dsimp only at h2
  split at h2
  · exact lv_isub hx hb hd (h2 ws H locs ls hR)
  · exact h2.elim

def cm_imul : cm_O := (ev_imul.1, fun E P t S k => match S.2.2.1 with
  | .int y :: .int x :: st => k (cm_adv S 1 (.int (x * y) :: st))
  | _ => False)
theorem cm_imul_ok : cm_Snd cm_imul := by
  intro p l e R s m args below meth c cc Q D A adr ce sl E P t S i n cs X h1 hd hw h2 ws H locs ls hR
  obtain ⟨hx, hb, hml, hown, hts, hK, hA, hN, hcC, hcS, hf, hlc, hscr⟩ := X
  obtain ⟨pc, L, st, M⟩ := S
  have h1 : some ((.imul : Instr), (1 : Nat), ([] : List Cond)) = some (i, n, cs) := h1
  cases h1
  unfold cm_imul at h2
  dsimp only at h2
  split at h2
  · exact lv_imul hx hb hd (h2 ws H locs ls hR)
  · exact h2.elim

def cm_iand : cm_O := (ev_iand.1, fun E P t S k => match S.2.2.1 with
  | .int y :: .int x :: st => k (cm_adv S 1 (.int (x &&& y) :: st))
  | _ => False)
theorem cm_iand_ok : cm_Snd cm_iand := by
  intro p l e R s m args below meth c cc Q D A adr ce sl E P t S i n cs X h1 hd hw h2 ws H locs ls hR
  obtain ⟨hx, hb, hml, hown, hts, hK, hA, hN, hcC, hcS, hf, hlc, hscr⟩ := X
  obtain ⟨pc, L, st, M⟩ := S
  have h1 : some ((.iand : Instr), (1 : Nat), ([] : List Cond)) = some (i, n, cs) := h1
  cases h1
  unfold cm_iand at h2
  dsimp only at h2
  split at h2
  · exact lv_iand hx hb hd (h2 ws H locs ls hR)
  · exact h2.elim

def cm_ior : cm_O := (ev_ior.1, fun E P t S k => match S.2.2.1 with
  | .int y :: .int x :: st => k (cm_adv S 1 (.int (x ||| y) :: st))
  | _ => False)
theorem cm_ior_ok : cm_Snd cm_ior := by
  intro p l e R s m args below meth c cc Q D A adr ce sl E P t S i n cs X h1 hd hw h2 ws H locs ls hR
  obtain ⟨hx, hb, hml, hown, hts, hK, hA, hN, hcC, hcS, hf, hlc, hscr⟩ := X
  obtain ⟨pc, L, st, M⟩ := S
  have h1 : some ((.ior : Instr), (1 : Nat), ([] : List Cond)) = some (i, n, cs) := h1
  cases h1
  unfold cm_ior at h2
  dsimp only at h2
  split at h2
  · exact lv_ior hx hb hd (h2 ws H locs ls hR)
  · exact h2.elim

def cm_ixor : cm_O := (ev_ixor.1, fun E P t S k => match S.2.2.1 with
  | .int y :: .int x :: st => k (cm_adv S 1 (.int (x ^^^ y) :: st))
  | _ => False)
theorem cm_ixor_ok : cm_Snd cm_ixor := by
  intro p l e R s m args below meth c cc Q D A adr ce sl E P t S i n cs X h1 hd hw h2 ws H locs ls hR
  obtain ⟨hx, hb, hml, hown, hts, hK, hA, hN, hcC, hcS, hf, hlc, hscr⟩ := X
  obtain ⟨pc, L, st, M⟩ := S
  have h1 : some ((.ixor : Instr), (1 : Nat), ([] : List Cond)) = some (i, n, cs) := h1
  cases h1
  unfold cm_ixor at h2
  dsimp only at h2
  split at h2
  · exact lv_ixor hx hb hd (h2 ws H locs ls hR)
  · exact h2.elim

def cm_ishl : cm_O := (ev_ishl.1, fun E P t S k => match S.2.2.1 with
  | .int y :: .int x :: st => k (cm_adv S 1 (.int (x <<< (y &&& 31)) :: st))
  | _ => False)
theorem cm_ishl_ok : cm_Snd cm_ishl := by
  intro p l e R s m args below meth c cc Q D A adr ce sl E P t S i n cs X h1 hd hw h2 ws H locs ls hR
  obtain ⟨hx, hb, hml, hown, hts, hK, hA, hN, hcC, hcS, hf, hlc, hscr⟩ := X
  obtain ⟨pc, L, st, M⟩ := S
  have h1 : some ((.ishl : Instr), (1 : Nat), ([] : List Cond)) = some (i, n, cs) := h1
  cases h1
  unfold cm_ishl at h2
  dsimp only at h2
  split at h2
  · exact lv_ishl hx hb hd (h2 ws H locs ls hR)
  · exact h2.elim

def cm_ishr : cm_O := (ev_ishr.1, fun E P t S k => match S.2.2.1 with
  | .int y :: .int x :: st => k (cm_adv S 1 (.int (x >>> (y &&& 31)) :: st))
  | _ => False)
theorem cm_ishr_ok : cm_Snd cm_ishr := by
  intro p l e R s m args below meth c cc Q D A adr ce sl E P t S i n cs X h1 hd hw h2 ws H locs ls hR
  obtain ⟨hx, hb, hml, hown, hts, hK, hA, hN, hcC, hcS, hf, hlc, hscr⟩ := X
  obtain ⟨pc, L, st, M⟩ := S
  have h1 : some ((.ishr : Instr), (1 : Nat), ([] : List Cond)) = some (i, n, cs) := h1
  cases h1
  unfold cm_ishr at h2
  dsimp only at h2
  split at h2
  · exact lv_ishr hx hb hd (h2 ws H locs ls hR)
  · exact h2.elim

def cm_iushr : cm_O := (ev_iushr.1, fun E P t S k => match S.2.2.1 with
  | .int y :: .int x :: st => k (cm_adv S 1 (.int ((x.toUInt32 >>> (y.toUInt32 &&& Int32.toUInt32 31)).toInt32) :: st))
  | _ => False)
theorem cm_iushr_ok : cm_Snd cm_iushr := by
  intro p l e R s m args below meth c cc Q D A adr ce sl E P t S i n cs X h1 hd hw h2 ws H locs ls hR
  obtain ⟨hx, hb, hml, hown, hts, hK, hA, hN, hcC, hcS, hf, hlc, hscr⟩ := X
  obtain ⟨pc, L, st, M⟩ := S
  have h1 : some ((.iushr : Instr), (1 : Nat), ([] : List Cond)) = some (i, n, cs) := h1
  cases h1
  unfold cm_iushr at h2
  dsimp only at h2
  split at h2
  · exact lv_iushr hx hb hd rfl (h2 ws H locs ls hR)
  · exact h2.elim

def cm_idiv : cm_O := (ev_idiv.1, fun E P t S k => match S.2.2.1 with
  | .int y :: .int x :: st => ¬ y = 0 ∧ k (cm_adv S 1 (.int (x / y) :: st))
  | _ => False)
theorem cm_idiv_ok : cm_Snd cm_idiv := by
  intro p l e R s m args below meth c cc Q D A adr ce sl E P t S i n cs X h1 hd hw h2 ws H locs ls hR
  obtain ⟨hx, hb, hml, hown, hts, hK, hA, hN, hcC, hcS, hf, hlc, hscr⟩ := X
  obtain ⟨pc, L, st, M⟩ := S
  have h1 : some ((.idiv : Instr), (1 : Nat), ([] : List Cond)) = some (i, n, cs) := h1
  cases h1
  unfold cm_idiv at h2
  dsimp only at h2
  split at h2
  · exact lv_idiv hx hb hd h2.1 (h2.2 ws H locs ls hR)
  · exact h2.elim

def cm_irem : cm_O := (ev_irem.1, fun E P t S k => match S.2.2.1 with
  | .int y :: .int x :: st => ¬ y = 0 ∧ k (cm_adv S 1 (.int (x - x / y * y) :: st))
  | _ => False)
theorem cm_irem_ok : cm_Snd cm_irem := by
  intro p l e R s m args below meth c cc Q D A adr ce sl E P t S i n cs X h1 hd hw h2 ws H locs ls hR
  obtain ⟨hx, hb, hml, hown, hts, hK, hA, hN, hcC, hcS, hf, hlc, hscr⟩ := X
  obtain ⟨pc, L, st, M⟩ := S
  have h1 : some ((.irem : Instr), (1 : Nat), ([] : List Cond)) = some (i, n, cs) := h1
  cases h1
  unfold cm_irem at h2
  dsimp only at h2
  split at h2
  · exact lv_irem hx hb hd h2.1 (h2.2 ws H locs ls hR)
  · exact h2.elim

def cm_ineg : cm_O := (ev_ineg.1, fun E P t S k => match S.2.2.1 with
  | .int x :: st => k (cm_adv S 1 (.int (-x) :: st))
  | _ => False)
theorem cm_ineg_ok : cm_Snd cm_ineg := by
  intro p l e R s m args below meth c cc Q D A adr ce sl E P t S i n cs X h1 hd hw h2 ws H locs ls hR
  obtain ⟨hx, hb, hml, hown, hts, hK, hA, hN, hcC, hcS, hf, hlc, hscr⟩ := X
  obtain ⟨pc, L, st, M⟩ := S
  have h1 : some ((.ineg : Instr), (1 : Nat), ([] : List Cond)) = some (i, n, cs) := h1
  cases h1
  unfold cm_ineg at h2
  dsimp only at h2
  split at h2
  · exact lv_ineg hx hb hd (h2 ws H locs ls hR)
  · exact h2.elim

def cm_i2b : cm_O := (ev_i2b.1, fun E P t S k => match S.2.2.1 with
  | .int x :: st => k (cm_adv S 1 (.int (x.toInt8.toInt32) :: st))
  | _ => False)
theorem cm_i2b_ok : cm_Snd cm_i2b := by
  intro p l e R s m args below meth c cc Q D A adr ce sl E P t S i n cs X h1 hd hw h2 ws H locs ls hR
  obtain ⟨hx, hb, hml, hown, hts, hK, hA, hN, hcC, hcS, hf, hlc, hscr⟩ := X
  obtain ⟨pc, L, st, M⟩ := S
  have h1 : some ((.i2b : Instr), (1 : Nat), ([] : List Cond)) = some (i, n, cs) := h1
  cases h1
  unfold cm_i2b at h2
  dsimp only at h2
  split at h2
  · exact lv_i2b hx hb hd rfl (h2 ws H locs ls hR)
  · exact h2.elim

def cm_i2c : cm_O := (ev_i2c.1, fun E P t S k => match S.2.2.1 with
  | .int x :: st => k (cm_adv S 1 (.int ((x.toUInt32 % 65536).toInt32) :: st))
  | _ => False)
theorem cm_i2c_ok : cm_Snd cm_i2c := by
  intro p l e R s m args below meth c cc Q D A adr ce sl E P t S i n cs X h1 hd hw h2 ws H locs ls hR
  obtain ⟨hx, hb, hml, hown, hts, hK, hA, hN, hcC, hcS, hf, hlc, hscr⟩ := X
  obtain ⟨pc, L, st, M⟩ := S
  have h1 : some ((.i2c : Instr), (1 : Nat), ([] : List Cond)) = some (i, n, cs) := h1
  cases h1
  unfold cm_i2c at h2
  dsimp only at h2
  split at h2
  · exact lv_i2c hx hb hd rfl (h2 ws H locs ls hR)
  · exact h2.elim

def cm_i2l : cm_O := (ev_i2l.1, fun E P t S k => match S.2.2.1 with
  | .int x :: st => k (cm_adv S 1 (.long x.toInt64 :: st))
  | _ => False)
theorem cm_i2l_ok : cm_Snd cm_i2l := by
  intro p l e R s m args below meth c cc Q D A adr ce sl E P t S i n cs X h1 hd hw h2 ws H locs ls hR
  obtain ⟨hx, hb, hml, hown, hts, hK, hA, hN, hcC, hcS, hf, hlc, hscr⟩ := X
  obtain ⟨pc, L, st, M⟩ := S
  have h1 : some ((.i2l : Instr), (1 : Nat), ([] : List Cond)) = some (i, n, cs) := h1
  cases h1
  unfold cm_i2l at h2
  dsimp only at h2
  split at h2
  · exact lv_i2l hx hb hd rfl (h2 ws H locs ls hR)
  · exact h2.elim

def cm_lcmp : cm_O := (ev_lcmp.1, fun E P t S k => match S.2.2.1 with
  | .long y :: .long x :: st => k (cm_adv S 1 (.int (lg_cmp x y) :: st))
  | _ => False)
theorem cm_lcmp_ok : cm_Snd cm_lcmp := by
  intro p l e R s m args below meth c cc Q D A adr ce sl E P t S i n cs X h1 hd hw h2 ws H locs ls hR
  obtain ⟨hx, hb, hml, hown, hts, hK, hA, hN, hcC, hcS, hf, hlc, hscr⟩ := X
  obtain ⟨pc, L, st, M⟩ := S
  have h1 : some ((.lcmp : Instr), (1 : Nat), ([] : List Cond)) = some (i, n, cs) := h1
  cases h1
  unfold cm_lcmp at h2
  dsimp only at h2
  split at h2
  · exact W.lcmp hx hb hd (h2 ws H locs ls hR)
  · exact h2.elim

def cm_ladd : cm_O := (ev_ladd.1, fun E P t S k => match S.2.2.1 with
  | .long y :: .long x :: st => k (cm_adv S 1 (.long (x + y) :: st))
  | _ => False)
theorem cm_ladd_ok : cm_Snd cm_ladd := by
  intro p l e R s m args below meth c cc Q D A adr ce sl E P t S i n cs X h1 hd hw h2 ws H locs ls hR
  obtain ⟨hx, hb, hml, hown, hts, hK, hA, hN, hcC, hcS, hf, hlc, hscr⟩ := X
  obtain ⟨pc, L, st, M⟩ := S
  have h1 : some ((.ladd : Instr), (1 : Nat), ([] : List Cond)) = some (i, n, cs) := h1
  cases h1
  unfold cm_ladd at h2
  dsimp only at h2
  split at h2
  · exact lv_ladd hx hb hd (h2 ws H locs ls hR)
  · exact h2.elim

def cm_lsub : cm_O := (ev_lsub.1, fun E P t S k => match S.2.2.1 with
  | .long y :: .long x :: st => k (cm_adv S 1 (.long (x - y) :: st))
  | _ => False)
theorem cm_lsub_ok : cm_Snd cm_lsub := by
  intro p l e R s m args below meth c cc Q D A adr ce sl E P t S i n cs X h1 hd hw h2 ws H locs ls hR
  obtain ⟨hx, hb, hml, hown, hts, hK, hA, hN, hcC, hcS, hf, hlc, hscr⟩ := X
  obtain ⟨pc, L, st, M⟩ := S
  have h1 : some ((.lsub : Instr), (1 : Nat), ([] : List Cond)) = some (i, n, cs) := h1
  cases h1
  unfold cm_lsub at h2
  dsimp only at h2
  split at h2
  · exact lv_lsub hx hb hd (h2 ws H locs ls hR)
  · exact h2.elim

def cm_lmul : cm_O := (ev_lmul.1, fun E P t S k => match S.2.2.1 with
  | .long y :: .long x :: st => k (cm_adv S 1 (.long (x * y) :: st))
  | _ => False)
theorem cm_lmul_ok : cm_Snd cm_lmul := by
  intro p l e R s m args below meth c cc Q D A adr ce sl E P t S i n cs X h1 hd hw h2 ws H locs ls hR
  obtain ⟨hx, hb, hml, hown, hts, hK, hA, hN, hcC, hcS, hf, hlc, hscr⟩ := X
  obtain ⟨pc, L, st, M⟩ := S
  have h1 : some ((.lmul : Instr), (1 : Nat), ([] : List Cond)) = some (i, n, cs) := h1
  cases h1
  unfold cm_lmul at h2
  dsimp only at h2
  split at h2
  · exact lv_lmul hx hb hd (h2 ws H locs ls hR)
  · exact h2.elim

def cm_ldiv : cm_O := (ev_ldiv.1, fun E P t S k => match S.2.2.1 with
  | .long y :: .long x :: st => ¬ y = 0 ∧ k (cm_adv S 1 (.long (x / y) :: st))
  | _ => False)
theorem cm_ldiv_ok : cm_Snd cm_ldiv := by
  intro p l e R s m args below meth c cc Q D A adr ce sl E P t S i n cs X h1 hd hw h2 ws H locs ls hR
  obtain ⟨hx, hb, hml, hown, hts, hK, hA, hN, hcC, hcS, hf, hlc, hscr⟩ := X
  obtain ⟨pc, L, st, M⟩ := S
  have h1 : some ((.ldiv : Instr), (1 : Nat), ([] : List Cond)) = some (i, n, cs) := h1
  cases h1
  unfold cm_ldiv at h2
  dsimp only at h2
  split at h2
  · exact lv_ldiv hx hb hd h2.1 (h2.2 ws H locs ls hR)
  · exact h2.elim

def cm_lrem : cm_O := (ev_lrem.1, fun E P t S k => match S.2.2.1 with
  | .long y :: .long x :: st => ¬ y = 0 ∧ k (cm_adv S 1 (.long (x - x / y * y) :: st))
  | _ => False)
theorem cm_lrem_ok : cm_Snd cm_lrem := by
  intro p l e R s m args below meth c cc Q D A adr ce sl E P t S i n cs X h1 hd hw h2 ws H locs ls hR
  obtain ⟨hx, hb, hml, hown, hts, hK, hA, hN, hcC, hcS, hf, hlc, hscr⟩ := X
  obtain ⟨pc, L, st, M⟩ := S
  have h1 : some ((.lrem : Instr), (1 : Nat), ([] : List Cond)) = some (i, n, cs) := h1
  cases h1
  unfold cm_lrem at h2
  dsimp only at h2
  split at h2
  · exact lv_lrem hx hb hd h2.1 (h2.2 ws H locs ls hR)
  · exact h2.elim

def cm_dup : cm_O := (ev_dup.1, fun E P t S k => match S.2.2.1 with
  | x :: st => x.category = 1 ∧ k (cm_adv S 1 (x :: x :: st))
  | _ => False)
theorem cm_dup_ok : cm_Snd cm_dup := by
  intro p l e R s m args below meth c cc Q D A adr ce sl E P t S i n cs X h1 hd hw h2 ws H locs ls hR
  obtain ⟨hx, hb, hml, hown, hts, hK, hA, hN, hcC, hcS, hf, hlc, hscr⟩ := X
  obtain ⟨pc, L, st, M⟩ := S
  have h1 : some ((.dup : Instr), (1 : Nat), ([] : List Cond)) = some (i, n, cs) := h1
  cases h1
  unfold cm_dup at h2
  dsimp only at h2
  split at h2
  · exact lv_dup hx hb hd (by rw [cm_v_cat]; exact h2.1) (h2.2 ws H locs ls hR)
  · exact h2.elim

def cm_pop : cm_O := (ev_pop.1, fun E P t S k => match S.2.2.1 with
  | x :: st => x.category = 1 ∧ k (cm_adv S 1 st)
  | _ => False)
theorem cm_pop_ok : cm_Snd cm_pop := by
  intro p l e R s m args below meth c cc Q D A adr ce sl E P t S i n cs X h1 hd hw h2 ws H locs ls hR
  obtain ⟨hx, hb, hml, hown, hts, hK, hA, hN, hcC, hcS, hf, hlc, hscr⟩ := X
  obtain ⟨pc, L, st, M⟩ := S
  have h1 : some ((.pop : Instr), (1 : Nat), ([] : List Cond)) = some (i, n, cs) := h1
  cases h1
  unfold cm_pop at h2
  dsimp only at h2
  split at h2
  · exact lv_pop hx hb hd (by rw [cm_v_cat]; exact h2.1) (h2.2 ws H locs ls hR)
  · exact h2.elim

def cm_pop2 : cm_O := ((fun _ _ => some (.pop2, 1, [])), fun E P t S k => match S.2.2.1 with
  | .long x :: st => k (cm_adv S 1 st)
  | _ => False)
theorem cm_pop2_ok : cm_Snd cm_pop2 := by
  intro p l e R s m args below meth c cc Q D A adr ce sl E P t S i n cs X h1 hd hw h2 ws H locs ls hR
  obtain ⟨hx, hb, hml, hown, hts, hK, hA, hN, hcC, hcS, hf, hlc, hscr⟩ := X
  obtain ⟨pc, L, st, M⟩ := S
  have h1 : some ((.pop2 : Instr), (1 : Nat), ([] : List Cond)) = some (i, n, cs) := h1
  cases h1
  unfold cm_pop2 at h2
  dsimp only at h2
  split at h2
  · exact lv_pop2_2 (va := .long _) hx hb hd rfl (h2 ws H locs ls hR)
  · exact h2.elim

def cm_dup2 : cm_O := (ev_dup2.1, fun E P t S k => match S.2.2.1 with
  | x :: y :: st => x.category = 1 ∧ y.category = 1 ∧ k (cm_adv S 1 (x :: y :: x :: y :: st))
  | _ => False)
theorem cm_dup2_ok : cm_Snd cm_dup2 := by
  intro p l e R s m args below meth c cc Q D A adr ce sl E P t S i n cs X h1 hd hw h2 ws H locs ls hR
  obtain ⟨hx, hb, hml, hown, hts, hK, hA, hN, hcC, hcS, hf, hlc, hscr⟩ := X
  obtain ⟨pc, L, st, M⟩ := S
  have h1 : some ((.dup2 : Instr), (1 : Nat), ([] : List Cond)) = some (i, n, cs) := h1
  cases h1
  unfold cm_dup2 at h2
  dsimp only at h2
  split at h2
  · exact lv_dup2_11 hx hb hd (by rw [cm_v_cat]; exact h2.1) (by rw [cm_v_cat]; exact h2.2.1) (h2.2.2 ws H locs ls hR)
  · exact h2.elim

def cm_iinc : cm_O := (ev_iinc.1, fun E P t S k => match cm_look S.2.1 t.1.toNat with
  | some (.int x) => t.1.toNat < P.2.2.2.2.1 ∧ k (S.1 + 3, cm_st1 S.2.1 t.1.toNat (.int (x + Int32.ofInt t.2.1)), S.2.2)
  | _ => False)
theorem cm_iinc_ok : cm_Snd cm_iinc := by
  intro p l e R s m args below meth c cc Q D A adr ce sl E P t S i n cs X h1 hd hw h2 ws H locs ls hR
  obtain ⟨hx, hb, hml, hown, hts, hK, hA, hN, hcC, hcS, hf, hlc, hscr⟩ := X
  obtain ⟨pc, L, st, M⟩ := S
  have h1 : some ((.iinc t.1.toNat t.2.1 : Instr), (3 : Nat), ([] : List Cond)) = some (i, n, cs) := h1
  cases h1
  unfold cm_iinc at h2
  dsimp only at h2
  split at h2
  · rename_i x ha
    obtain ⟨hP, hD, hS, hW, hL⟩ := hR
    obtain ⟨q, hq⟩ := List.getElem?_of_mem (List.mem_map.mpr ⟨_, cm_look_mem ha, rfl⟩ : (t.1.toNat, cm_v adr (.int x)) ∈ L.map (fun q => (q.1, cm_v adr q.2)))
    exact lv_iinc hx hb hd hL hq rfl h2.1 (cm_st1_eq adr L t.1.toNat (.int (x + Int32.ofInt t.2.1))) (fun ls' hl' => h2.2 ws H locs ls' ⟨hP, hD, hS, hW, hl'⟩)
  · exact h2.elim

def cm_icmp_eq : cm_O := (ev_icmp_eq.1, fun E P t S k => match S.2.2.1 with
  | .int y :: .int x :: st => 0 ≤ (S.1 : Int) + t.1 ∧ (ev_cmp 0 x y = true → k (((S.1 : Int) + t.1).toNat, S.2.1, st, S.2.2.2)) ∧ (ev_cmp 0 x y = false → k (S.1 + 3, S.2.1, st, S.2.2.2))
  | _ => False)
theorem cm_icmp_eq_ok : cm_Snd cm_icmp_eq := by
  intro p l e R s m args below meth c cc Q D A adr ce sl E P t S i n cs X h1 hd hw h2 ws H locs ls hR
  obtain ⟨hx, hb, hml, hown, hts, hK, hA, hN, hcC, hcS, hf, hlc, hscr⟩ := X
  obtain ⟨pc, L, st, M⟩ := S
  have h1 : some ((.if_icmp .eq t.1 : Instr), (3 : Nat), ([] : List Cond)) = some (i, n, cs) := h1
  cases h1
  unfold cm_icmp_eq at h2
  dsimp only at h2
  split at h2
  · obtain ⟨h0, k1, k2⟩ := h2
    exact lv_icmp_eq (tgt := ((pc : Int) + t.1).toNat) hx hb hd (by omega) (fun q => k1 (by simpa [ev_cmp] using q) ws H locs ls hR) (fun q => k2 (by simpa [ev_cmp] using q) ws H locs ls hR)
  · exact h2.elim

def cm_if_eq : cm_O := (ev_if_eq.1, fun E P t S k => match S.2.2.1 with
  | .int x :: st => 0 ≤ (S.1 : Int) + t.1 ∧ (ev_cmp 0 x 0 = true → k (((S.1 : Int) + t.1).toNat, S.2.1, st, S.2.2.2)) ∧ (ev_cmp 0 x 0 = false → k (S.1 + 3, S.2.1, st, S.2.2.2))
  | _ => False)
theorem cm_if_eq_ok : cm_Snd cm_if_eq := by
  intro p l e R s m args below meth c cc Q D A adr ce sl E P t S i n cs X h1 hd hw h2 ws H locs ls hR
  obtain ⟨hx, hb, hml, hown, hts, hK, hA, hN, hcC, hcS, hf, hlc, hscr⟩ := X
  obtain ⟨pc, L, st, M⟩ := S
  have h1 : some ((.ifCond .eq t.1 : Instr), (3 : Nat), ([] : List Cond)) = some (i, n, cs) := h1
  cases h1
  unfold cm_if_eq at h2
  dsimp only at h2
  split at h2
  · obtain ⟨h0, k1, k2⟩ := h2
    exact lv_if_eq (tgt := ((pc : Int) + t.1).toNat) hx hb hd (by omega) (fun q => k1 (by simpa [ev_cmp] using q) ws H locs ls hR) (fun q => k2 (by simpa [ev_cmp] using q) ws H locs ls hR)
  · exact h2.elim

def cm_icmp_ne : cm_O := (ev_icmp_ne.1, fun E P t S k => match S.2.2.1 with
  | .int y :: .int x :: st => 0 ≤ (S.1 : Int) + t.1 ∧ (ev_cmp 1 x y = true → k (((S.1 : Int) + t.1).toNat, S.2.1, st, S.2.2.2)) ∧ (ev_cmp 1 x y = false → k (S.1 + 3, S.2.1, st, S.2.2.2))
  | _ => False)
theorem cm_icmp_ne_ok : cm_Snd cm_icmp_ne := by
  intro p l e R s m args below meth c cc Q D A adr ce sl E P t S i n cs X h1 hd hw h2 ws H locs ls hR
  obtain ⟨hx, hb, hml, hown, hts, hK, hA, hN, hcC, hcS, hf, hlc, hscr⟩ := X
  obtain ⟨pc, L, st, M⟩ := S
  have h1 : some ((.if_icmp .ne t.1 : Instr), (3 : Nat), ([] : List Cond)) = some (i, n, cs) := h1
  cases h1
  unfold cm_icmp_ne at h2
  dsimp only at h2
  split at h2
  · obtain ⟨h0, k1, k2⟩ := h2
    exact lv_icmp_ne (tgt := ((pc : Int) + t.1).toNat) hx hb hd (by omega) (fun q => k1 (by simpa [ev_cmp] using q) ws H locs ls hR) (fun q => k2 (by simpa [ev_cmp] using q) ws H locs ls hR)
  · exact h2.elim

def cm_if_ne : cm_O := (ev_if_ne.1, fun E P t S k => match S.2.2.1 with
  | .int x :: st => 0 ≤ (S.1 : Int) + t.1 ∧ (ev_cmp 1 x 0 = true → k (((S.1 : Int) + t.1).toNat, S.2.1, st, S.2.2.2)) ∧ (ev_cmp 1 x 0 = false → k (S.1 + 3, S.2.1, st, S.2.2.2))
  | _ => False)
theorem cm_if_ne_ok : cm_Snd cm_if_ne := by
  intro p l e R s m args below meth c cc Q D A adr ce sl E P t S i n cs X h1 hd hw h2 ws H locs ls hR
  obtain ⟨hx, hb, hml, hown, hts, hK, hA, hN, hcC, hcS, hf, hlc, hscr⟩ := X
  obtain ⟨pc, L, st, M⟩ := S
  have h1 : some ((.ifCond .ne t.1 : Instr), (3 : Nat), ([] : List Cond)) = some (i, n, cs) := h1
  cases h1
  unfold cm_if_ne at h2
  dsimp only at h2
  split at h2
  · obtain ⟨h0, k1, k2⟩ := h2
    exact lv_if_ne (tgt := ((pc : Int) + t.1).toNat) hx hb hd (by omega) (fun q => k1 (by simpa [ev_cmp] using q) ws H locs ls hR) (fun q => k2 (by simpa [ev_cmp] using q) ws H locs ls hR)
  · exact h2.elim

def cm_icmp_lt : cm_O := (ev_icmp_lt.1, fun E P t S k => match S.2.2.1 with
  | .int y :: .int x :: st => 0 ≤ (S.1 : Int) + t.1 ∧ (ev_cmp 2 x y = true → k (((S.1 : Int) + t.1).toNat, S.2.1, st, S.2.2.2)) ∧ (ev_cmp 2 x y = false → k (S.1 + 3, S.2.1, st, S.2.2.2))
  | _ => False)
theorem cm_icmp_lt_ok : cm_Snd cm_icmp_lt := by
  intro p l e R s m args below meth c cc Q D A adr ce sl E P t S i n cs X h1 hd hw h2 ws H locs ls hR
  obtain ⟨hx, hb, hml, hown, hts, hK, hA, hN, hcC, hcS, hf, hlc, hscr⟩ := X
  obtain ⟨pc, L, st, M⟩ := S
  have h1 : some ((.if_icmp .lt t.1 : Instr), (3 : Nat), ([] : List Cond)) = some (i, n, cs) := h1
  cases h1
  unfold cm_icmp_lt at h2
  dsimp only at h2
  split at h2
  · obtain ⟨h0, k1, k2⟩ := h2
    exact lv_icmp_lt (tgt := ((pc : Int) + t.1).toNat) hx hb hd (by omega) (fun q => k1 (by simpa [ev_cmp] using q) ws H locs ls hR) (fun q => k2 (by simpa [ev_cmp] using q) ws H locs ls hR)
  · exact h2.elim

def cm_if_lt : cm_O := (ev_if_lt.1, fun E P t S k => match S.2.2.1 with
  | .int x :: st => 0 ≤ (S.1 : Int) + t.1 ∧ (ev_cmp 2 x 0 = true → k (((S.1 : Int) + t.1).toNat, S.2.1, st, S.2.2.2)) ∧ (ev_cmp 2 x 0 = false → k (S.1 + 3, S.2.1, st, S.2.2.2))
  | _ => False)
theorem cm_if_lt_ok : cm_Snd cm_if_lt := by
  intro p l e R s m args below meth c cc Q D A adr ce sl E P t S i n cs X h1 hd hw h2 ws H locs ls hR
  obtain ⟨hx, hb, hml, hown, hts, hK, hA, hN, hcC, hcS, hf, hlc, hscr⟩ := X
  obtain ⟨pc, L, st, M⟩ := S
  have h1 : some ((.ifCond .lt t.1 : Instr), (3 : Nat), ([] : List Cond)) = some (i, n, cs) := h1
  cases h1
  unfold cm_if_lt at h2
  dsimp only at h2
  split at h2
  · obtain ⟨h0, k1, k2⟩ := h2
    exact lv_if_lt (tgt := ((pc : Int) + t.1).toNat) hx hb hd (by omega) (fun q => k1 (by simpa [ev_cmp] using q) ws H locs ls hR) (fun q => k2 (by simpa [ev_cmp] using q) ws H locs ls hR)
  · exact h2.elim

def cm_icmp_ge : cm_O := (ev_icmp_ge.1, fun E P t S k => match S.2.2.1 with
  | .int y :: .int x :: st => 0 ≤ (S.1 : Int) + t.1 ∧ (ev_cmp 3 x y = true → k (((S.1 : Int) + t.1).toNat, S.2.1, st, S.2.2.2)) ∧ (ev_cmp 3 x y = false → k (S.1 + 3, S.2.1, st, S.2.2.2))
  | _ => False)
theorem cm_icmp_ge_ok : cm_Snd cm_icmp_ge := by
  intro p l e R s m args below meth c cc Q D A adr ce sl E P t S i n cs X h1 hd hw h2 ws H locs ls hR
  obtain ⟨hx, hb, hml, hown, hts, hK, hA, hN, hcC, hcS, hf, hlc, hscr⟩ := X
  obtain ⟨pc, L, st, M⟩ := S
  have h1 : some ((.if_icmp .ge t.1 : Instr), (3 : Nat), ([] : List Cond)) = some (i, n, cs) := h1
  cases h1
  unfold cm_icmp_ge at h2
  dsimp only at h2
  split at h2
  · obtain ⟨h0, k1, k2⟩ := h2
    exact lv_icmp_ge (tgt := ((pc : Int) + t.1).toNat) hx hb hd (by omega) (fun q => k1 (by simpa [ev_cmp] using q) ws H locs ls hR) (fun q => k2 (by simpa [ev_cmp] using q) ws H locs ls hR)
  · exact h2.elim

def cm_if_ge : cm_O := (ev_if_ge.1, fun E P t S k => match S.2.2.1 with
  | .int x :: st => 0 ≤ (S.1 : Int) + t.1 ∧ (ev_cmp 3 x 0 = true → k (((S.1 : Int) + t.1).toNat, S.2.1, st, S.2.2.2)) ∧ (ev_cmp 3 x 0 = false → k (S.1 + 3, S.2.1, st, S.2.2.2))
  | _ => False)
theorem cm_if_ge_ok : cm_Snd cm_if_ge := by
  intro p l e R s m args below meth c cc Q D A adr ce sl E P t S i n cs X h1 hd hw h2 ws H locs ls hR
  obtain ⟨hx, hb, hml, hown, hts, hK, hA, hN, hcC, hcS, hf, hlc, hscr⟩ := X
  obtain ⟨pc, L, st, M⟩ := S
  have h1 : some ((.ifCond .ge t.1 : Instr), (3 : Nat), ([] : List Cond)) = some (i, n, cs) := h1
  cases h1
  unfold cm_if_ge at h2
  dsimp only at h2
  split at h2
  · obtain ⟨h0, k1, k2⟩ := h2
    exact lv_if_ge (tgt := ((pc : Int) + t.1).toNat) hx hb hd (by omega) (fun q => k1 (by simpa [ev_cmp] using q) ws H locs ls hR) (fun q => k2 (by simpa [ev_cmp] using q) ws H locs ls hR)
  · exact h2.elim

def cm_icmp_gt : cm_O := (ev_icmp_gt.1, fun E P t S k => match S.2.2.1 with
  | .int y :: .int x :: st => 0 ≤ (S.1 : Int) + t.1 ∧ (ev_cmp 4 x y = true → k (((S.1 : Int) + t.1).toNat, S.2.1, st, S.2.2.2)) ∧ (ev_cmp 4 x y = false → k (S.1 + 3, S.2.1, st, S.2.2.2))
  | _ => False)
theorem cm_icmp_gt_ok : cm_Snd cm_icmp_gt := by
  intro p l e R s m args below meth c cc Q D A adr ce sl E P t S i n cs X h1 hd hw h2 ws H locs ls hR
  obtain ⟨hx, hb, hml, hown, hts, hK, hA, hN, hcC, hcS, hf, hlc, hscr⟩ := X
  obtain ⟨pc, L, st, M⟩ := S
  have h1 : some ((.if_icmp .gt t.1 : Instr), (3 : Nat), ([] : List Cond)) = some (i, n, cs) := h1
  cases h1
  unfold cm_icmp_gt at h2
  dsimp only at h2
  split at h2
  · obtain ⟨h0, k1, k2⟩ := h2
    exact lv_icmp_gt (tgt := ((pc : Int) + t.1).toNat) hx hb hd (by omega) (fun q => k1 (by simpa [ev_cmp] using q) ws H locs ls hR) (fun q => k2 (by simpa [ev_cmp] using q) ws H locs ls hR)
  · exact h2.elim

def cm_if_gt : cm_O := (ev_if_gt.1, fun E P t S k => match S.2.2.1 with
  | .int x :: st => 0 ≤ (S.1 : Int) + t.1 ∧ (ev_cmp 4 x 0 = true → k (((S.1 : Int) + t.1).toNat, S.2.1, st, S.2.2.2)) ∧ (ev_cmp 4 x 0 = false → k (S.1 + 3, S.2.1, st, S.2.2.2))
  | _ => False)
theorem cm_if_gt_ok : cm_Snd cm_if_gt := by
  intro p l e R s m args below meth c cc Q D A adr ce sl E P t S i n cs X h1 hd hw h2 ws H locs ls hR
  obtain ⟨hx, hb, hml, hown, hts, hK, hA, hN, hcC, hcS, hf, hlc, hscr⟩ := X
  obtain ⟨pc, L, st, M⟩ := S
  have h1 : some ((.ifCond .gt t.1 : Instr), (3 : Nat), ([] : List Cond)) = some (i, n, cs) := h1
  cases h1
  unfold cm_if_gt at h2
  dsimp only at h2
  split at h2
  · obtain ⟨h0, k1, k2⟩ := h2
    exact lv_if_gt (tgt := ((pc : Int) + t.1).toNat) hx hb hd (by omega) (fun q => k1 (by simpa [ev_cmp] using q) ws H locs ls hR) (fun q => k2 (by simpa [ev_cmp] using q) ws H locs ls hR)
  · exact h2.elim

def cm_icmp_le : cm_O := (ev_icmp_le.1, fun E P t S k => match S.2.2.1 with
  | .int y :: .int x :: st => 0 ≤ (S.1 : Int) + t.1 ∧ (ev_cmp 5 x y = true → k (((S.1 : Int) + t.1).toNat, S.2.1, st, S.2.2.2)) ∧ (ev_cmp 5 x y = false → k (S.1 + 3, S.2.1, st, S.2.2.2))
  | _ => False)
theorem cm_icmp_le_ok : cm_Snd cm_icmp_le := by
  intro p l e R s m args below meth c cc Q D A adr ce sl E P t S i n cs X h1 hd hw h2 ws H locs ls hR
  obtain ⟨hx, hb, hml, hown, hts, hK, hA, hN, hcC, hcS, hf, hlc, hscr⟩ := X
  obtain ⟨pc, L, st, M⟩ := S
  have h1 : some ((.if_icmp .le t.1 : Instr), (3 : Nat), ([] : List Cond)) = some (i, n, cs) := h1
  cases h1
  unfold cm_icmp_le at h2
  dsimp only at h2
  split at h2
  · obtain ⟨h0, k1, k2⟩ := h2
    exact lv_icmp_le (tgt := ((pc : Int) + t.1).toNat) hx hb hd (by omega) (fun q => k1 (by simpa [ev_cmp] using q) ws H locs ls hR) (fun q => k2 (by simpa [ev_cmp] using q) ws H locs ls hR)
  · exact h2.elim

def cm_if_le : cm_O := (ev_if_le.1, fun E P t S k => match S.2.2.1 with
  | .int x :: st => 0 ≤ (S.1 : Int) + t.1 ∧ (ev_cmp 5 x 0 = true → k (((S.1 : Int) + t.1).toNat, S.2.1, st, S.2.2.2)) ∧ (ev_cmp 5 x 0 = false → k (S.1 + 3, S.2.1, st, S.2.2.2))
  | _ => False)
theorem cm_if_le_ok : cm_Snd cm_if_le := by
  intro p l e R s m args below meth c cc Q D A adr ce sl E P t S i n cs X h1 hd hw h2 ws H locs ls hR
  obtain ⟨hx, hb, hml, hown, hts, hK, hA, hN, hcC, hcS, hf, hlc, hscr⟩ := X
  obtain ⟨pc, L, st, M⟩ := S
  have h1 : some ((.ifCond .le t.1 : Instr), (3 : Nat), ([] : List Cond)) = some (i, n, cs) := h1
  cases h1
  unfold cm_if_le at h2
  dsimp only at h2
  split at h2
  · obtain ⟨h0, k1, k2⟩ := h2
    exact lv_if_le (tgt := ((pc : Int) + t.1).toNat) hx hb hd (by omega) (fun q => k1 (by simpa [ev_cmp] using q) ws H locs ls hR) (fun q => k2 (by simpa [ev_cmp] using q) ws H locs ls hR)
  · exact h2.elim

def cm_goto : cm_O := (ev_goto.1, fun E P t S k => 0 ≤ (S.1 : Int) + t.1 ∧ k (((S.1 : Int) + t.1).toNat, S.2))
theorem cm_goto_ok : cm_Snd cm_goto := by
  intro p l e R s m args below meth c cc Q D A adr ce sl E P t S i n cs X h1 hd hw h2 ws H locs ls hR
  obtain ⟨hx, hb, hml, hown, hts, hK, hA, hN, hcC, hcS, hf, hlc, hscr⟩ := X
  obtain ⟨pc, L, st, M⟩ := S
  have h1 : some ((.goto t.1 : Instr), (3 : Nat), ([] : List Cond)) = some (i, n, cs) := h1
  cases h1
  unfold cm_goto at h2
  dsimp only at h2
  exact lv_goto (tgt := ((pc : Int) + t.1).toNat) hx hb hd (by omega) (h2.2 ws H locs ls hR)

def cm_sw : cm_O := (ev_sw.1, fun E P t S k => match t.2.2.2, S.2.2.1 with
  | _ :: offs, .int x :: st => t.2.2.1 - t.2.1 + 1 = (offs.length : Int) ∧ 0 ≤ (S.1 : Int) + t.1 ∧ offs.all (fun o => decide (0 ≤ (S.1 : Int) + o)) = true ∧ (x.toInt < t.2.1 ∨ t.2.2.1 < x.toInt → k (((S.1 : Int) + t.1).toNat, S.2.1, st, S.2.2.2)) ∧ (∀ (j : Nat) (o : Int), offs[j]? = some o → x.toInt = t.2.1 + (j : Int) → k (((S.1 : Int) + o).toNat, S.2.1, st, S.2.2.2))
  | _, _ => False)
theorem cm_sw_ok : cm_Snd cm_sw := by
  intro p l e R s m args below meth c cc Q D A adr ce sl E P t S i n cs X h1 hd hw h2 ws H locs ls hR
  obtain ⟨hx, hb, hml, hown, hts, hK, hA, hN, hcC, hcS, hf, hlc, hscr⟩ := X
  obtain ⟨pc, L, st, M⟩ := S
  obtain ⟨dflt, lo, hi, offs0⟩ := t
  cases offs0 with
  | nil => cases h1
  | cons len offs =>
    have h1 : some ((.tableswitch dflt lo hi offs.toArray : Instr), len.toNat, ([] : List Cond)) = some (i, n, cs) := h1
    cases h1
    cases st with
    | nil => exact h2.elim
    | cons v st' =>
      cases v with
      | int x =>
        obtain ⟨hlen, hd0, hall, k1, k2⟩ := h2
        dsimp only at hlen hd0 hall k1 k2
        by_cases hq : x.toInt < lo ∨ hi < x.toInt
        · exact lv_tableOut (tgt := ((pc : Int) + dflt).toNat) hx hb hd hq (by omega) (k1 hq ws H locs ls hR)
        · have q1 : ¬ x.toInt < lo := fun z => hq (Or.inl z)
          have q2 : ¬ hi < x.toInt := fun z => hq (Or.inr z)
          have hj : (x.toInt - lo).toNat < offs.length := by omega
          have ho := List.getElem?_eq_getElem hj
          have h0 := List.all_eq_true.mp hall _ (List.getElem_mem hj)
          simp only [decide_eq_true_eq] at h0
          exact lv_tableIn (off := offs[(x.toInt - lo).toNat]) hx hb hd q1 q2 (by rw [List.getElem?_toArray]; exact ho) (tgt := ((pc : Int) + offs[(x.toInt - lo).toNat]).toNat) (by omega) (k2 _ _ ho (by omega) ws H locs ls hR)
      | _ => exact h2.elim
/-! CM: cells -/
theorem cm_ty_at {ci : Nat} {r : vw_C} (h : vwCl[ci]? = some r) : ∃ ty, ev_tyl[ci]? = some ty := ⟨_, List.getElem?_eq_getElem (show ci < ev_tyl.length from (List.getElem?_eq_some_iff.mp h).1)⟩
theorem cm_obj {s : State} {adr : Nat → Nat} {M : cm_M} {ws : va_W} {k ci N : Nat} (h : cm_w s adr M ws) (hk : cm_kind k = (ci, N)) (hci : ci < 100) : ∃ fs, ws[k]? = some (adr k, .inr (ci, fs)) ∧ fs.length = N ∧ ∀ j, j < N → fs[j]? = some (cm_v adr (cm_rd M (cm_ft ci j) k j)) := by
  obtain ⟨x, h1, h2⟩ := cm_cell h (cm_kind_at hk (by dsimp only; omega))
  cases x with
  | inl a =>
    obtain ⟨t, a1, a2, -⟩ := h2
    dsimp only at a2
    omega
  | inr o =>
    obtain ⟨c1, fs⟩ := o
    obtain ⟨b1, b2, b3, b4⟩ := h2
    dsimp only at b1 b3 b4
    subst b1
    exact ⟨fs, h1, b3, b4⟩
theorem cm_arr {s : State} {adr : Nat → Nat} {M : cm_M} {ws : va_W} {k t N : Nat} (h : cm_w s adr M ws) (hk : cm_kind k = (100 + t, N)) (ht : t < 4) : ∃ cA arr, ws[k]? = some (adr k, .inl (cA, N, arr)) ∧ ArrOfT s cA (ev_ty t) ∧ va_RA s cA (ev_ty t) ∧ cm_ar adr M k t N arr := by
  obtain ⟨x, h1, h2⟩ := cm_cell h (cm_kind_at hk (by dsimp only; omega))
  cases x with
  | inr o =>
    obtain ⟨b1, b2, -⟩ := h2
    dsimp only at b2
    omega
  | inl a =>
    obtain ⟨cA, n, arr⟩ := a
    obtain ⟨tt, a1, a2, a3, a4, a5, a6⟩ := h2
    dsimp only at a2 a3 a4 a5 a6
    have : tt = t := by omega
    subst this
    subst a3
    exact ⟨cA, arr, h1, a4, a5, a6⟩
theorem cm_in {i : Int32} {n : Nat} (h1 : 0 ≤ i.toInt) (h2 : i.toInt < (n : Int)) : vp_in i n ∧ i.toNatClampNeg < n := by
  have hv : vp_in i n := by rw [vp_in_iff]; exact ⟨h1, h2⟩
  refine ⟨hv, ?_⟩
  unfold vp_in at hv
  exact Nat.lt_of_not_le (fun q => hv (Or.inr q))
/-- a value that a field may hold -/
def cm_fit (ci j : Nat) (v : Value) : Prop := match v with
  | .int x => cm_ft ci j = 0 ∧ (cm_isB ci j = true → x = 0 ∨ x = 1)
  | .long _ => cm_ft ci j = 2
  | .ref _ => cm_ft ci j = 3
  | .null => cm_ft ci j = 3
  | _ => False
def cm_wf (M : cm_M) (c j : Nat) (v : Value) : cm_M := match v with
  | .int x => cm_wi M c j x
  | .long x => cm_wl M c j x
  | .ref q => cm_wr M c j (some q)
  | .null => cm_wr M c j none
  | _ => M
/-- all fields of our classes are ints, truth values, longs or references -/
def cm_tyok (ty : FieldType) : Bool := match ty with
  | .int => true
  | .boolean => true
  | .long => true
  | .object _ => true
  | .array _ => true
  | _ => false
theorem cm_tys : ∀ (ci : Nat) (r : vw_C) (ty : Nat → FieldType), vwCl[ci]? = some r → ev_tyl[ci]? = some ty → ∀ k, k < r.2.2 → cm_tyok (ty k) = true
  | 0, r, ty, h1, h2 => by cases h1; cases h2; decide
  | 1, r, ty, h1, h2 => by cases h1; cases h2; decide
  | 2, r, ty, h1, h2 => by cases h1; cases h2; decide
  | 3, r, ty, h1, h2 => by cases h1; cases h2; decide
  | 4, r, ty, h1, h2 => by cases h1; cases h2; decide
  | 5, r, ty, h1, h2 => by cases h1; cases h2; decide
  | 6, r, ty, h1, h2 => by cases h1; cases h2; decide
  | 7, r, ty, h1, h2 => by cases h1; cases h2; decide
  | 8, r, ty, h1, h2 => by cases h1; cases h2; decide
  | 9, r, ty, h1, h2 => by cases h1; cases h2; decide
  | n + 10, r, ty, h1, h2 => by cases h1
theorem cm_fit_ok {ci j : Nat} {ty : Nat → FieldType} (hty : ev_tyl[ci]? = some ty) (hok : cm_tyok (ty j) = true) {v : Value} (h : cm_fit ci j v) (adr : Nat → Nat) : narrow (ty j) (cm_v adr v) = cm_v adr v ∧ fits (ty j) (cm_v adr v) = true := by
  unfold cm_fit at h
  split at h
  · rename_i x
    obtain ⟨h1, h2⟩ := h
    simp only [cm_ft, hty] at h1
    simp only [cm_isB, hty] at h2
    cases hz : ty j <;> rw [hz] at hok h1 h2 <;> simp [cm_tyok] at hok h1 h2
    · exact ⟨rfl, rfl⟩
    · rcases h2 with rfl | rfl
      · exact (by decide : narrow .boolean (.int 0) = .int 0 ∧ fits .boolean (.int 0) = true)
      · exact (by decide : narrow .boolean (.int 1) = .int 1 ∧ fits .boolean (.int 1) = true)
  · simp only [cm_ft, hty] at h
    cases hz : ty j <;> rw [hz] at hok h <;> simp [cm_tyok] at hok h
    exact ⟨rfl, rfl⟩
  · simp only [cm_ft, hty] at h
    cases hz : ty j <;> rw [hz] at hok h <;> simp [cm_tyok] at hok h
    · exact ⟨rfl, rfl⟩
    · exact ⟨rfl, rfl⟩
  · simp only [cm_ft, hty] at h
    cases hz : ty j <;> rw [hz] at hok h <;> simp [cm_tyok] at hok h
    · exact ⟨rfl, rfl⟩
    · exact ⟨rfl, rfl⟩
  · exact h.elim
theorem cm_wf_rd {ci c j : Nat} {M : cm_M} {v : Value} (h : cm_fit ci j v) (j' : Nat) : cm_rd (cm_wf M c j v) (cm_ft ci j') c j' = if j' = j then v else cm_rd M (cm_ft ci j') c j' := by
  by_cases hj : j' = j
  · subst hj
    rw [if_pos rfl]
    unfold cm_fit at h
    split at h
    · rw [h.1]; simp [cm_rd, cm_wf, cm_wi]
    · rw [h]; simp [cm_rd, cm_wf, cm_wl]
    · rw [h]; simp [cm_rd, cm_wf, cm_wr, cm_rq]
    · rw [h]; simp [cm_rd, cm_wf, cm_wr, cm_rq]
    · exact h.elim
  · rw [if_neg hj]
    unfold cm_wf
    split <;> (unfold cm_rd; split <;> simp [cm_wi, cm_wl, cm_wr, hj])
theorem cm_wf_ne {s : State} {adr : Nat → Nat} {M : cm_M} {c j : Nat} {v : Value} : ∀ k q y, k ≠ c → cm_c s adr M k q y → cm_c s adr (cm_wf M c j v) k q y := by
  intro k q y hk h
  refine cm_c_ne (fun i => ?_) (fun i => ?_) (fun i => ?_) h <;> (unfold cm_wf; split <;> simp [cm_wi, cm_wl, cm_wr, hk])
theorem cm_nfs : ∀ q ∈ cm_lay, q.1 < 10 → (vwCl[q.1]?).map (fun r => r.2.2) = some q.2 := by decide +kernel
theorem cm_nf {c ci j : Nat} {r : vw_C} (hr : vwCl[ci]? = some r) (h1 : (cm_kind c).1 = ci) (h2 : j < (cm_kind c).2) : j < r.2.2 := by
  have hci : ci < 10 := (List.getElem?_eq_some_iff.mp hr).1
  have h3 := cm_nfs _ (List.mem_of_getElem? (cm_kind_at (c := c) rfl (by omega))) (by omega)
  rw [h1, hr] at h3
  have h4 : r.2.2 = (cm_kind c).2 := Option.some.inj h3
  omega
def cm_get : cm_O := (ev_get.1, fun E P t S k => match S.2.2.1 with
  | .ref c :: st => (cm_kind c).1 = t.1.toNat ∧ t.2.1.toNat < (cm_kind c).2 ∧ k (cm_adv S 3 (cm_rd S.2.2.2 (cm_ft t.1.toNat t.2.1.toNat) c t.2.1.toNat :: st))
  | _ => False)
theorem cm_get_ok : cm_Snd cm_get := by
  intro p l e R s m args below meth c cc Q D A adr ce sl E P t S i n cs X h1 hd hw h2 ws H locs ls hR
  obtain ⟨hx, hb, hml, hown, hts, hK, hA, hN, hcC, hcS, hf, hlc, hscr⟩ := X
  obtain ⟨pc, L, st, M⟩ := S
  obtain ⟨t1, t2, t3, t4⟩ := t
  unfold cm_get ev_get at h1
  unfold cm_get at h2
  dsimp only at h1 h2
  cases hr : vwCl[t1.toNat]? with
  | none => simp [hr] at h1
  | some r =>
    rw [hr] at h1
    dsimp only at h1
    cases h1
    obtain ⟨hP, hD, hS, hW, hL⟩ := id hR
    have hci : t1.toNat < 10 := (List.getElem?_eq_some_iff.mp hr).1
    obtain ⟨ty, hty⟩ := cm_ty_at hr
    obtain ⟨k1, k2, k3, -⟩ := ev_cls _ r ty hr hty
    split at h2
    rotate_left
    · exact h2.elim
    rename_i c st'
    obtain ⟨hc1, hc2, hk⟩ := h2
    obtain ⟨fs, e1, e2, e3⟩ := cm_obj hW (show cm_kind c = (t1.toNat, (cm_kind c).2) from by rw [← hc1]) (by omega)
    exact va_get hx hb hts k1 hown hK hP _ e1 hr t2.toNat (cm_nf hr hc1 hc2) (hts _ (hw _ (List.mem_singleton.mpr rfl))) (fun _ h => h) (e3 _ hc2) hd (hk ws H locs ls hR)

def cm_fin (ci j : Nat) : Bool := match vwCl[ci]? with
  | some r => (r.2.1 j).2.2.2
  | none => true
def cm_put : cm_O := (ev_put.1, fun E P t S k => match S.2.2.1 with
  | v :: .ref c :: st => (cm_kind c).1 = t.1.toNat ∧ t.2.1.toNat < (cm_kind c).2 ∧ cm_fin t.1.toNat t.2.1.toNat = false ∧ cm_fit t.1.toNat t.2.1.toNat v ∧ k (S.1 + 3, S.2.1, st, cm_wf S.2.2.2 c t.2.1.toNat v)
  | _ => False)
theorem cm_put_ok : cm_Snd cm_put := by
  intro p l e R s m args below meth c cc Q D A adr ce sl E P t S i n cs X h1 hd hw h2 ws H locs ls hR
  obtain ⟨hx, hb, hml, hown, hts, hK, hA, hN, hcC, hcS, hf, hlc, hscr⟩ := X
  obtain ⟨pc, L, st, M⟩ := S
  obtain ⟨t1, t2, t3, t4⟩ := t
  unfold cm_put ev_put at h1
  unfold cm_put at h2
  dsimp only at h1 h2
  cases hr : vwCl[t1.toNat]? with
  | none => simp [hr] at h1
  | some r =>
    rw [hr] at h1
    dsimp only at h1
    cases h1
    obtain ⟨hP, hD, hS, hW, hL⟩ := id hR
    have hci : t1.toNat < 10 := (List.getElem?_eq_some_iff.mp hr).1
    obtain ⟨ty, hty⟩ := cm_ty_at hr
    obtain ⟨k1, k2, k3, -⟩ := ev_cls _ r ty hr hty
    split at h2
    rotate_left
    · exact h2.elim
    rename_i v c st'
    obtain ⟨hc1, hc2, hfin, hft, hk⟩ := h2
    obtain ⟨fs, e1, e2, e3⟩ := cm_obj hW (show cm_kind c = (t1.toNat, (cm_kind c).2) from by rw [← hc1]) (by omega)
    have hn := cm_nf hr hc1 hc2
    obtain ⟨hn1, hn2⟩ := cm_fit_ok hty (cm_tys _ r ty hr hty _ hn) hft adr
    simp only [cm_fin, hr] at hfin
    refine va_put hx hb hts k1 ty k2 k3 hown hK hP hD hS _ e1 hr t2.toNat hn (hts _ (hw _ (List.mem_singleton.mpr rfl))) (fun _ h => h) hfin (k2 _ hn) hn1 hn2 (by rw [e2]; exact hc2) hd (fun H1 locs1 hP1 hD1 hS1 => hk _ H1 locs1 ls ⟨hP1, hD1, hS1, cm_w_set hW (cm_kind_at (q := (t1.toNat, (cm_kind c).2)) (by rw [← hc1]) (by dsimp only; omega)) ⟨rfl, by dsimp only; omega, by dsimp only; rw [List.length_set]; exact e2, fun j hj => ?_⟩ cm_wf_ne, hL⟩)
    dsimp only at hj ⊢
    rw [cm_wf_rd hft]
    by_cases hjk : j = t2.toNat
    · subst hjk
      rw [if_pos rfl]
      exact List.getElem?_set_self (by rw [e2]; exact hj)
    · rw [if_neg hjk, List.getElem?_set_ne (Ne.symm hjk)]
      exact e3 j hj

/-! CM: arrays -/
def cm_iaload : cm_O := (ev_iaload.1, fun E P t S k => match S.2.2.1 with
  | .int i :: .ref c :: st => (cm_kind c).1 = 100 + 0 ∧ 0 ≤ i.toInt ∧ i.toInt < ((cm_kind c).2 : Int) ∧ k (cm_adv S 1 (.int (S.2.2.2.1 c i.toNatClampNeg) :: st))
  | _ => False)
theorem cm_iaload_ok : cm_Snd cm_iaload := by
  intro p l e R s m args below meth c cc Q D A adr ce sl E P t S i n cs X h1 hd hw h2 ws H locs ls hR
  obtain ⟨hx, hb, hml, hown, hts, hK, hA, hN, hcC, hcS, hf, hlc, hscr⟩ := X
  obtain ⟨pc, L, st, M⟩ := S
  have h1 : some ((.iaload : Instr), (1 : Nat), ([] : List Cond)) = some (i, n, cs) := h1
  cases h1
  unfold cm_iaload at h2
  dsimp only at h2
  split at h2
  rotate_left
  · exact h2.elim
  rename_i i c st'
  obtain ⟨hc1, hi1, hi2, hk⟩ := h2
  obtain ⟨hP, hD, hS, hW, hL⟩ := id hR
  obtain ⟨cA, arr, e1, e2, e3, e4⟩ := cm_arr (t := 0) hW (show cm_kind c = (100 + 0, (cm_kind c).2) from by rw [← hc1]) (by decide)
  obtain ⟨hv, hj⟩ := cm_in hi1 hi2
  rcases arr with f | f | f | f | f
  · refine va_iald hx hb (ev_K1 hK e2 e3) hP _ 0 e1 rfl hv hd ?_
    rw [e4.2 _ hj]
    exact hk ws H locs ls hR
  · first | exact e4.elim | (have := e4.1; omega)
  · first | exact e4.elim | (have := e4.1; omega)
  · first | exact e4.elim | (have := e4.1; omega)
  · first | exact e4.elim | (have := e4.1; omega)

def cm_baload : cm_O := (ev_baload.1, fun E P t S k => match S.2.2.1 with
  | .int i :: .ref c :: st => (cm_kind c).1 = 100 + 1 ∧ 0 ≤ i.toInt ∧ i.toInt < ((cm_kind c).2 : Int) ∧ k (cm_adv S 1 (.int (S.2.2.2.1 c i.toNatClampNeg) :: st))
  | _ => False)
theorem cm_baload_ok : cm_Snd cm_baload := by
  intro p l e R s m args below meth c cc Q D A adr ce sl E P t S i n cs X h1 hd hw h2 ws H locs ls hR
  obtain ⟨hx, hb, hml, hown, hts, hK, hA, hN, hcC, hcS, hf, hlc, hscr⟩ := X
  obtain ⟨pc, L, st, M⟩ := S
  have h1 : some ((.baload : Instr), (1 : Nat), ([] : List Cond)) = some (i, n, cs) := h1
  cases h1
  unfold cm_baload at h2
  dsimp only at h2
  split at h2
  rotate_left
  · exact h2.elim
  rename_i i c st'
  obtain ⟨hc1, hi1, hi2, hk⟩ := h2
  obtain ⟨hP, hD, hS, hW, hL⟩ := id hR
  obtain ⟨cA, arr, e1, e2, e3, e4⟩ := cm_arr (t := 1) hW (show cm_kind c = (100 + 1, (cm_kind c).2) from by rw [← hc1]) (by decide)
  obtain ⟨hv, hj⟩ := cm_in hi1 hi2
  rcases arr with f | f | f | f | f
  · refine va_bald hx hb (ev_K1 hK e2 e3) hP _ 0 e1 rfl hv hd ?_
    rw [e4.2 _ hj]
    exact hk ws H locs ls hR
  · first | exact e4.elim | (have := e4.1; omega)
  · first | exact e4.elim | (have := e4.1; omega)
  · first | exact e4.elim | (have := e4.1; omega)
  · first | exact e4.elim | (have := e4.1; omega)

def cm_laload : cm_O := (ev_laload.1, fun E P t S k => match S.2.2.1 with
  | .int i :: .ref c :: st => (cm_kind c).1 = 100 + 2 ∧ 0 ≤ i.toInt ∧ i.toInt < ((cm_kind c).2 : Int) ∧ k (cm_adv S 1 (.long (S.2.2.2.2.1 c i.toNatClampNeg) :: st))
  | _ => False)
theorem cm_laload_ok : cm_Snd cm_laload := by
  intro p l e R s m args below meth c cc Q D A adr ce sl E P t S i n cs X h1 hd hw h2 ws H locs ls hR
  obtain ⟨hx, hb, hml, hown, hts, hK, hA, hN, hcC, hcS, hf, hlc, hscr⟩ := X
  obtain ⟨pc, L, st, M⟩ := S
  have h1 : some ((.laload : Instr), (1 : Nat), ([] : List Cond)) = some (i, n, cs) := h1
  cases h1
  unfold cm_laload at h2
  dsimp only at h2
  split at h2
  rotate_left
  · exact h2.elim
  rename_i i c st'
  obtain ⟨hc1, hi1, hi2, hk⟩ := h2
  obtain ⟨hP, hD, hS, hW, hL⟩ := id hR
  obtain ⟨cA, arr, e1, e2, e3, e4⟩ := cm_arr (t := 2) hW (show cm_kind c = (100 + 2, (cm_kind c).2) from by rw [← hc1]) (by decide)
  obtain ⟨hv, hj⟩ := cm_in hi1 hi2
  rcases arr with f | f | f | f | f
  · first | exact e4.elim | (have := e4.1; omega)
  · refine va_lald hx hb (ev_K1 hK e2 e3) hP _ 0 e1 rfl hv hd ?_
    rw [e4.2 _ hj]
    exact hk ws H locs ls hR
  · first | exact e4.elim | (have := e4.1; omega)
  · first | exact e4.elim | (have := e4.1; omega)
  · first | exact e4.elim | (have := e4.1; omega)

def cm_aaload : cm_O := (ev_aaload.1, fun E P t S k => match S.2.2.1 with
  | .int i :: .ref c :: st => (cm_kind c).1 = 100 + 3 ∧ 0 ≤ i.toInt ∧ i.toInt < ((cm_kind c).2 : Int) ∧ k (cm_adv S 1 (cm_rq (S.2.2.2.2.2 c i.toNatClampNeg) :: st))
  | _ => False)
theorem cm_aaload_ok : cm_Snd cm_aaload := by
  intro p l e R s m args below meth c cc Q D A adr ce sl E P t S i n cs X h1 hd hw h2 ws H locs ls hR
  obtain ⟨hx, hb, hml, hown, hts, hK, hA, hN, hcC, hcS, hf, hlc, hscr⟩ := X
  obtain ⟨pc, L, st, M⟩ := S
  have h1 : some ((.aaload : Instr), (1 : Nat), ([] : List Cond)) = some (i, n, cs) := h1
  cases h1
  unfold cm_aaload at h2
  dsimp only at h2
  split at h2
  rotate_left
  · exact h2.elim
  rename_i i c st'
  obtain ⟨hc1, hi1, hi2, hk⟩ := h2
  obtain ⟨hP, hD, hS, hW, hL⟩ := id hR
  obtain ⟨cA, arr, e1, e2, e3, e4⟩ := cm_arr (t := 3) hW (show cm_kind c = (100 + 3, (cm_kind c).2) from by rw [← hc1]) (by decide)
  obtain ⟨hv, hj⟩ := cm_in hi1 hi2
  rcases arr with f | f | f | f | f
  · first | exact e4.elim | (have := e4.1; omega)
  · first | exact e4.elim | (have := e4.1; omega)
  · first | exact e4.elim | (have := e4.1; omega)
  · first | exact e4.elim | (have := e4.1; omega)
  · refine va_aldq hx hb (ev_K1 hK e2 e3) hP _ 0 e1 rfl hv hd ?_
    rw [e4.2 _ hj]
    have := hk ws H locs ls hR
    cases hz : M.2.2 c i.toNatClampNeg with
    | none => rw [hz] at this; exact this
    | some q => rw [hz] at this; exact this

theorem cm_wi_ne {s : State} {adr : Nat → Nat} {M : cm_M} {c j : Nat} {x : Int32} : ∀ k q y, k ≠ c → cm_c s adr M k q y → cm_c s adr (cm_wi M c j x) k q y := fun k q y hk h => cm_c_ne (M := M) (fun i => by simp [cm_wi, hk]) (fun i => rfl) (fun i => rfl) h
theorem cm_wl_ne {s : State} {adr : Nat → Nat} {M : cm_M} {c j : Nat} {x : Int64} : ∀ k q y, k ≠ c → cm_c s adr M k q y → cm_c s adr (cm_wl M c j x) k q y := fun k q y hk h => cm_c_ne (M := M) (fun i => rfl) (fun i => by simp [cm_wl, hk]) (fun i => rfl) h
theorem cm_cp_ne {s : State} {adr : Nat → Nat} {M : cm_M} {a sp d dp n : Nat} : ∀ k q y, k ≠ d → cm_c s adr M k q y → cm_c s adr (cm_cp M a sp d dp n) k q y := fun k q y hk h => cm_c_ne (M := M) (fun i => by simp [cm_cp, hk]) (fun i => rfl) (fun i => rfl) h
def cm_iastore : cm_O := (ev_iastore.1, fun E P t S k => match S.2.2.1 with
  | .int x :: .int i :: .ref c :: st => (cm_kind c).1 = 100 + 0 ∧ 0 ≤ i.toInt ∧ i.toInt < ((cm_kind c).2 : Int) ∧ k (S.1 + 1, S.2.1, st, cm_wi S.2.2.2 c i.toNatClampNeg x)
  | _ => False)
theorem cm_iastore_ok : cm_Snd cm_iastore := by
  intro p l e R s m args below meth c cc Q D A adr ce sl E P t S i n cs X h1 hd hw h2 ws H locs ls hR
  obtain ⟨hx, hb, hml, hown, hts, hK, hA, hN, hcC, hcS, hf, hlc, hscr⟩ := X
  obtain ⟨pc, L, st, M⟩ := S
  have h1 : some ((.iastore : Instr), (1 : Nat), ([] : List Cond)) = some (i, n, cs) := h1
  cases h1
  unfold cm_iastore at h2
  dsimp only at h2
  split at h2
  rotate_left
  · exact h2.elim
  rename_i x i c st'
  obtain ⟨hc1, hi1, hi2, hk⟩ := h2
  obtain ⟨hP, hD, hS, hW, hL⟩ := id hR
  obtain ⟨cA, arr, e1, e2, e3, e4⟩ := cm_arr (t := 0) hW (show cm_kind c = (100 + 0, (cm_kind c).2) from by rw [← hc1]) (by decide)
  obtain ⟨hv, hj⟩ := cm_in hi1 hi2
  rcases arr with f | f | f | f | f
  · refine va_iast hx hb (ev_K1 hK e2 e3) hP hD hS _ 0 e1 rfl hv hd (fun H1 locs1 hP1 hD1 hS1 => hk _ H1 locs1 ls ⟨hP1, hD1, hS1, cm_w_set hW (cm_kind_at (q := (100 + 0, (cm_kind c).2)) (by rw [← hc1]) (by dsimp only; omega)) ⟨0, by decide, rfl, rfl, e2, e3, by decide, fun j hj => ?_⟩ cm_wi_ne, hL⟩)
    dsimp only [upd, cm_wi, cm_wl]
    by_cases hji : j = i.toNatClampNeg
    · simp [hji]
    · simp only [hji, and_false, if_false]
      exact e4.2 j hj
  · first | exact e4.elim | (have := e4.1; omega)
  · first | exact e4.elim | (have := e4.1; omega)
  · first | exact e4.elim | (have := e4.1; omega)
  · first | exact e4.elim | (have := e4.1; omega)

def cm_bastore : cm_O := (ev_bastore.1, fun E P t S k => match S.2.2.1 with
  | .int x :: .int i :: .ref c :: st => (cm_kind c).1 = 100 + 1 ∧ 0 ≤ i.toInt ∧ i.toInt < ((cm_kind c).2 : Int) ∧ k (S.1 + 1, S.2.1, st, cm_wi S.2.2.2 c i.toNatClampNeg (vp_nar .byte x))
  | _ => False)
theorem cm_bastore_ok : cm_Snd cm_bastore := by
  intro p l e R s m args below meth c cc Q D A adr ce sl E P t S i n cs X h1 hd hw h2 ws H locs ls hR
  obtain ⟨hx, hb, hml, hown, hts, hK, hA, hN, hcC, hcS, hf, hlc, hscr⟩ := X
  obtain ⟨pc, L, st, M⟩ := S
  have h1 : some ((.bastore : Instr), (1 : Nat), ([] : List Cond)) = some (i, n, cs) := h1
  cases h1
  unfold cm_bastore at h2
  dsimp only at h2
  split at h2
  rotate_left
  · exact h2.elim
  rename_i x i c st'
  obtain ⟨hc1, hi1, hi2, hk⟩ := h2
  obtain ⟨hP, hD, hS, hW, hL⟩ := id hR
  obtain ⟨cA, arr, e1, e2, e3, e4⟩ := cm_arr (t := 1) hW (show cm_kind c = (100 + 1, (cm_kind c).2) from by rw [← hc1]) (by decide)
  obtain ⟨hv, hj⟩ := cm_in hi1 hi2
  rcases arr with f | f | f | f | f
  · refine va_bast hx hb (ev_K1 hK e2 e3) hP hD hS _ 0 e1 rfl hv hd (fun H1 locs1 hP1 hD1 hS1 => hk _ H1 locs1 ls ⟨hP1, hD1, hS1, cm_w_set hW (cm_kind_at (q := (100 + 1, (cm_kind c).2)) (by rw [← hc1]) (by dsimp only; omega)) ⟨1, by decide, rfl, rfl, e2, e3, by decide, fun j hj => ?_⟩ cm_wi_ne, hL⟩)
    dsimp only [upd, cm_wi, cm_wl]
    by_cases hji : j = i.toNatClampNeg
    · simp [hji]
    · simp only [hji, and_false, if_false]
      exact e4.2 j hj
  · first | exact e4.elim | (have := e4.1; omega)
  · first | exact e4.elim | (have := e4.1; omega)
  · first | exact e4.elim | (have := e4.1; omega)
  · first | exact e4.elim | (have := e4.1; omega)

def cm_lastore : cm_O := ((fun _ _ => some (.lastore, 1, [])), fun E P t S k => match S.2.2.1 with
  | .long x :: .int i :: .ref c :: st => (cm_kind c).1 = 100 + 2 ∧ 0 ≤ i.toInt ∧ i.toInt < ((cm_kind c).2 : Int) ∧ k (S.1 + 1, S.2.1, st, cm_wl S.2.2.2 c i.toNatClampNeg x)
  | _ => False)
theorem cm_lastore_ok : cm_Snd cm_lastore := by
  intro p l e R s m args below meth c cc Q D A adr ce sl E P t S i n cs X h1 hd hw h2 ws H locs ls hR
  obtain ⟨hx, hb, hml, hown, hts, hK, hA, hN, hcC, hcS, hf, hlc, hscr⟩ := X
  obtain ⟨pc, L, st, M⟩ := S
  have h1 : some ((.lastore : Instr), (1 : Nat), ([] : List Cond)) = some (i, n, cs) := h1
  cases h1
  unfold cm_lastore at h2
  dsimp only at h2
  split at h2
  rotate_left
  · exact h2.elim
  rename_i x i c st'
  obtain ⟨hc1, hi1, hi2, hk⟩ := h2
  obtain ⟨hP, hD, hS, hW, hL⟩ := id hR
  obtain ⟨cA, arr, e1, e2, e3, e4⟩ := cm_arr (t := 2) hW (show cm_kind c = (100 + 2, (cm_kind c).2) from by rw [← hc1]) (by decide)
  obtain ⟨hv, hj⟩ := cm_in hi1 hi2
  rcases arr with f | f | f | f | f
  · first | exact e4.elim | (have := e4.1; omega)
  · refine va_last hx hb (ev_K1 hK e2 e3) hP hD hS _ 0 e1 rfl hv hd (fun H1 locs1 hP1 hD1 hS1 => hk _ H1 locs1 ls ⟨hP1, hD1, hS1, cm_w_set hW (cm_kind_at (q := (100 + 2, (cm_kind c).2)) (by rw [← hc1]) (by dsimp only; omega)) ⟨2, by decide, rfl, rfl, e2, e3, by decide, fun j hj => ?_⟩ cm_wl_ne, hL⟩)
    dsimp only [vp_updL, cm_wi, cm_wl]
    by_cases hji : j = i.toNatClampNeg
    · simp [hji]
    · simp only [hji, and_false, if_false]
      exact e4.2 j hj
  · first | exact e4.elim | (have := e4.1; omega)
  · first | exact e4.elim | (have := e4.1; omega)
  · first | exact e4.elim | (have := e4.1; omega)

def cm_alen : cm_O := (ev_alen.1, fun E P t S k => match S.2.2.1 with
  | .ref c :: st => if c = 1000 then (match E with
    | some q => k (cm_adv S 1 (.int (Int32.ofNat q.1) :: st))
    | none => False) else (100 ≤ (cm_kind c).1 ∧ (cm_kind c).1 < 104 ∧ k (cm_adv S 1 (.int (Int32.ofNat (cm_kind c).2) :: st)))
  | _ => False)
theorem cm_alen_ok : cm_Snd cm_alen := by
  intro p l e R s m args below meth c cc Q D A adr ce sl E P t S i n cs X h1 hd hw h2 ws H locs ls hR
  obtain ⟨hx, hb, hml, hown, hts, hK, hA, hN, hcC, hcS, hf, hlc, hscr⟩ := X
  obtain ⟨pc, L, st, M⟩ := S
  have h1 : some ((.arraylength : Instr), (1 : Nat), ([] : List Cond)) = some (i, n, cs) := h1
  cases h1
  unfold cm_alen at h2
  dsimp only at h2
  split at h2
  rotate_left
  · exact h2.elim
  rename_i c st'
  split at h2
  · rename_i hc
    subst hc
    split at h2
    · rename_i q
      exact va_slen hx hb hscr.1 hscr.2.1 hscr.2.2 hR.2.2.1 hd (h2 ws H locs ls hR)
    · exact h2.elim
  · obtain ⟨hc1, hc2, hk⟩ := h2
    obtain ⟨hP, hD, hS, hW, hL⟩ := id hR
    obtain ⟨cA, arr, e1, e2, e3, e4⟩ := cm_arr (t := (cm_kind c).1 - 100) hW (show cm_kind c = (100 + ((cm_kind c).1 - 100), (cm_kind c).2) from Prod.ext (by dsimp only; omega) rfl) (by omega)
    exact va_alen hx hb (ev_K1 hK e2 e3) hP _ 0 e1 rfl rfl hd (hk ws H locs ls hR)

def cm_sald : cm_O := (ev_sald.1, fun E P t S k => match E, S.2.2.1 with
  | some q, .int i :: .ref c :: st => c = 1000 ∧ 0 ≤ i.toInt ∧ i.toInt < (q.1 : Int) ∧ k (cm_adv S 1 (.int (q.2 i.toNatClampNeg) :: st))
  | _, _ => False)
theorem cm_sald_ok : cm_Snd cm_sald := by
  intro p l e R s m args below meth c cc Q D A adr ce sl E P t S i n cs X h1 hd hw h2 ws H locs ls hR
  obtain ⟨hx, hb, hml, hown, hts, hK, hA, hN, hcC, hcS, hf, hlc, hscr⟩ := X
  obtain ⟨pc, L, st, M⟩ := S
  have h1 : some ((.iaload : Instr), (1 : Nat), ([] : List Cond)) = some (i, n, cs) := h1
  cases h1
  unfold cm_sald at h2
  dsimp only at h2
  split at h2
  rotate_left
  · exact h2.elim
  rename_i q i c st'
  obtain ⟨rfl, hi1, hi2, hk⟩ := h2
  exact va_sld hx hb hscr.1 hscr.2.1 hscr.2.2 hR.2.2.1 (cm_in hi1 hi2).1 hd (hk ws H locs ls hR)
/-! CM: constants, texts, statics -/
def cm_ldc : cm_O := (ev_ldc.1, fun E P t S k => k (cm_adv S 2 (.int (Int32.ofInt t.1) :: S.2.2.1)))
theorem cm_ldc_ok : cm_Snd cm_ldc := by
  intro p l e R s m args below meth c cc Q D A adr ce sl E P t S i n cs X h1 hd hw h2 ws H locs ls hR
  obtain ⟨hx, hb, hml, hown, hts, hK, hA, hN, hcC, hcS, hf, hlc, hscr⟩ := X
  obtain ⟨pc, L, st, M⟩ := S
  have h1 : some ((.ldc t.2.1.toNat : Instr), (2 : Nat), ([.constant P.2.2.2.1 t.2.1.toNat (Int32.ofInt t.1)] : List Cond)) = some (i, n, cs) := h1
  cases h1
  exact W.ldc hx hb hown (hts _ (hw _ (List.mem_singleton.mpr rfl))) (g := F0 m pc ls (st.map (cm_v adr))) rfl hd (h2 ws H locs ls hR)

def cm_ldcw : cm_O := (ev_ldcw.1, fun E P t S k => k (cm_adv S 3 (.int (Int32.ofInt t.1) :: S.2.2.1)))
theorem cm_ldcw_ok : cm_Snd cm_ldcw := by
  intro p l e R s m args below meth c cc Q D A adr ce sl E P t S i n cs X h1 hd hw h2 ws H locs ls hR
  obtain ⟨hx, hb, hml, hown, hts, hK, hA, hN, hcC, hcS, hf, hlc, hscr⟩ := X
  obtain ⟨pc, L, st, M⟩ := S
  have h1 : some ((.ldc_w t.2.1.toNat : Instr), (3 : Nat), ([.constant P.2.2.2.1 t.2.1.toNat (Int32.ofInt t.1)] : List Cond)) = some (i, n, cs) := h1
  cases h1
  exact lv_ldcw hx hb hown (hts _ (hw _ (List.mem_singleton.mpr rfl))) hd (h2 ws H locs ls hR)

def cm_ldc2 : cm_O := (ev_ldc2.1, fun E P t S k => k (cm_adv S 3 (.long (Int64.ofInt t.1) :: S.2.2.1)))
theorem cm_ldc2_ok : cm_Snd cm_ldc2 := by
  intro p l e R s m args below meth c cc Q D A adr ce sl E P t S i n cs X h1 hd hw h2 ws H locs ls hR
  obtain ⟨hx, hb, hml, hown, hts, hK, hA, hN, hcC, hcS, hf, hlc, hscr⟩ := X
  obtain ⟨pc, L, st, M⟩ := S
  have h1 : some ((.ldc2_w t.2.1.toNat : Instr), (3 : Nat), ([.constantLong P.2.2.2.1 t.2.1.toNat (Int64.ofInt t.1)] : List Cond)) = some (i, n, cs) := h1
  cases h1
  exact W.ldc2 hx hb hown (hts _ (hw _ (List.mem_singleton.mpr rfl))) (g := F0 m pc ls (st.map (cm_v adr))) rfl hd (h2 ws H locs ls hR)

def cm_ldcS : cm_O := (ev_ldcS.1, fun E P t S k => k (cm_adv S 2 (.ref (1001 + 2 * t.1.toNat) :: S.2.2.1)))
theorem cm_ldcS_ok : cm_Snd cm_ldcS := by
  intro p l e R s m args below meth c cc Q D A adr ce sl E P t S i n cs X h1 hd hw h2 ws H locs ls hR
  obtain ⟨hx, hb, hml, hown, hts, hK, hA, hN, hcC, hcS, hf, hlc, hscr⟩ := X
  obtain ⟨pc, L, st, M⟩ := S
  unfold cm_ldcS ev_ldcS at h1
  dsimp only at h1
  split at h1
  · rename_i r hr
    split at h1
    · rename_i ho
      cases h1
      have hz := hN.1.2.1 _ r hr
      rw [ho] at hz
      have e : 1000 + (1 + 2 * t.1.toNat) = 1001 + 2 * t.1.toNat := by omega
      dsimp only at hz
      rw [e] at hz
      exact va_ldcS hx hb hown hz hd (h2 ws H locs ls hR)
    · cases h1
  · cases h1

theorem cm_str {adr : Nat → Nat} {A : Nat → Prop} {s : State} {c : Nat} (hN : cm_N adr A s s.heap) (h1 : 1001 ≤ c) (h2 : c < 1081) : ∃ r, ev_strs[(c - 1001) / 2]? = some r ∧ (c % 2 = 1 → va_OF "java/lang/String" "coder" "B" (.int 0) (adr c) A s s.heap ∧ va_OF "java/lang/String" "value" "[B" (.ref (adr (c + 1))) (adr c) A s s.heap ∧ va_O "java/lang/String" (adr c) A s s.heap) ∧ (c % 2 = 0 → va_T .byte (adr c) r.2.2.2.length (fun j => .int (r.2.2.2.getD j 0)) A s s.heap) := by
  have hl : (c - 1001) / 2 < ev_strs.length := by
    have : ev_strs.length = 40 := rfl
    omega
  refine ⟨_, List.getElem?_eq_getElem hl, fun h => ?_, fun h => ?_⟩
  · obtain ⟨a1, a2, a3, a4⟩ := hN.1.2.2.1 _ _ (List.getElem?_eq_getElem hl)
    dsimp only at a1 a2 a3
    rw [show 1000 + (1 + 2 * ((c - 1001) / 2)) = c by omega] at a1 a2 a3
    rw [show 1000 + (2 + 2 * ((c - 1001) / 2)) = c + 1 by omega] at a3
    exact ⟨a2, a3, a1⟩
  · obtain ⟨a1, a2, a3, a4⟩ := hN.1.2.2.1 _ _ (List.getElem?_eq_getElem hl)
    dsimp only at a4
    rw [show 1000 + (2 + 2 * ((c - 1001) / 2)) = c by omega] at a4
    exact a4
def cm_getV : cm_O := (ev_getV.1, fun E P t S k => match S.2.2.1 with
  | .ref c :: st => 1001 ≤ c ∧ c < 1081 ∧ c % 2 = 1 ∧ k (cm_adv S 3 (.ref (c + 1) :: st))
  | _ => False)
theorem cm_getV_ok : cm_Snd cm_getV := by
  intro p l e R s m args below meth c cc Q D A adr ce sl E P t S i n cs X h1 hd hw h2 ws H locs ls hR
  obtain ⟨hx, hb, hml, hown, hts, hK, hA, hN, hcC, hcS, hf, hlc, hscr⟩ := X
  obtain ⟨pc, L, st, M⟩ := S
  have h1 : some ((.getfield t.1.toNat : Instr), (3 : Nat), ([.fieldLink P.2.2.2.1 t.1.toNat "java/lang/String" "value" "[B"] : List Cond)) = some (i, n, cs) := h1
  cases h1
  unfold cm_getV at h2
  dsimp only at h2
  split at h2
  rotate_left
  · exact h2.elim
  rename_i c st'
  obtain ⟨q1, q2, q3, hk⟩ := h2
  obtain ⟨r, -, a1, -⟩ := cm_str hN q1 q2
  exact vk_getf hx hb (a1 q3).2.1 hR.2.2.1 hown (hts _ (hw _ (List.mem_singleton.mpr rfl))) (fun _ h => h) hd (hk ws H locs ls hR)

def cm_getC : cm_O := (ev_getC.1, fun E P t S k => match S.2.2.1 with
  | .ref c :: st => 1001 ≤ c ∧ c < 1081 ∧ c % 2 = 1 ∧ k (cm_adv S 3 (.int 0 :: st))
  | _ => False)
theorem cm_getC_ok : cm_Snd cm_getC := by
  intro p l e R s m args below meth c cc Q D A adr ce sl E P t S i n cs X h1 hd hw h2 ws H locs ls hR
  obtain ⟨hx, hb, hml, hown, hts, hK, hA, hN, hcC, hcS, hf, hlc, hscr⟩ := X
  obtain ⟨pc, L, st, M⟩ := S
  have h1 : some ((.getfield t.1.toNat : Instr), (3 : Nat), ([.fieldLink P.2.2.2.1 t.1.toNat "java/lang/String" "coder" "B"] : List Cond)) = some (i, n, cs) := h1
  cases h1
  unfold cm_getC at h2
  dsimp only at h2
  split at h2
  rotate_left
  · exact h2.elim
  rename_i c st'
  obtain ⟨q1, q2, q3, hk⟩ := h2
  obtain ⟨r, -, a1, -⟩ := cm_str hN q1 q2
  exact vk_getf hx hb (a1 q3).1 hR.2.2.1 hown (hts _ (hw _ (List.mem_singleton.mpr rfl))) (fun _ h => h) hd (hk ws H locs ls hR)

def cm_gets : cm_O := (ev_gets.1, fun E P t S k => k (cm_adv S 3 (.int 1 :: S.2.2.1)))
theorem cm_gets_ok : cm_Snd cm_gets := by
  intro p l e R s m args below meth c cc Q D A adr ce sl E P t S i n cs X h1 hd hw h2 ws H locs ls hR
  obtain ⟨hx, hb, hml, hown, hts, hK, hA, hN, hcC, hcS, hf, hlc, hscr⟩ := X
  obtain ⟨pc, L, st, M⟩ := S
  have h1 : some ((.getstatic t.1.toNat : Instr), (3 : Nat), ([.fieldLink P.2.2.2.1 t.1.toNat "java/lang/String" "COMPACT_STRINGS" "Z"] : List Cond)) = some (i, n, cs) := h1
  cases h1
  exact va_gets hx hb hN.1.2.2.2.1 hR.2.2.1 hown (hts _ (hw _ (List.mem_singleton.mpr rfl))) (fun _ h => h) hd (h2 ws H locs ls hR)

def cm_getsF : cm_O := (ev_getsF.1, fun E P t S k => k (cm_adv S 3 (.null :: S.2.2.1)) ∧ k (cm_adv S 3 (.ref 1101 :: S.2.2.1)))
theorem cm_getsF_ok : cm_Snd cm_getsF := by
  intro p l e R s m args below meth c cc Q D A adr ce sl E P t S i n cs X h1 hd hw h2 ws H locs ls hR
  obtain ⟨hx, hb, hml, hown, hts, hK, hA, hN, hcC, hcS, hf, hlc, hscr⟩ := X
  obtain ⟨pc, L, st, M⟩ := S
  have h1 : some ((.getstatic t.1.toNat : Instr), (3 : Nat), ([.fieldLink P.2.2.2.1 t.1.toNat "jdk/internal/util/Preconditions" "SIOOBE_FORMATTER" "Ljava/util/function/BiFunction;"] : List Cond)) = some (i, n, cs) := h1
  cases h1
  rcases hN.2.2.2 with hz | hz
  · exact va_gets hx hb hz hR.2.2.1 hown (hts _ (hw _ (List.mem_singleton.mpr rfl))) (fun _ h => h) hd (h2.1 ws H locs ls hR)
  · exact va_gets hx hb hz hR.2.2.1 hown (hts _ (hw _ (List.mem_singleton.mpr rfl))) (fun _ h => h) hd (h2.2 ws H locs ls hR)

def cm_alenS : cm_O := (ev_alenS.1, fun E P t S k => match S.2.2.1 with
  | .ref c :: st => (match ev_strs[(c - 1001) / 2]? with
    | some r => 1001 ≤ c ∧ c < 1081 ∧ c % 2 = 0 ∧ k (cm_adv S 1 (.int (Int32.ofNat r.2.2.2.length) :: st))
    | none => False)
  | _ => False)
theorem cm_alenS_ok : cm_Snd cm_alenS := by
  intro p l e R s m args below meth c cc Q D A adr ce sl E P t S i n cs X h1 hd hw h2 ws H locs ls hR
  obtain ⟨hx, hb, hml, hown, hts, hK, hA, hN, hcC, hcS, hf, hlc, hscr⟩ := X
  obtain ⟨pc, L, st, M⟩ := S
  have h1 : some ((.arraylength : Instr), (1 : Nat), ([] : List Cond)) = some (i, n, cs) := h1
  cases h1
  unfold cm_alenS at h2
  dsimp only at h2
  split at h2
  rotate_left
  · exact h2.elim
  rename_i c st'
  split at h2
  · rename_i r hr
    obtain ⟨q1, q2, q3, hk⟩ := h2
    obtain ⟨r', hr', -, a1⟩ := cm_str hN q1 q2
    rw [hr] at hr'
    cases hr'
    exact va_tlen hx hb (a1 q3) hR.2.2.1 rfl hd (hk ws H locs ls hR)
  · exact h2.elim

def cm_baloadS : cm_O := (ev_baloadS.1, fun E P t S k => match S.2.2.1 with
  | .int i :: .ref c :: st => (match ev_strs[(c - 1001) / 2]? with
    | some r => 1001 ≤ c ∧ c < 1081 ∧ c % 2 = 0 ∧ 0 ≤ i.toInt ∧ i.toInt < (r.2.2.2.length : Int) ∧ k (cm_adv S 1 (.int (r.2.2.2.getD i.toNatClampNeg 0) :: st))
    | none => False)
  | _ => False)
theorem cm_baloadS_ok : cm_Snd cm_baloadS := by
  intro p l e R s m args below meth c cc Q D A adr ce sl E P t S i n cs X h1 hd hw h2 ws H locs ls hR
  obtain ⟨hx, hb, hml, hown, hts, hK, hA, hN, hcC, hcS, hf, hlc, hscr⟩ := X
  obtain ⟨pc, L, st, M⟩ := S
  have h1 : some ((.baload : Instr), (1 : Nat), ([] : List Cond)) = some (i, n, cs) := h1
  cases h1
  unfold cm_baloadS at h2
  dsimp only at h2
  split at h2
  rotate_left
  · exact h2.elim
  rename_i i c st'
  split at h2
  · rename_i r hr
    obtain ⟨q1, q2, q3, q4, q5, hk⟩ := h2
    obtain ⟨r', hr', -, a1⟩ := cm_str hN q1 q2
    rw [hr] at hr'
    cases hr'
    exact va_tb hx hb (a1 q3) hR.2.2.1 (by rw [vp_in_iff]; exact ⟨q4, q5⟩) rfl hd (hk ws H locs ls hR)
  · exact h2.elim

set_option maxRecDepth 1000000 in
theorem cm_tl : Cond.fieldLinkNest "BarberMinutes$Agenda" 18 "BarberMinutes" "TENS" "[I" "BarberMinutes" ∈ lw_nest := List.mem_filter.mpr ⟨List.mem_of_getElem? (i := 899) (by decide +kernel), rfl⟩
def cm_getT : cm_O := ((fun P _ => if P.2.2.2.1 = "BarberMinutes$Agenda" then some (.getstatic 18, 3, []) else none), fun E P t S k => k (cm_adv S 3 (.ref 1100 :: S.2.2.1)))
theorem cm_getT_ok : cm_Snd cm_getT := by
  intro p l e R s m args below meth c cc Q D A adr ce sl E P t S i n cs X h1 hd hw h2 ws H locs ls hR
  obtain ⟨hx, hb, hml, hown, hts, hK, hA, hN, hcC, hcS, hf, hlc, hscr⟩ := X
  obtain ⟨pc, L, st, M⟩ := S
  have h1 : (if P.2.2.2.1 = "BarberMinutes$Agenda" then some ((.getstatic 18 : Instr), (3 : Nat), ([] : List Cond)) else none) = some (i, n, cs) := h1
  split at h1
  · rename_i ho
    cases h1
    rw [ho] at hown
    exact va_getsN hx hb hN.2.1 hR.2.2.1 hown (va_Nw.use rfl (hN.1.1.1 _ cm_tl)) (fun _ h => h) hd (h2 ws H locs ls hR)
  · cases h1

def cm_tald : cm_O := ((fun _ _ => some (.iaload, 1, [])), fun E P t S k => match S.2.2.1 with
  | .int i :: .ref c :: st => c = 1100 ∧ 0 ≤ i.toInt ∧ i.toInt < 5 ∧ k (cm_adv S 1 (.int (cm_tens i.toNatClampNeg) :: st))
  | _ => False)
theorem cm_tald_ok : cm_Snd cm_tald := by
  intro p l e R s m args below meth c cc Q D A adr ce sl E P t S i n cs X h1 hd hw h2 ws H locs ls hR
  obtain ⟨hx, hb, hml, hown, hts, hK, hA, hN, hcC, hcS, hf, hlc, hscr⟩ := X
  obtain ⟨pc, L, st, M⟩ := S
  have h1 : some ((.iaload : Instr), (1 : Nat), ([] : List Cond)) = some (i, n, cs) := h1
  cases h1
  unfold cm_tald at h2
  dsimp only at h2
  split at h2
  rotate_left
  · exact h2.elim
  rename_i i c st'
  obtain ⟨rfl, q4, q5, hk⟩ := h2
  exact va_ti hx hb hN.2.2.1 hR.2.2.1 (by rw [vp_in_iff]; exact ⟨q4, q5⟩) rfl hd (hk ws H locs ls hR)

def cm_alenT : cm_O := ((fun _ _ => some (.arraylength, 1, [])), fun E P t S k => match S.2.2.1 with
  | .ref c :: st => c = 1100 ∧ k (cm_adv S 1 (.int 5 :: st))
  | _ => False)
theorem cm_alenT_ok : cm_Snd cm_alenT := by
  intro p l e R s m args below meth c cc Q D A adr ce sl E P t S i n cs X h1 hd hw h2 ws H locs ls hR
  obtain ⟨hx, hb, hml, hown, hts, hK, hA, hN, hcC, hcS, hf, hlc, hscr⟩ := X
  obtain ⟨pc, L, st, M⟩ := S
  have h1 : some ((.arraylength : Instr), (1 : Nat), ([] : List Cond)) = some (i, n, cs) := h1
  cases h1
  unfold cm_alenT at h2
  dsimp only at h2
  split at h2
  rotate_left
  · exact h2.elim
  rename_i c st'
  obtain ⟨rfl, hk⟩ := h2
  exact va_tlen hx hb hN.2.2.1 hR.2.2.1 rfl hd (hk ws H locs ls hR)

/-! CM: methods of the library by one row -/
def cm_cs (st : List Value) : Nat := (st.map fun v => v.category).sum
def cm_mmin : cm_O := (ev_mmin.1, fun E P t S k => match S.2.2.1 with
  | .int y :: .int x :: st => cm_cs st ≤ 8 ∧ k (cm_adv S 3 (.int (if y < x then y else x) :: st))
  | _ => False)
theorem cm_mmin_ok : cm_Snd cm_mmin := by
  intro p l e R s m args below meth c cc Q D A adr ce sl E P t S i n cs X h1 hd hw h2 ws H locs ls hR
  obtain ⟨hx, hb, hml, hown, hts, hK, hA, hN, hcC, hcS, hf, hlc, hscr⟩ := X
  obtain ⟨pc, L, st, M⟩ := S
  have h1 : some ((.invokestatic t.1.toNat : Instr), (3 : Nat), ([.methodLink P.2.2.2.1 t.1.toNat Lib.Math.min.name, .static Lib.Math.min.name, .initialized "java/lang/Math", .code Lib.Math.min.name Lib.Math.min.code 2 (some .int)] : List Cond)) = some (i, n, cs) := h1
  cases h1
  unfold cm_mmin at h2
  dsimp only at h2
  split at h2
  rotate_left
  · exact h2.elim
  rename_i y x st'
  obtain ⟨q1, hk⟩ := h2
  have hsum : (((st'.map (cm_v adr)).map fun v => v.category).sum) ≤ 8 := by rw [cm_v_cats]; exact q1
  exact va_mmin hx hb (hml.trans hR.2.2.2.2.1.symm) hown (hts _ (hw _ (by simp))) (hts _ (hw _ (by simp))) (hts _ (hw _ (by simp))) (hts _ (hw _ (by simp))) hf (by omega) hcC hcS hd (hk ws H locs ls hR)

def cm_mmax : cm_O := ((fun P t => some (.invokestatic t.1.toNat, 3, [.methodLink P.2.2.2.1 t.1.toNat Lib.Math.max.name, .static Lib.Math.max.name, .initialized "java/lang/Math", .code Lib.Math.max.name Lib.Math.max.code 2 (some .int)])), fun E P t S k => match S.2.2.1 with
  | .int y :: .int x :: st => cm_cs st ≤ 8 ∧ k (cm_adv S 3 (.int (if x < y then y else x) :: st))
  | _ => False)
theorem cm_mmax_ok : cm_Snd cm_mmax := by
  intro p l e R s m args below meth c cc Q D A adr ce sl E P t S i n cs X h1 hd hw h2 ws H locs ls hR
  obtain ⟨hx, hb, hml, hown, hts, hK, hA, hN, hcC, hcS, hf, hlc, hscr⟩ := X
  obtain ⟨pc, L, st, M⟩ := S
  have h1 : some ((.invokestatic t.1.toNat : Instr), (3 : Nat), ([.methodLink P.2.2.2.1 t.1.toNat Lib.Math.max.name, .static Lib.Math.max.name, .initialized "java/lang/Math", .code Lib.Math.max.name Lib.Math.max.code 2 (some .int)] : List Cond)) = some (i, n, cs) := h1
  cases h1
  unfold cm_mmax at h2
  dsimp only at h2
  split at h2
  rotate_left
  · exact h2.elim
  rename_i y x st'
  obtain ⟨q1, hk⟩ := h2
  have hsum : (((st'.map (cm_v adr)).map fun v => v.category).sum) ≤ 8 := by rw [cm_v_cats]; exact q1
  exact va_mmax hx hb (hml.trans hR.2.2.2.2.1.symm) hown (hts _ (hw _ (by simp))) (hts _ (hw _ (by simp))) (hts _ (hw _ (by simp))) (hts _ (hw _ (by simp))) hf (by omega) hcC hcS hd (hk ws H locs ls hR)

def cm_mabs : cm_O := ((fun P t => some (.invokestatic t.1.toNat, 3, [.methodLink P.2.2.2.1 t.1.toNat Lib.Math.abs.name, .static Lib.Math.abs.name, .initialized "java/lang/Math", .code Lib.Math.abs.name Lib.Math.abs.code 1 (some .int)])), fun E P t S k => match S.2.2.1 with
  | .int x :: st => cm_cs st ≤ 8 ∧ k (cm_adv S 3 (.int (if 0 ≤ x then x else 0 - x) :: st))
  | _ => False)
theorem cm_mabs_ok : cm_Snd cm_mabs := by
  intro p l e R s m args below meth c cc Q D A adr ce sl E P t S i n cs X h1 hd hw h2 ws H locs ls hR
  obtain ⟨hx, hb, hml, hown, hts, hK, hA, hN, hcC, hcS, hf, hlc, hscr⟩ := X
  obtain ⟨pc, L, st, M⟩ := S
  have h1 : some ((.invokestatic t.1.toNat : Instr), (3 : Nat), ([.methodLink P.2.2.2.1 t.1.toNat Lib.Math.abs.name, .static Lib.Math.abs.name, .initialized "java/lang/Math", .code Lib.Math.abs.name Lib.Math.abs.code 1 (some .int)] : List Cond)) = some (i, n, cs) := h1
  cases h1
  unfold cm_mabs at h2
  dsimp only at h2
  split at h2
  rotate_left
  · exact h2.elim
  rename_i x st'
  obtain ⟨q1, hk⟩ := h2
  have hsum : (((st'.map (cm_v adr)).map fun v => v.category).sum) ≤ 8 := by rw [cm_v_cats]; exact q1
  exact va_mabs hx hb (hml.trans hR.2.2.2.2.1.symm) hown (hts _ (hw _ (by simp))) (hts _ (hw _ (by simp))) (hts _ (hw _ (by simp))) (hts _ (hw _ (by simp))) hf (by omega) hcC hcS hd (hk ws H locs ls hR)

def cm_copyi : cm_O := ((fun P t => some (.invokestatic t.1.toNat, 3, [.methodLink P.2.2.2.1 t.1.toNat arraycopyName, .native arraycopyName, .static arraycopyName, .initialized "java/lang/System"])), fun E P t S k => match S.2.2.1 with
  | .int n :: .int dp :: .ref d :: .int sp :: .ref c :: st => cm_cs st ≤ 8 ∧ (cm_kind c).1 = 100 ∧ (cm_kind d).1 = 100 ∧ 0 ≤ sp.toInt ∧ 0 ≤ dp.toInt ∧ 0 ≤ n.toInt ∧ sp.toInt + n.toInt ≤ ((cm_kind c).2 : Int) ∧ dp.toInt + n.toInt ≤ ((cm_kind d).2 : Int) ∧ k (S.1 + 3, S.2.1, st, cm_cp S.2.2.2 c sp.toNatClampNeg d dp.toNatClampNeg n.toNatClampNeg)
  | _ => False)
theorem cm_copyi_ok : cm_Snd cm_copyi := by
  intro p l e R s m args below meth c cc Q D A adr ce sl E P t S i n cs X h1 hd hw h2 ws H locs ls hR
  obtain ⟨hx, hb, hml, hown, hts, hK, hA, hN, hcC, hcS, hf, hlc, hscr⟩ := X
  obtain ⟨pc, L, st, M⟩ := S
  have h1 : some ((.invokestatic t.1.toNat : Instr), (3 : Nat), ([.methodLink P.2.2.2.1 t.1.toNat arraycopyName, .native arraycopyName, .static arraycopyName, .initialized "java/lang/System"] : List Cond)) = some (i, n, cs) := h1
  cases h1
  unfold cm_copyi at h2
  dsimp only at h2
  split at h2
  rotate_left
  · exact h2.elim
  rename_i n dp d sp c st'
  obtain ⟨q1, k1, k2, z1, z2, z3, z4, z5, hk⟩ := h2
  obtain ⟨hP, hD, hS, hW, hL⟩ := id hR
  have hsum : (((st'.map (cm_v adr)).map fun v => v.category).sum) ≤ 8 := by rw [cm_v_cats]; exact q1
  obtain ⟨cA, arr, e1, e2, e3, e4⟩ := cm_arr (t := 0) hW (show cm_kind c = (100 + 0, (cm_kind c).2) from Prod.ext k1 rfl) (by decide)
  obtain ⟨dA, brr, d1, d2, d3, d4⟩ := cm_arr (t := 0) hW (show cm_kind d = (100 + 0, (cm_kind d).2) from Prod.ext k2 rfl) (by decide)
  have nn : ∀ z : Int32, 0 ≤ z.toInt → z.toInt = (z.toNatClampNeg : Int) := by
    intro z hz
    show z.toInt = ((z.toInt.toNat : Nat) : Int)
    omega
  have y1 := nn sp z1
  have y2 := nn dp z2
  have y3 := nn n z3
  have hK2 : va_K D vwCl [(cA, .int), (dA, .int)] s := ⟨hK.1, fun j q hq => by
    have hz : j < 2 := (List.getElem?_eq_some_iff.mp hq).1
    have : j = 0 ∨ j = 1 := by omega
    rcases this with rfl | rfl
    · cases hq; exact ⟨e2, e3⟩
    · cases hq; exact ⟨d2, d3⟩⟩
  cases arr with
  | inr z => rcases z with z | z | z | z <;> first | exact e4.elim | (have := e4.1; omega)
  | inl f =>
    cases brr with
    | inr z => rcases z with z | z | z | z <;> first | exact d4.elim | (have := d4.1; omega)
    | inl g =>
      refine va_copyi hx hb (hml.trans hL.1.symm) hown (hts _ (hw _ (by simp))) (hts _ (hw _ (by simp))) (hts _ (hw _ (by simp))) (hts _ (hw _ (by simp))) hK2 hP hD hS c d 0 1 e1 d1 rfl rfl rfl (ev_nn z1) (ev_nn z2) (ev_nn z3) (by omega) (by omega) (fun _ _ => rfl) hf ?_ hd (fun H1 locs1 hP1 hD1 hS1 => hk _ H1 locs1 ls ⟨hP1, hD1, hS1, cm_w_set hW (cm_kind_at (q := (100 + 0, (cm_kind d).2)) (Prod.ext k2 rfl) (by dsimp only; omega)) ⟨0, by decide, rfl, rfl, d2, d3, by decide, fun j hj => ?_⟩ cm_cp_ne, hL⟩)
      · have : nativeFrameWords "java/lang/System" "arraycopy" 5 ≤ 20 := by decide +kernel
        omega
      · dsimp only [va_cpy, cm_cp] at hj ⊢
        by_cases hq : dp.toNatClampNeg ≤ j ∧ j < dp.toNatClampNeg + n.toNatClampNeg
        · rw [if_pos hq, if_pos ⟨rfl, hq⟩]
          exact e4.2 _ (by omega)
        · rw [if_neg hq, if_neg (fun z => hq z.2)]
          exact d4.2 _ hj
/-! CM: runs -/
def cm_no : cm_O := (fun _ _ => none, fun _ _ _ _ _ => False)
theorem cm_no_ok : cm_Snd cm_no := fun p l e R s m args below meth c cc Q D A adr ce sl E P t S i n cs X h1 => by cases h1
def cm_ops : List cm_O := [cm_iconst, cm_bipush, cm_sipush, cm_lconst, cm_iload, cm_iloadn, cm_lload, cm_lloadn, cm_aload, cm_aloadn, cm_istore, cm_istoren, cm_lstore, cm_lstoren, cm_astore, cm_astoren, cm_iadd, cm_isub, cm_imul, cm_iand, cm_ior, cm_ixor, cm_ishl, cm_ishr, cm_iushr, cm_idiv, cm_irem, cm_ineg, cm_i2b, cm_i2l, cm_lcmp, cm_dup, cm_pop, cm_dup2, cm_iinc, cm_icmp_eq, cm_icmp_ne, cm_icmp_lt, cm_icmp_ge, cm_icmp_gt, cm_icmp_le, cm_if_eq, cm_if_ne, cm_if_lt, cm_if_ge, cm_if_gt, cm_if_le, cm_goto, cm_sw, cm_get, cm_put, cm_no, cm_iaload, cm_baload, cm_laload, cm_aaload, cm_iastore, cm_bastore, cm_no, cm_no, cm_no, cm_no, cm_no, cm_no, cm_alen, cm_sald, cm_no, cm_mmin, cm_ldc, cm_ldcS, cm_getV, cm_getC, cm_gets, cm_alenS, cm_baloadS, cm_i2c, cm_ladd, cm_lsub, cm_lmul, cm_ldiv, cm_lrem, cm_ldc2, cm_getsF, cm_ldcw, cm_mmax, cm_mabs, cm_copyi, cm_getT, cm_tald, cm_alenT, cm_lastore, cm_pop2]
theorem cm_c1 {o : cm_O} {l : List cm_O} (h : cm_Snd o) (h2 : ∀ o ∈ l, cm_Snd o) : ∀ o' ∈ o :: l, cm_Snd o' := List.forall_mem_cons.mpr ⟨h, h2⟩
theorem cm_ops_ok : ∀ o ∈ cm_ops, cm_Snd o := cm_c1 cm_iconst_ok (cm_c1 cm_bipush_ok (cm_c1 cm_sipush_ok (cm_c1 cm_lconst_ok (cm_c1 cm_iload_ok (cm_c1 cm_iloadn_ok (cm_c1 cm_lload_ok (cm_c1 cm_lloadn_ok (cm_c1 cm_aload_ok (cm_c1 cm_aloadn_ok (cm_c1 cm_istore_ok (cm_c1 cm_istoren_ok (cm_c1 cm_lstore_ok (cm_c1 cm_lstoren_ok (cm_c1 cm_astore_ok (cm_c1 cm_astoren_ok (cm_c1 cm_iadd_ok (cm_c1 cm_isub_ok (cm_c1 cm_imul_ok (cm_c1 cm_iand_ok (cm_c1 cm_ior_ok (cm_c1 cm_ixor_ok (cm_c1 cm_ishl_ok (cm_c1 cm_ishr_ok (cm_c1 cm_iushr_ok (cm_c1 cm_idiv_ok (cm_c1 cm_irem_ok (cm_c1 cm_ineg_ok (cm_c1 cm_i2b_ok (cm_c1 cm_i2l_ok (cm_c1 cm_lcmp_ok (cm_c1 cm_dup_ok (cm_c1 cm_pop_ok (cm_c1 cm_dup2_ok (cm_c1 cm_iinc_ok (cm_c1 cm_icmp_eq_ok (cm_c1 cm_icmp_ne_ok (cm_c1 cm_icmp_lt_ok (cm_c1 cm_icmp_ge_ok (cm_c1 cm_icmp_gt_ok (cm_c1 cm_icmp_le_ok (cm_c1 cm_if_eq_ok (cm_c1 cm_if_ne_ok (cm_c1 cm_if_lt_ok (cm_c1 cm_if_ge_ok (cm_c1 cm_if_gt_ok (cm_c1 cm_if_le_ok (cm_c1 cm_goto_ok (cm_c1 cm_sw_ok (cm_c1 cm_get_ok (cm_c1 cm_put_ok (cm_c1 cm_no_ok (cm_c1 cm_iaload_ok (cm_c1 cm_baload_ok (cm_c1 cm_laload_ok (cm_c1 cm_aaload_ok (cm_c1 cm_iastore_ok (cm_c1 cm_bastore_ok (cm_c1 cm_no_ok (cm_c1 cm_no_ok (cm_c1 cm_no_ok (cm_c1 cm_no_ok (cm_c1 cm_no_ok (cm_c1 cm_no_ok (cm_c1 cm_alen_ok (cm_c1 cm_sald_ok (cm_c1 cm_no_ok (cm_c1 cm_mmin_ok (cm_c1 cm_ldc_ok (cm_c1 cm_ldcS_ok (cm_c1 cm_getV_ok (cm_c1 cm_getC_ok (cm_c1 cm_gets_ok (cm_c1 cm_alenS_ok (cm_c1 cm_baloadS_ok (cm_c1 cm_i2c_ok (cm_c1 cm_ladd_ok (cm_c1 cm_lsub_ok (cm_c1 cm_lmul_ok (cm_c1 cm_ldiv_ok (cm_c1 cm_lrem_ok (cm_c1 cm_ldc2_ok (cm_c1 cm_getsF_ok (cm_c1 cm_ldcw_ok (cm_c1 cm_mmax_ok (cm_c1 cm_mabs_ok (cm_c1 cm_copyi_ok (cm_c1 cm_getT_ok (cm_c1 cm_tald_ok (cm_c1 cm_alenT_ok (cm_c1 cm_lastore_ok (cm_c1 cm_pop2_ok (fun _ h => absurd h List.not_mem_nil))))))))))))))))))))))))))))))))))))))))))))))))))))))))))))))))))))))))))))))))))))))))))))
/-- what an instruction's row says -/
def cm_rowI (ms : List ev_MI) (P : ev_P) (r : ev_Row) : Option (Instr × Nat × List Cond) :=
  match r.1 with
  | 200 => (match ms[r.2.1.toNat]? with
    | some mi => some (.invokevirtual r.2.2.1.toNat, 3, [.methodLink P.2.2.2.1 r.2.2.1.toNat mi.1, .instanceMethod mi.1, .selects mi.1.cls mi.1 mi.1, .initialized mi.1.cls])
    | none => none)
  | 201 => (match ms[r.2.1.toNat]? with
    | some mi => some (.invokestatic r.2.2.1.toNat, 3, [.methodLink P.2.2.2.1 r.2.2.1.toNat mi.1, .static mi.1, .initialized mi.1.cls])
    | none => none)
  | 210 => some (.ireturn, 1, [])
  | 211 => some (.lreturn, 1, [])
  | 212 => some (.areturn, 1, [])
  | 213 => some (.return_, 1, [])
  | k => (match cm_ops[k]? with
    | some o => o.1 P r.2
    | none => none)
def cm_RowOK (ms : List ev_MI) (P : ev_P) (cc : ByteArray) (q : Nat × ev_Row) : Prop := ∃ i n cs, cm_rowI ms P q.2 = some (i, n, cs) ∧ decode cc q.1 = .ok (i, n) ∧ ∀ w ∈ cs, w ∈ lw_good
def cm_P (mi : ev_MI) : ev_P := (0, 0, false, mi.1.cls, mi.2.2.1, 0)
/-- a method is right: its code, its rows -/
def cm_MOK (ms : List ev_MI) (mi : ev_MI) : Prop :=
  plainName mi.1.cls = true ∧ Cond.code mi.1 mi.2.1 mi.2.2.1 mi.2.2.2.1 ∈ lw_good ∧ mi.2.2.1 ≤ 21 ∧ (mi.1.cls ≠ "java/lang/invoke/MethodHandle" ∧ mi.1.cls ≠ "java/lang/invoke/VarHandle") ∧ ∀ q ∈ mi.2.2.2.2.2.2, cm_RowOK ms (cm_P mi) mi.2.1 q
def cm_args : Nat → List Value → List (Nat × Value)
  | _, [] => []
  | i, a :: as => (i, a) :: cm_args (i + a.category) as
def cm_take (recv : Bool) (n : Nat) (st : List Value) : Option (List Value × List Value) :=
  if recv = true then (match st.drop n with
    | x :: rest => if (st.take n).length = n then some (x :: (st.take n).reverse, rest) else none
    | [] => none)
  else (if (st.take n).length = n then some ((st.take n).reverse, st.drop n) else none)
/-- the receiver is of the class -/
def cm_recv (cls : String) : List Value → Prop
  | .ref c :: _ => (1001 ≤ c ∧ c < 1081 ∧ c % 2 = 1 ∧ cls = "java/lang/String") ∨ (vwCl[(cm_kind c).1]?).map (fun q => q.1) = some cls
  | _ => False
abbrev cm_K : Type := Option Value → cm_M → Prop
/-- calls: method, arguments, memory, what is wanted of its answer and of the memory behind it -/
abbrev cm_C : Type := Nat → List Value → cm_M → cm_K → Prop
def cm_inv (ms : List ev_MI) (C : cm_C) (r : ev_Row) (S : cm_S) (k : cm_S → Prop) : Prop :=
  match ms[r.2.1.toNat]? with
  | some mi => (match cm_take (!(r.1 == 201)) r.2.2.2.1.toNat S.2.2.1 with
    | some (as, rest) => cm_cs rest ≤ 8 ∧ ev_nar1 mi.1 r.2.2.2.1.toNat = true ∧ (r.1 = 200 → cm_recv mi.1.cls as) ∧ C r.2.1.toNat as S.2.2.2 (fun v M' => k (S.1 + 3, S.2.1, v.toList ++ rest, M'))
    | none => False)
  | none => False
/-- stops, with the locals that are told there -/
def cm_pick (L : List (Nat × Value)) : List Nat → Option (List (Nat × Value))
  | [] => some []
  | i :: r => match cm_look L i, cm_pick L r with
    | some v, some l => some ((i, v) :: l)
    | _, _ => none
def cm_stop (stops : List (Nat × List Nat)) (J : cm_S → Prop) (k : cm_S → Prop) (S : cm_S) : Prop := match ev_at stops S.1 with
  | none => k S
  | some live => (match cm_pick S.2.1 live with
    | some L => J (S.1, L, S.2.2)
    | none => False)
/-- what must hold for a run to be good: Z at an instruction that returns, J at a stop -/
def cm_wp (ms : List ev_MI) (C : cm_C) (E : cm_E) (P : ev_P) (rows : List (Nat × ev_Row)) (stops : List (Nat × List Nat)) (J : cm_S → Prop) (Z : Nat → cm_S → Prop) : Nat → cm_S → Prop
  | 0, _ => False
  | n + 1, S => match ev_at rows S.1 with
    | none => False
    | some r =>
      if 210 ≤ r.1 then Z r.1 S
      else if 200 ≤ r.1 then cm_inv ms C r S (cm_stop stops J (cm_wp ms C E P rows stops J Z n))
      else (match cm_ops[r.1]? with
        | some o => o.2 E P r.2 S (cm_stop stops J (cm_wp ms C E P rows stops J Z n))
        | none => False)
/-- a method's end: its answer -/
def cm_ret (ret : Option FieldType) (Post : cm_K) (op : Nat) (S : cm_S) : Prop := match op, ret, S.2.2.1 with
  | 210, some .int, [.int x] => Post (some (.int x)) S.2.2.2
  | 210, some .boolean, [.int x] => (x = 0 ∨ x = 1) ∧ Post (some (.int x)) S.2.2.2
  | 210, some .char, [.int x] => 0 ≤ x.toInt ∧ x.toInt < 65536 ∧ Post (some (.int x)) S.2.2.2
  | 210, some .byte, [.int x] => x = 0 ∧ Post (some (.int x)) S.2.2.2
  | 211, some .long, [.long x] => Post (some (.long x)) S.2.2.2
  | 212, some (.object _), [.ref x] => Post (some (.ref x)) S.2.2.2
  | 213, none, [] => Post none S.2.2.2
  | _, _, _ => False
def cm_rm (d : Nat) : Room := { frames := d + 1, cells := 0, slots := 0, locals := 40 * (d + 1) }
def cm_Q (D : va_G) (adr : Nat → Nat) (A : Nat → Prop) (Post : cm_K) : Array Value → State → Outcome → State → Prop := fun _ st oc t =>
  (∃ (v : Option Value) (M' : cm_M) (ws' : va_W), Post v M' ∧ oc = .returned (v.map (cm_v adr)) ∧ va_P D vwCl ws' t.heap ∧ va_D A ws' ∧ cm_w t adr M' ws') ∧ va_F A st t
def cm_Pb (D : va_G) (adr : Nat → Nat) (ws : va_W) (sz : Nat) (M : cm_M) (U : State) : Prop := U.heap.size = sz ∧ va_P D vwCl ws U.heap ∧ va_K D vwCl [] U ∧ va_D (fun _ => True) ws ∧ cm_w U adr M ws ∧ cm_N adr (va_A ws sz) U U.heap
def cm_Met (l : Launch) (mi : ev_MI) (d : Nat) (D : va_G) (adr : Nat → Nat) (ws : va_W) (sz : Nat) (as : List Value) (M : cm_M) (Post : cm_K) : Prop :=
  Met l mi.1 (Cond.code mi.1 mi.2.1 mi.2.2.1 mi.2.2.2.1 :: lw_good) (cm_rm d) (va_Pc (as.map (cm_v adr)) (cm_Pb D adr ws sz M)) (cm_Q D adr (va_A ws sz) Post) 0 0 (va_A ws sz)
/-- a call is good, at a depth -/
def cm_Call0 (ms : List ev_MI) (d : Nat) : cm_C := fun k as M Post => ∃ mi d' P0, ms[k]? = some mi ∧ d' + 1 ≤ d ∧ (∀ v M', P0 v M' → Post v M') ∧ ∀ (l : Launch) (D : va_G) (adr : Nat → Nat) (ws : va_W) (sz : Nat), cm_Met l mi d' D adr ws sz as M P0
theorem cm_Call_up0 {ms : List ev_MI} {d e k : Nat} {as : List Value} {M : cm_M} {Post Post' : cm_K} (h : cm_Call0 ms d k as M Post) (hd : d ≤ e) (hp : ∀ v M', Post v M' → Post' v M') : cm_Call0 ms e k as M Post' := by
  obtain ⟨mi, d', P0, h1, h2, h3, h4⟩ := h
  exact ⟨mi, d', P0, h1, by omega, fun v M' q => hp v M' (h3 v M' q), h4⟩
theorem cm_Q_im {D : va_G} {adr : Nat → Nat} {A : Nat → Prop} {P1 P2 : cm_K} (h : ∀ v M, P1 v M → P2 v M) {a : Array Value} {s : State} {o : Outcome} {t : State} (hq : cm_Q D adr A P1 a s o t) : cm_Q D adr A P2 a s o t := by
  obtain ⟨⟨v, M', ws', p1, p2⟩, p3⟩ := hq
  exact ⟨⟨v, M', ws', h _ _ p1, p2⟩, p3⟩
/-! CM: what is wanted may grow -/
def cm_Mon (o : cm_O) : Prop := ∀ (E : cm_E) (P : ev_P) (t : ev_T) (S : cm_S) (k1 k2 : cm_S → Prop), o.2 E P t S k1 → (∀ S, k1 S → k2 S) → o.2 E P t S k2
theorem cm_no_im : cm_Mon cm_no := fun E P t S k1 k2 h hk => h.elim
theorem cm_iconst_im : cm_Mon cm_iconst := by
  intro E P t S k1 k2 h hk
  obtain ⟨pc, L, st, M⟩ := S
  unfold cm_iconst at h ⊢
  dsimp only at h ⊢
  first | exact h.elim | exact hk _ h | exact ⟨h.1, hk _ h.2⟩ | exact ⟨h.1, h.2.1, hk _ h.2.2⟩ | exact ⟨h.1, h.2.1, h.2.2.1, hk _ h.2.2.2⟩ | exact ⟨h.1, h.2.1, h.2.2.1, h.2.2.2.1, hk _ h.2.2.2.2⟩ | exact ⟨h.1, h.2.1, h.2.2.1, h.2.2.2.1, h.2.2.2.2.1, hk _ h.2.2.2.2.2⟩ | exact ⟨h.1, h.2.1, h.2.2.1, h.2.2.2.1, h.2.2.2.2.1, h.2.2.2.2.2.1, h.2.2.2.2.2.2.1, h.2.2.2.2.2.2.2.1, hk _ h.2.2.2.2.2.2.2.2⟩ | exact ⟨h.1, fun q => hk _ (h.2.1 q), fun q => hk _ (h.2.2 q)⟩ | exact ⟨h.1, h.2.1, h.2.2.1, fun q => hk _ (h.2.2.2.1 q), fun j o q1 q2 => hk _ (h.2.2.2.2 j o q1 q2)⟩ | exact ⟨hk _ h.1, hk _ h.2⟩

theorem cm_bipush_im : cm_Mon cm_bipush := by
  intro E P t S k1 k2 h hk
  obtain ⟨pc, L, st, M⟩ := S
  unfold cm_bipush at h ⊢
  dsimp only at h ⊢
  first | exact h.elim | exact hk _ h | exact ⟨h.1, hk _ h.2⟩ | exact ⟨h.1, h.2.1, hk _ h.2.2⟩ | exact ⟨h.1, h.2.1, h.2.2.1, hk _ h.2.2.2⟩ | exact ⟨h.1, h.2.1, h.2.2.1, h.2.2.2.1, hk _ h.2.2.2.2⟩ | exact ⟨h.1, h.2.1, h.2.2.1, h.2.2.2.1, h.2.2.2.2.1, hk _ h.2.2.2.2.2⟩ | exact ⟨h.1, h.2.1, h.2.2.1, h.2.2.2.1, h.2.2.2.2.1, h.2.2.2.2.2.1, h.2.2.2.2.2.2.1, h.2.2.2.2.2.2.2.1, hk _ h.2.2.2.2.2.2.2.2⟩ | exact ⟨h.1, fun q => hk _ (h.2.1 q), fun q => hk _ (h.2.2 q)⟩ | exact ⟨h.1, h.2.1, h.2.2.1, fun q => hk _ (h.2.2.2.1 q), fun j o q1 q2 => hk _ (h.2.2.2.2 j o q1 q2)⟩ | exact ⟨hk _ h.1, hk _ h.2⟩

theorem cm_sipush_im : cm_Mon cm_sipush := by
  intro E P t S k1 k2 h hk
  obtain ⟨pc, L, st, M⟩ := S
  unfold cm_sipush at h ⊢
  dsimp only at h ⊢
  first | exact h.elim | exact hk _ h | exact ⟨h.1, hk _ h.2⟩ | exact ⟨h.1, h.2.1, hk _ h.2.2⟩ | exact ⟨h.1, h.2.1, h.2.2.1, hk _ h.2.2.2⟩ | exact ⟨h.1, h.2.1, h.2.2.1, h.2.2.2.1, hk _ h.2.2.2.2⟩ | exact ⟨h.1, h.2.1, h.2.2.1, h.2.2.2.1, h.2.2.2.2.1, hk _ h.2.2.2.2.2⟩ | exact ⟨h.1, h.2.1, h.2.2.1, h.2.2.2.1, h.2.2.2.2.1, h.2.2.2.2.2.1, h.2.2.2.2.2.2.1, h.2.2.2.2.2.2.2.1, hk _ h.2.2.2.2.2.2.2.2⟩ | exact ⟨h.1, fun q => hk _ (h.2.1 q), fun q => hk _ (h.2.2 q)⟩ | exact ⟨h.1, h.2.1, h.2.2.1, fun q => hk _ (h.2.2.2.1 q), fun j o q1 q2 => hk _ (h.2.2.2.2 j o q1 q2)⟩ | exact ⟨hk _ h.1, hk _ h.2⟩

theorem cm_lconst_im : cm_Mon cm_lconst := by
  intro E P t S k1 k2 h hk
  obtain ⟨pc, L, st, M⟩ := S
  unfold cm_lconst at h ⊢
  dsimp only at h ⊢
  first | exact h.elim | exact hk _ h | exact ⟨h.1, hk _ h.2⟩ | exact ⟨h.1, h.2.1, hk _ h.2.2⟩ | exact ⟨h.1, h.2.1, h.2.2.1, hk _ h.2.2.2⟩ | exact ⟨h.1, h.2.1, h.2.2.1, h.2.2.2.1, hk _ h.2.2.2.2⟩ | exact ⟨h.1, h.2.1, h.2.2.1, h.2.2.2.1, h.2.2.2.2.1, hk _ h.2.2.2.2.2⟩ | exact ⟨h.1, h.2.1, h.2.2.1, h.2.2.2.1, h.2.2.2.2.1, h.2.2.2.2.2.1, h.2.2.2.2.2.2.1, h.2.2.2.2.2.2.2.1, hk _ h.2.2.2.2.2.2.2.2⟩ | exact ⟨h.1, fun q => hk _ (h.2.1 q), fun q => hk _ (h.2.2 q)⟩ | exact ⟨h.1, h.2.1, h.2.2.1, fun q => hk _ (h.2.2.2.1 q), fun j o q1 q2 => hk _ (h.2.2.2.2 j o q1 q2)⟩ | exact ⟨hk _ h.1, hk _ h.2⟩

theorem cm_iload_im : cm_Mon cm_iload := by
  intro E P t S k1 k2 h hk
  obtain ⟨pc, L, st, M⟩ := S
  unfold cm_iload cm_ld at h ⊢
  dsimp only at h ⊢
  split at h <;> first | exact h.elim | exact hk _ h

theorem cm_iloadn_im : cm_Mon cm_iloadn := by
  intro E P t S k1 k2 h hk
  obtain ⟨pc, L, st, M⟩ := S
  unfold cm_iloadn cm_ld at h ⊢
  dsimp only at h ⊢
  split at h <;> first | exact h.elim | exact hk _ h

theorem cm_lload_im : cm_Mon cm_lload := by
  intro E P t S k1 k2 h hk
  obtain ⟨pc, L, st, M⟩ := S
  unfold cm_lload cm_ld at h ⊢
  dsimp only at h ⊢
  split at h <;> first | exact h.elim | exact hk _ h

theorem cm_lloadn_im : cm_Mon cm_lloadn := by
  intro E P t S k1 k2 h hk
  obtain ⟨pc, L, st, M⟩ := S
  unfold cm_lloadn cm_ld at h ⊢
  dsimp only at h ⊢
  split at h <;> first | exact h.elim | exact hk _ h

theorem cm_aload_im : cm_Mon cm_aload := by
  intro E P t S k1 k2 h hk
  obtain ⟨pc, L, st, M⟩ := S
  unfold cm_aload cm_ld at h ⊢
  dsimp only at h ⊢
  split at h <;> first | exact h.elim | exact hk _ h

theorem cm_aloadn_im : cm_Mon cm_aloadn := by
  intro E P t S k1 k2 h hk
  obtain ⟨pc, L, st, M⟩ := S
  unfold cm_aloadn cm_ld at h ⊢
  dsimp only at h ⊢
  split at h <;> first | exact h.elim | exact hk _ h

theorem cm_istore_im : cm_Mon cm_istore := by
  intro E P t S k1 k2 h hk
  obtain ⟨pc, L, st, M⟩ := S
  unfold cm_istore cm_sto at h ⊢
  dsimp only at h ⊢
  split at h <;> (first | exact h.elim | exact hk _ h | exact ⟨h.1, hk _ h.2⟩ | exact ⟨h.1, h.2.1, hk _ h.2.2⟩ | exact ⟨h.1, h.2.1, h.2.2.1, hk _ h.2.2.2⟩ | exact ⟨h.1, h.2.1, h.2.2.1, h.2.2.2.1, hk _ h.2.2.2.2⟩ | exact ⟨h.1, h.2.1, h.2.2.1, h.2.2.2.1, h.2.2.2.2.1, hk _ h.2.2.2.2.2⟩ | exact ⟨h.1, h.2.1, h.2.2.1, h.2.2.2.1, h.2.2.2.2.1, h.2.2.2.2.2.1, h.2.2.2.2.2.2.1, h.2.2.2.2.2.2.2.1, hk _ h.2.2.2.2.2.2.2.2⟩ | exact ⟨h.1, fun q => hk _ (h.2.1 q), fun q => hk _ (h.2.2 q)⟩ | exact ⟨h.1, h.2.1, h.2.2.1, fun q => hk _ (h.2.2.2.1 q), fun j o q1 q2 => hk _ (h.2.2.2.2 j o q1 q2)⟩ | exact ⟨hk _ h.1, hk _ h.2⟩)

theorem cm_istoren_im : cm_Mon cm_istoren := by
  intro E P t S k1 k2 h hk
  obtain ⟨pc, L, st, M⟩ := S
  unfold cm_istoren cm_sto at h ⊢
  dsimp only at h ⊢
  split at h <;> (first | exact h.elim | exact hk _ h | exact ⟨h.1, hk _ h.2⟩ | exact ⟨h.1, h.2.1, hk _ h.2.2⟩ | exact ⟨h.1, h.2.1, h.2.2.1, hk _ h.2.2.2⟩ | exact ⟨h.1, h.2.1, h.2.2.1, h.2.2.2.1, hk _ h.2.2.2.2⟩ | exact ⟨h.1, h.2.1, h.2.2.1, h.2.2.2.1, h.2.2.2.2.1, hk _ h.2.2.2.2.2⟩ | exact ⟨h.1, h.2.1, h.2.2.1, h.2.2.2.1, h.2.2.2.2.1, h.2.2.2.2.2.1, h.2.2.2.2.2.2.1, h.2.2.2.2.2.2.2.1, hk _ h.2.2.2.2.2.2.2.2⟩ | exact ⟨h.1, fun q => hk _ (h.2.1 q), fun q => hk _ (h.2.2 q)⟩ | exact ⟨h.1, h.2.1, h.2.2.1, fun q => hk _ (h.2.2.2.1 q), fun j o q1 q2 => hk _ (h.2.2.2.2 j o q1 q2)⟩ | exact ⟨hk _ h.1, hk _ h.2⟩)

theorem cm_lstore_im : cm_Mon cm_lstore := by
  intro E P t S k1 k2 h hk
  obtain ⟨pc, L, st, M⟩ := S
  unfold cm_lstore cm_sto at h ⊢
  dsimp only at h ⊢
  split at h <;> (first | exact h.elim | exact hk _ h | exact ⟨h.1, hk _ h.2⟩ | exact ⟨h.1, h.2.1, hk _ h.2.2⟩ | exact ⟨h.1, h.2.1, h.2.2.1, hk _ h.2.2.2⟩ | exact ⟨h.1, h.2.1, h.2.2.1, h.2.2.2.1, hk _ h.2.2.2.2⟩ | exact ⟨h.1, h.2.1, h.2.2.1, h.2.2.2.1, h.2.2.2.2.1, hk _ h.2.2.2.2.2⟩ | exact ⟨h.1, h.2.1, h.2.2.1, h.2.2.2.1, h.2.2.2.2.1, h.2.2.2.2.2.1, h.2.2.2.2.2.2.1, h.2.2.2.2.2.2.2.1, hk _ h.2.2.2.2.2.2.2.2⟩ | exact ⟨h.1, fun q => hk _ (h.2.1 q), fun q => hk _ (h.2.2 q)⟩ | exact ⟨h.1, h.2.1, h.2.2.1, fun q => hk _ (h.2.2.2.1 q), fun j o q1 q2 => hk _ (h.2.2.2.2 j o q1 q2)⟩ | exact ⟨hk _ h.1, hk _ h.2⟩)

theorem cm_lstoren_im : cm_Mon cm_lstoren := by
  intro E P t S k1 k2 h hk
  obtain ⟨pc, L, st, M⟩ := S
  unfold cm_lstoren cm_sto at h ⊢
  dsimp only at h ⊢
  split at h <;> (first | exact h.elim | exact hk _ h | exact ⟨h.1, hk _ h.2⟩ | exact ⟨h.1, h.2.1, hk _ h.2.2⟩ | exact ⟨h.1, h.2.1, h.2.2.1, hk _ h.2.2.2⟩ | exact ⟨h.1, h.2.1, h.2.2.1, h.2.2.2.1, hk _ h.2.2.2.2⟩ | exact ⟨h.1, h.2.1, h.2.2.1, h.2.2.2.1, h.2.2.2.2.1, hk _ h.2.2.2.2.2⟩ | exact ⟨h.1, h.2.1, h.2.2.1, h.2.2.2.1, h.2.2.2.2.1, h.2.2.2.2.2.1, h.2.2.2.2.2.2.1, h.2.2.2.2.2.2.2.1, hk _ h.2.2.2.2.2.2.2.2⟩ | exact ⟨h.1, fun q => hk _ (h.2.1 q), fun q => hk _ (h.2.2 q)⟩ | exact ⟨h.1, h.2.1, h.2.2.1, fun q => hk _ (h.2.2.2.1 q), fun j o q1 q2 => hk _ (h.2.2.2.2 j o q1 q2)⟩ | exact ⟨hk _ h.1, hk _ h.2⟩)

theorem cm_astore_im : cm_Mon cm_astore := by
  intro E P t S k1 k2 h hk
  obtain ⟨pc, L, st, M⟩ := S
  unfold cm_astore cm_sto at h ⊢
  dsimp only at h ⊢
  split at h <;> (first | exact h.elim | exact hk _ h | exact ⟨h.1, hk _ h.2⟩ | exact ⟨h.1, h.2.1, hk _ h.2.2⟩ | exact ⟨h.1, h.2.1, h.2.2.1, hk _ h.2.2.2⟩ | exact ⟨h.1, h.2.1, h.2.2.1, h.2.2.2.1, hk _ h.2.2.2.2⟩ | exact ⟨h.1, h.2.1, h.2.2.1, h.2.2.2.1, h.2.2.2.2.1, hk _ h.2.2.2.2.2⟩ | exact ⟨h.1, h.2.1, h.2.2.1, h.2.2.2.1, h.2.2.2.2.1, h.2.2.2.2.2.1, h.2.2.2.2.2.2.1, h.2.2.2.2.2.2.2.1, hk _ h.2.2.2.2.2.2.2.2⟩ | exact ⟨h.1, fun q => hk _ (h.2.1 q), fun q => hk _ (h.2.2 q)⟩ | exact ⟨h.1, h.2.1, h.2.2.1, fun q => hk _ (h.2.2.2.1 q), fun j o q1 q2 => hk _ (h.2.2.2.2 j o q1 q2)⟩ | exact ⟨hk _ h.1, hk _ h.2⟩)

theorem cm_astoren_im : cm_Mon cm_astoren := by
  intro E P t S k1 k2 h hk
  obtain ⟨pc, L, st, M⟩ := S
  unfold cm_astoren cm_sto at h ⊢
  dsimp only at h ⊢
  split at h <;> (first | exact h.elim | exact hk _ h | exact ⟨h.1, hk _ h.2⟩ | exact ⟨h.1, h.2.1, hk _ h.2.2⟩ | exact ⟨h.1, h.2.1, h.2.2.1, hk _ h.2.2.2⟩ | exact ⟨h.1, h.2.1, h.2.2.1, h.2.2.2.1, hk _ h.2.2.2.2⟩ | exact ⟨h.1, h.2.1, h.2.2.1, h.2.2.2.1, h.2.2.2.2.1, hk _ h.2.2.2.2.2⟩ | exact ⟨h.1, h.2.1, h.2.2.1, h.2.2.2.1, h.2.2.2.2.1, h.2.2.2.2.2.1, h.2.2.2.2.2.2.1, h.2.2.2.2.2.2.2.1, hk _ h.2.2.2.2.2.2.2.2⟩ | exact ⟨h.1, fun q => hk _ (h.2.1 q), fun q => hk _ (h.2.2 q)⟩ | exact ⟨h.1, h.2.1, h.2.2.1, fun q => hk _ (h.2.2.2.1 q), fun j o q1 q2 => hk _ (h.2.2.2.2 j o q1 q2)⟩ | exact ⟨hk _ h.1, hk _ h.2⟩)

theorem cm_iadd_im : cm_Mon cm_iadd := by
  intro E P t S k1 k2 h hk
  obtain ⟨pc, L, st, M⟩ := S
  unfold cm_iadd at h ⊢
  dsimp only at h ⊢
  split at h <;> (first | exact h.elim | exact hk _ h | exact ⟨h.1, hk _ h.2⟩ | exact ⟨h.1, h.2.1, hk _ h.2.2⟩ | exact ⟨h.1, h.2.1, h.2.2.1, hk _ h.2.2.2⟩ | exact ⟨h.1, h.2.1, h.2.2.1, h.2.2.2.1, hk _ h.2.2.2.2⟩ | exact ⟨h.1, h.2.1, h.2.2.1, h.2.2.2.1, h.2.2.2.2.1, hk _ h.2.2.2.2.2⟩ | exact ⟨h.1, h.2.1, h.2.2.1, h.2.2.2.1, h.2.2.2.2.1, h.2.2.2.2.2.1, h.2.2.2.2.2.2.1, h.2.2.2.2.2.2.2.1, hk _ h.2.2.2.2.2.2.2.2⟩ | exact ⟨h.1, fun q => hk _ (h.2.1 q), fun q => hk _ (h.2.2 q)⟩ | exact ⟨h.1, h.2.1, h.2.2.1, fun q => hk _ (h.2.2.2.1 q), fun j o q1 q2 => hk _ (h.2.2.2.2 j o q1 q2)⟩ | exact ⟨hk _ h.1, hk _ h.2⟩)

theorem cm_isub_im : cm_Mon cm_isub := by
  intro E P t S k1 k2 h hk
  obtain ⟨pc, L, st, M⟩ := S
  unfold cm_isub at h ⊢
  dsimp only at h ⊢
  split at h <;> (first | exact h.elim | exact hk _ h | exact ⟨h.1, hk _ h.2⟩ | exact ⟨h.1, h.2.1, hk _ h.2.2⟩ | exact ⟨h.1, h.2.1, h.2.2.1, hk _ h.2.2.2⟩ | exact ⟨h.1, h.2.1, h.2.2.1, h.2.2.2.1, hk _ h.2.2.2.2⟩ | exact ⟨h.1, h.2.1, h.2.2.1, h.2.2.2.1, h.2.2.2.2.1, hk _ h.2.2.2.2.2⟩ | exact ⟨h.1, h.2.1, h.2.2.1, h.2.2.2.1, h.2.2.2.2.1, h.2.2.2.2.2.1, h.2.2.2.2.2.2.1, h.2.2.2.2.2.2.2.1, hk _ h.2.2.2.2.2.2.2.2⟩ | exact ⟨h.1, fun q => hk _ (h.2.1 q), fun q => hk _ (h.2.2 q)⟩ | exact ⟨h.1, h.2.1, h.2.2.1, fun q => hk _ (h.2.2.2.1 q), fun j o q1 q2 => hk _ (h.2.2.2.2 j o q1 q2)⟩ | exact ⟨hk _ h.1, hk _ h.2⟩)

theorem cm_imul_im : cm_Mon cm_imul := by
  intro E P t S k1 k2 h hk
  obtain ⟨pc, L, st, M⟩ := S
  unfold cm_imul at h ⊢
  dsimp only at h ⊢
  split at h <;> (first | exact h.elim | exact hk _ h | exact ⟨h.1, hk _ h.2⟩ | exact ⟨h.1, h.2.1, hk _ h.2.2⟩ | exact ⟨h.1, h.2.1, h.2.2.1, hk _ h.2.2.2⟩ | exact ⟨h.1, h.2.1, h.2.2.1, h.2.2.2.1, hk _ h.2.2.2.2⟩ | exact ⟨h.1, h.2.1, h.2.2.1, h.2.2.2.1, h.2.2.2.2.1, hk _ h.2.2.2.2.2⟩ | exact ⟨h.1, h.2.1, h.2.2.1, h.2.2.2.1, h.2.2.2.2.1, h.2.2.2.2.2.1, h.2.2.2.2.2.2.1, h.2.2.2.2.2.2.2.1, hk _ h.2.2.2.2.2.2.2.2⟩ | exact ⟨h.1, fun q => hk _ (h.2.1 q), fun q => hk _ (h.2.2 q)⟩ | exact ⟨h.1, h.2.1, h.2.2.1, fun q => hk _ (h.2.2.2.1 q), fun j o q1 q2 => hk _ (h.2.2.2.2 j o q1 q2)⟩ | exact ⟨hk _ h.1, hk _ h.2⟩)

theorem cm_iand_im : cm_Mon cm_iand := by
  intro E P t S k1 k2 h hk
  obtain ⟨pc, L, st, M⟩ := S
  unfold cm_iand at h ⊢
  dsimp only at h ⊢
  split at h <;> (first | exact h.elim | exact hk _ h | exact ⟨h.1, hk _ h.2⟩ | exact ⟨h.1, h.2.1, hk _ h.2.2⟩ | exact ⟨h.1, h.2.1, h.2.2.1, hk _ h.2.2.2⟩ | exact ⟨h.1, h.2.1, h.2.2.1, h.2.2.2.1, hk _ h.2.2.2.2⟩ | exact ⟨h.1, h.2.1, h.2.2.1, h.2.2.2.1, h.2.2.2.2.1, hk _ h.2.2.2.2.2⟩ | exact ⟨h.1, h.2.1, h.2.2.1, h.2.2.2.1, h.2.2.2.2.1, h.2.2.2.2.2.1, h.2.2.2.2.2.2.1, h.2.2.2.2.2.2.2.1, hk _ h.2.2.2.2.2.2.2.2⟩ | exact ⟨h.1, fun q => hk _ (h.2.1 q), fun q => hk _ (h.2.2 q)⟩ | exact ⟨h.1, h.2.1, h.2.2.1, fun q => hk _ (h.2.2.2.1 q), fun j o q1 q2 => hk _ (h.2.2.2.2 j o q1 q2)⟩ | exact ⟨hk _ h.1, hk _ h.2⟩)

theorem cm_ior_im : cm_Mon cm_ior := by
  intro E P t S k1 k2 h hk
  obtain ⟨pc, L, st, M⟩ := S
  unfold cm_ior at h ⊢
  dsimp only at h ⊢
  split at h <;> (first | exact h.elim | exact hk _ h | exact ⟨h.1, hk _ h.2⟩ | exact ⟨h.1, h.2.1, hk _ h.2.2⟩ | exact ⟨h.1, h.2.1, h.2.2.1, hk _ h.2.2.2⟩ | exact ⟨h.1, h.2.1, h.2.2.1, h.2.2.2.1, hk _ h.2.2.2.2⟩ | exact ⟨h.1, h.2.1, h.2.2.1, h.2.2.2.1, h.2.2.2.2.1, hk _ h.2.2.2.2.2⟩ | exact ⟨h.1, h.2.1, h.2.2.1, h.2.2.2.1, h.2.2.2.2.1, h.2.2.2.2.2.1, h.2.2.2.2.2.2.1, h.2.2.2.2.2.2.2.1, hk _ h.2.2.2.2.2.2.2.2⟩ | exact ⟨h.1, fun q => hk _ (h.2.1 q), fun q => hk _ (h.2.2 q)⟩ | exact ⟨h.1, h.2.1, h.2.2.1, fun q => hk _ (h.2.2.2.1 q), fun j o q1 q2 => hk _ (h.2.2.2.2 j o q1 q2)⟩ | exact ⟨hk _ h.1, hk _ h.2⟩)

theorem cm_ixor_im : cm_Mon cm_ixor := by
  intro E P t S k1 k2 h hk
  obtain ⟨pc, L, st, M⟩ := S
  unfold cm_ixor at h ⊢
  dsimp only at h ⊢
  split at h <;> (first | exact h.elim | exact hk _ h | exact ⟨h.1, hk _ h.2⟩ | exact ⟨h.1, h.2.1, hk _ h.2.2⟩ | exact ⟨h.1, h.2.1, h.2.2.1, hk _ h.2.2.2⟩ | exact ⟨h.1, h.2.1, h.2.2.1, h.2.2.2.1, hk _ h.2.2.2.2⟩ | exact ⟨h.1, h.2.1, h.2.2.1, h.2.2.2.1, h.2.2.2.2.1, hk _ h.2.2.2.2.2⟩ | exact ⟨h.1, h.2.1, h.2.2.1, h.2.2.2.1, h.2.2.2.2.1, h.2.2.2.2.2.1, h.2.2.2.2.2.2.1, h.2.2.2.2.2.2.2.1, hk _ h.2.2.2.2.2.2.2.2⟩ | exact ⟨h.1, fun q => hk _ (h.2.1 q), fun q => hk _ (h.2.2 q)⟩ | exact ⟨h.1, h.2.1, h.2.2.1, fun q => hk _ (h.2.2.2.1 q), fun j o q1 q2 => hk _ (h.2.2.2.2 j o q1 q2)⟩ | exact ⟨hk _ h.1, hk _ h.2⟩)

theorem cm_ishl_im : cm_Mon cm_ishl := by
  intro E P t S k1 k2 h hk
  obtain ⟨pc, L, st, M⟩ := S
  unfold cm_ishl at h ⊢
  dsimp only at h ⊢
  split at h <;> (first | exact h.elim | exact hk _ h | exact ⟨h.1, hk _ h.2⟩ | exact ⟨h.1, h.2.1, hk _ h.2.2⟩ | exact ⟨h.1, h.2.1, h.2.2.1, hk _ h.2.2.2⟩ | exact ⟨h.1, h.2.1, h.2.2.1, h.2.2.2.1, hk _ h.2.2.2.2⟩ | exact ⟨h.1, h.2.1, h.2.2.1, h.2.2.2.1, h.2.2.2.2.1, hk _ h.2.2.2.2.2⟩ | exact ⟨h.1, h.2.1, h.2.2.1, h.2.2.2.1, h.2.2.2.2.1, h.2.2.2.2.2.1, h.2.2.2.2.2.2.1, h.2.2.2.2.2.2.2.1, hk _ h.2.2.2.2.2.2.2.2⟩ | exact ⟨h.1, fun q => hk _ (h.2.1 q), fun q => hk _ (h.2.2 q)⟩ | exact ⟨h.1, h.2.1, h.2.2.1, fun q => hk _ (h.2.2.2.1 q), fun j o q1 q2 => hk _ (h.2.2.2.2 j o q1 q2)⟩ | exact ⟨hk _ h.1, hk _ h.2⟩)

theorem cm_ishr_im : cm_Mon cm_ishr := by
  intro E P t S k1 k2 h hk
  obtain ⟨pc, L, st, M⟩ := S
  unfold cm_ishr at h ⊢
  dsimp only at h ⊢
  split at h <;> (first | exact h.elim | exact hk _ h | exact ⟨h.1, hk _ h.2⟩ | exact ⟨h.1, h.2.1, hk _ h.2.2⟩ | exact ⟨h.1, h.2.1, h.2.2.1, hk _ h.2.2.2⟩ | exact ⟨h.1, h.2.1, h.2.2.1, h.2.2.2.1, hk _ h.2.2.2.2⟩ | exact ⟨h.1, h.2.1, h.2.2.1, h.2.2.2.1, h.2.2.2.2.1, hk _ h.2.2.2.2.2⟩ | exact ⟨h.1, h.2.1, h.2.2.1, h.2.2.2.1, h.2.2.2.2.1, h.2.2.2.2.2.1, h.2.2.2.2.2.2.1, h.2.2.2.2.2.2.2.1, hk _ h.2.2.2.2.2.2.2.2⟩ | exact ⟨h.1, fun q => hk _ (h.2.1 q), fun q => hk _ (h.2.2 q)⟩ | exact ⟨h.1, h.2.1, h.2.2.1, fun q => hk _ (h.2.2.2.1 q), fun j o q1 q2 => hk _ (h.2.2.2.2 j o q1 q2)⟩ | exact ⟨hk _ h.1, hk _ h.2⟩)

theorem cm_iushr_im : cm_Mon cm_iushr := by
  intro E P t S k1 k2 h hk
  obtain ⟨pc, L, st, M⟩ := S
  unfold cm_iushr at h ⊢
  dsimp only at h ⊢
  split at h <;> (first | exact h.elim | exact hk _ h | exact ⟨h.1, hk _ h.2⟩ | exact ⟨h.1, h.2.1, hk _ h.2.2⟩ | exact ⟨h.1, h.2.1, h.2.2.1, hk _ h.2.2.2⟩ | exact ⟨h.1, h.2.1, h.2.2.1, h.2.2.2.1, hk _ h.2.2.2.2⟩ | exact ⟨h.1, h.2.1, h.2.2.1, h.2.2.2.1, h.2.2.2.2.1, hk _ h.2.2.2.2.2⟩ | exact ⟨h.1, h.2.1, h.2.2.1, h.2.2.2.1, h.2.2.2.2.1, h.2.2.2.2.2.1, h.2.2.2.2.2.2.1, h.2.2.2.2.2.2.2.1, hk _ h.2.2.2.2.2.2.2.2⟩ | exact ⟨h.1, fun q => hk _ (h.2.1 q), fun q => hk _ (h.2.2 q)⟩ | exact ⟨h.1, h.2.1, h.2.2.1, fun q => hk _ (h.2.2.2.1 q), fun j o q1 q2 => hk _ (h.2.2.2.2 j o q1 q2)⟩ | exact ⟨hk _ h.1, hk _ h.2⟩)

theorem cm_idiv_im : cm_Mon cm_idiv := by
  intro E P t S k1 k2 h hk
  obtain ⟨pc, L, st, M⟩ := S
  unfold cm_idiv at h ⊢
  dsimp only at h ⊢
  split at h <;> (first | exact h.elim | exact hk _ h | exact ⟨h.1, hk _ h.2⟩ | exact ⟨h.1, h.2.1, hk _ h.2.2⟩ | exact ⟨h.1, h.2.1, h.2.2.1, hk _ h.2.2.2⟩ | exact ⟨h.1, h.2.1, h.2.2.1, h.2.2.2.1, hk _ h.2.2.2.2⟩ | exact ⟨h.1, h.2.1, h.2.2.1, h.2.2.2.1, h.2.2.2.2.1, hk _ h.2.2.2.2.2⟩ | exact ⟨h.1, h.2.1, h.2.2.1, h.2.2.2.1, h.2.2.2.2.1, h.2.2.2.2.2.1, h.2.2.2.2.2.2.1, h.2.2.2.2.2.2.2.1, hk _ h.2.2.2.2.2.2.2.2⟩ | exact ⟨h.1, fun q => hk _ (h.2.1 q), fun q => hk _ (h.2.2 q)⟩ | exact ⟨h.1, h.2.1, h.2.2.1, fun q => hk _ (h.2.2.2.1 q), fun j o q1 q2 => hk _ (h.2.2.2.2 j o q1 q2)⟩ | exact ⟨hk _ h.1, hk _ h.2⟩)

theorem cm_irem_im : cm_Mon cm_irem := by
  intro E P t S k1 k2 h hk
  obtain ⟨pc, L, st, M⟩ := S
  unfold cm_irem at h ⊢
  dsimp only at h ⊢
  split at h <;> (first | exact h.elim | exact hk _ h | exact ⟨h.1, hk _ h.2⟩ | exact ⟨h.1, h.2.1, hk _ h.2.2⟩ | exact ⟨h.1, h.2.1, h.2.2.1, hk _ h.2.2.2⟩ | exact ⟨h.1, h.2.1, h.2.2.1, h.2.2.2.1, hk _ h.2.2.2.2⟩ | exact ⟨h.1, h.2.1, h.2.2.1, h.2.2.2.1, h.2.2.2.2.1, hk _ h.2.2.2.2.2⟩ | exact ⟨h.1, h.2.1, h.2.2.1, h.2.2.2.1, h.2.2.2.2.1, h.2.2.2.2.2.1, h.2.2.2.2.2.2.1, h.2.2.2.2.2.2.2.1, hk _ h.2.2.2.2.2.2.2.2⟩ | exact ⟨h.1, fun q => hk _ (h.2.1 q), fun q => hk _ (h.2.2 q)⟩ | exact ⟨h.1, h.2.1, h.2.2.1, fun q => hk _ (h.2.2.2.1 q), fun j o q1 q2 => hk _ (h.2.2.2.2 j o q1 q2)⟩ | exact ⟨hk _ h.1, hk _ h.2⟩)

theorem cm_ineg_im : cm_Mon cm_ineg := by
  intro E P t S k1 k2 h hk
  obtain ⟨pc, L, st, M⟩ := S
  unfold cm_ineg at h ⊢
  dsimp only at h ⊢
  split at h <;> (first | exact h.elim | exact hk _ h | exact ⟨h.1, hk _ h.2⟩ | exact ⟨h.1, h.2.1, hk _ h.2.2⟩ | exact ⟨h.1, h.2.1, h.2.2.1, hk _ h.2.2.2⟩ | exact ⟨h.1, h.2.1, h.2.2.1, h.2.2.2.1, hk _ h.2.2.2.2⟩ | exact ⟨h.1, h.2.1, h.2.2.1, h.2.2.2.1, h.2.2.2.2.1, hk _ h.2.2.2.2.2⟩ | exact ⟨h.1, h.2.1, h.2.2.1, h.2.2.2.1, h.2.2.2.2.1, h.2.2.2.2.2.1, h.2.2.2.2.2.2.1, h.2.2.2.2.2.2.2.1, hk _ h.2.2.2.2.2.2.2.2⟩ | exact ⟨h.1, fun q => hk _ (h.2.1 q), fun q => hk _ (h.2.2 q)⟩ | exact ⟨h.1, h.2.1, h.2.2.1, fun q => hk _ (h.2.2.2.1 q), fun j o q1 q2 => hk _ (h.2.2.2.2 j o q1 q2)⟩ | exact ⟨hk _ h.1, hk _ h.2⟩)

theorem cm_i2b_im : cm_Mon cm_i2b := by
  intro E P t S k1 k2 h hk
  obtain ⟨pc, L, st, M⟩ := S
  unfold cm_i2b at h ⊢
  dsimp only at h ⊢
  split at h <;> (first | exact h.elim | exact hk _ h | exact ⟨h.1, hk _ h.2⟩ | exact ⟨h.1, h.2.1, hk _ h.2.2⟩ | exact ⟨h.1, h.2.1, h.2.2.1, hk _ h.2.2.2⟩ | exact ⟨h.1, h.2.1, h.2.2.1, h.2.2.2.1, hk _ h.2.2.2.2⟩ | exact ⟨h.1, h.2.1, h.2.2.1, h.2.2.2.1, h.2.2.2.2.1, hk _ h.2.2.2.2.2⟩ | exact ⟨h.1, h.2.1, h.2.2.1, h.2.2.2.1, h.2.2.2.2.1, h.2.2.2.2.2.1, h.2.2.2.2.2.2.1, h.2.2.2.2.2.2.2.1, hk _ h.2.2.2.2.2.2.2.2⟩ | exact ⟨h.1, fun q => hk _ (h.2.1 q), fun q => hk _ (h.2.2 q)⟩ | exact ⟨h.1, h.2.1, h.2.2.1, fun q => hk _ (h.2.2.2.1 q), fun j o q1 q2 => hk _ (h.2.2.2.2 j o q1 q2)⟩ | exact ⟨hk _ h.1, hk _ h.2⟩)

theorem cm_i2l_im : cm_Mon cm_i2l := by
  intro E P t S k1 k2 h hk
  obtain ⟨pc, L, st, M⟩ := S
  unfold cm_i2l at h ⊢
  dsimp only at h ⊢
  split at h <;> (first | exact h.elim | exact hk _ h | exact ⟨h.1, hk _ h.2⟩ | exact ⟨h.1, h.2.1, hk _ h.2.2⟩ | exact ⟨h.1, h.2.1, h.2.2.1, hk _ h.2.2.2⟩ | exact ⟨h.1, h.2.1, h.2.2.1, h.2.2.2.1, hk _ h.2.2.2.2⟩ | exact ⟨h.1, h.2.1, h.2.2.1, h.2.2.2.1, h.2.2.2.2.1, hk _ h.2.2.2.2.2⟩ | exact ⟨h.1, h.2.1, h.2.2.1, h.2.2.2.1, h.2.2.2.2.1, h.2.2.2.2.2.1, h.2.2.2.2.2.2.1, h.2.2.2.2.2.2.2.1, hk _ h.2.2.2.2.2.2.2.2⟩ | exact ⟨h.1, fun q => hk _ (h.2.1 q), fun q => hk _ (h.2.2 q)⟩ | exact ⟨h.1, h.2.1, h.2.2.1, fun q => hk _ (h.2.2.2.1 q), fun j o q1 q2 => hk _ (h.2.2.2.2 j o q1 q2)⟩ | exact ⟨hk _ h.1, hk _ h.2⟩)

theorem cm_lcmp_im : cm_Mon cm_lcmp := by
  intro E P t S k1 k2 h hk
  obtain ⟨pc, L, st, M⟩ := S
  unfold cm_lcmp at h ⊢
  dsimp only at h ⊢
  split at h <;> (first | exact h.elim | exact hk _ h | exact ⟨h.1, hk _ h.2⟩ | exact ⟨h.1, h.2.1, hk _ h.2.2⟩ | exact ⟨h.1, h.2.1, h.2.2.1, hk _ h.2.2.2⟩ | exact ⟨h.1, h.2.1, h.2.2.1, h.2.2.2.1, hk _ h.2.2.2.2⟩ | exact ⟨h.1, h.2.1, h.2.2.1, h.2.2.2.1, h.2.2.2.2.1, hk _ h.2.2.2.2.2⟩ | exact ⟨h.1, h.2.1, h.2.2.1, h.2.2.2.1, h.2.2.2.2.1, h.2.2.2.2.2.1, h.2.2.2.2.2.2.1, h.2.2.2.2.2.2.2.1, hk _ h.2.2.2.2.2.2.2.2⟩ | exact ⟨h.1, fun q => hk _ (h.2.1 q), fun q => hk _ (h.2.2 q)⟩ | exact ⟨h.1, h.2.1, h.2.2.1, fun q => hk _ (h.2.2.2.1 q), fun j o q1 q2 => hk _ (h.2.2.2.2 j o q1 q2)⟩ | exact ⟨hk _ h.1, hk _ h.2⟩)

theorem cm_dup_im : cm_Mon cm_dup := by
  intro E P t S k1 k2 h hk
  obtain ⟨pc, L, st, M⟩ := S
  unfold cm_dup at h ⊢
  dsimp only at h ⊢
  split at h <;> (first | exact h.elim | exact hk _ h | exact ⟨h.1, hk _ h.2⟩ | exact ⟨h.1, h.2.1, hk _ h.2.2⟩ | exact ⟨h.1, h.2.1, h.2.2.1, hk _ h.2.2.2⟩ | exact ⟨h.1, h.2.1, h.2.2.1, h.2.2.2.1, hk _ h.2.2.2.2⟩ | exact ⟨h.1, h.2.1, h.2.2.1, h.2.2.2.1, h.2.2.2.2.1, hk _ h.2.2.2.2.2⟩ | exact ⟨h.1, h.2.1, h.2.2.1, h.2.2.2.1, h.2.2.2.2.1, h.2.2.2.2.2.1, h.2.2.2.2.2.2.1, h.2.2.2.2.2.2.2.1, hk _ h.2.2.2.2.2.2.2.2⟩ | exact ⟨h.1, fun q => hk _ (h.2.1 q), fun q => hk _ (h.2.2 q)⟩ | exact ⟨h.1, h.2.1, h.2.2.1, fun q => hk _ (h.2.2.2.1 q), fun j o q1 q2 => hk _ (h.2.2.2.2 j o q1 q2)⟩ | exact ⟨hk _ h.1, hk _ h.2⟩)

theorem cm_pop_im : cm_Mon cm_pop := by
  intro E P t S k1 k2 h hk
  obtain ⟨pc, L, st, M⟩ := S
  unfold cm_pop at h ⊢
  dsimp only at h ⊢
  split at h <;> (first | exact h.elim | exact hk _ h | exact ⟨h.1, hk _ h.2⟩ | exact ⟨h.1, h.2.1, hk _ h.2.2⟩ | exact ⟨h.1, h.2.1, h.2.2.1, hk _ h.2.2.2⟩ | exact ⟨h.1, h.2.1, h.2.2.1, h.2.2.2.1, hk _ h.2.2.2.2⟩ | exact ⟨h.1, h.2.1, h.2.2.1, h.2.2.2.1, h.2.2.2.2.1, hk _ h.2.2.2.2.2⟩ | exact ⟨h.1, h.2.1, h.2.2.1, h.2.2.2.1, h.2.2.2.2.1, h.2.2.2.2.2.1, h.2.2.2.2.2.2.1, h.2.2.2.2.2.2.2.1, hk _ h.2.2.2.2.2.2.2.2⟩ | exact ⟨h.1, fun q => hk _ (h.2.1 q), fun q => hk _ (h.2.2 q)⟩ | exact ⟨h.1, h.2.1, h.2.2.1, fun q => hk _ (h.2.2.2.1 q), fun j o q1 q2 => hk _ (h.2.2.2.2 j o q1 q2)⟩ | exact ⟨hk _ h.1, hk _ h.2⟩)

theorem cm_dup2_im : cm_Mon cm_dup2 := by
  intro E P t S k1 k2 h hk
  obtain ⟨pc, L, st, M⟩ := S
  unfold cm_dup2 at h ⊢
  dsimp only at h ⊢
  split at h <;> (first | exact h.elim | exact hk _ h | exact ⟨h.1, hk _ h.2⟩ | exact ⟨h.1, h.2.1, hk _ h.2.2⟩ | exact ⟨h.1, h.2.1, h.2.2.1, hk _ h.2.2.2⟩ | exact ⟨h.1, h.2.1, h.2.2.1, h.2.2.2.1, hk _ h.2.2.2.2⟩ | exact ⟨h.1, h.2.1, h.2.2.1, h.2.2.2.1, h.2.2.2.2.1, hk _ h.2.2.2.2.2⟩ | exact ⟨h.1, h.2.1, h.2.2.1, h.2.2.2.1, h.2.2.2.2.1, h.2.2.2.2.2.1, h.2.2.2.2.2.2.1, h.2.2.2.2.2.2.2.1, hk _ h.2.2.2.2.2.2.2.2⟩ | exact ⟨h.1, fun q => hk _ (h.2.1 q), fun q => hk _ (h.2.2 q)⟩ | exact ⟨h.1, h.2.1, h.2.2.1, fun q => hk _ (h.2.2.2.1 q), fun j o q1 q2 => hk _ (h.2.2.2.2 j o q1 q2)⟩ | exact ⟨hk _ h.1, hk _ h.2⟩)

theorem cm_iinc_im : cm_Mon cm_iinc := by
  intro E P t S k1 k2 h hk
  obtain ⟨pc, L, st, M⟩ := S
  unfold cm_iinc at h ⊢
  dsimp only at h ⊢
  split at h <;> first | exact h.elim | exact ⟨h.1, hk _ h.2⟩

theorem cm_icmp_eq_im : cm_Mon cm_icmp_eq := by
  intro E P t S k1 k2 h hk
  obtain ⟨pc, L, st, M⟩ := S
  unfold cm_icmp_eq at h ⊢
  dsimp only at h ⊢
  split at h <;> (first | exact h.elim | exact hk _ h | exact ⟨h.1, hk _ h.2⟩ | exact ⟨h.1, h.2.1, hk _ h.2.2⟩ | exact ⟨h.1, h.2.1, h.2.2.1, hk _ h.2.2.2⟩ | exact ⟨h.1, h.2.1, h.2.2.1, h.2.2.2.1, hk _ h.2.2.2.2⟩ | exact ⟨h.1, h.2.1, h.2.2.1, h.2.2.2.1, h.2.2.2.2.1, hk _ h.2.2.2.2.2⟩ | exact ⟨h.1, h.2.1, h.2.2.1, h.2.2.2.1, h.2.2.2.2.1, h.2.2.2.2.2.1, h.2.2.2.2.2.2.1, h.2.2.2.2.2.2.2.1, hk _ h.2.2.2.2.2.2.2.2⟩ | exact ⟨h.1, fun q => hk _ (h.2.1 q), fun q => hk _ (h.2.2 q)⟩ | exact ⟨h.1, h.2.1, h.2.2.1, fun q => hk _ (h.2.2.2.1 q), fun j o q1 q2 => hk _ (h.2.2.2.2 j o q1 q2)⟩ | exact ⟨hk _ h.1, hk _ h.2⟩)

theorem cm_icmp_ne_im : cm_Mon cm_icmp_ne := by
  intro E P t S k1 k2 h hk
  obtain ⟨pc, L, st, M⟩ := S
  unfold cm_icmp_ne at h ⊢
  dsimp only at h ⊢
  split at h <;> (first | exact h.elim | exact hk _ h | exact ⟨h.1, hk _ h.2⟩ | exact ⟨h.1, h.2.1, hk _ h.2.2⟩ | exact ⟨h.1, h.2.1, h.2.2.1, hk _ h.2.2.2⟩ | exact ⟨h.1, h.2.1, h.2.2.1, h.2.2.2.1, hk _ h.2.2.2.2⟩ | exact ⟨h.1, h.2.1, h.2.2.1, h.2.2.2.1, h.2.2.2.2.1, hk _ h.2.2.2.2.2⟩ | exact ⟨h.1, h.2.1, h.2.2.1, h.2.2.2.1, h.2.2.2.2.1, h.2.2.2.2.2.1, h.2.2.2.2.2.2.1, h.2.2.2.2.2.2.2.1, hk _ h.2.2.2.2.2.2.2.2⟩ | exact ⟨h.1, fun q => hk _ (h.2.1 q), fun q => hk _ (h.2.2 q)⟩ | exact ⟨h.1, h.2.1, h.2.2.1, fun q => hk _ (h.2.2.2.1 q), fun j o q1 q2 => hk _ (h.2.2.2.2 j o q1 q2)⟩ | exact ⟨hk _ h.1, hk _ h.2⟩)

theorem cm_icmp_lt_im : cm_Mon cm_icmp_lt := by
  intro E P t S k1 k2 h hk
  obtain ⟨pc, L, st, M⟩ := S
  unfold cm_icmp_lt at h ⊢
  dsimp only at h ⊢
  split at h <;> (first | exact h.elim | exact hk _ h | exact ⟨h.1, hk _ h.2⟩ | exact ⟨h.1, h.2.1, hk _ h.2.2⟩ | exact ⟨h.1, h.2.1, h.2.2.1, hk _ h.2.2.2⟩ | exact ⟨h.1, h.2.1, h.2.2.1, h.2.2.2.1, hk _ h.2.2.2.2⟩ | exact ⟨h.1, h.2.1, h.2.2.1, h.2.2.2.1, h.2.2.2.2.1, hk _ h.2.2.2.2.2⟩ | exact ⟨h.1, h.2.1, h.2.2.1, h.2.2.2.1, h.2.2.2.2.1, h.2.2.2.2.2.1, h.2.2.2.2.2.2.1, h.2.2.2.2.2.2.2.1, hk _ h.2.2.2.2.2.2.2.2⟩ | exact ⟨h.1, fun q => hk _ (h.2.1 q), fun q => hk _ (h.2.2 q)⟩ | exact ⟨h.1, h.2.1, h.2.2.1, fun q => hk _ (h.2.2.2.1 q), fun j o q1 q2 => hk _ (h.2.2.2.2 j o q1 q2)⟩ | exact ⟨hk _ h.1, hk _ h.2⟩)

theorem cm_icmp_ge_im : cm_Mon cm_icmp_ge := by
  intro E P t S k1 k2 h hk
  obtain ⟨pc, L, st, M⟩ := S
  unfold cm_icmp_ge at h ⊢
  dsimp only at h ⊢
  split at h <;> (first | exact h.elim | exact hk _ h | exact ⟨h.1, hk _ h.2⟩ | exact ⟨h.1, h.2.1, hk _ h.2.2⟩ | exact ⟨h.1, h.2.1, h.2.2.1, hk _ h.2.2.2⟩ | exact ⟨h.1, h.2.1, h.2.2.1, h.2.2.2.1, hk _ h.2.2.2.2⟩ | exact ⟨h.1, h.2.1, h.2.2.1, h.2.2.2.1, h.2.2.2.2.1, hk _ h.2.2.2.2.2⟩ | exact ⟨h.1, h.2.1, h.2.2.1, h.2.2.2.1, h.2.2.2.2.1, h.2.2.2.2.2.1, h.2.2.2.2.2.2.1, h.2.2.2.2.2.2.2.1, hk _ h.2.2.2.2.2.2.2.2⟩ | exact ⟨h.1, fun q => hk _ (h.2.1 q), fun q => hk _ (h.2.2 q)⟩ | exact ⟨h.1, h.2.1, h.2.2.1, fun q => hk _ (h.2.2.2.1 q), fun j o q1 q2 => hk _ (h.2.2.2.2 j o q1 q2)⟩ | exact ⟨hk _ h.1, hk _ h.2⟩)

theorem cm_icmp_gt_im : cm_Mon cm_icmp_gt := by
  intro E P t S k1 k2 h hk
  obtain ⟨pc, L, st, M⟩ := S
  unfold cm_icmp_gt at h ⊢
  dsimp only at h ⊢
  split at h <;> (first | exact h.elim | exact hk _ h | exact ⟨h.1, hk _ h.2⟩ | exact ⟨h.1, h.2.1, hk _ h.2.2⟩ | exact ⟨h.1, h.2.1, h.2.2.1, hk _ h.2.2.2⟩ | exact ⟨h.1, h.2.1, h.2.2.1, h.2.2.2.1, hk _ h.2.2.2.2⟩ | exact ⟨h.1, h.2.1, h.2.2.1, h.2.2.2.1, h.2.2.2.2.1, hk _ h.2.2.2.2.2⟩ | exact ⟨h.1, h.2.1, h.2.2.1, h.2.2.2.1, h.2.2.2.2.1, h.2.2.2.2.2.1, h.2.2.2.2.2.2.1, h.2.2.2.2.2.2.2.1, hk _ h.2.2.2.2.2.2.2.2⟩ | exact ⟨h.1, fun q => hk _ (h.2.1 q), fun q => hk _ (h.2.2 q)⟩ | exact ⟨h.1, h.2.1, h.2.2.1, fun q => hk _ (h.2.2.2.1 q), fun j o q1 q2 => hk _ (h.2.2.2.2 j o q1 q2)⟩ | exact ⟨hk _ h.1, hk _ h.2⟩)

theorem cm_icmp_le_im : cm_Mon cm_icmp_le := by
  intro E P t S k1 k2 h hk
  obtain ⟨pc, L, st, M⟩ := S
  unfold cm_icmp_le at h ⊢
  dsimp only at h ⊢
  split at h <;> (first | exact h.elim | exact hk _ h | exact ⟨h.1, hk _ h.2⟩ | exact ⟨h.1, h.2.1, hk _ h.2.2⟩ | exact ⟨h.1, h.2.1, h.2.2.1, hk _ h.2.2.2⟩ | exact ⟨h.1, h.2.1, h.2.2.1, h.2.2.2.1, hk _ h.2.2.2.2⟩ | exact ⟨h.1, h.2.1, h.2.2.1, h.2.2.2.1, h.2.2.2.2.1, hk _ h.2.2.2.2.2⟩ | exact ⟨h.1, h.2.1, h.2.2.1, h.2.2.2.1, h.2.2.2.2.1, h.2.2.2.2.2.1, h.2.2.2.2.2.2.1, h.2.2.2.2.2.2.2.1, hk _ h.2.2.2.2.2.2.2.2⟩ | exact ⟨h.1, fun q => hk _ (h.2.1 q), fun q => hk _ (h.2.2 q)⟩ | exact ⟨h.1, h.2.1, h.2.2.1, fun q => hk _ (h.2.2.2.1 q), fun j o q1 q2 => hk _ (h.2.2.2.2 j o q1 q2)⟩ | exact ⟨hk _ h.1, hk _ h.2⟩)

theorem cm_if_eq_im : cm_Mon cm_if_eq := by
  intro E P t S k1 k2 h hk
  obtain ⟨pc, L, st, M⟩ := S
  unfold cm_if_eq at h ⊢
  dsimp only at h ⊢
  split at h <;> (first | exact h.elim | exact hk _ h | exact ⟨h.1, hk _ h.2⟩ | exact ⟨h.1, h.2.1, hk _ h.2.2⟩ | exact ⟨h.1, h.2.1, h.2.2.1, hk _ h.2.2.2⟩ | exact ⟨h.1, h.2.1, h.2.2.1, h.2.2.2.1, hk _ h.2.2.2.2⟩ | exact ⟨h.1, h.2.1, h.2.2.1, h.2.2.2.1, h.2.2.2.2.1, hk _ h.2.2.2.2.2⟩ | exact ⟨h.1, h.2.1, h.2.2.1, h.2.2.2.1, h.2.2.2.2.1, h.2.2.2.2.2.1, h.2.2.2.2.2.2.1, h.2.2.2.2.2.2.2.1, hk _ h.2.2.2.2.2.2.2.2⟩ | exact ⟨h.1, fun q => hk _ (h.2.1 q), fun q => hk _ (h.2.2 q)⟩ | exact ⟨h.1, h.2.1, h.2.2.1, fun q => hk _ (h.2.2.2.1 q), fun j o q1 q2 => hk _ (h.2.2.2.2 j o q1 q2)⟩ | exact ⟨hk _ h.1, hk _ h.2⟩)

theorem cm_if_ne_im : cm_Mon cm_if_ne := by
  intro E P t S k1 k2 h hk
  obtain ⟨pc, L, st, M⟩ := S
  unfold cm_if_ne at h ⊢
  dsimp only at h ⊢
  split at h <;> (first | exact h.elim | exact hk _ h | exact ⟨h.1, hk _ h.2⟩ | exact ⟨h.1, h.2.1, hk _ h.2.2⟩ | exact ⟨h.1, h.2.1, h.2.2.1, hk _ h.2.2.2⟩ | exact ⟨h.1, h.2.1, h.2.2.1, h.2.2.2.1, hk _ h.2.2.2.2⟩ | exact ⟨h.1, h.2.1, h.2.2.1, h.2.2.2.1, h.2.2.2.2.1, hk _ h.2.2.2.2.2⟩ | exact ⟨h.1, h.2.1, h.2.2.1, h.2.2.2.1, h.2.2.2.2.1, h.2.2.2.2.2.1, h.2.2.2.2.2.2.1, h.2.2.2.2.2.2.2.1, hk _ h.2.2.2.2.2.2.2.2⟩ | exact ⟨h.1, fun q => hk _ (h.2.1 q), fun q => hk _ (h.2.2 q)⟩ | exact ⟨h.1, h.2.1, h.2.2.1, fun q => hk _ (h.2.2.2.1 q), fun j o q1 q2 => hk _ (h.2.2.2.2 j o q1 q2)⟩ | exact ⟨hk _ h.1, hk _ h.2⟩)

theorem cm_if_lt_im : cm_Mon cm_if_lt := by
  intro E P t S k1 k2 h hk
  obtain ⟨pc, L, st, M⟩ := S
  unfold cm_if_lt at h ⊢
  dsimp only at h ⊢
  split at h <;> (first | exact h.elim | exact hk _ h | exact ⟨h.1, hk _ h.2⟩ | exact ⟨h.1, h.2.1, hk _ h.2.2⟩ | exact ⟨h.1, h.2.1, h.2.2.1, hk _ h.2.2.2⟩ | exact ⟨h.1, h.2.1, h.2.2.1, h.2.2.2.1, hk _ h.2.2.2.2⟩ | exact ⟨h.1, h.2.1, h.2.2.1, h.2.2.2.1, h.2.2.2.2.1, hk _ h.2.2.2.2.2⟩ | exact ⟨h.1, h.2.1, h.2.2.1, h.2.2.2.1, h.2.2.2.2.1, h.2.2.2.2.2.1, h.2.2.2.2.2.2.1, h.2.2.2.2.2.2.2.1, hk _ h.2.2.2.2.2.2.2.2⟩ | exact ⟨h.1, fun q => hk _ (h.2.1 q), fun q => hk _ (h.2.2 q)⟩ | exact ⟨h.1, h.2.1, h.2.2.1, fun q => hk _ (h.2.2.2.1 q), fun j o q1 q2 => hk _ (h.2.2.2.2 j o q1 q2)⟩ | exact ⟨hk _ h.1, hk _ h.2⟩)

theorem cm_if_ge_im : cm_Mon cm_if_ge := by
  intro E P t S k1 k2 h hk
  obtain ⟨pc, L, st, M⟩ := S
  unfold cm_if_ge at h ⊢
  dsimp only at h ⊢
  split at h <;> (first | exact h.elim | exact hk _ h | exact ⟨h.1, hk _ h.2⟩ | exact ⟨h.1, h.2.1, hk _ h.2.2⟩ | exact ⟨h.1, h.2.1, h.2.2.1, hk _ h.2.2.2⟩ | exact ⟨h.1, h.2.1, h.2.2.1, h.2.2.2.1, hk _ h.2.2.2.2⟩ | exact ⟨h.1, h.2.1, h.2.2.1, h.2.2.2.1, h.2.2.2.2.1, hk _ h.2.2.2.2.2⟩ | exact ⟨h.1, h.2.1, h.2.2.1, h.2.2.2.1, h.2.2.2.2.1, h.2.2.2.2.2.1, h.2.2.2.2.2.2.1, h.2.2.2.2.2.2.2.1, hk _ h.2.2.2.2.2.2.2.2⟩ | exact ⟨h.1, fun q => hk _ (h.2.1 q), fun q => hk _ (h.2.2 q)⟩ | exact ⟨h.1, h.2.1, h.2.2.1, fun q => hk _ (h.2.2.2.1 q), fun j o q1 q2 => hk _ (h.2.2.2.2 j o q1 q2)⟩ | exact ⟨hk _ h.1, hk _ h.2⟩)

theorem cm_if_gt_im : cm_Mon cm_if_gt := by
  intro E P t S k1 k2 h hk
  obtain ⟨pc, L, st, M⟩ := S
  unfold cm_if_gt at h ⊢
  dsimp only at h ⊢
  split at h <;> (first | exact h.elim | exact hk _ h | exact ⟨h.1, hk _ h.2⟩ | exact ⟨h.1, h.2.1, hk _ h.2.2⟩ | exact ⟨h.1, h.2.1, h.2.2.1, hk _ h.2.2.2⟩ | exact ⟨h.1, h.2.1, h.2.2.1, h.2.2.2.1, hk _ h.2.2.2.2⟩ | exact ⟨h.1, h.2.1, h.2.2.1, h.2.2.2.1, h.2.2.2.2.1, hk _ h.2.2.2.2.2⟩ | exact ⟨h.1, h.2.1, h.2.2.1, h.2.2.2.1, h.2.2.2.2.1, h.2.2.2.2.2.1, h.2.2.2.2.2.2.1, h.2.2.2.2.2.2.2.1, hk _ h.2.2.2.2.2.2.2.2⟩ | exact ⟨h.1, fun q => hk _ (h.2.1 q), fun q => hk _ (h.2.2 q)⟩ | exact ⟨h.1, h.2.1, h.2.2.1, fun q => hk _ (h.2.2.2.1 q), fun j o q1 q2 => hk _ (h.2.2.2.2 j o q1 q2)⟩ | exact ⟨hk _ h.1, hk _ h.2⟩)

theorem cm_if_le_im : cm_Mon cm_if_le := by
  intro E P t S k1 k2 h hk
  obtain ⟨pc, L, st, M⟩ := S
  unfold cm_if_le at h ⊢
  dsimp only at h ⊢
  split at h <;> (first | exact h.elim | exact hk _ h | exact ⟨h.1, hk _ h.2⟩ | exact ⟨h.1, h.2.1, hk _ h.2.2⟩ | exact ⟨h.1, h.2.1, h.2.2.1, hk _ h.2.2.2⟩ | exact ⟨h.1, h.2.1, h.2.2.1, h.2.2.2.1, hk _ h.2.2.2.2⟩ | exact ⟨h.1, h.2.1, h.2.2.1, h.2.2.2.1, h.2.2.2.2.1, hk _ h.2.2.2.2.2⟩ | exact ⟨h.1, h.2.1, h.2.2.1, h.2.2.2.1, h.2.2.2.2.1, h.2.2.2.2.2.1, h.2.2.2.2.2.2.1, h.2.2.2.2.2.2.2.1, hk _ h.2.2.2.2.2.2.2.2⟩ | exact ⟨h.1, fun q => hk _ (h.2.1 q), fun q => hk _ (h.2.2 q)⟩ | exact ⟨h.1, h.2.1, h.2.2.1, fun q => hk _ (h.2.2.2.1 q), fun j o q1 q2 => hk _ (h.2.2.2.2 j o q1 q2)⟩ | exact ⟨hk _ h.1, hk _ h.2⟩)

theorem cm_goto_im : cm_Mon cm_goto := by
  intro E P t S k1 k2 h hk
  obtain ⟨pc, L, st, M⟩ := S
  unfold cm_goto at h ⊢
  dsimp only at h ⊢
  first | exact h.elim | exact hk _ h | exact ⟨h.1, hk _ h.2⟩ | exact ⟨h.1, h.2.1, hk _ h.2.2⟩ | exact ⟨h.1, h.2.1, h.2.2.1, hk _ h.2.2.2⟩ | exact ⟨h.1, h.2.1, h.2.2.1, h.2.2.2.1, hk _ h.2.2.2.2⟩ | exact ⟨h.1, h.2.1, h.2.2.1, h.2.2.2.1, h.2.2.2.2.1, hk _ h.2.2.2.2.2⟩ | exact ⟨h.1, h.2.1, h.2.2.1, h.2.2.2.1, h.2.2.2.2.1, h.2.2.2.2.2.1, h.2.2.2.2.2.2.1, h.2.2.2.2.2.2.2.1, hk _ h.2.2.2.2.2.2.2.2⟩ | exact ⟨h.1, fun q => hk _ (h.2.1 q), fun q => hk _ (h.2.2 q)⟩ | exact ⟨h.1, h.2.1, h.2.2.1, fun q => hk _ (h.2.2.2.1 q), fun j o q1 q2 => hk _ (h.2.2.2.2 j o q1 q2)⟩ | exact ⟨hk _ h.1, hk _ h.2⟩

theorem cm_sw_im : cm_Mon cm_sw := by
  intro E P t S k1 k2 h hk
  obtain ⟨pc, L, st, M⟩ := S
  unfold cm_sw at h ⊢
  dsimp only at h ⊢
  split at h
  · exact ⟨h.1, h.2.1, h.2.2.1, fun q => hk _ (h.2.2.2.1 q), fun j o q1 q2 => hk _ (h.2.2.2.2 j o q1 q2)⟩
  · exact h.elim

theorem cm_get_im : cm_Mon cm_get := by
  intro E P t S k1 k2 h hk
  obtain ⟨pc, L, st, M⟩ := S
  unfold cm_get at h ⊢
  dsimp only at h ⊢
  split at h <;> (first | exact h.elim | exact hk _ h | exact ⟨h.1, hk _ h.2⟩ | exact ⟨h.1, h.2.1, hk _ h.2.2⟩ | exact ⟨h.1, h.2.1, h.2.2.1, hk _ h.2.2.2⟩ | exact ⟨h.1, h.2.1, h.2.2.1, h.2.2.2.1, hk _ h.2.2.2.2⟩ | exact ⟨h.1, h.2.1, h.2.2.1, h.2.2.2.1, h.2.2.2.2.1, hk _ h.2.2.2.2.2⟩ | exact ⟨h.1, h.2.1, h.2.2.1, h.2.2.2.1, h.2.2.2.2.1, h.2.2.2.2.2.1, h.2.2.2.2.2.2.1, h.2.2.2.2.2.2.2.1, hk _ h.2.2.2.2.2.2.2.2⟩ | exact ⟨h.1, fun q => hk _ (h.2.1 q), fun q => hk _ (h.2.2 q)⟩ | exact ⟨h.1, h.2.1, h.2.2.1, fun q => hk _ (h.2.2.2.1 q), fun j o q1 q2 => hk _ (h.2.2.2.2 j o q1 q2)⟩ | exact ⟨hk _ h.1, hk _ h.2⟩)

theorem cm_put_im : cm_Mon cm_put := by
  intro E P t S k1 k2 h hk
  obtain ⟨pc, L, st, M⟩ := S
  unfold cm_put at h ⊢
  dsimp only at h ⊢
  split at h <;> (first | exact h.elim | exact hk _ h | exact ⟨h.1, hk _ h.2⟩ | exact ⟨h.1, h.2.1, hk _ h.2.2⟩ | exact ⟨h.1, h.2.1, h.2.2.1, hk _ h.2.2.2⟩ | exact ⟨h.1, h.2.1, h.2.2.1, h.2.2.2.1, hk _ h.2.2.2.2⟩ | exact ⟨h.1, h.2.1, h.2.2.1, h.2.2.2.1, h.2.2.2.2.1, hk _ h.2.2.2.2.2⟩ | exact ⟨h.1, h.2.1, h.2.2.1, h.2.2.2.1, h.2.2.2.2.1, h.2.2.2.2.2.1, h.2.2.2.2.2.2.1, h.2.2.2.2.2.2.2.1, hk _ h.2.2.2.2.2.2.2.2⟩ | exact ⟨h.1, fun q => hk _ (h.2.1 q), fun q => hk _ (h.2.2 q)⟩ | exact ⟨h.1, h.2.1, h.2.2.1, fun q => hk _ (h.2.2.2.1 q), fun j o q1 q2 => hk _ (h.2.2.2.2 j o q1 q2)⟩ | exact ⟨hk _ h.1, hk _ h.2⟩)

theorem cm_iaload_im : cm_Mon cm_iaload := by
  intro E P t S k1 k2 h hk
  obtain ⟨pc, L, st, M⟩ := S
  unfold cm_iaload at h ⊢
  dsimp only at h ⊢
  split at h <;> (first | exact h.elim | exact hk _ h | exact ⟨h.1, hk _ h.2⟩ | exact ⟨h.1, h.2.1, hk _ h.2.2⟩ | exact ⟨h.1, h.2.1, h.2.2.1, hk _ h.2.2.2⟩ | exact ⟨h.1, h.2.1, h.2.2.1, h.2.2.2.1, hk _ h.2.2.2.2⟩ | exact ⟨h.1, h.2.1, h.2.2.1, h.2.2.2.1, h.2.2.2.2.1, hk _ h.2.2.2.2.2⟩ | exact ⟨h.1, h.2.1, h.2.2.1, h.2.2.2.1, h.2.2.2.2.1, h.2.2.2.2.2.1, h.2.2.2.2.2.2.1, h.2.2.2.2.2.2.2.1, hk _ h.2.2.2.2.2.2.2.2⟩ | exact ⟨h.1, fun q => hk _ (h.2.1 q), fun q => hk _ (h.2.2 q)⟩ | exact ⟨h.1, h.2.1, h.2.2.1, fun q => hk _ (h.2.2.2.1 q), fun j o q1 q2 => hk _ (h.2.2.2.2 j o q1 q2)⟩ | exact ⟨hk _ h.1, hk _ h.2⟩)

theorem cm_baload_im : cm_Mon cm_baload := by
  intro E P t S k1 k2 h hk
  obtain ⟨pc, L, st, M⟩ := S
  unfold cm_baload at h ⊢
  dsimp only at h ⊢
  split at h <;> (first | exact h.elim | exact hk _ h | exact ⟨h.1, hk _ h.2⟩ | exact ⟨h.1, h.2.1, hk _ h.2.2⟩ | exact ⟨h.1, h.2.1, h.2.2.1, hk _ h.2.2.2⟩ | exact ⟨h.1, h.2.1, h.2.2.1, h.2.2.2.1, hk _ h.2.2.2.2⟩ | exact ⟨h.1, h.2.1, h.2.2.1, h.2.2.2.1, h.2.2.2.2.1, hk _ h.2.2.2.2.2⟩ | exact ⟨h.1, h.2.1, h.2.2.1, h.2.2.2.1, h.2.2.2.2.1, h.2.2.2.2.2.1, h.2.2.2.2.2.2.1, h.2.2.2.2.2.2.2.1, hk _ h.2.2.2.2.2.2.2.2⟩ | exact ⟨h.1, fun q => hk _ (h.2.1 q), fun q => hk _ (h.2.2 q)⟩ | exact ⟨h.1, h.2.1, h.2.2.1, fun q => hk _ (h.2.2.2.1 q), fun j o q1 q2 => hk _ (h.2.2.2.2 j o q1 q2)⟩ | exact ⟨hk _ h.1, hk _ h.2⟩)

theorem cm_laload_im : cm_Mon cm_laload := by
  intro E P t S k1 k2 h hk
  obtain ⟨pc, L, st, M⟩ := S
  unfold cm_laload at h ⊢
  dsimp only at h ⊢
  split at h <;> (first | exact h.elim | exact hk _ h | exact ⟨h.1, hk _ h.2⟩ | exact ⟨h.1, h.2.1, hk _ h.2.2⟩ | exact ⟨h.1, h.2.1, h.2.2.1, hk _ h.2.2.2⟩ | exact ⟨h.1, h.2.1, h.2.2.1, h.2.2.2.1, hk _ h.2.2.2.2⟩ | exact ⟨h.1, h.2.1, h.2.2.1, h.2.2.2.1, h.2.2.2.2.1, hk _ h.2.2.2.2.2⟩ | exact ⟨h.1, h.2.1, h.2.2.1, h.2.2.2.1, h.2.2.2.2.1, h.2.2.2.2.2.1, h.2.2.2.2.2.2.1, h.2.2.2.2.2.2.2.1, hk _ h.2.2.2.2.2.2.2.2⟩ | exact ⟨h.1, fun q => hk _ (h.2.1 q), fun q => hk _ (h.2.2 q)⟩ | exact ⟨h.1, h.2.1, h.2.2.1, fun q => hk _ (h.2.2.2.1 q), fun j o q1 q2 => hk _ (h.2.2.2.2 j o q1 q2)⟩ | exact ⟨hk _ h.1, hk _ h.2⟩)

theorem cm_aaload_im : cm_Mon cm_aaload := by
  intro E P t S k1 k2 h hk
  obtain ⟨pc, L, st, M⟩ := S
  unfold cm_aaload at h ⊢
  dsimp only at h ⊢
  split at h <;> (first | exact h.elim | exact hk _ h | exact ⟨h.1, hk _ h.2⟩ | exact ⟨h.1, h.2.1, hk _ h.2.2⟩ | exact ⟨h.1, h.2.1, h.2.2.1, hk _ h.2.2.2⟩ | exact ⟨h.1, h.2.1, h.2.2.1, h.2.2.2.1, hk _ h.2.2.2.2⟩ | exact ⟨h.1, h.2.1, h.2.2.1, h.2.2.2.1, h.2.2.2.2.1, hk _ h.2.2.2.2.2⟩ | exact ⟨h.1, h.2.1, h.2.2.1, h.2.2.2.1, h.2.2.2.2.1, h.2.2.2.2.2.1, h.2.2.2.2.2.2.1, h.2.2.2.2.2.2.2.1, hk _ h.2.2.2.2.2.2.2.2⟩ | exact ⟨h.1, fun q => hk _ (h.2.1 q), fun q => hk _ (h.2.2 q)⟩ | exact ⟨h.1, h.2.1, h.2.2.1, fun q => hk _ (h.2.2.2.1 q), fun j o q1 q2 => hk _ (h.2.2.2.2 j o q1 q2)⟩ | exact ⟨hk _ h.1, hk _ h.2⟩)

theorem cm_iastore_im : cm_Mon cm_iastore := by
  intro E P t S k1 k2 h hk
  obtain ⟨pc, L, st, M⟩ := S
  unfold cm_iastore at h ⊢
  dsimp only at h ⊢
  split at h <;> (first | exact h.elim | exact hk _ h | exact ⟨h.1, hk _ h.2⟩ | exact ⟨h.1, h.2.1, hk _ h.2.2⟩ | exact ⟨h.1, h.2.1, h.2.2.1, hk _ h.2.2.2⟩ | exact ⟨h.1, h.2.1, h.2.2.1, h.2.2.2.1, hk _ h.2.2.2.2⟩ | exact ⟨h.1, h.2.1, h.2.2.1, h.2.2.2.1, h.2.2.2.2.1, hk _ h.2.2.2.2.2⟩ | exact ⟨h.1, h.2.1, h.2.2.1, h.2.2.2.1, h.2.2.2.2.1, h.2.2.2.2.2.1, h.2.2.2.2.2.2.1, h.2.2.2.2.2.2.2.1, hk _ h.2.2.2.2.2.2.2.2⟩ | exact ⟨h.1, fun q => hk _ (h.2.1 q), fun q => hk _ (h.2.2 q)⟩ | exact ⟨h.1, h.2.1, h.2.2.1, fun q => hk _ (h.2.2.2.1 q), fun j o q1 q2 => hk _ (h.2.2.2.2 j o q1 q2)⟩ | exact ⟨hk _ h.1, hk _ h.2⟩)

theorem cm_bastore_im : cm_Mon cm_bastore := by
  intro E P t S k1 k2 h hk
  obtain ⟨pc, L, st, M⟩ := S
  unfold cm_bastore at h ⊢
  dsimp only at h ⊢
  split at h <;> (first | exact h.elim | exact hk _ h | exact ⟨h.1, hk _ h.2⟩ | exact ⟨h.1, h.2.1, hk _ h.2.2⟩ | exact ⟨h.1, h.2.1, h.2.2.1, hk _ h.2.2.2⟩ | exact ⟨h.1, h.2.1, h.2.2.1, h.2.2.2.1, hk _ h.2.2.2.2⟩ | exact ⟨h.1, h.2.1, h.2.2.1, h.2.2.2.1, h.2.2.2.2.1, hk _ h.2.2.2.2.2⟩ | exact ⟨h.1, h.2.1, h.2.2.1, h.2.2.2.1, h.2.2.2.2.1, h.2.2.2.2.2.1, h.2.2.2.2.2.2.1, h.2.2.2.2.2.2.2.1, hk _ h.2.2.2.2.2.2.2.2⟩ | exact ⟨h.1, fun q => hk _ (h.2.1 q), fun q => hk _ (h.2.2 q)⟩ | exact ⟨h.1, h.2.1, h.2.2.1, fun q => hk _ (h.2.2.2.1 q), fun j o q1 q2 => hk _ (h.2.2.2.2 j o q1 q2)⟩ | exact ⟨hk _ h.1, hk _ h.2⟩)

theorem cm_alen_im : cm_Mon cm_alen := by
  intro E P t S k1 k2 h hk
  obtain ⟨pc, L, st, M⟩ := S
  unfold cm_alen at h ⊢
  dsimp only at h ⊢
  split at h
  · rename_i c st'
    by_cases hc : c = 1000
    · rw [if_pos hc] at h ⊢
      cases E with
      | none => exact h.elim
      | some q => exact hk _ h
    · rw [if_neg hc] at h ⊢
      exact ⟨h.1, h.2.1, hk _ h.2.2⟩
  · exact h.elim

theorem cm_sald_im : cm_Mon cm_sald := by
  intro E P t S k1 k2 h hk
  obtain ⟨pc, L, st, M⟩ := S
  unfold cm_sald at h ⊢
  dsimp only at h ⊢
  split at h
  · exact ⟨h.1, h.2.1, h.2.2.1, hk _ h.2.2.2⟩
  · exact h.elim

theorem cm_mmin_im : cm_Mon cm_mmin := by
  intro E P t S k1 k2 h hk
  obtain ⟨pc, L, st, M⟩ := S
  unfold cm_mmin at h ⊢
  dsimp only at h ⊢
  split at h <;> (first | exact h.elim | exact hk _ h | exact ⟨h.1, hk _ h.2⟩ | exact ⟨h.1, h.2.1, hk _ h.2.2⟩ | exact ⟨h.1, h.2.1, h.2.2.1, hk _ h.2.2.2⟩ | exact ⟨h.1, h.2.1, h.2.2.1, h.2.2.2.1, hk _ h.2.2.2.2⟩ | exact ⟨h.1, h.2.1, h.2.2.1, h.2.2.2.1, h.2.2.2.2.1, hk _ h.2.2.2.2.2⟩ | exact ⟨h.1, h.2.1, h.2.2.1, h.2.2.2.1, h.2.2.2.2.1, h.2.2.2.2.2.1, h.2.2.2.2.2.2.1, h.2.2.2.2.2.2.2.1, hk _ h.2.2.2.2.2.2.2.2⟩ | exact ⟨h.1, fun q => hk _ (h.2.1 q), fun q => hk _ (h.2.2 q)⟩ | exact ⟨h.1, h.2.1, h.2.2.1, fun q => hk _ (h.2.2.2.1 q), fun j o q1 q2 => hk _ (h.2.2.2.2 j o q1 q2)⟩ | exact ⟨hk _ h.1, hk _ h.2⟩)

theorem cm_ldc_im : cm_Mon cm_ldc := by
  intro E P t S k1 k2 h hk
  obtain ⟨pc, L, st, M⟩ := S
  unfold cm_ldc at h ⊢
  dsimp only at h ⊢
  first | exact h.elim | exact hk _ h | exact ⟨h.1, hk _ h.2⟩ | exact ⟨h.1, h.2.1, hk _ h.2.2⟩ | exact ⟨h.1, h.2.1, h.2.2.1, hk _ h.2.2.2⟩ | exact ⟨h.1, h.2.1, h.2.2.1, h.2.2.2.1, hk _ h.2.2.2.2⟩ | exact ⟨h.1, h.2.1, h.2.2.1, h.2.2.2.1, h.2.2.2.2.1, hk _ h.2.2.2.2.2⟩ | exact ⟨h.1, h.2.1, h.2.2.1, h.2.2.2.1, h.2.2.2.2.1, h.2.2.2.2.2.1, h.2.2.2.2.2.2.1, h.2.2.2.2.2.2.2.1, hk _ h.2.2.2.2.2.2.2.2⟩ | exact ⟨h.1, fun q => hk _ (h.2.1 q), fun q => hk _ (h.2.2 q)⟩ | exact ⟨h.1, h.2.1, h.2.2.1, fun q => hk _ (h.2.2.2.1 q), fun j o q1 q2 => hk _ (h.2.2.2.2 j o q1 q2)⟩ | exact ⟨hk _ h.1, hk _ h.2⟩

theorem cm_ldcS_im : cm_Mon cm_ldcS := by
  intro E P t S k1 k2 h hk
  obtain ⟨pc, L, st, M⟩ := S
  unfold cm_ldcS at h ⊢
  dsimp only at h ⊢
  first | exact h.elim | exact hk _ h | exact ⟨h.1, hk _ h.2⟩ | exact ⟨h.1, h.2.1, hk _ h.2.2⟩ | exact ⟨h.1, h.2.1, h.2.2.1, hk _ h.2.2.2⟩ | exact ⟨h.1, h.2.1, h.2.2.1, h.2.2.2.1, hk _ h.2.2.2.2⟩ | exact ⟨h.1, h.2.1, h.2.2.1, h.2.2.2.1, h.2.2.2.2.1, hk _ h.2.2.2.2.2⟩ | exact ⟨h.1, h.2.1, h.2.2.1, h.2.2.2.1, h.2.2.2.2.1, h.2.2.2.2.2.1, h.2.2.2.2.2.2.1, h.2.2.2.2.2.2.2.1, hk _ h.2.2.2.2.2.2.2.2⟩ | exact ⟨h.1, fun q => hk _ (h.2.1 q), fun q => hk _ (h.2.2 q)⟩ | exact ⟨h.1, h.2.1, h.2.2.1, fun q => hk _ (h.2.2.2.1 q), fun j o q1 q2 => hk _ (h.2.2.2.2 j o q1 q2)⟩ | exact ⟨hk _ h.1, hk _ h.2⟩

theorem cm_getV_im : cm_Mon cm_getV := by
  intro E P t S k1 k2 h hk
  obtain ⟨pc, L, st, M⟩ := S
  unfold cm_getV at h ⊢
  dsimp only at h ⊢
  split at h <;> (first | exact h.elim | exact hk _ h | exact ⟨h.1, hk _ h.2⟩ | exact ⟨h.1, h.2.1, hk _ h.2.2⟩ | exact ⟨h.1, h.2.1, h.2.2.1, hk _ h.2.2.2⟩ | exact ⟨h.1, h.2.1, h.2.2.1, h.2.2.2.1, hk _ h.2.2.2.2⟩ | exact ⟨h.1, h.2.1, h.2.2.1, h.2.2.2.1, h.2.2.2.2.1, hk _ h.2.2.2.2.2⟩ | exact ⟨h.1, h.2.1, h.2.2.1, h.2.2.2.1, h.2.2.2.2.1, h.2.2.2.2.2.1, h.2.2.2.2.2.2.1, h.2.2.2.2.2.2.2.1, hk _ h.2.2.2.2.2.2.2.2⟩ | exact ⟨h.1, fun q => hk _ (h.2.1 q), fun q => hk _ (h.2.2 q)⟩ | exact ⟨h.1, h.2.1, h.2.2.1, fun q => hk _ (h.2.2.2.1 q), fun j o q1 q2 => hk _ (h.2.2.2.2 j o q1 q2)⟩ | exact ⟨hk _ h.1, hk _ h.2⟩)

theorem cm_getC_im : cm_Mon cm_getC := by
  intro E P t S k1 k2 h hk
  obtain ⟨pc, L, st, M⟩ := S
  unfold cm_getC at h ⊢
  dsimp only at h ⊢
  split at h <;> (first | exact h.elim | exact hk _ h | exact ⟨h.1, hk _ h.2⟩ | exact ⟨h.1, h.2.1, hk _ h.2.2⟩ | exact ⟨h.1, h.2.1, h.2.2.1, hk _ h.2.2.2⟩ | exact ⟨h.1, h.2.1, h.2.2.1, h.2.2.2.1, hk _ h.2.2.2.2⟩ | exact ⟨h.1, h.2.1, h.2.2.1, h.2.2.2.1, h.2.2.2.2.1, hk _ h.2.2.2.2.2⟩ | exact ⟨h.1, h.2.1, h.2.2.1, h.2.2.2.1, h.2.2.2.2.1, h.2.2.2.2.2.1, h.2.2.2.2.2.2.1, h.2.2.2.2.2.2.2.1, hk _ h.2.2.2.2.2.2.2.2⟩ | exact ⟨h.1, fun q => hk _ (h.2.1 q), fun q => hk _ (h.2.2 q)⟩ | exact ⟨h.1, h.2.1, h.2.2.1, fun q => hk _ (h.2.2.2.1 q), fun j o q1 q2 => hk _ (h.2.2.2.2 j o q1 q2)⟩ | exact ⟨hk _ h.1, hk _ h.2⟩)

theorem cm_gets_im : cm_Mon cm_gets := by
  intro E P t S k1 k2 h hk
  obtain ⟨pc, L, st, M⟩ := S
  unfold cm_gets at h ⊢
  dsimp only at h ⊢
  first | exact h.elim | exact hk _ h | exact ⟨h.1, hk _ h.2⟩ | exact ⟨h.1, h.2.1, hk _ h.2.2⟩ | exact ⟨h.1, h.2.1, h.2.2.1, hk _ h.2.2.2⟩ | exact ⟨h.1, h.2.1, h.2.2.1, h.2.2.2.1, hk _ h.2.2.2.2⟩ | exact ⟨h.1, h.2.1, h.2.2.1, h.2.2.2.1, h.2.2.2.2.1, hk _ h.2.2.2.2.2⟩ | exact ⟨h.1, h.2.1, h.2.2.1, h.2.2.2.1, h.2.2.2.2.1, h.2.2.2.2.2.1, h.2.2.2.2.2.2.1, h.2.2.2.2.2.2.2.1, hk _ h.2.2.2.2.2.2.2.2⟩ | exact ⟨h.1, fun q => hk _ (h.2.1 q), fun q => hk _ (h.2.2 q)⟩ | exact ⟨h.1, h.2.1, h.2.2.1, fun q => hk _ (h.2.2.2.1 q), fun j o q1 q2 => hk _ (h.2.2.2.2 j o q1 q2)⟩ | exact ⟨hk _ h.1, hk _ h.2⟩

theorem cm_alenS_im : cm_Mon cm_alenS := by
  intro E P t S k1 k2 h hk
  obtain ⟨pc, L, st, M⟩ := S
  unfold cm_alenS at h ⊢
  dsimp only at h ⊢
  split at h
  · split at h
    · rename_i hz
      first | (first | exact h.elim | exact hk _ h | exact ⟨h.1, hk _ h.2⟩ | exact ⟨h.1, h.2.1, hk _ h.2.2⟩ | exact ⟨h.1, h.2.1, h.2.2.1, hk _ h.2.2.2⟩ | exact ⟨h.1, h.2.1, h.2.2.1, h.2.2.2.1, hk _ h.2.2.2.2⟩ | exact ⟨h.1, h.2.1, h.2.2.1, h.2.2.2.1, h.2.2.2.2.1, hk _ h.2.2.2.2.2⟩ | exact ⟨h.1, h.2.1, h.2.2.1, h.2.2.2.1, h.2.2.2.2.1, h.2.2.2.2.2.1, h.2.2.2.2.2.2.1, h.2.2.2.2.2.2.2.1, hk _ h.2.2.2.2.2.2.2.2⟩ | exact ⟨h.1, fun q => hk _ (h.2.1 q), fun q => hk _ (h.2.2 q)⟩ | exact ⟨h.1, h.2.1, h.2.2.1, fun q => hk _ (h.2.2.2.1 q), fun j o q1 q2 => hk _ (h.2.2.2.2 j o q1 q2)⟩ | exact ⟨hk _ h.1, hk _ h.2⟩) | (dsimp only; rw [hz]; first | exact h.elim | exact hk _ h | exact ⟨h.1, hk _ h.2⟩ | exact ⟨h.1, h.2.1, hk _ h.2.2⟩ | exact ⟨h.1, h.2.1, h.2.2.1, hk _ h.2.2.2⟩ | exact ⟨h.1, h.2.1, h.2.2.1, h.2.2.2.1, hk _ h.2.2.2.2⟩ | exact ⟨h.1, h.2.1, h.2.2.1, h.2.2.2.1, h.2.2.2.2.1, hk _ h.2.2.2.2.2⟩ | exact ⟨h.1, h.2.1, h.2.2.1, h.2.2.2.1, h.2.2.2.2.1, h.2.2.2.2.2.1, h.2.2.2.2.2.2.1, h.2.2.2.2.2.2.2.1, hk _ h.2.2.2.2.2.2.2.2⟩ | exact ⟨h.1, fun q => hk _ (h.2.1 q), fun q => hk _ (h.2.2 q)⟩ | exact ⟨h.1, h.2.1, h.2.2.1, fun q => hk _ (h.2.2.2.1 q), fun j o q1 q2 => hk _ (h.2.2.2.2 j o q1 q2)⟩ | exact ⟨hk _ h.1, hk _ h.2⟩)
    · exact h.elim
  · exact h.elim

theorem cm_baloadS_im : cm_Mon cm_baloadS := by
  intro E P t S k1 k2 h hk
  obtain ⟨pc, L, st, M⟩ := S
  unfold cm_baloadS at h ⊢
  dsimp only at h ⊢
  split at h
  · split at h
    · rename_i hz
      first | (first | exact h.elim | exact hk _ h | exact ⟨h.1, hk _ h.2⟩ | exact ⟨h.1, h.2.1, hk _ h.2.2⟩ | exact ⟨h.1, h.2.1, h.2.2.1, hk _ h.2.2.2⟩ | exact ⟨h.1, h.2.1, h.2.2.1, h.2.2.2.1, hk _ h.2.2.2.2⟩ | exact ⟨h.1, h.2.1, h.2.2.1, h.2.2.2.1, h.2.2.2.2.1, hk _ h.2.2.2.2.2⟩ | exact ⟨h.1, h.2.1, h.2.2.1, h.2.2.2.1, h.2.2.2.2.1, h.2.2.2.2.2.1, h.2.2.2.2.2.2.1, h.2.2.2.2.2.2.2.1, hk _ h.2.2.2.2.2.2.2.2⟩ | exact ⟨h.1, fun q => hk _ (h.2.1 q), fun q => hk _ (h.2.2 q)⟩ | exact ⟨h.1, h.2.1, h.2.2.1, fun q => hk _ (h.2.2.2.1 q), fun j o q1 q2 => hk _ (h.2.2.2.2 j o q1 q2)⟩ | exact ⟨hk _ h.1, hk _ h.2⟩) | (dsimp only; rw [hz]; first | exact h.elim | exact hk _ h | exact ⟨h.1, hk _ h.2⟩ | exact ⟨h.1, h.2.1, hk _ h.2.2⟩ | exact ⟨h.1, h.2.1, h.2.2.1, hk _ h.2.2.2⟩ | exact ⟨h.1, h.2.1, h.2.2.1, h.2.2.2.1, hk _ h.2.2.2.2⟩ | exact ⟨h.1, h.2.1, h.2.2.1, h.2.2.2.1, h.2.2.2.2.1, hk _ h.2.2.2.2.2⟩ | exact ⟨h.1, h.2.1, h.2.2.1, h.2.2.2.1, h.2.2.2.2.1, h.2.2.2.2.2.1, h.2.2.2.2.2.2.1, h.2.2.2.2.2.2.2.1, hk _ h.2.2.2.2.2.2.2.2⟩ | exact ⟨h.1, fun q => hk _ (h.2.1 q), fun q => hk _ (h.2.2 q)⟩ | exact ⟨h.1, h.2.1, h.2.2.1, fun q => hk _ (h.2.2.2.1 q), fun j o q1 q2 => hk _ (h.2.2.2.2 j o q1 q2)⟩ | exact ⟨hk _ h.1, hk _ h.2⟩)
    · exact h.elim
  · exact h.elim

theorem cm_i2c_im : cm_Mon cm_i2c := by
  intro E P t S k1 k2 h hk
  obtain ⟨pc, L, st, M⟩ := S
  unfold cm_i2c at h ⊢
  dsimp only at h ⊢
  split at h <;> (first | exact h.elim | exact hk _ h | exact ⟨h.1, hk _ h.2⟩ | exact ⟨h.1, h.2.1, hk _ h.2.2⟩ | exact ⟨h.1, h.2.1, h.2.2.1, hk _ h.2.2.2⟩ | exact ⟨h.1, h.2.1, h.2.2.1, h.2.2.2.1, hk _ h.2.2.2.2⟩ | exact ⟨h.1, h.2.1, h.2.2.1, h.2.2.2.1, h.2.2.2.2.1, hk _ h.2.2.2.2.2⟩ | exact ⟨h.1, h.2.1, h.2.2.1, h.2.2.2.1, h.2.2.2.2.1, h.2.2.2.2.2.1, h.2.2.2.2.2.2.1, h.2.2.2.2.2.2.2.1, hk _ h.2.2.2.2.2.2.2.2⟩ | exact ⟨h.1, fun q => hk _ (h.2.1 q), fun q => hk _ (h.2.2 q)⟩ | exact ⟨h.1, h.2.1, h.2.2.1, fun q => hk _ (h.2.2.2.1 q), fun j o q1 q2 => hk _ (h.2.2.2.2 j o q1 q2)⟩ | exact ⟨hk _ h.1, hk _ h.2⟩)

theorem cm_ladd_im : cm_Mon cm_ladd := by
  intro E P t S k1 k2 h hk
  obtain ⟨pc, L, st, M⟩ := S
  unfold cm_ladd at h ⊢
  dsimp only at h ⊢
  split at h <;> (first | exact h.elim | exact hk _ h | exact ⟨h.1, hk _ h.2⟩ | exact ⟨h.1, h.2.1, hk _ h.2.2⟩ | exact ⟨h.1, h.2.1, h.2.2.1, hk _ h.2.2.2⟩ | exact ⟨h.1, h.2.1, h.2.2.1, h.2.2.2.1, hk _ h.2.2.2.2⟩ | exact ⟨h.1, h.2.1, h.2.2.1, h.2.2.2.1, h.2.2.2.2.1, hk _ h.2.2.2.2.2⟩ | exact ⟨h.1, h.2.1, h.2.2.1, h.2.2.2.1, h.2.2.2.2.1, h.2.2.2.2.2.1, h.2.2.2.2.2.2.1, h.2.2.2.2.2.2.2.1, hk _ h.2.2.2.2.2.2.2.2⟩ | exact ⟨h.1, fun q => hk _ (h.2.1 q), fun q => hk _ (h.2.2 q)⟩ | exact ⟨h.1, h.2.1, h.2.2.1, fun q => hk _ (h.2.2.2.1 q), fun j o q1 q2 => hk _ (h.2.2.2.2 j o q1 q2)⟩ | exact ⟨hk _ h.1, hk _ h.2⟩)

theorem cm_lsub_im : cm_Mon cm_lsub := by
  intro E P t S k1 k2 h hk
  obtain ⟨pc, L, st, M⟩ := S
  unfold cm_lsub at h ⊢
  dsimp only at h ⊢
  split at h <;> (first | exact h.elim | exact hk _ h | exact ⟨h.1, hk _ h.2⟩ | exact ⟨h.1, h.2.1, hk _ h.2.2⟩ | exact ⟨h.1, h.2.1, h.2.2.1, hk _ h.2.2.2⟩ | exact ⟨h.1, h.2.1, h.2.2.1, h.2.2.2.1, hk _ h.2.2.2.2⟩ | exact ⟨h.1, h.2.1, h.2.2.1, h.2.2.2.1, h.2.2.2.2.1, hk _ h.2.2.2.2.2⟩ | exact ⟨h.1, h.2.1, h.2.2.1, h.2.2.2.1, h.2.2.2.2.1, h.2.2.2.2.2.1, h.2.2.2.2.2.2.1, h.2.2.2.2.2.2.2.1, hk _ h.2.2.2.2.2.2.2.2⟩ | exact ⟨h.1, fun q => hk _ (h.2.1 q), fun q => hk _ (h.2.2 q)⟩ | exact ⟨h.1, h.2.1, h.2.2.1, fun q => hk _ (h.2.2.2.1 q), fun j o q1 q2 => hk _ (h.2.2.2.2 j o q1 q2)⟩ | exact ⟨hk _ h.1, hk _ h.2⟩)

theorem cm_lmul_im : cm_Mon cm_lmul := by
  intro E P t S k1 k2 h hk
  obtain ⟨pc, L, st, M⟩ := S
  unfold cm_lmul at h ⊢
  dsimp only at h ⊢
  split at h <;> (first | exact h.elim | exact hk _ h | exact ⟨h.1, hk _ h.2⟩ | exact ⟨h.1, h.2.1, hk _ h.2.2⟩ | exact ⟨h.1, h.2.1, h.2.2.1, hk _ h.2.2.2⟩ | exact ⟨h.1, h.2.1, h.2.2.1, h.2.2.2.1, hk _ h.2.2.2.2⟩ | exact ⟨h.1, h.2.1, h.2.2.1, h.2.2.2.1, h.2.2.2.2.1, hk _ h.2.2.2.2.2⟩ | exact ⟨h.1, h.2.1, h.2.2.1, h.2.2.2.1, h.2.2.2.2.1, h.2.2.2.2.2.1, h.2.2.2.2.2.2.1, h.2.2.2.2.2.2.2.1, hk _ h.2.2.2.2.2.2.2.2⟩ | exact ⟨h.1, fun q => hk _ (h.2.1 q), fun q => hk _ (h.2.2 q)⟩ | exact ⟨h.1, h.2.1, h.2.2.1, fun q => hk _ (h.2.2.2.1 q), fun j o q1 q2 => hk _ (h.2.2.2.2 j o q1 q2)⟩ | exact ⟨hk _ h.1, hk _ h.2⟩)

theorem cm_ldiv_im : cm_Mon cm_ldiv := by
  intro E P t S k1 k2 h hk
  obtain ⟨pc, L, st, M⟩ := S
  unfold cm_ldiv at h ⊢
  dsimp only at h ⊢
  split at h <;> (first | exact h.elim | exact hk _ h | exact ⟨h.1, hk _ h.2⟩ | exact ⟨h.1, h.2.1, hk _ h.2.2⟩ | exact ⟨h.1, h.2.1, h.2.2.1, hk _ h.2.2.2⟩ | exact ⟨h.1, h.2.1, h.2.2.1, h.2.2.2.1, hk _ h.2.2.2.2⟩ | exact ⟨h.1, h.2.1, h.2.2.1, h.2.2.2.1, h.2.2.2.2.1, hk _ h.2.2.2.2.2⟩ | exact ⟨h.1, h.2.1, h.2.2.1, h.2.2.2.1, h.2.2.2.2.1, h.2.2.2.2.2.1, h.2.2.2.2.2.2.1, h.2.2.2.2.2.2.2.1, hk _ h.2.2.2.2.2.2.2.2⟩ | exact ⟨h.1, fun q => hk _ (h.2.1 q), fun q => hk _ (h.2.2 q)⟩ | exact ⟨h.1, h.2.1, h.2.2.1, fun q => hk _ (h.2.2.2.1 q), fun j o q1 q2 => hk _ (h.2.2.2.2 j o q1 q2)⟩ | exact ⟨hk _ h.1, hk _ h.2⟩)

theorem cm_lrem_im : cm_Mon cm_lrem := by
  intro E P t S k1 k2 h hk
  obtain ⟨pc, L, st, M⟩ := S
  unfold cm_lrem at h ⊢
  dsimp only at h ⊢
  split at h <;> (first | exact h.elim | exact hk _ h | exact ⟨h.1, hk _ h.2⟩ | exact ⟨h.1, h.2.1, hk _ h.2.2⟩ | exact ⟨h.1, h.2.1, h.2.2.1, hk _ h.2.2.2⟩ | exact ⟨h.1, h.2.1, h.2.2.1, h.2.2.2.1, hk _ h.2.2.2.2⟩ | exact ⟨h.1, h.2.1, h.2.2.1, h.2.2.2.1, h.2.2.2.2.1, hk _ h.2.2.2.2.2⟩ | exact ⟨h.1, h.2.1, h.2.2.1, h.2.2.2.1, h.2.2.2.2.1, h.2.2.2.2.2.1, h.2.2.2.2.2.2.1, h.2.2.2.2.2.2.2.1, hk _ h.2.2.2.2.2.2.2.2⟩ | exact ⟨h.1, fun q => hk _ (h.2.1 q), fun q => hk _ (h.2.2 q)⟩ | exact ⟨h.1, h.2.1, h.2.2.1, fun q => hk _ (h.2.2.2.1 q), fun j o q1 q2 => hk _ (h.2.2.2.2 j o q1 q2)⟩ | exact ⟨hk _ h.1, hk _ h.2⟩)

theorem cm_ldc2_im : cm_Mon cm_ldc2 := by
  intro E P t S k1 k2 h hk
  obtain ⟨pc, L, st, M⟩ := S
  unfold cm_ldc2 at h ⊢
  dsimp only at h ⊢
  first | exact h.elim | exact hk _ h | exact ⟨h.1, hk _ h.2⟩ | exact ⟨h.1, h.2.1, hk _ h.2.2⟩ | exact ⟨h.1, h.2.1, h.2.2.1, hk _ h.2.2.2⟩ | exact ⟨h.1, h.2.1, h.2.2.1, h.2.2.2.1, hk _ h.2.2.2.2⟩ | exact ⟨h.1, h.2.1, h.2.2.1, h.2.2.2.1, h.2.2.2.2.1, hk _ h.2.2.2.2.2⟩ | exact ⟨h.1, h.2.1, h.2.2.1, h.2.2.2.1, h.2.2.2.2.1, h.2.2.2.2.2.1, h.2.2.2.2.2.2.1, h.2.2.2.2.2.2.2.1, hk _ h.2.2.2.2.2.2.2.2⟩ | exact ⟨h.1, fun q => hk _ (h.2.1 q), fun q => hk _ (h.2.2 q)⟩ | exact ⟨h.1, h.2.1, h.2.2.1, fun q => hk _ (h.2.2.2.1 q), fun j o q1 q2 => hk _ (h.2.2.2.2 j o q1 q2)⟩ | exact ⟨hk _ h.1, hk _ h.2⟩

theorem cm_getsF_im : cm_Mon cm_getsF := by
  intro E P t S k1 k2 h hk
  obtain ⟨pc, L, st, M⟩ := S
  unfold cm_getsF at h ⊢
  dsimp only at h ⊢
  first | exact h.elim | exact hk _ h | exact ⟨h.1, hk _ h.2⟩ | exact ⟨h.1, h.2.1, hk _ h.2.2⟩ | exact ⟨h.1, h.2.1, h.2.2.1, hk _ h.2.2.2⟩ | exact ⟨h.1, h.2.1, h.2.2.1, h.2.2.2.1, hk _ h.2.2.2.2⟩ | exact ⟨h.1, h.2.1, h.2.2.1, h.2.2.2.1, h.2.2.2.2.1, hk _ h.2.2.2.2.2⟩ | exact ⟨h.1, h.2.1, h.2.2.1, h.2.2.2.1, h.2.2.2.2.1, h.2.2.2.2.2.1, h.2.2.2.2.2.2.1, h.2.2.2.2.2.2.2.1, hk _ h.2.2.2.2.2.2.2.2⟩ | exact ⟨h.1, fun q => hk _ (h.2.1 q), fun q => hk _ (h.2.2 q)⟩ | exact ⟨h.1, h.2.1, h.2.2.1, fun q => hk _ (h.2.2.2.1 q), fun j o q1 q2 => hk _ (h.2.2.2.2 j o q1 q2)⟩ | exact ⟨hk _ h.1, hk _ h.2⟩

theorem cm_ldcw_im : cm_Mon cm_ldcw := by
  intro E P t S k1 k2 h hk
  obtain ⟨pc, L, st, M⟩ := S
  unfold cm_ldcw at h ⊢
  dsimp only at h ⊢
  first | exact h.elim | exact hk _ h | exact ⟨h.1, hk _ h.2⟩ | exact ⟨h.1, h.2.1, hk _ h.2.2⟩ | exact ⟨h.1, h.2.1, h.2.2.1, hk _ h.2.2.2⟩ | exact ⟨h.1, h.2.1, h.2.2.1, h.2.2.2.1, hk _ h.2.2.2.2⟩ | exact ⟨h.1, h.2.1, h.2.2.1, h.2.2.2.1, h.2.2.2.2.1, hk _ h.2.2.2.2.2⟩ | exact ⟨h.1, h.2.1, h.2.2.1, h.2.2.2.1, h.2.2.2.2.1, h.2.2.2.2.2.1, h.2.2.2.2.2.2.1, h.2.2.2.2.2.2.2.1, hk _ h.2.2.2.2.2.2.2.2⟩ | exact ⟨h.1, fun q => hk _ (h.2.1 q), fun q => hk _ (h.2.2 q)⟩ | exact ⟨h.1, h.2.1, h.2.2.1, fun q => hk _ (h.2.2.2.1 q), fun j o q1 q2 => hk _ (h.2.2.2.2 j o q1 q2)⟩ | exact ⟨hk _ h.1, hk _ h.2⟩

theorem cm_mmax_im : cm_Mon cm_mmax := by
  intro E P t S k1 k2 h hk
  obtain ⟨pc, L, st, M⟩ := S
  unfold cm_mmax at h ⊢
  dsimp only at h ⊢
  split at h <;> (first | exact h.elim | exact hk _ h | exact ⟨h.1, hk _ h.2⟩ | exact ⟨h.1, h.2.1, hk _ h.2.2⟩ | exact ⟨h.1, h.2.1, h.2.2.1, hk _ h.2.2.2⟩ | exact ⟨h.1, h.2.1, h.2.2.1, h.2.2.2.1, hk _ h.2.2.2.2⟩ | exact ⟨h.1, h.2.1, h.2.2.1, h.2.2.2.1, h.2.2.2.2.1, hk _ h.2.2.2.2.2⟩ | exact ⟨h.1, h.2.1, h.2.2.1, h.2.2.2.1, h.2.2.2.2.1, h.2.2.2.2.2.1, h.2.2.2.2.2.2.1, h.2.2.2.2.2.2.2.1, hk _ h.2.2.2.2.2.2.2.2⟩ | exact ⟨h.1, fun q => hk _ (h.2.1 q), fun q => hk _ (h.2.2 q)⟩ | exact ⟨h.1, h.2.1, h.2.2.1, fun q => hk _ (h.2.2.2.1 q), fun j o q1 q2 => hk _ (h.2.2.2.2 j o q1 q2)⟩ | exact ⟨hk _ h.1, hk _ h.2⟩)

theorem cm_mabs_im : cm_Mon cm_mabs := by
  intro E P t S k1 k2 h hk
  obtain ⟨pc, L, st, M⟩ := S
  unfold cm_mabs at h ⊢
  dsimp only at h ⊢
  split at h <;> (first | exact h.elim | exact hk _ h | exact ⟨h.1, hk _ h.2⟩ | exact ⟨h.1, h.2.1, hk _ h.2.2⟩ | exact ⟨h.1, h.2.1, h.2.2.1, hk _ h.2.2.2⟩ | exact ⟨h.1, h.2.1, h.2.2.1, h.2.2.2.1, hk _ h.2.2.2.2⟩ | exact ⟨h.1, h.2.1, h.2.2.1, h.2.2.2.1, h.2.2.2.2.1, hk _ h.2.2.2.2.2⟩ | exact ⟨h.1, h.2.1, h.2.2.1, h.2.2.2.1, h.2.2.2.2.1, h.2.2.2.2.2.1, h.2.2.2.2.2.2.1, h.2.2.2.2.2.2.2.1, hk _ h.2.2.2.2.2.2.2.2⟩ | exact ⟨h.1, fun q => hk _ (h.2.1 q), fun q => hk _ (h.2.2 q)⟩ | exact ⟨h.1, h.2.1, h.2.2.1, fun q => hk _ (h.2.2.2.1 q), fun j o q1 q2 => hk _ (h.2.2.2.2 j o q1 q2)⟩ | exact ⟨hk _ h.1, hk _ h.2⟩)

theorem cm_copyi_im : cm_Mon cm_copyi := by
  intro E P t S k1 k2 h hk
  obtain ⟨pc, L, st, M⟩ := S
  unfold cm_copyi at h ⊢
  dsimp only at h ⊢
  split at h <;> (first | exact h.elim | exact hk _ h | exact ⟨h.1, hk _ h.2⟩ | exact ⟨h.1, h.2.1, hk _ h.2.2⟩ | exact ⟨h.1, h.2.1, h.2.2.1, hk _ h.2.2.2⟩ | exact ⟨h.1, h.2.1, h.2.2.1, h.2.2.2.1, hk _ h.2.2.2.2⟩ | exact ⟨h.1, h.2.1, h.2.2.1, h.2.2.2.1, h.2.2.2.2.1, hk _ h.2.2.2.2.2⟩ | exact ⟨h.1, h.2.1, h.2.2.1, h.2.2.2.1, h.2.2.2.2.1, h.2.2.2.2.2.1, h.2.2.2.2.2.2.1, h.2.2.2.2.2.2.2.1, hk _ h.2.2.2.2.2.2.2.2⟩ | exact ⟨h.1, fun q => hk _ (h.2.1 q), fun q => hk _ (h.2.2 q)⟩ | exact ⟨h.1, h.2.1, h.2.2.1, fun q => hk _ (h.2.2.2.1 q), fun j o q1 q2 => hk _ (h.2.2.2.2 j o q1 q2)⟩ | exact ⟨hk _ h.1, hk _ h.2⟩)

theorem cm_getT_im : cm_Mon cm_getT := by
  intro E P t S k1 k2 h hk
  obtain ⟨pc, L, st, M⟩ := S
  unfold cm_getT at h ⊢
  dsimp only at h ⊢
  first | exact h.elim | exact hk _ h | exact ⟨h.1, hk _ h.2⟩ | exact ⟨h.1, h.2.1, hk _ h.2.2⟩ | exact ⟨h.1, h.2.1, h.2.2.1, hk _ h.2.2.2⟩ | exact ⟨h.1, h.2.1, h.2.2.1, h.2.2.2.1, hk _ h.2.2.2.2⟩ | exact ⟨h.1, h.2.1, h.2.2.1, h.2.2.2.1, h.2.2.2.2.1, hk _ h.2.2.2.2.2⟩ | exact ⟨h.1, h.2.1, h.2.2.1, h.2.2.2.1, h.2.2.2.2.1, h.2.2.2.2.2.1, h.2.2.2.2.2.2.1, h.2.2.2.2.2.2.2.1, hk _ h.2.2.2.2.2.2.2.2⟩ | exact ⟨h.1, fun q => hk _ (h.2.1 q), fun q => hk _ (h.2.2 q)⟩ | exact ⟨h.1, h.2.1, h.2.2.1, fun q => hk _ (h.2.2.2.1 q), fun j o q1 q2 => hk _ (h.2.2.2.2 j o q1 q2)⟩ | exact ⟨hk _ h.1, hk _ h.2⟩

theorem cm_tald_im : cm_Mon cm_tald := by
  intro E P t S k1 k2 h hk
  obtain ⟨pc, L, st, M⟩ := S
  unfold cm_tald at h ⊢
  dsimp only at h ⊢
  split at h <;> (first | exact h.elim | exact hk _ h | exact ⟨h.1, hk _ h.2⟩ | exact ⟨h.1, h.2.1, hk _ h.2.2⟩ | exact ⟨h.1, h.2.1, h.2.2.1, hk _ h.2.2.2⟩ | exact ⟨h.1, h.2.1, h.2.2.1, h.2.2.2.1, hk _ h.2.2.2.2⟩ | exact ⟨h.1, h.2.1, h.2.2.1, h.2.2.2.1, h.2.2.2.2.1, hk _ h.2.2.2.2.2⟩ | exact ⟨h.1, h.2.1, h.2.2.1, h.2.2.2.1, h.2.2.2.2.1, h.2.2.2.2.2.1, h.2.2.2.2.2.2.1, h.2.2.2.2.2.2.2.1, hk _ h.2.2.2.2.2.2.2.2⟩ | exact ⟨h.1, fun q => hk _ (h.2.1 q), fun q => hk _ (h.2.2 q)⟩ | exact ⟨h.1, h.2.1, h.2.2.1, fun q => hk _ (h.2.2.2.1 q), fun j o q1 q2 => hk _ (h.2.2.2.2 j o q1 q2)⟩ | exact ⟨hk _ h.1, hk _ h.2⟩)

theorem cm_alenT_im : cm_Mon cm_alenT := by
  intro E P t S k1 k2 h hk
  obtain ⟨pc, L, st, M⟩ := S
  unfold cm_alenT at h ⊢
  dsimp only at h ⊢
  split at h <;> (first | exact h.elim | exact hk _ h | exact ⟨h.1, hk _ h.2⟩ | exact ⟨h.1, h.2.1, hk _ h.2.2⟩ | exact ⟨h.1, h.2.1, h.2.2.1, hk _ h.2.2.2⟩ | exact ⟨h.1, h.2.1, h.2.2.1, h.2.2.2.1, hk _ h.2.2.2.2⟩ | exact ⟨h.1, h.2.1, h.2.2.1, h.2.2.2.1, h.2.2.2.2.1, hk _ h.2.2.2.2.2⟩ | exact ⟨h.1, h.2.1, h.2.2.1, h.2.2.2.1, h.2.2.2.2.1, h.2.2.2.2.2.1, h.2.2.2.2.2.2.1, h.2.2.2.2.2.2.2.1, hk _ h.2.2.2.2.2.2.2.2⟩ | exact ⟨h.1, fun q => hk _ (h.2.1 q), fun q => hk _ (h.2.2 q)⟩ | exact ⟨h.1, h.2.1, h.2.2.1, fun q => hk _ (h.2.2.2.1 q), fun j o q1 q2 => hk _ (h.2.2.2.2 j o q1 q2)⟩ | exact ⟨hk _ h.1, hk _ h.2⟩)

theorem cm_lastore_im : cm_Mon cm_lastore := by
  intro E P t S k1 k2 h hk
  obtain ⟨pc, L, st, M⟩ := S
  unfold cm_lastore at h ⊢
  dsimp only at h ⊢
  split at h <;> (first | exact h.elim | exact hk _ h | exact ⟨h.1, hk _ h.2⟩ | exact ⟨h.1, h.2.1, hk _ h.2.2⟩ | exact ⟨h.1, h.2.1, h.2.2.1, hk _ h.2.2.2⟩ | exact ⟨h.1, h.2.1, h.2.2.1, h.2.2.2.1, hk _ h.2.2.2.2⟩ | exact ⟨h.1, h.2.1, h.2.2.1, h.2.2.2.1, h.2.2.2.2.1, hk _ h.2.2.2.2.2⟩ | exact ⟨h.1, h.2.1, h.2.2.1, h.2.2.2.1, h.2.2.2.2.1, h.2.2.2.2.2.1, h.2.2.2.2.2.2.1, h.2.2.2.2.2.2.2.1, hk _ h.2.2.2.2.2.2.2.2⟩ | exact ⟨h.1, fun q => hk _ (h.2.1 q), fun q => hk _ (h.2.2 q)⟩ | exact ⟨h.1, h.2.1, h.2.2.1, fun q => hk _ (h.2.2.2.1 q), fun j o q1 q2 => hk _ (h.2.2.2.2 j o q1 q2)⟩ | exact ⟨hk _ h.1, hk _ h.2⟩)

theorem cm_pop2_im : cm_Mon cm_pop2 := by
  intro E P t S k1 k2 h hk
  obtain ⟨pc, L, st, M⟩ := S
  unfold cm_pop2 at h ⊢
  dsimp only at h ⊢
  split at h <;> (first | exact h.elim | exact hk _ h | exact ⟨h.1, hk _ h.2⟩ | exact ⟨h.1, h.2.1, hk _ h.2.2⟩ | exact ⟨h.1, h.2.1, h.2.2.1, hk _ h.2.2.2⟩ | exact ⟨h.1, h.2.1, h.2.2.1, h.2.2.2.1, hk _ h.2.2.2.2⟩ | exact ⟨h.1, h.2.1, h.2.2.1, h.2.2.2.1, h.2.2.2.2.1, hk _ h.2.2.2.2.2⟩ | exact ⟨h.1, h.2.1, h.2.2.1, h.2.2.2.1, h.2.2.2.2.1, h.2.2.2.2.2.1, h.2.2.2.2.2.2.1, h.2.2.2.2.2.2.2.1, hk _ h.2.2.2.2.2.2.2.2⟩ | exact ⟨h.1, fun q => hk _ (h.2.1 q), fun q => hk _ (h.2.2 q)⟩ | exact ⟨h.1, h.2.1, h.2.2.1, fun q => hk _ (h.2.2.2.1 q), fun j o q1 q2 => hk _ (h.2.2.2.2 j o q1 q2)⟩ | exact ⟨hk _ h.1, hk _ h.2⟩)

theorem cm_d1 {o : cm_O} {l : List cm_O} (h : cm_Mon o) (h2 : ∀ o ∈ l, cm_Mon o) : ∀ o' ∈ o :: l, cm_Mon o' := List.forall_mem_cons.mpr ⟨h, h2⟩
theorem cm_ops_im : ∀ o ∈ cm_ops, cm_Mon o := cm_d1 cm_iconst_im (cm_d1 cm_bipush_im (cm_d1 cm_sipush_im (cm_d1 cm_lconst_im (cm_d1 cm_iload_im (cm_d1 cm_iloadn_im (cm_d1 cm_lload_im (cm_d1 cm_lloadn_im (cm_d1 cm_aload_im (cm_d1 cm_aloadn_im (cm_d1 cm_istore_im (cm_d1 cm_istoren_im (cm_d1 cm_lstore_im (cm_d1 cm_lstoren_im (cm_d1 cm_astore_im (cm_d1 cm_astoren_im (cm_d1 cm_iadd_im (cm_d1 cm_isub_im (cm_d1 cm_imul_im (cm_d1 cm_iand_im (cm_d1 cm_ior_im (cm_d1 cm_ixor_im (cm_d1 cm_ishl_im (cm_d1 cm_ishr_im (cm_d1 cm_iushr_im (cm_d1 cm_idiv_im (cm_d1 cm_irem_im (cm_d1 cm_ineg_im (cm_d1 cm_i2b_im (cm_d1 cm_i2l_im (cm_d1 cm_lcmp_im (cm_d1 cm_dup_im (cm_d1 cm_pop_im (cm_d1 cm_dup2_im (cm_d1 cm_iinc_im (cm_d1 cm_icmp_eq_im (cm_d1 cm_icmp_ne_im (cm_d1 cm_icmp_lt_im (cm_d1 cm_icmp_ge_im (cm_d1 cm_icmp_gt_im (cm_d1 cm_icmp_le_im (cm_d1 cm_if_eq_im (cm_d1 cm_if_ne_im (cm_d1 cm_if_lt_im (cm_d1 cm_if_ge_im (cm_d1 cm_if_gt_im (cm_d1 cm_if_le_im (cm_d1 cm_goto_im (cm_d1 cm_sw_im (cm_d1 cm_get_im (cm_d1 cm_put_im (cm_d1 cm_no_im (cm_d1 cm_iaload_im (cm_d1 cm_baload_im (cm_d1 cm_laload_im (cm_d1 cm_aaload_im (cm_d1 cm_iastore_im (cm_d1 cm_bastore_im (cm_d1 cm_no_im (cm_d1 cm_no_im (cm_d1 cm_no_im (cm_d1 cm_no_im (cm_d1 cm_no_im (cm_d1 cm_no_im (cm_d1 cm_alen_im (cm_d1 cm_sald_im (cm_d1 cm_no_im (cm_d1 cm_mmin_im (cm_d1 cm_ldc_im (cm_d1 cm_ldcS_im (cm_d1 cm_getV_im (cm_d1 cm_getC_im (cm_d1 cm_gets_im (cm_d1 cm_alenS_im (cm_d1 cm_baloadS_im (cm_d1 cm_i2c_im (cm_d1 cm_ladd_im (cm_d1 cm_lsub_im (cm_d1 cm_lmul_im (cm_d1 cm_ldiv_im (cm_d1 cm_lrem_im (cm_d1 cm_ldc2_im (cm_d1 cm_getsF_im (cm_d1 cm_ldcw_im (cm_d1 cm_mmax_im (cm_d1 cm_mabs_im (cm_d1 cm_copyi_im (cm_d1 cm_getT_im (cm_d1 cm_tald_im (cm_d1 cm_alenT_im (cm_d1 cm_lastore_im (cm_d1 cm_pop2_im (fun _ h => absurd h List.not_mem_nil))))))))))))))))))))))))))))))))))))))))))))))))))))))))))))))))))))))))))))))))))))))))))))
/-! CM: the next state as a function, without side conditions -/
abbrev cm_F1 : Type := cm_E → ev_P → ev_T → cm_S → Option cm_S
def cx_no : cm_F1 := fun _ _ _ _ => none
def cx_ld (ty : Nat) (n i : Nat) (S : cm_S) : Option cm_S := match ty, cm_look S.2.1 i with
  | 0, some (.int x) => some (cm_adv S n (.int x :: S.2.2.1))
  | 1, some (.long x) => some (cm_adv S n (.long x :: S.2.2.1))
  | 2, some (.ref x) => some (cm_adv S n (.ref x :: S.2.2.1))
  | _, _ => none
def cx_sto (ty : Nat) (n i : Nat) (S : cm_S) : Option cm_S := match ty, S.2.2.1 with
  | 0, .int x :: st => some (S.1 + n, cm_st1 S.2.1 i (.int x), st, S.2.2.2)
  | 1, .long x :: st => some (S.1 + n, cm_st2 S.2.1 i (.long x), st, S.2.2.2)
  | 2, .ref x :: st => some (S.1 + n, cm_st1 S.2.1 i (.ref x), st, S.2.2.2)
  | _, _ => none
/-- one way on (or two), and that the function knows it -/
def cm_Dt (o : cm_O) (x : cm_F1) : Prop := ∀ (E : cm_E) (P : ev_P) (t : ev_T) (S : cm_S) (k : cm_S → Prop), o.2 E P t S k → ∃ S1 S2, k S1 ∧ k S2 ∧ (∀ k' : cm_S → Prop, k' S1 → k' S2 → o.2 E P t S k') ∧ ∀ S0, x E P t S = some S0 → S0 = S1 ∧ S0 = S2
theorem cd_no : cm_Dt cm_no cx_no := fun E P t S k h => h.elim
theorem cd_ld {ty n i : Nat} {S : cm_S} {k : cm_S → Prop} (h : cm_ld ty n i S k) : ∃ S1, cx_ld ty n i S = some S1 ∧ k S1 ∧ ∀ k' : cm_S → Prop, k' S1 → cm_ld ty n i S k' := by
  unfold cm_ld at h
  split at h
  · rename_i x hx
    exact ⟨_, by unfold cx_ld; rw [hx]; rfl, h, fun k' h1 => by unfold cm_ld; rw [hx]; exact h1⟩
  · rename_i x hx
    exact ⟨_, by unfold cx_ld; rw [hx]; rfl, h, fun k' h1 => by unfold cm_ld; rw [hx]; exact h1⟩
  · rename_i x hx
    exact ⟨_, by unfold cx_ld; rw [hx]; rfl, h, fun k' h1 => by unfold cm_ld; rw [hx]; exact h1⟩
  · exact h.elim
theorem cd_sto {ty n i nL : Nat} {S : cm_S} {k : cm_S → Prop} (h : cm_sto ty n i nL S k) : ∃ S1, cx_sto ty n i S = some S1 ∧ k S1 ∧ ∀ k' : cm_S → Prop, k' S1 → cm_sto ty n i nL S k' := by
  obtain ⟨pc, L, st, M⟩ := S
  unfold cm_sto at h
  dsimp only at h
  split at h
  · exact ⟨_, rfl, h.2, fun k' h1 => ⟨h.1, h1⟩⟩
  · exact ⟨_, rfl, h.2, fun k' h1 => ⟨h.1, h1⟩⟩
  · exact ⟨_, rfl, h.2, fun k' h1 => ⟨h.1, h1⟩⟩
  · exact h.elim
theorem cd_stos {ty n i nL : Nat} {S : cm_S} {k : cm_S → Prop} (h : cm_sto ty n i nL S k) : ∃ S1 S2, k S1 ∧ k S2 ∧ (∀ k' : cm_S → Prop, k' S1 → k' S2 → cm_sto ty n i nL S k') ∧ ∀ S0, cx_sto ty n i S = some S0 → S0 = S1 ∧ S0 = S2 := by
  obtain ⟨S1, e1, e2, e3⟩ := cd_sto h
  refine ⟨S1, S1, e2, e2, fun k' h1 _ => e3 k' h1, fun S0 e => ?_⟩
  cases e1.symm.trans e
  exact ⟨rfl, rfl⟩
theorem cd_lds {ty n i : Nat} {S : cm_S} {k : cm_S → Prop} (h : cm_ld ty n i S k) : ∃ S1 S2, k S1 ∧ k S2 ∧ (∀ k' : cm_S → Prop, k' S1 → k' S2 → cm_ld ty n i S k') ∧ ∀ S0, cx_ld ty n i S = some S0 → S0 = S1 ∧ S0 = S2 := by
  obtain ⟨S1, e1, e2, e3⟩ := cd_ld h
  refine ⟨S1, S1, e2, e2, fun k' h1 _ => e3 k' h1, fun S0 e => ?_⟩
  cases e1.symm.trans e
  exact ⟨rfl, rfl⟩
def cx_iconst : cm_F1 := fun E P t S => some (cm_adv S 1 (.int (Int32.ofInt t.1) :: S.2.2.1))
theorem cd_iconst : cm_Dt cm_iconst cx_iconst := by
  intro E P t S k h
  obtain ⟨pc, L, st, M⟩ := S
  unfold cm_iconst at h ⊢
  dsimp only at h ⊢
  first | exact h.elim | exact ⟨_, _, h, h, fun k' h1 _ => h1, fun S0 e => by have e : some _ = some S0 := e; cases e; exact ⟨rfl, rfl⟩⟩ | exact ⟨_, _, h.2, h.2, fun k' h1 _ => ⟨h.1, h1⟩, fun S0 e => by have e : some _ = some S0 := e; cases e; exact ⟨rfl, rfl⟩⟩ | exact ⟨_, _, h.2.2, h.2.2, fun k' h1 _ => ⟨h.1, h.2.1, h1⟩, fun S0 e => by have e : some _ = some S0 := e; cases e; exact ⟨rfl, rfl⟩⟩ | exact ⟨_, _, h.2.2.2, h.2.2.2, fun k' h1 _ => ⟨h.1, h.2.1, h.2.2.1, h1⟩, fun S0 e => by have e : some _ = some S0 := e; cases e; exact ⟨rfl, rfl⟩⟩ | exact ⟨_, _, h.2.2.2.2, h.2.2.2.2, fun k' h1 _ => ⟨h.1, h.2.1, h.2.2.1, h.2.2.2.1, h1⟩, fun S0 e => by have e : some _ = some S0 := e; cases e; exact ⟨rfl, rfl⟩⟩ | exact ⟨_, _, h.2.2.2.2.2, h.2.2.2.2.2, fun k' h1 _ => ⟨h.1, h.2.1, h.2.2.1, h.2.2.2.1, h.2.2.2.2.1, h1⟩, fun S0 e => by have e : some _ = some S0 := e; cases e; exact ⟨rfl, rfl⟩⟩ | exact ⟨_, _, h.2.2.2.2.2.2, h.2.2.2.2.2.2, fun k' h1 _ => ⟨h.1, h.2.1, h.2.2.1, h.2.2.2.1, h.2.2.2.2.1, h.2.2.2.2.2.1, h1⟩, fun S0 e => by have e : some _ = some S0 := e; cases e; exact ⟨rfl, rfl⟩⟩ | exact ⟨_, _, h.2.2.2.2.2.2.2, h.2.2.2.2.2.2.2, fun k' h1 _ => ⟨h.1, h.2.1, h.2.2.1, h.2.2.2.1, h.2.2.2.2.1, h.2.2.2.2.2.1, h.2.2.2.2.2.2.1, h1⟩, fun S0 e => by have e : some _ = some S0 := e; cases e; exact ⟨rfl, rfl⟩⟩ | exact ⟨_, _, h.2.2.2.2.2.2.2.2, h.2.2.2.2.2.2.2.2, fun k' h1 _ => ⟨h.1, h.2.1, h.2.2.1, h.2.2.2.1, h.2.2.2.2.1, h.2.2.2.2.2.1, h.2.2.2.2.2.2.1, h.2.2.2.2.2.2.2.1, h1⟩, fun S0 e => by have e : some _ = some S0 := e; cases e; exact ⟨rfl, rfl⟩⟩ | exact ⟨_, _, h.2.2.2.2.2.2.2.2.2, h.2.2.2.2.2.2.2.2.2, fun k' h1 _ => ⟨h.1, h.2.1, h.2.2.1, h.2.2.2.1, h.2.2.2.2.1, h.2.2.2.2.2.1, h.2.2.2.2.2.2.1, h.2.2.2.2.2.2.2.1, h.2.2.2.2.2.2.2.2.1, h1⟩, fun S0 e => by have e : some _ = some S0 := e; cases e; exact ⟨rfl, rfl⟩⟩
def cx_bipush : cm_F1 := fun E P t S => some (cm_adv S 2 (.int ((Int8.ofInt t.1).toInt32) :: S.2.2.1))
theorem cd_bipush : cm_Dt cm_bipush cx_bipush := by
  intro E P t S k h
  obtain ⟨pc, L, st, M⟩ := S
  unfold cm_bipush at h ⊢
  dsimp only at h ⊢
  first | exact h.elim | exact ⟨_, _, h, h, fun k' h1 _ => h1, fun S0 e => by have e : some _ = some S0 := e; cases e; exact ⟨rfl, rfl⟩⟩ | exact ⟨_, _, h.2, h.2, fun k' h1 _ => ⟨h.1, h1⟩, fun S0 e => by have e : some _ = some S0 := e; cases e; exact ⟨rfl, rfl⟩⟩ | exact ⟨_, _, h.2.2, h.2.2, fun k' h1 _ => ⟨h.1, h.2.1, h1⟩, fun S0 e => by have e : some _ = some S0 := e; cases e; exact ⟨rfl, rfl⟩⟩ | exact ⟨_, _, h.2.2.2, h.2.2.2, fun k' h1 _ => ⟨h.1, h.2.1, h.2.2.1, h1⟩, fun S0 e => by have e : some _ = some S0 := e; cases e; exact ⟨rfl, rfl⟩⟩ | exact ⟨_, _, h.2.2.2.2, h.2.2.2.2, fun k' h1 _ => ⟨h.1, h.2.1, h.2.2.1, h.2.2.2.1, h1⟩, fun S0 e => by have e : some _ = some S0 := e; cases e; exact ⟨rfl, rfl⟩⟩ | exact ⟨_, _, h.2.2.2.2.2, h.2.2.2.2.2, fun k' h1 _ => ⟨h.1, h.2.1, h.2.2.1, h.2.2.2.1, h.2.2.2.2.1, h1⟩, fun S0 e => by have e : some _ = some S0 := e; cases e; exact ⟨rfl, rfl⟩⟩ | exact ⟨_, _, h.2.2.2.2.2.2, h.2.2.2.2.2.2, fun k' h1 _ => ⟨h.1, h.2.1, h.2.2.1, h.2.2.2.1, h.2.2.2.2.1, h.2.2.2.2.2.1, h1⟩, fun S0 e => by have e : some _ = some S0 := e; cases e; exact ⟨rfl, rfl⟩⟩ | exact ⟨_, _, h.2.2.2.2.2.2.2, h.2.2.2.2.2.2.2, fun k' h1 _ => ⟨h.1, h.2.1, h.2.2.1, h.2.2.2.1, h.2.2.2.2.1, h.2.2.2.2.2.1, h.2.2.2.2.2.2.1, h1⟩, fun S0 e => by have e : some _ = some S0 := e; cases e; exact ⟨rfl, rfl⟩⟩ | exact ⟨_, _, h.2.2.2.2.2.2.2.2, h.2.2.2.2.2.2.2.2, fun k' h1 _ => ⟨h.1, h.2.1, h.2.2.1, h.2.2.2.1, h.2.2.2.2.1, h.2.2.2.2.2.1, h.2.2.2.2.2.2.1, h.2.2.2.2.2.2.2.1, h1⟩, fun S0 e => by have e : some _ = some S0 := e; cases e; exact ⟨rfl, rfl⟩⟩ | exact ⟨_, _, h.2.2.2.2.2.2.2.2.2, h.2.2.2.2.2.2.2.2.2, fun k' h1 _ => ⟨h.1, h.2.1, h.2.2.1, h.2.2.2.1, h.2.2.2.2.1, h.2.2.2.2.2.1, h.2.2.2.2.2.2.1, h.2.2.2.2.2.2.2.1, h.2.2.2.2.2.2.2.2.1, h1⟩, fun S0 e => by have e : some _ = some S0 := e; cases e; exact ⟨rfl, rfl⟩⟩
def cx_sipush : cm_F1 := fun E P t S => some (cm_adv S 3 (.int ((Int16.ofInt t.1).toInt32) :: S.2.2.1))
theorem cd_sipush : cm_Dt cm_sipush cx_sipush := by
  intro E P t S k h
  obtain ⟨pc, L, st, M⟩ := S
  unfold cm_sipush at h ⊢
  dsimp only at h ⊢
  first | exact h.elim | exact ⟨_, _, h, h, fun k' h1 _ => h1, fun S0 e => by have e : some _ = some S0 := e; cases e; exact ⟨rfl, rfl⟩⟩ | exact ⟨_, _, h.2, h.2, fun k' h1 _ => ⟨h.1, h1⟩, fun S0 e => by have e : some _ = some S0 := e; cases e; exact ⟨rfl, rfl⟩⟩ | exact ⟨_, _, h.2.2, h.2.2, fun k' h1 _ => ⟨h.1, h.2.1, h1⟩, fun S0 e => by have e : some _ = some S0 := e; cases e; exact ⟨rfl, rfl⟩⟩ | exact ⟨_, _, h.2.2.2, h.2.2.2, fun k' h1 _ => ⟨h.1, h.2.1, h.2.2.1, h1⟩, fun S0 e => by have e : some _ = some S0 := e; cases e; exact ⟨rfl, rfl⟩⟩ | exact ⟨_, _, h.2.2.2.2, h.2.2.2.2, fun k' h1 _ => ⟨h.1, h.2.1, h.2.2.1, h.2.2.2.1, h1⟩, fun S0 e => by have e : some _ = some S0 := e; cases e; exact ⟨rfl, rfl⟩⟩ | exact ⟨_, _, h.2.2.2.2.2, h.2.2.2.2.2, fun k' h1 _ => ⟨h.1, h.2.1, h.2.2.1, h.2.2.2.1, h.2.2.2.2.1, h1⟩, fun S0 e => by have e : some _ = some S0 := e; cases e; exact ⟨rfl, rfl⟩⟩ | exact ⟨_, _, h.2.2.2.2.2.2, h.2.2.2.2.2.2, fun k' h1 _ => ⟨h.1, h.2.1, h.2.2.1, h.2.2.2.1, h.2.2.2.2.1, h.2.2.2.2.2.1, h1⟩, fun S0 e => by have e : some _ = some S0 := e; cases e; exact ⟨rfl, rfl⟩⟩ | exact ⟨_, _, h.2.2.2.2.2.2.2, h.2.2.2.2.2.2.2, fun k' h1 _ => ⟨h.1, h.2.1, h.2.2.1, h.2.2.2.1, h.2.2.2.2.1, h.2.2.2.2.2.1, h.2.2.2.2.2.2.1, h1⟩, fun S0 e => by have e : some _ = some S0 := e; cases e; exact ⟨rfl, rfl⟩⟩ | exact ⟨_, _, h.2.2.2.2.2.2.2.2, h.2.2.2.2.2.2.2.2, fun k' h1 _ => ⟨h.1, h.2.1, h.2.2.1, h.2.2.2.1, h.2.2.2.2.1, h.2.2.2.2.2.1, h.2.2.2.2.2.2.1, h.2.2.2.2.2.2.2.1, h1⟩, fun S0 e => by have e : some _ = some S0 := e; cases e; exact ⟨rfl, rfl⟩⟩ | exact ⟨_, _, h.2.2.2.2.2.2.2.2.2, h.2.2.2.2.2.2.2.2.2, fun k' h1 _ => ⟨h.1, h.2.1, h.2.2.1, h.2.2.2.1, h.2.2.2.2.1, h.2.2.2.2.2.1, h.2.2.2.2.2.2.1, h.2.2.2.2.2.2.2.1, h.2.2.2.2.2.2.2.2.1, h1⟩, fun S0 e => by have e : some _ = some S0 := e; cases e; exact ⟨rfl, rfl⟩⟩
def cx_lconst : cm_F1 := fun E P t S => some (cm_adv S 1 (.long (Int64.ofNat t.1.toNat) :: S.2.2.1))
theorem cd_lconst : cm_Dt cm_lconst cx_lconst := by
  intro E P t S k h
  obtain ⟨pc, L, st, M⟩ := S
  unfold cm_lconst at h ⊢
  dsimp only at h ⊢
  first | exact h.elim | exact ⟨_, _, h, h, fun k' h1 _ => h1, fun S0 e => by have e : some _ = some S0 := e; cases e; exact ⟨rfl, rfl⟩⟩ | exact ⟨_, _, h.2, h.2, fun k' h1 _ => ⟨h.1, h1⟩, fun S0 e => by have e : some _ = some S0 := e; cases e; exact ⟨rfl, rfl⟩⟩ | exact ⟨_, _, h.2.2, h.2.2, fun k' h1 _ => ⟨h.1, h.2.1, h1⟩, fun S0 e => by have e : some _ = some S0 := e; cases e; exact ⟨rfl, rfl⟩⟩ | exact ⟨_, _, h.2.2.2, h.2.2.2, fun k' h1 _ => ⟨h.1, h.2.1, h.2.2.1, h1⟩, fun S0 e => by have e : some _ = some S0 := e; cases e; exact ⟨rfl, rfl⟩⟩ | exact ⟨_, _, h.2.2.2.2, h.2.2.2.2, fun k' h1 _ => ⟨h.1, h.2.1, h.2.2.1, h.2.2.2.1, h1⟩, fun S0 e => by have e : some _ = some S0 := e; cases e; exact ⟨rfl, rfl⟩⟩ | exact ⟨_, _, h.2.2.2.2.2, h.2.2.2.2.2, fun k' h1 _ => ⟨h.1, h.2.1, h.2.2.1, h.2.2.2.1, h.2.2.2.2.1, h1⟩, fun S0 e => by have e : some _ = some S0 := e; cases e; exact ⟨rfl, rfl⟩⟩ | exact ⟨_, _, h.2.2.2.2.2.2, h.2.2.2.2.2.2, fun k' h1 _ => ⟨h.1, h.2.1, h.2.2.1, h.2.2.2.1, h.2.2.2.2.1, h.2.2.2.2.2.1, h1⟩, fun S0 e => by have e : some _ = some S0 := e; cases e; exact ⟨rfl, rfl⟩⟩ | exact ⟨_, _, h.2.2.2.2.2.2.2, h.2.2.2.2.2.2.2, fun k' h1 _ => ⟨h.1, h.2.1, h.2.2.1, h.2.2.2.1, h.2.2.2.2.1, h.2.2.2.2.2.1, h.2.2.2.2.2.2.1, h1⟩, fun S0 e => by have e : some _ = some S0 := e; cases e; exact ⟨rfl, rfl⟩⟩ | exact ⟨_, _, h.2.2.2.2.2.2.2.2, h.2.2.2.2.2.2.2.2, fun k' h1 _ => ⟨h.1, h.2.1, h.2.2.1, h.2.2.2.1, h.2.2.2.2.1, h.2.2.2.2.2.1, h.2.2.2.2.2.2.1, h.2.2.2.2.2.2.2.1, h1⟩, fun S0 e => by have e : some _ = some S0 := e; cases e; exact ⟨rfl, rfl⟩⟩ | exact ⟨_, _, h.2.2.2.2.2.2.2.2.2, h.2.2.2.2.2.2.2.2.2, fun k' h1 _ => ⟨h.1, h.2.1, h.2.2.1, h.2.2.2.1, h.2.2.2.2.1, h.2.2.2.2.2.1, h.2.2.2.2.2.2.1, h.2.2.2.2.2.2.2.1, h.2.2.2.2.2.2.2.2.1, h1⟩, fun S0 e => by have e : some _ = some S0 := e; cases e; exact ⟨rfl, rfl⟩⟩
def cx_iload : cm_F1 := fun E P t S => cx_ld 0 2 t.1.toNat S
theorem cd_iload : cm_Dt cm_iload cx_iload := fun E P t S k h => cd_lds h
def cx_iloadn : cm_F1 := fun E P t S => cx_ld 0 1 t.1.toNat S
theorem cd_iloadn : cm_Dt cm_iloadn cx_iloadn := fun E P t S k h => cd_lds h
def cx_lload : cm_F1 := fun E P t S => cx_ld 1 2 t.1.toNat S
theorem cd_lload : cm_Dt cm_lload cx_lload := fun E P t S k h => cd_lds h
def cx_lloadn : cm_F1 := fun E P t S => cx_ld 1 1 t.1.toNat S
theorem cd_lloadn : cm_Dt cm_lloadn cx_lloadn := fun E P t S k h => cd_lds h
def cx_aload : cm_F1 := fun E P t S => cx_ld 2 2 t.1.toNat S
theorem cd_aload : cm_Dt cm_aload cx_aload := fun E P t S k h => cd_lds h
def cx_aloadn : cm_F1 := fun E P t S => cx_ld 2 1 t.1.toNat S
theorem cd_aloadn : cm_Dt cm_aloadn cx_aloadn := fun E P t S k h => cd_lds h
def cx_istore : cm_F1 := fun E P t S => cx_sto 0 2 t.1.toNat S
theorem cd_istore : cm_Dt cm_istore cx_istore := fun E P t S k h => cd_stos h
def cx_istoren : cm_F1 := fun E P t S => cx_sto 0 1 t.1.toNat S
theorem cd_istoren : cm_Dt cm_istoren cx_istoren := fun E P t S k h => cd_stos h
def cx_lstore : cm_F1 := fun E P t S => cx_sto 1 2 t.1.toNat S
theorem cd_lstore : cm_Dt cm_lstore cx_lstore := fun E P t S k h => cd_stos h
def cx_lstoren : cm_F1 := fun E P t S => cx_sto 1 1 t.1.toNat S
theorem cd_lstoren : cm_Dt cm_lstoren cx_lstoren := fun E P t S k h => cd_stos h
def cx_astore : cm_F1 := fun E P t S => cx_sto 2 2 t.1.toNat S
theorem cd_astore : cm_Dt cm_astore cx_astore := fun E P t S k h => cd_stos h
def cx_astoren : cm_F1 := fun E P t S => cx_sto 2 1 t.1.toNat S
theorem cd_astoren : cm_Dt cm_astoren cx_astoren := fun E P t S k h => cd_stos h
def cx_iadd : cm_F1 := fun E P t S => match S.2.2.1 with
  | .int y :: .int x :: st => some (cm_adv S 1 (.int (x + y) :: st))
  | _ => none
theorem cd_iadd : cm_Dt cm_iadd cx_iadd := by
  intro E P t S k h
  obtain ⟨pc, L, st, M⟩ := S
  unfold cm_iadd at h ⊢
  dsimp only at h ⊢
  split at h <;> (first | exact h.elim | exact ⟨_, _, h, h, fun k' h1 _ => h1, fun S0 e => by have e : some _ = some S0 := e; cases e; exact ⟨rfl, rfl⟩⟩ | exact ⟨_, _, h.2, h.2, fun k' h1 _ => ⟨h.1, h1⟩, fun S0 e => by have e : some _ = some S0 := e; cases e; exact ⟨rfl, rfl⟩⟩ | exact ⟨_, _, h.2.2, h.2.2, fun k' h1 _ => ⟨h.1, h.2.1, h1⟩, fun S0 e => by have e : some _ = some S0 := e; cases e; exact ⟨rfl, rfl⟩⟩ | exact ⟨_, _, h.2.2.2, h.2.2.2, fun k' h1 _ => ⟨h.1, h.2.1, h.2.2.1, h1⟩, fun S0 e => by have e : some _ = some S0 := e; cases e; exact ⟨rfl, rfl⟩⟩ | exact ⟨_, _, h.2.2.2.2, h.2.2.2.2, fun k' h1 _ => ⟨h.1, h.2.1, h.2.2.1, h.2.2.2.1, h1⟩, fun S0 e => by have e : some _ = some S0 := e; cases e; exact ⟨rfl, rfl⟩⟩ | exact ⟨_, _, h.2.2.2.2.2, h.2.2.2.2.2, fun k' h1 _ => ⟨h.1, h.2.1, h.2.2.1, h.2.2.2.1, h.2.2.2.2.1, h1⟩, fun S0 e => by have e : some _ = some S0 := e; cases e; exact ⟨rfl, rfl⟩⟩ | exact ⟨_, _, h.2.2.2.2.2.2, h.2.2.2.2.2.2, fun k' h1 _ => ⟨h.1, h.2.1, h.2.2.1, h.2.2.2.1, h.2.2.2.2.1, h.2.2.2.2.2.1, h1⟩, fun S0 e => by have e : some _ = some S0 := e; cases e; exact ⟨rfl, rfl⟩⟩ | exact ⟨_, _, h.2.2.2.2.2.2.2, h.2.2.2.2.2.2.2, fun k' h1 _ => ⟨h.1, h.2.1, h.2.2.1, h.2.2.2.1, h.2.2.2.2.1, h.2.2.2.2.2.1, h.2.2.2.2.2.2.1, h1⟩, fun S0 e => by have e : some _ = some S0 := e; cases e; exact ⟨rfl, rfl⟩⟩ | exact ⟨_, _, h.2.2.2.2.2.2.2.2, h.2.2.2.2.2.2.2.2, fun k' h1 _ => ⟨h.1, h.2.1, h.2.2.1, h.2.2.2.1, h.2.2.2.2.1, h.2.2.2.2.2.1, h.2.2.2.2.2.2.1, h.2.2.2.2.2.2.2.1, h1⟩, fun S0 e => by have e : some _ = some S0 := e; cases e; exact ⟨rfl, rfl⟩⟩ | exact ⟨_, _, h.2.2.2.2.2.2.2.2.2, h.2.2.2.2.2.2.2.2.2, fun k' h1 _ => ⟨h.1, h.2.1, h.2.2.1, h.2.2.2.1, h.2.2.2.2.1, h.2.2.2.2.2.1, h.2.2.2.2.2.2.1, h.2.2.2.2.2.2.2.1, h.2.2.2.2.2.2.2.2.1, h1⟩, fun S0 e => by have e : some _ = some S0 := e; cases e; exact ⟨rfl, rfl⟩⟩)
def cx_isub : cm_F1 := fun E P t S => match S.2.2.1 with
  | .int y :: .int x :: st => some (cm_adv S 1 (.int (x - y) :: st))
  | _ => none
theorem cd_isub : cm_Dt cm_isub cx_isub := by
  intro E P t S k h
  obtain ⟨pc, L, st, M⟩ := S
  unfold cm_isub at h ⊢
  dsimp only at h ⊢
  split at h <;> (first | exact h.elim | exact ⟨_, _, h, h, fun k' h1 _ => h1, fun S0 e => by have e : some _ = some S0 := e; cases e; exact ⟨rfl, rfl⟩⟩ | exact ⟨_, _, h.2, h.2, fun k' h1 _ => ⟨h.1, h1⟩, fun S0 e => by have e : some _ = some S0 := e; cases e; exact ⟨rfl, rfl⟩⟩ | exact ⟨_, _, h.2.2, h.2.2, fun k' h1 _ => ⟨h.1, h.2.1, h1⟩, fun S0 e => by have e : some _ = some S0 := e; cases e; exact ⟨rfl, rfl⟩⟩ | exact ⟨_, _, h.2.2.2, h.2.2.2, fun k' h1 _ => ⟨h.1, h.2.1, h.2.2.1, h1⟩, fun S0 e => by have e : some _ = some S0 := e; cases e; exact ⟨rfl, rfl⟩⟩ | exact ⟨_, _, h.2.2.2.2, h.2.2.2.2, fun k' h1 _ => ⟨h.1, h.2.1, h.2.2.1, h.2.2.2.1, h1⟩, fun S0 e => by have e : some _ = some S0 := e; cases e; exact ⟨rfl, rfl⟩⟩ | exact ⟨_, _, h.2.2.2.2.2, h.2.2.2.2.2, fun k' h1 _ => ⟨h.1, h.2.1, h.2.2.1, h.2.2.2.1, h.2.2.2.2.1, h1⟩, fun S0 e => by have e : some _ = some S0 := e; cases e; exact ⟨rfl, rfl⟩⟩ | exact ⟨_, _, h.2.2.2.2.2.2, h.2.2.2.2.2.2, fun k' h1 _ => ⟨h.1, h.2.1, h.2.2.1, h.2.2.2.1, h.2.2.2.2.1, h.2.2.2.2.2.1, h1⟩, fun S0 e => by have e : some _ = some S0 := e; cases e; exact ⟨rfl, rfl⟩⟩ | exact ⟨_, _, h.2.2.2.2.2.2.2, h.2.2.2.2.2.2.2, fun k' h1 _ => ⟨h.1, h.2.1, h.2.2.1, h.2.2.2.1, h.2.2.2.2.1, h.2.2.2.2.2.1, h.2.2.2.2.2.2.1, h1⟩, fun S0 e => by have e : some _ = some S0 := e; cases e; exact ⟨rfl, rfl⟩⟩ | exact ⟨_, _, h.2.2.2.2.2.2.2.2, h.2.2.2.2.2.2.2.2, fun k' h1 _ => ⟨h.1, h.2.1, h.2.2.1, h.2.2.2.1, h.2.2.2.2.1, h.2.2.2.2.2.1, h.2.2.2.2.2.2.1, h.2.2.2.2.2.2.2.1, h1⟩, fun S0 e => by have e : some _ = some S0 := e; cases e; exact ⟨rfl, rfl⟩⟩ | exact ⟨_, _, h.2.2.2.2.2.2.2.2.2, h.2.2.2.2.2.2.2.2.2, fun k' h1 _ => ⟨h.1, h.2.1, h.2.2.1, h.2.2.2.1, h.2.2.2.2.1, h.2.2.2.2.2.1, h.2.2.2.2.2.2.1, h.2.2.2.2.2.2.2.1, h.2.2.2.2.2.2.2.2.1, h1⟩, fun S0 e => by have e : some _ = some S0 := e; cases e; exact ⟨rfl, rfl⟩⟩)
def cx_imul : cm_F1 := fun E P t S => match S.2.2.1 with
  | .int y :: .int x :: st => some (cm_adv S 1 (.int (x * y) :: st))
  | _ => none
theorem cd_imul : cm_Dt cm_imul cx_imul := by
  intro E P t S k h
  obtain ⟨pc, L, st, M⟩ := S
  unfold cm_imul at h ⊢
  dsimp only at h ⊢
  split at h <;> (first | exact h.elim | exact ⟨_, _, h, h, fun k' h1 _ => h1, fun S0 e => by have e : some _ = some S0 := e; cases e; exact ⟨rfl, rfl⟩⟩ | exact ⟨_, _, h.2, h.2, fun k' h1 _ => ⟨h.1, h1⟩, fun S0 e => by have e : some _ = some S0 := e; cases e; exact ⟨rfl, rfl⟩⟩ | exact ⟨_, _, h.2.2, h.2.2, fun k' h1 _ => ⟨h.1, h.2.1, h1⟩, fun S0 e => by have e : some _ = some S0 := e; cases e; exact ⟨rfl, rfl⟩⟩ | exact ⟨_, _, h.2.2.2, h.2.2.2, fun k' h1 _ => ⟨h.1, h.2.1, h.2.2.1, h1⟩, fun S0 e => by have e : some _ = some S0 := e; cases e; exact ⟨rfl, rfl⟩⟩ | exact ⟨_, _, h.2.2.2.2, h.2.2.2.2, fun k' h1 _ => ⟨h.1, h.2.1, h.2.2.1, h.2.2.2.1, h1⟩, fun S0 e => by have e : some _ = some S0 := e; cases e; exact ⟨rfl, rfl⟩⟩ | exact ⟨_, _, h.2.2.2.2.2, h.2.2.2.2.2, fun k' h1 _ => ⟨h.1, h.2.1, h.2.2.1, h.2.2.2.1, h.2.2.2.2.1, h1⟩, fun S0 e => by have e : some _ = some S0 := e; cases e; exact ⟨rfl, rfl⟩⟩ | exact ⟨_, _, h.2.2.2.2.2.2, h.2.2.2.2.2.2, fun k' h1 _ => ⟨h.1, h.2.1, h.2.2.1, h.2.2.2.1, h.2.2.2.2.1, h.2.2.2.2.2.1, h1⟩, fun S0 e => by have e : some _ = some S0 := e; cases e; exact ⟨rfl, rfl⟩⟩ | exact ⟨_, _, h.2.2.2.2.2.2.2, h.2.2.2.2.2.2.2, fun k' h1 _ => ⟨h.1, h.2.1, h.2.2.1, h.2.2.2.1, h.2.2.2.2.1, h.2.2.2.2.2.1, h.2.2.2.2.2.2.1, h1⟩, fun S0 e => by have e : some _ = some S0 := e; cases e; exact ⟨rfl, rfl⟩⟩ | exact ⟨_, _, h.2.2.2.2.2.2.2.2, h.2.2.2.2.2.2.2.2, fun k' h1 _ => ⟨h.1, h.2.1, h.2.2.1, h.2.2.2.1, h.2.2.2.2.1, h.2.2.2.2.2.1, h.2.2.2.2.2.2.1, h.2.2.2.2.2.2.2.1, h1⟩, fun S0 e => by have e : some _ = some S0 := e; cases e; exact ⟨rfl, rfl⟩⟩ | exact ⟨_, _, h.2.2.2.2.2.2.2.2.2, h.2.2.2.2.2.2.2.2.2, fun k' h1 _ => ⟨h.1, h.2.1, h.2.2.1, h.2.2.2.1, h.2.2.2.2.1, h.2.2.2.2.2.1, h.2.2.2.2.2.2.1, h.2.2.2.2.2.2.2.1, h.2.2.2.2.2.2.2.2.1, h1⟩, fun S0 e => by have e : some _ = some S0 := e; cases e; exact ⟨rfl, rfl⟩⟩)
def cx_iand : cm_F1 := fun E P t S => match S.2.2.1 with
  | .int y :: .int x :: st => some (cm_adv S 1 (.int (x &&& y) :: st))
  | _ => none
theorem cd_iand : cm_Dt cm_iand cx_iand := by
  intro E P t S k h
  obtain ⟨pc, L, st, M⟩ := S
  unfold cm_iand at h ⊢
  dsimp only at h ⊢
  split at h <;> (first | exact h.elim | exact ⟨_, _, h, h, fun k' h1 _ => h1, fun S0 e => by have e : some _ = some S0 := e; cases e; exact ⟨rfl, rfl⟩⟩ | exact ⟨_, _, h.2, h.2, fun k' h1 _ => ⟨h.1, h1⟩, fun S0 e => by have e : some _ = some S0 := e; cases e; exact ⟨rfl, rfl⟩⟩ | exact ⟨_, _, h.2.2, h.2.2, fun k' h1 _ => ⟨h.1, h.2.1, h1⟩, fun S0 e => by have e : some _ = some S0 := e; cases e; exact ⟨rfl, rfl⟩⟩ | exact ⟨_, _, h.2.2.2, h.2.2.2, fun k' h1 _ => ⟨h.1, h.2.1, h.2.2.1, h1⟩, fun S0 e => by have e : some _ = some S0 := e; cases e; exact ⟨rfl, rfl⟩⟩ | exact ⟨_, _, h.2.2.2.2, h.2.2.2.2, fun k' h1 _ => ⟨h.1, h.2.1, h.2.2.1, h.2.2.2.1, h1⟩, fun S0 e => by have e : some _ = some S0 := e; cases e; exact ⟨rfl, rfl⟩⟩ | exact ⟨_, _, h.2.2.2.2.2, h.2.2.2.2.2, fun k' h1 _ => ⟨h.1, h.2.1, h.2.2.1, h.2.2.2.1, h.2.2.2.2.1, h1⟩, fun S0 e => by have e : some _ = some S0 := e; cases e; exact ⟨rfl, rfl⟩⟩ | exact ⟨_, _, h.2.2.2.2.2.2, h.2.2.2.2.2.2, fun k' h1 _ => ⟨h.1, h.2.1, h.2.2.1, h.2.2.2.1, h.2.2.2.2.1, h.2.2.2.2.2.1, h1⟩, fun S0 e => by have e : some _ = some S0 := e; cases e; exact ⟨rfl, rfl⟩⟩ | exact ⟨_, _, h.2.2.2.2.2.2.2, h.2.2.2.2.2.2.2, fun k' h1 _ => ⟨h.1, h.2.1, h.2.2.1, h.2.2.2.1, h.2.2.2.2.1, h.2.2.2.2.2.1, h.2.2.2.2.2.2.1, h1⟩, fun S0 e => by have e : some _ = some S0 := e; cases e; exact ⟨rfl, rfl⟩⟩ | exact ⟨_, _, h.2.2.2.2.2.2.2.2, h.2.2.2.2.2.2.2.2, fun k' h1 _ => ⟨h.1, h.2.1, h.2.2.1, h.2.2.2.1, h.2.2.2.2.1, h.2.2.2.2.2.1, h.2.2.2.2.2.2.1, h.2.2.2.2.2.2.2.1, h1⟩, fun S0 e => by have e : some _ = some S0 := e; cases e; exact ⟨rfl, rfl⟩⟩ | exact ⟨_, _, h.2.2.2.2.2.2.2.2.2, h.2.2.2.2.2.2.2.2.2, fun k' h1 _ => ⟨h.1, h.2.1, h.2.2.1, h.2.2.2.1, h.2.2.2.2.1, h.2.2.2.2.2.1, h.2.2.2.2.2.2.1, h.2.2.2.2.2.2.2.1, h.2.2.2.2.2.2.2.2.1, h1⟩, fun S0 e => by have e : some _ = some S0 := e; cases e; exact ⟨rfl, rfl⟩⟩)
def cx_ior : cm_F1 := fun E P t S => match S.2.2.1 with
  | .int y :: .int x :: st => some (cm_adv S 1 (.int (x ||| y) :: st))
  | _ => none
theorem cd_ior : cm_Dt cm_ior cx_ior := by
  intro E P t S k h
  obtain ⟨pc, L, st, M⟩ := S
  unfold cm_ior at h ⊢
  dsimp only at h ⊢
  split at h <;> (first | exact h.elim | exact ⟨_, _, h, h, fun k' h1 _ => h1, fun S0 e => by have e : some _ = some S0 := e; cases e; exact ⟨rfl, rfl⟩⟩ | exact ⟨_, _, h.2, h.2, fun k' h1 _ => ⟨h.1, h1⟩, fun S0 e => by have e : some _ = some S0 := e; cases e; exact ⟨rfl, rfl⟩⟩ | exact ⟨_, _, h.2.2, h.2.2, fun k' h1 _ => ⟨h.1, h.2.1, h1⟩, fun S0 e => by have e : some _ = some S0 := e; cases e; exact ⟨rfl, rfl⟩⟩ | exact ⟨_, _, h.2.2.2, h.2.2.2, fun k' h1 _ => ⟨h.1, h.2.1, h.2.2.1, h1⟩, fun S0 e => by have e : some _ = some S0 := e; cases e; exact ⟨rfl, rfl⟩⟩ | exact ⟨_, _, h.2.2.2.2, h.2.2.2.2, fun k' h1 _ => ⟨h.1, h.2.1, h.2.2.1, h.2.2.2.1, h1⟩, fun S0 e => by have e : some _ = some S0 := e; cases e; exact ⟨rfl, rfl⟩⟩ | exact ⟨_, _, h.2.2.2.2.2, h.2.2.2.2.2, fun k' h1 _ => ⟨h.1, h.2.1, h.2.2.1, h.2.2.2.1, h.2.2.2.2.1, h1⟩, fun S0 e => by have e : some _ = some S0 := e; cases e; exact ⟨rfl, rfl⟩⟩ | exact ⟨_, _, h.2.2.2.2.2.2, h.2.2.2.2.2.2, fun k' h1 _ => ⟨h.1, h.2.1, h.2.2.1, h.2.2.2.1, h.2.2.2.2.1, h.2.2.2.2.2.1, h1⟩, fun S0 e => by have e : some _ = some S0 := e; cases e; exact ⟨rfl, rfl⟩⟩ | exact ⟨_, _, h.2.2.2.2.2.2.2, h.2.2.2.2.2.2.2, fun k' h1 _ => ⟨h.1, h.2.1, h.2.2.1, h.2.2.2.1, h.2.2.2.2.1, h.2.2.2.2.2.1, h.2.2.2.2.2.2.1, h1⟩, fun S0 e => by have e : some _ = some S0 := e; cases e; exact ⟨rfl, rfl⟩⟩ | exact ⟨_, _, h.2.2.2.2.2.2.2.2, h.2.2.2.2.2.2.2.2, fun k' h1 _ => ⟨h.1, h.2.1, h.2.2.1, h.2.2.2.1, h.2.2.2.2.1, h.2.2.2.2.2.1, h.2.2.2.2.2.2.1, h.2.2.2.2.2.2.2.1, h1⟩, fun S0 e => by have e : some _ = some S0 := e; cases e; exact ⟨rfl, rfl⟩⟩ | exact ⟨_, _, h.2.2.2.2.2.2.2.2.2, h.2.2.2.2.2.2.2.2.2, fun k' h1 _ => ⟨h.1, h.2.1, h.2.2.1, h.2.2.2.1, h.2.2.2.2.1, h.2.2.2.2.2.1, h.2.2.2.2.2.2.1, h.2.2.2.2.2.2.2.1, h.2.2.2.2.2.2.2.2.1, h1⟩, fun S0 e => by have e : some _ = some S0 := e; cases e; exact ⟨rfl, rfl⟩⟩)
def cx_ixor : cm_F1 := fun E P t S => match S.2.2.1 with
  | .int y :: .int x :: st => some (cm_adv S 1 (.int (x ^^^ y) :: st))
  | _ => none
theorem cd_ixor : cm_Dt cm_ixor cx_ixor := by
  intro E P t S k h
  obtain ⟨pc, L, st, M⟩ := S
  unfold cm_ixor at h ⊢
  dsimp only at h ⊢
  split at h <;> (first | exact h.elim | exact ⟨_, _, h, h, fun k' h1 _ => h1, fun S0 e => by have e : some _ = some S0 := e; cases e; exact ⟨rfl, rfl⟩⟩ | exact ⟨_, _, h.2, h.2, fun k' h1 _ => ⟨h.1, h1⟩, fun S0 e => by have e : some _ = some S0 := e; cases e; exact ⟨rfl, rfl⟩⟩ | exact ⟨_, _, h.2.2, h.2.2, fun k' h1 _ => ⟨h.1, h.2.1, h1⟩, fun S0 e => by have e : some _ = some S0 := e; cases e; exact ⟨rfl, rfl⟩⟩ | exact ⟨_, _, h.2.2.2, h.2.2.2, fun k' h1 _ => ⟨h.1, h.2.1, h.2.2.1, h1⟩, fun S0 e => by have e : some _ = some S0 := e; cases e; exact ⟨rfl, rfl⟩⟩ | exact ⟨_, _, h.2.2.2.2, h.2.2.2.2, fun k' h1 _ => ⟨h.1, h.2.1, h.2.2.1, h.2.2.2.1, h1⟩, fun S0 e => by have e : some _ = some S0 := e; cases e; exact ⟨rfl, rfl⟩⟩ | exact ⟨_, _, h.2.2.2.2.2, h.2.2.2.2.2, fun k' h1 _ => ⟨h.1, h.2.1, h.2.2.1, h.2.2.2.1, h.2.2.2.2.1, h1⟩, fun S0 e => by have e : some _ = some S0 := e; cases e; exact ⟨rfl, rfl⟩⟩ | exact ⟨_, _, h.2.2.2.2.2.2, h.2.2.2.2.2.2, fun k' h1 _ => ⟨h.1, h.2.1, h.2.2.1, h.2.2.2.1, h.2.2.2.2.1, h.2.2.2.2.2.1, h1⟩, fun S0 e => by have e : some _ = some S0 := e; cases e; exact ⟨rfl, rfl⟩⟩ | exact ⟨_, _, h.2.2.2.2.2.2.2, h.2.2.2.2.2.2.2, fun k' h1 _ => ⟨h.1, h.2.1, h.2.2.1, h.2.2.2.1, h.2.2.2.2.1, h.2.2.2.2.2.1, h.2.2.2.2.2.2.1, h1⟩, fun S0 e => by have e : some _ = some S0 := e; cases e; exact ⟨rfl, rfl⟩⟩ | exact ⟨_, _, h.2.2.2.2.2.2.2.2, h.2.2.2.2.2.2.2.2, fun k' h1 _ => ⟨h.1, h.2.1, h.2.2.1, h.2.2.2.1, h.2.2.2.2.1, h.2.2.2.2.2.1, h.2.2.2.2.2.2.1, h.2.2.2.2.2.2.2.1, h1⟩, fun S0 e => by have e : some _ = some S0 := e; cases e; exact ⟨rfl, rfl⟩⟩ | exact ⟨_, _, h.2.2.2.2.2.2.2.2.2, h.2.2.2.2.2.2.2.2.2, fun k' h1 _ => ⟨h.1, h.2.1, h.2.2.1, h.2.2.2.1, h.2.2.2.2.1, h.2.2.2.2.2.1, h.2.2.2.2.2.2.1, h.2.2.2.2.2.2.2.1, h.2.2.2.2.2.2.2.2.1, h1⟩, fun S0 e => by have e : some _ = some S0 := e; cases e; exact ⟨rfl, rfl⟩⟩)
def cx_ishl : cm_F1 := fun E P t S => match S.2.2.1 with
  | .int y :: .int x :: st => some (cm_adv S 1 (.int (x <<< (y &&& 31)) :: st))
  | _ => none
theorem cd_ishl : cm_Dt cm_ishl cx_ishl := by
  intro E P t S k h
  obtain ⟨pc, L, st, M⟩ := S
  unfold cm_ishl at h ⊢
  dsimp only at h ⊢
  split at h <;> (first | exact h.elim | exact ⟨_, _, h, h, fun k' h1 _ => h1, fun S0 e => by have e : some _ = some S0 := e; cases e; exact ⟨rfl, rfl⟩⟩ | exact ⟨_, _, h.2, h.2, fun k' h1 _ => ⟨h.1, h1⟩, fun S0 e => by have e : some _ = some S0 := e; cases e; exact ⟨rfl, rfl⟩⟩ | exact ⟨_, _, h.2.2, h.2.2, fun k' h1 _ => ⟨h.1, h.2.1, h1⟩, fun S0 e => by have e : some _ = some S0 := e; cases e; exact ⟨rfl, rfl⟩⟩ | exact ⟨_, _, h.2.2.2, h.2.2.2, fun k' h1 _ => ⟨h.1, h.2.1, h.2.2.1, h1⟩, fun S0 e => by have e : some _ = some S0 := e; cases e; exact ⟨rfl, rfl⟩⟩ | exact ⟨_, _, h.2.2.2.2, h.2.2.2.2, fun k' h1 _ => ⟨h.1, h.2.1, h.2.2.1, h.2.2.2.1, h1⟩, fun S0 e => by have e : some _ = some S0 := e; cases e; exact ⟨rfl, rfl⟩⟩ | exact ⟨_, _, h.2.2.2.2.2, h.2.2.2.2.2, fun k' h1 _ => ⟨h.1, h.2.1, h.2.2.1, h.2.2.2.1, h.2.2.2.2.1, h1⟩, fun S0 e => by have e : some _ = some S0 := e; cases e; exact ⟨rfl, rfl⟩⟩ | exact ⟨_, _, h.2.2.2.2.2.2, h.2.2.2.2.2.2, fun k' h1 _ => ⟨h.1, h.2.1, h.2.2.1, h.2.2.2.1, h.2.2.2.2.1, h.2.2.2.2.2.1, h1⟩, fun S0 e => by have e : some _ = some S0 := e; cases e; exact ⟨rfl, rfl⟩⟩ | exact ⟨_, _, h.2.2.2.2.2.2.2, h.2.2.2.2.2.2.2, fun k' h1 _ => ⟨h.1, h.2.1, h.2.2.1, h.2.2.2.1, h.2.2.2.2.1, h.2.2.2.2.2.1, h.2.2.2.2.2.2.1, h1⟩, fun S0 e => by have e : some _ = some S0 := e; cases e; exact ⟨rfl, rfl⟩⟩ | exact ⟨_, _, h.2.2.2.2.2.2.2.2, h.2.2.2.2.2.2.2.2, fun k' h1 _ => ⟨h.1, h.2.1, h.2.2.1, h.2.2.2.1, h.2.2.2.2.1, h.2.2.2.2.2.1, h.2.2.2.2.2.2.1, h.2.2.2.2.2.2.2.1, h1⟩, fun S0 e => by have e : some _ = some S0 := e; cases e; exact ⟨rfl, rfl⟩⟩ | exact ⟨_, _, h.2.2.2.2.2.2.2.2.2, h.2.2.2.2.2.2.2.2.2, fun k' h1 _ => ⟨h.1, h.2.1, h.2.2.1, h.2.2.2.1, h.2.2.2.2.1, h.2.2.2.2.2.1, h.2.2.2.2.2.2.1, h.2.2.2.2.2.2.2.1, h.2.2.2.2.2.2.2.2.1, h1⟩, fun S0 e => by have e : some _ = some S0 := e; cases e; exact ⟨rfl, rfl⟩⟩)
def cx_ishr : cm_F1 := fun E P t S => match S.2.2.1 with
  | .int y :: .int x :: st => some (cm_adv S 1 (.int (x >>> (y &&& 31)) :: st))
  | _ => none
theorem cd_ishr : cm_Dt cm_ishr cx_ishr := by
  intro E P t S k h
  obtain ⟨pc, L, st, M⟩ := S
  unfold cm_ishr at h ⊢
  dsimp only at h ⊢
  split at h <;> (first | exact h.elim | exact ⟨_, _, h, h, fun k' h1 _ => h1, fun S0 e => by have e : some _ = some S0 := e; cases e; exact ⟨rfl, rfl⟩⟩ | exact ⟨_, _, h.2, h.2, fun k' h1 _ => ⟨h.1, h1⟩, fun S0 e => by have e : some _ = some S0 := e; cases e; exact ⟨rfl, rfl⟩⟩ | exact ⟨_, _, h.2.2, h.2.2, fun k' h1 _ => ⟨h.1, h.2.1, h1⟩, fun S0 e => by have e : some _ = some S0 := e; cases e; exact ⟨rfl, rfl⟩⟩ | exact ⟨_, _, h.2.2.2, h.2.2.2, fun k' h1 _ => ⟨h.1, h.2.1, h.2.2.1, h1⟩, fun S0 e => by have e : some _ = some S0 := e; cases e; exact ⟨rfl, rfl⟩⟩ | exact ⟨_, _, h.2.2.2.2, h.2.2.2.2, fun k' h1 _ => ⟨h.1, h.2.1, h.2.2.1, h.2.2.2.1, h1⟩, fun S0 e => by have e : some _ = some S0 := e; cases e; exact ⟨rfl, rfl⟩⟩ | exact ⟨_, _, h.2.2.2.2.2, h.2.2.2.2.2, fun k' h1 _ => ⟨h.1, h.2.1, h.2.2.1, h.2.2.2.1, h.2.2.2.2.1, h1⟩, fun S0 e => by have e : some _ = some S0 := e; cases e; exact ⟨rfl, rfl⟩⟩ | exact ⟨_, _, h.2.2.2.2.2.2, h.2.2.2.2.2.2, fun k' h1 _ => ⟨h.1, h.2.1, h.2.2.1, h.2.2.2.1, h.2.2.2.2.1, h.2.2.2.2.2.1, h1⟩, fun S0 e => by have e : some _ = some S0 := e; cases e; exact ⟨rfl, rfl⟩⟩ | exact ⟨_, _, h.2.2.2.2.2.2.2, h.2.2.2.2.2.2.2, fun k' h1 _ => ⟨h.1, h.2.1, h.2.2.1, h.2.2.2.1, h.2.2.2.2.1, h.2.2.2.2.2.1, h.2.2.2.2.2.2.1, h1⟩, fun S0 e => by have e : some _ = some S0 := e; cases e; exact ⟨rfl, rfl⟩⟩ | exact ⟨_, _, h.2.2.2.2.2.2.2.2, h.2.2.2.2.2.2.2.2, fun k' h1 _ => ⟨h.1, h.2.1, h.2.2.1, h.2.2.2.1, h.2.2.2.2.1, h.2.2.2.2.2.1, h.2.2.2.2.2.2.1, h.2.2.2.2.2.2.2.1, h1⟩, fun S0 e => by have e : some _ = some S0 := e; cases e; exact ⟨rfl, rfl⟩⟩ | exact ⟨_, _, h.2.2.2.2.2.2.2.2.2, h.2.2.2.2.2.2.2.2.2, fun k' h1 _ => ⟨h.1, h.2.1, h.2.2.1, h.2.2.2.1, h.2.2.2.2.1, h.2.2.2.2.2.1, h.2.2.2.2.2.2.1, h.2.2.2.2.2.2.2.1, h.2.2.2.2.2.2.2.2.1, h1⟩, fun S0 e => by have e : some _ = some S0 := e; cases e; exact ⟨rfl, rfl⟩⟩)
def cx_iushr : cm_F1 := fun E P t S => match S.2.2.1 with
  | .int y :: .int x :: st => some (cm_adv S 1 (.int ((x.toUInt32 >>> (y.toUInt32 &&& Int32.toUInt32 31)).toInt32) :: st))
  | _ => none
theorem cd_iushr : cm_Dt cm_iushr cx_iushr := by
  intro E P t S k h
  obtain ⟨pc, L, st, M⟩ := S
  unfold cm_iushr at h ⊢
  dsimp only at h ⊢
  split at h <;> (first | exact h.elim | exact ⟨_, _, h, h, fun k' h1 _ => h1, fun S0 e => by have e : some _ = some S0 := e; cases e; exact ⟨rfl, rfl⟩⟩ | exact ⟨_, _, h.2, h.2, fun k' h1 _ => ⟨h.1, h1⟩, fun S0 e => by have e : some _ = some S0 := e; cases e; exact ⟨rfl, rfl⟩⟩ | exact ⟨_, _, h.2.2, h.2.2, fun k' h1 _ => ⟨h.1, h.2.1, h1⟩, fun S0 e => by have e : some _ = some S0 := e; cases e; exact ⟨rfl, rfl⟩⟩ | exact ⟨_, _, h.2.2.2, h.2.2.2, fun k' h1 _ => ⟨h.1, h.2.1, h.2.2.1, h1⟩, fun S0 e => by have e : some _ = some S0 := e; cases e; exact ⟨rfl, rfl⟩⟩ | exact ⟨_, _, h.2.2.2.2, h.2.2.2.2, fun k' h1 _ => ⟨h.1, h.2.1, h.2.2.1, h.2.2.2.1, h1⟩, fun S0 e => by have e : some _ = some S0 := e; cases e; exact ⟨rfl, rfl⟩⟩ | exact ⟨_, _, h.2.2.2.2.2, h.2.2.2.2.2, fun k' h1 _ => ⟨h.1, h.2.1, h.2.2.1, h.2.2.2.1, h.2.2.2.2.1, h1⟩, fun S0 e => by have e : some _ = some S0 := e; cases e; exact ⟨rfl, rfl⟩⟩ | exact ⟨_, _, h.2.2.2.2.2.2, h.2.2.2.2.2.2, fun k' h1 _ => ⟨h.1, h.2.1, h.2.2.1, h.2.2.2.1, h.2.2.2.2.1, h.2.2.2.2.2.1, h1⟩, fun S0 e => by have e : some _ = some S0 := e; cases e; exact ⟨rfl, rfl⟩⟩ | exact ⟨_, _, h.2.2.2.2.2.2.2, h.2.2.2.2.2.2.2, fun k' h1 _ => ⟨h.1, h.2.1, h.2.2.1, h.2.2.2.1, h.2.2.2.2.1, h.2.2.2.2.2.1, h.2.2.2.2.2.2.1, h1⟩, fun S0 e => by have e : some _ = some S0 := e; cases e; exact ⟨rfl, rfl⟩⟩ | exact ⟨_, _, h.2.2.2.2.2.2.2.2, h.2.2.2.2.2.2.2.2, fun k' h1 _ => ⟨h.1, h.2.1, h.2.2.1, h.2.2.2.1, h.2.2.2.2.1, h.2.2.2.2.2.1, h.2.2.2.2.2.2.1, h.2.2.2.2.2.2.2.1, h1⟩, fun S0 e => by have e : some _ = some S0 := e; cases e; exact ⟨rfl, rfl⟩⟩ | exact ⟨_, _, h.2.2.2.2.2.2.2.2.2, h.2.2.2.2.2.2.2.2.2, fun k' h1 _ => ⟨h.1, h.2.1, h.2.2.1, h.2.2.2.1, h.2.2.2.2.1, h.2.2.2.2.2.1, h.2.2.2.2.2.2.1, h.2.2.2.2.2.2.2.1, h.2.2.2.2.2.2.2.2.1, h1⟩, fun S0 e => by have e : some _ = some S0 := e; cases e; exact ⟨rfl, rfl⟩⟩)
def cx_idiv : cm_F1 := fun E P t S => match S.2.2.1 with
  | .int y :: .int x :: st => some (cm_adv S 1 (.int (x / y) :: st))
  | _ => none
theorem cd_idiv : cm_Dt cm_idiv cx_idiv := by
  intro E P t S k h
  obtain ⟨pc, L, st, M⟩ := S
  unfold cm_idiv at h ⊢
  dsimp only at h ⊢
  split at h <;> (first | exact h.elim | exact ⟨_, _, h, h, fun k' h1 _ => h1, fun S0 e => by have e : some _ = some S0 := e; cases e; exact ⟨rfl, rfl⟩⟩ | exact ⟨_, _, h.2, h.2, fun k' h1 _ => ⟨h.1, h1⟩, fun S0 e => by have e : some _ = some S0 := e; cases e; exact ⟨rfl, rfl⟩⟩ | exact ⟨_, _, h.2.2, h.2.2, fun k' h1 _ => ⟨h.1, h.2.1, h1⟩, fun S0 e => by have e : some _ = some S0 := e; cases e; exact ⟨rfl, rfl⟩⟩ | exact ⟨_, _, h.2.2.2, h.2.2.2, fun k' h1 _ => ⟨h.1, h.2.1, h.2.2.1, h1⟩, fun S0 e => by have e : some _ = some S0 := e; cases e; exact ⟨rfl, rfl⟩⟩ | exact ⟨_, _, h.2.2.2.2, h.2.2.2.2, fun k' h1 _ => ⟨h.1, h.2.1, h.2.2.1, h.2.2.2.1, h1⟩, fun S0 e => by have e : some _ = some S0 := e; cases e; exact ⟨rfl, rfl⟩⟩ | exact ⟨_, _, h.2.2.2.2.2, h.2.2.2.2.2, fun k' h1 _ => ⟨h.1, h.2.1, h.2.2.1, h.2.2.2.1, h.2.2.2.2.1, h1⟩, fun S0 e => by have e : some _ = some S0 := e; cases e; exact ⟨rfl, rfl⟩⟩ | exact ⟨_, _, h.2.2.2.2.2.2, h.2.2.2.2.2.2, fun k' h1 _ => ⟨h.1, h.2.1, h.2.2.1, h.2.2.2.1, h.2.2.2.2.1, h.2.2.2.2.2.1, h1⟩, fun S0 e => by have e : some _ = some S0 := e; cases e; exact ⟨rfl, rfl⟩⟩ | exact ⟨_, _, h.2.2.2.2.2.2.2, h.2.2.2.2.2.2.2, fun k' h1 _ => ⟨h.1, h.2.1, h.2.2.1, h.2.2.2.1, h.2.2.2.2.1, h.2.2.2.2.2.1, h.2.2.2.2.2.2.1, h1⟩, fun S0 e => by have e : some _ = some S0 := e; cases e; exact ⟨rfl, rfl⟩⟩ | exact ⟨_, _, h.2.2.2.2.2.2.2.2, h.2.2.2.2.2.2.2.2, fun k' h1 _ => ⟨h.1, h.2.1, h.2.2.1, h.2.2.2.1, h.2.2.2.2.1, h.2.2.2.2.2.1, h.2.2.2.2.2.2.1, h.2.2.2.2.2.2.2.1, h1⟩, fun S0 e => by have e : some _ = some S0 := e; cases e; exact ⟨rfl, rfl⟩⟩ | exact ⟨_, _, h.2.2.2.2.2.2.2.2.2, h.2.2.2.2.2.2.2.2.2, fun k' h1 _ => ⟨h.1, h.2.1, h.2.2.1, h.2.2.2.1, h.2.2.2.2.1, h.2.2.2.2.2.1, h.2.2.2.2.2.2.1, h.2.2.2.2.2.2.2.1, h.2.2.2.2.2.2.2.2.1, h1⟩, fun S0 e => by have e : some _ = some S0 := e; cases e; exact ⟨rfl, rfl⟩⟩)
def cx_irem : cm_F1 := fun E P t S => match S.2.2.1 with
  | .int y :: .int x :: st => some (cm_adv S 1 (.int (x - x / y * y) :: st))
  | _ => none
theorem cd_irem : cm_Dt cm_irem cx_irem := by
  intro E P t S k h
  obtain ⟨pc, L, st, M⟩ := S
  unfold cm_irem at h ⊢
  dsimp only at h ⊢
  split at h <;> (first | exact h.elim | exact ⟨_, _, h, h, fun k' h1 _ => h1, fun S0 e => by have e : some _ = some S0 := e; cases e; exact ⟨rfl, rfl⟩⟩ | exact ⟨_, _, h.2, h.2, fun k' h1 _ => ⟨h.1, h1⟩, fun S0 e => by have e : some _ = some S0 := e; cases e; exact ⟨rfl, rfl⟩⟩ | exact ⟨_, _, h.2.2, h.2.2, fun k' h1 _ => ⟨h.1, h.2.1, h1⟩, fun S0 e => by have e : some _ = some S0 := e; cases e; exact ⟨rfl, rfl⟩⟩ | exact ⟨_, _, h.2.2.2, h.2.2.2, fun k' h1 _ => ⟨h.1, h.2.1, h.2.2.1, h1⟩, fun S0 e => by have e : some _ = some S0 := e; cases e; exact ⟨rfl, rfl⟩⟩ | exact ⟨_, _, h.2.2.2.2, h.2.2.2.2, fun k' h1 _ => ⟨h.1, h.2.1, h.2.2.1, h.2.2.2.1, h1⟩, fun S0 e => by have e : some _ = some S0 := e; cases e; exact ⟨rfl, rfl⟩⟩ | exact ⟨_, _, h.2.2.2.2.2, h.2.2.2.2.2, fun k' h1 _ => ⟨h.1, h.2.1, h.2.2.1, h.2.2.2.1, h.2.2.2.2.1, h1⟩, fun S0 e => by have e : some _ = some S0 := e; cases e; exact ⟨rfl, rfl⟩⟩ | exact ⟨_, _, h.2.2.2.2.2.2, h.2.2.2.2.2.2, fun k' h1 _ => ⟨h.1, h.2.1, h.2.2.1, h.2.2.2.1, h.2.2.2.2.1, h.2.2.2.2.2.1, h1⟩, fun S0 e => by have e : some _ = some S0 := e; cases e; exact ⟨rfl, rfl⟩⟩ | exact ⟨_, _, h.2.2.2.2.2.2.2, h.2.2.2.2.2.2.2, fun k' h1 _ => ⟨h.1, h.2.1, h.2.2.1, h.2.2.2.1, h.2.2.2.2.1, h.2.2.2.2.2.1, h.2.2.2.2.2.2.1, h1⟩, fun S0 e => by have e : some _ = some S0 := e; cases e; exact ⟨rfl, rfl⟩⟩ | exact ⟨_, _, h.2.2.2.2.2.2.2.2, h.2.2.2.2.2.2.2.2, fun k' h1 _ => ⟨h.1, h.2.1, h.2.2.1, h.2.2.2.1, h.2.2.2.2.1, h.2.2.2.2.2.1, h.2.2.2.2.2.2.1, h.2.2.2.2.2.2.2.1, h1⟩, fun S0 e => by have e : some _ = some S0 := e; cases e; exact ⟨rfl, rfl⟩⟩ | exact ⟨_, _, h.2.2.2.2.2.2.2.2.2, h.2.2.2.2.2.2.2.2.2, fun k' h1 _ => ⟨h.1, h.2.1, h.2.2.1, h.2.2.2.1, h.2.2.2.2.1, h.2.2.2.2.2.1, h.2.2.2.2.2.2.1, h.2.2.2.2.2.2.2.1, h.2.2.2.2.2.2.2.2.1, h1⟩, fun S0 e => by have e : some _ = some S0 := e; cases e; exact ⟨rfl, rfl⟩⟩)
def cx_ineg : cm_F1 := fun E P t S => match S.2.2.1 with
  | .int x :: st => some (cm_adv S 1 (.int (-x) :: st))
  | _ => none
theorem cd_ineg : cm_Dt cm_ineg cx_ineg := by
  intro E P t S k h
  obtain ⟨pc, L, st, M⟩ := S
  unfold cm_ineg at h ⊢
  dsimp only at h ⊢
  split at h <;> (first | exact h.elim | exact ⟨_, _, h, h, fun k' h1 _ => h1, fun S0 e => by have e : some _ = some S0 := e; cases e; exact ⟨rfl, rfl⟩⟩ | exact ⟨_, _, h.2, h.2, fun k' h1 _ => ⟨h.1, h1⟩, fun S0 e => by have e : some _ = some S0 := e; cases e; exact ⟨rfl, rfl⟩⟩ | exact ⟨_, _, h.2.2, h.2.2, fun k' h1 _ => ⟨h.1, h.2.1, h1⟩, fun S0 e => by have e : some _ = some S0 := e; cases e; exact ⟨rfl, rfl⟩⟩ | exact ⟨_, _, h.2.2.2, h.2.2.2, fun k' h1 _ => ⟨h.1, h.2.1, h.2.2.1, h1⟩, fun S0 e => by have e : some _ = some S0 := e; cases e; exact ⟨rfl, rfl⟩⟩ | exact ⟨_, _, h.2.2.2.2, h.2.2.2.2, fun k' h1 _ => ⟨h.1, h.2.1, h.2.2.1, h.2.2.2.1, h1⟩, fun S0 e => by have e : some _ = some S0 := e; cases e; exact ⟨rfl, rfl⟩⟩ | exact ⟨_, _, h.2.2.2.2.2, h.2.2.2.2.2, fun k' h1 _ => ⟨h.1, h.2.1, h.2.2.1, h.2.2.2.1, h.2.2.2.2.1, h1⟩, fun S0 e => by have e : some _ = some S0 := e; cases e; exact ⟨rfl, rfl⟩⟩ | exact ⟨_, _, h.2.2.2.2.2.2, h.2.2.2.2.2.2, fun k' h1 _ => ⟨h.1, h.2.1, h.2.2.1, h.2.2.2.1, h.2.2.2.2.1, h.2.2.2.2.2.1, h1⟩, fun S0 e => by have e : some _ = some S0 := e; cases e; exact ⟨rfl, rfl⟩⟩ | exact ⟨_, _, h.2.2.2.2.2.2.2, h.2.2.2.2.2.2.2, fun k' h1 _ => ⟨h.1, h.2.1, h.2.2.1, h.2.2.2.1, h.2.2.2.2.1, h.2.2.2.2.2.1, h.2.2.2.2.2.2.1, h1⟩, fun S0 e => by have e : some _ = some S0 := e; cases e; exact ⟨rfl, rfl⟩⟩ | exact ⟨_, _, h.2.2.2.2.2.2.2.2, h.2.2.2.2.2.2.2.2, fun k' h1 _ => ⟨h.1, h.2.1, h.2.2.1, h.2.2.2.1, h.2.2.2.2.1, h.2.2.2.2.2.1, h.2.2.2.2.2.2.1, h.2.2.2.2.2.2.2.1, h1⟩, fun S0 e => by have e : some _ = some S0 := e; cases e; exact ⟨rfl, rfl⟩⟩ | exact ⟨_, _, h.2.2.2.2.2.2.2.2.2, h.2.2.2.2.2.2.2.2.2, fun k' h1 _ => ⟨h.1, h.2.1, h.2.2.1, h.2.2.2.1, h.2.2.2.2.1, h.2.2.2.2.2.1, h.2.2.2.2.2.2.1, h.2.2.2.2.2.2.2.1, h.2.2.2.2.2.2.2.2.1, h1⟩, fun S0 e => by have e : some _ = some S0 := e; cases e; exact ⟨rfl, rfl⟩⟩)
def cx_i2b : cm_F1 := fun E P t S => match S.2.2.1 with
  | .int x :: st => some (cm_adv S 1 (.int (x.toInt8.toInt32) :: st))
  | _ => none
theorem cd_i2b : cm_Dt cm_i2b cx_i2b := by
  intro E P t S k h
  obtain ⟨pc, L, st, M⟩ := S
  unfold cm_i2b at h ⊢
  dsimp only at h ⊢
  split at h <;> (first | exact h.elim | exact ⟨_, _, h, h, fun k' h1 _ => h1, fun S0 e => by have e : some _ = some S0 := e; cases e; exact ⟨rfl, rfl⟩⟩ | exact ⟨_, _, h.2, h.2, fun k' h1 _ => ⟨h.1, h1⟩, fun S0 e => by have e : some _ = some S0 := e; cases e; exact ⟨rfl, rfl⟩⟩ | exact ⟨_, _, h.2.2, h.2.2, fun k' h1 _ => ⟨h.1, h.2.1, h1⟩, fun S0 e => by have e : some _ = some S0 := e; cases e; exact ⟨rfl, rfl⟩⟩ | exact ⟨_, _, h.2.2.2, h.2.2.2, fun k' h1 _ => ⟨h.1, h.2.1, h.2.2.1, h1⟩, fun S0 e => by have e : some _ = some S0 := e; cases e; exact ⟨rfl, rfl⟩⟩ | exact ⟨_, _, h.2.2.2.2, h.2.2.2.2, fun k' h1 _ => ⟨h.1, h.2.1, h.2.2.1, h.2.2.2.1, h1⟩, fun S0 e => by have e : some _ = some S0 := e; cases e; exact ⟨rfl, rfl⟩⟩ | exact ⟨_, _, h.2.2.2.2.2, h.2.2.2.2.2, fun k' h1 _ => ⟨h.1, h.2.1, h.2.2.1, h.2.2.2.1, h.2.2.2.2.1, h1⟩, fun S0 e => by have e : some _ = some S0 := e; cases e; exact ⟨rfl, rfl⟩⟩ | exact ⟨_, _, h.2.2.2.2.2.2, h.2.2.2.2.2.2, fun k' h1 _ => ⟨h.1, h.2.1, h.2.2.1, h.2.2.2.1, h.2.2.2.2.1, h.2.2.2.2.2.1, h1⟩, fun S0 e => by have e : some _ = some S0 := e; cases e; exact ⟨rfl, rfl⟩⟩ | exact ⟨_, _, h.2.2.2.2.2.2.2, h.2.2.2.2.2.2.2, fun k' h1 _ => ⟨h.1, h.2.1, h.2.2.1, h.2.2.2.1, h.2.2.2.2.1, h.2.2.2.2.2.1, h.2.2.2.2.2.2.1, h1⟩, fun S0 e => by have e : some _ = some S0 := e; cases e; exact ⟨rfl, rfl⟩⟩ | exact ⟨_, _, h.2.2.2.2.2.2.2.2, h.2.2.2.2.2.2.2.2, fun k' h1 _ => ⟨h.1, h.2.1, h.2.2.1, h.2.2.2.1, h.2.2.2.2.1, h.2.2.2.2.2.1, h.2.2.2.2.2.2.1, h.2.2.2.2.2.2.2.1, h1⟩, fun S0 e => by have e : some _ = some S0 := e; cases e; exact ⟨rfl, rfl⟩⟩ | exact ⟨_, _, h.2.2.2.2.2.2.2.2.2, h.2.2.2.2.2.2.2.2.2, fun k' h1 _ => ⟨h.1, h.2.1, h.2.2.1, h.2.2.2.1, h.2.2.2.2.1, h.2.2.2.2.2.1, h.2.2.2.2.2.2.1, h.2.2.2.2.2.2.2.1, h.2.2.2.2.2.2.2.2.1, h1⟩, fun S0 e => by have e : some _ = some S0 := e; cases e; exact ⟨rfl, rfl⟩⟩)
def cx_i2l : cm_F1 := fun E P t S => match S.2.2.1 with
  | .int x :: st => some (cm_adv S 1 (.long x.toInt64 :: st))
  | _ => none
theorem cd_i2l : cm_Dt cm_i2l cx_i2l := by
  intro E P t S k h
  obtain ⟨pc, L, st, M⟩ := S
  unfold cm_i2l at h ⊢
  dsimp only at h ⊢
  split at h <;> (first | exact h.elim | exact ⟨_, _, h, h, fun k' h1 _ => h1, fun S0 e => by have e : some _ = some S0 := e; cases e; exact ⟨rfl, rfl⟩⟩ | exact ⟨_, _, h.2, h.2, fun k' h1 _ => ⟨h.1, h1⟩, fun S0 e => by have e : some _ = some S0 := e; cases e; exact ⟨rfl, rfl⟩⟩ | exact ⟨_, _, h.2.2, h.2.2, fun k' h1 _ => ⟨h.1, h.2.1, h1⟩, fun S0 e => by have e : some _ = some S0 := e; cases e; exact ⟨rfl, rfl⟩⟩ | exact ⟨_, _, h.2.2.2, h.2.2.2, fun k' h1 _ => ⟨h.1, h.2.1, h.2.2.1, h1⟩, fun S0 e => by have e : some _ = some S0 := e; cases e; exact ⟨rfl, rfl⟩⟩ | exact ⟨_, _, h.2.2.2.2, h.2.2.2.2, fun k' h1 _ => ⟨h.1, h.2.1, h.2.2.1, h.2.2.2.1, h1⟩, fun S0 e => by have e : some _ = some S0 := e; cases e; exact ⟨rfl, rfl⟩⟩ | exact ⟨_, _, h.2.2.2.2.2, h.2.2.2.2.2, fun k' h1 _ => ⟨h.1, h.2.1, h.2.2.1, h.2.2.2.1, h.2.2.2.2.1, h1⟩, fun S0 e => by have e : some _ = some S0 := e; cases e; exact ⟨rfl, rfl⟩⟩ | exact ⟨_, _, h.2.2.2.2.2.2, h.2.2.2.2.2.2, fun k' h1 _ => ⟨h.1, h.2.1, h.2.2.1, h.2.2.2.1, h.2.2.2.2.1, h.2.2.2.2.2.1, h1⟩, fun S0 e => by have e : some _ = some S0 := e; cases e; exact ⟨rfl, rfl⟩⟩ | exact ⟨_, _, h.2.2.2.2.2.2.2, h.2.2.2.2.2.2.2, fun k' h1 _ => ⟨h.1, h.2.1, h.2.2.1, h.2.2.2.1, h.2.2.2.2.1, h.2.2.2.2.2.1, h.2.2.2.2.2.2.1, h1⟩, fun S0 e => by have e : some _ = some S0 := e; cases e; exact ⟨rfl, rfl⟩⟩ | exact ⟨_, _, h.2.2.2.2.2.2.2.2, h.2.2.2.2.2.2.2.2, fun k' h1 _ => ⟨h.1, h.2.1, h.2.2.1, h.2.2.2.1, h.2.2.2.2.1, h.2.2.2.2.2.1, h.2.2.2.2.2.2.1, h.2.2.2.2.2.2.2.1, h1⟩, fun S0 e => by have e : some _ = some S0 := e; cases e; exact ⟨rfl, rfl⟩⟩ | exact ⟨_, _, h.2.2.2.2.2.2.2.2.2, h.2.2.2.2.2.2.2.2.2, fun k' h1 _ => ⟨h.1, h.2.1, h.2.2.1, h.2.2.2.1, h.2.2.2.2.1, h.2.2.2.2.2.1, h.2.2.2.2.2.2.1, h.2.2.2.2.2.2.2.1, h.2.2.2.2.2.2.2.2.1, h1⟩, fun S0 e => by have e : some _ = some S0 := e; cases e; exact ⟨rfl, rfl⟩⟩)
def cx_lcmp : cm_F1 := fun E P t S => match S.2.2.1 with
  | .long y :: .long x :: st => some (cm_adv S 1 (.int (lg_cmp x y) :: st))
  | _ => none
theorem cd_lcmp : cm_Dt cm_lcmp cx_lcmp := by
  intro E P t S k h
  obtain ⟨pc, L, st, M⟩ := S
  unfold cm_lcmp at h ⊢
  dsimp only at h ⊢
  split at h <;> (first | exact h.elim | exact ⟨_, _, h, h, fun k' h1 _ => h1, fun S0 e => by have e : some _ = some S0 := e; cases e; exact ⟨rfl, rfl⟩⟩ | exact ⟨_, _, h.2, h.2, fun k' h1 _ => ⟨h.1, h1⟩, fun S0 e => by have e : some _ = some S0 := e; cases e; exact ⟨rfl, rfl⟩⟩ | exact ⟨_, _, h.2.2, h.2.2, fun k' h1 _ => ⟨h.1, h.2.1, h1⟩, fun S0 e => by have e : some _ = some S0 := e; cases e; exact ⟨rfl, rfl⟩⟩ | exact ⟨_, _, h.2.2.2, h.2.2.2, fun k' h1 _ => ⟨h.1, h.2.1, h.2.2.1, h1⟩, fun S0 e => by have e : some _ = some S0 := e; cases e; exact ⟨rfl, rfl⟩⟩ | exact ⟨_, _, h.2.2.2.2, h.2.2.2.2, fun k' h1 _ => ⟨h.1, h.2.1, h.2.2.1, h.2.2.2.1, h1⟩, fun S0 e => by have e : some _ = some S0 := e; cases e; exact ⟨rfl, rfl⟩⟩ | exact ⟨_, _, h.2.2.2.2.2, h.2.2.2.2.2, fun k' h1 _ => ⟨h.1, h.2.1, h.2.2.1, h.2.2.2.1, h.2.2.2.2.1, h1⟩, fun S0 e => by have e : some _ = some S0 := e; cases e; exact ⟨rfl, rfl⟩⟩ | exact ⟨_, _, h.2.2.2.2.2.2, h.2.2.2.2.2.2, fun k' h1 _ => ⟨h.1, h.2.1, h.2.2.1, h.2.2.2.1, h.2.2.2.2.1, h.2.2.2.2.2.1, h1⟩, fun S0 e => by have e : some _ = some S0 := e; cases e; exact ⟨rfl, rfl⟩⟩ | exact ⟨_, _, h.2.2.2.2.2.2.2, h.2.2.2.2.2.2.2, fun k' h1 _ => ⟨h.1, h.2.1, h.2.2.1, h.2.2.2.1, h.2.2.2.2.1, h.2.2.2.2.2.1, h.2.2.2.2.2.2.1, h1⟩, fun S0 e => by have e : some _ = some S0 := e; cases e; exact ⟨rfl, rfl⟩⟩ | exact ⟨_, _, h.2.2.2.2.2.2.2.2, h.2.2.2.2.2.2.2.2, fun k' h1 _ => ⟨h.1, h.2.1, h.2.2.1, h.2.2.2.1, h.2.2.2.2.1, h.2.2.2.2.2.1, h.2.2.2.2.2.2.1, h.2.2.2.2.2.2.2.1, h1⟩, fun S0 e => by have e : some _ = some S0 := e; cases e; exact ⟨rfl, rfl⟩⟩ | exact ⟨_, _, h.2.2.2.2.2.2.2.2.2, h.2.2.2.2.2.2.2.2.2, fun k' h1 _ => ⟨h.1, h.2.1, h.2.2.1, h.2.2.2.1, h.2.2.2.2.1, h.2.2.2.2.2.1, h.2.2.2.2.2.2.1, h.2.2.2.2.2.2.2.1, h.2.2.2.2.2.2.2.2.1, h1⟩, fun S0 e => by have e : some _ = some S0 := e; cases e; exact ⟨rfl, rfl⟩⟩)
def cx_dup : cm_F1 := fun E P t S => match S.2.2.1 with
  | x :: st => some (cm_adv S 1 (x :: x :: st))
  | _ => none
theorem cd_dup : cm_Dt cm_dup cx_dup := by
  intro E P t S k h
  obtain ⟨pc, L, st, M⟩ := S
  unfold cm_dup at h ⊢
  dsimp only at h ⊢
  split at h <;> (first | exact h.elim | exact ⟨_, _, h, h, fun k' h1 _ => h1, fun S0 e => by have e : some _ = some S0 := e; cases e; exact ⟨rfl, rfl⟩⟩ | exact ⟨_, _, h.2, h.2, fun k' h1 _ => ⟨h.1, h1⟩, fun S0 e => by have e : some _ = some S0 := e; cases e; exact ⟨rfl, rfl⟩⟩ | exact ⟨_, _, h.2.2, h.2.2, fun k' h1 _ => ⟨h.1, h.2.1, h1⟩, fun S0 e => by have e : some _ = some S0 := e; cases e; exact ⟨rfl, rfl⟩⟩ | exact ⟨_, _, h.2.2.2, h.2.2.2, fun k' h1 _ => ⟨h.1, h.2.1, h.2.2.1, h1⟩, fun S0 e => by have e : some _ = some S0 := e; cases e; exact ⟨rfl, rfl⟩⟩ | exact ⟨_, _, h.2.2.2.2, h.2.2.2.2, fun k' h1 _ => ⟨h.1, h.2.1, h.2.2.1, h.2.2.2.1, h1⟩, fun S0 e => by have e : some _ = some S0 := e; cases e; exact ⟨rfl, rfl⟩⟩ | exact ⟨_, _, h.2.2.2.2.2, h.2.2.2.2.2, fun k' h1 _ => ⟨h.1, h.2.1, h.2.2.1, h.2.2.2.1, h.2.2.2.2.1, h1⟩, fun S0 e => by have e : some _ = some S0 := e; cases e; exact ⟨rfl, rfl⟩⟩ | exact ⟨_, _, h.2.2.2.2.2.2, h.2.2.2.2.2.2, fun k' h1 _ => ⟨h.1, h.2.1, h.2.2.1, h.2.2.2.1, h.2.2.2.2.1, h.2.2.2.2.2.1, h1⟩, fun S0 e => by have e : some _ = some S0 := e; cases e; exact ⟨rfl, rfl⟩⟩ | exact ⟨_, _, h.2.2.2.2.2.2.2, h.2.2.2.2.2.2.2, fun k' h1 _ => ⟨h.1, h.2.1, h.2.2.1, h.2.2.2.1, h.2.2.2.2.1, h.2.2.2.2.2.1, h.2.2.2.2.2.2.1, h1⟩, fun S0 e => by have e : some _ = some S0 := e; cases e; exact ⟨rfl, rfl⟩⟩ | exact ⟨_, _, h.2.2.2.2.2.2.2.2, h.2.2.2.2.2.2.2.2, fun k' h1 _ => ⟨h.1, h.2.1, h.2.2.1, h.2.2.2.1, h.2.2.2.2.1, h.2.2.2.2.2.1, h.2.2.2.2.2.2.1, h.2.2.2.2.2.2.2.1, h1⟩, fun S0 e => by have e : some _ = some S0 := e; cases e; exact ⟨rfl, rfl⟩⟩ | exact ⟨_, _, h.2.2.2.2.2.2.2.2.2, h.2.2.2.2.2.2.2.2.2, fun k' h1 _ => ⟨h.1, h.2.1, h.2.2.1, h.2.2.2.1, h.2.2.2.2.1, h.2.2.2.2.2.1, h.2.2.2.2.2.2.1, h.2.2.2.2.2.2.2.1, h.2.2.2.2.2.2.2.2.1, h1⟩, fun S0 e => by have e : some _ = some S0 := e; cases e; exact ⟨rfl, rfl⟩⟩)
def cx_pop : cm_F1 := fun E P t S => match S.2.2.1 with
  | x :: st => some (cm_adv S 1 st)
  | _ => none
theorem cd_pop : cm_Dt cm_pop cx_pop := by
  intro E P t S k h
  obtain ⟨pc, L, st, M⟩ := S
  unfold cm_pop at h ⊢
  dsimp only at h ⊢
  split at h <;> (first | exact h.elim | exact ⟨_, _, h, h, fun k' h1 _ => h1, fun S0 e => by have e : some _ = some S0 := e; cases e; exact ⟨rfl, rfl⟩⟩ | exact ⟨_, _, h.2, h.2, fun k' h1 _ => ⟨h.1, h1⟩, fun S0 e => by have e : some _ = some S0 := e; cases e; exact ⟨rfl, rfl⟩⟩ | exact ⟨_, _, h.2.2, h.2.2, fun k' h1 _ => ⟨h.1, h.2.1, h1⟩, fun S0 e => by have e : some _ = some S0 := e; cases e; exact ⟨rfl, rfl⟩⟩ | exact ⟨_, _, h.2.2.2, h.2.2.2, fun k' h1 _ => ⟨h.1, h.2.1, h.2.2.1, h1⟩, fun S0 e => by have e : some _ = some S0 := e; cases e; exact ⟨rfl, rfl⟩⟩ | exact ⟨_, _, h.2.2.2.2, h.2.2.2.2, fun k' h1 _ => ⟨h.1, h.2.1, h.2.2.1, h.2.2.2.1, h1⟩, fun S0 e => by have e : some _ = some S0 := e; cases e; exact ⟨rfl, rfl⟩⟩ | exact ⟨_, _, h.2.2.2.2.2, h.2.2.2.2.2, fun k' h1 _ => ⟨h.1, h.2.1, h.2.2.1, h.2.2.2.1, h.2.2.2.2.1, h1⟩, fun S0 e => by have e : some _ = some S0 := e; cases e; exact ⟨rfl, rfl⟩⟩ | exact ⟨_, _, h.2.2.2.2.2.2, h.2.2.2.2.2.2, fun k' h1 _ => ⟨h.1, h.2.1, h.2.2.1, h.2.2.2.1, h.2.2.2.2.1, h.2.2.2.2.2.1, h1⟩, fun S0 e => by have e : some _ = some S0 := e; cases e; exact ⟨rfl, rfl⟩⟩ | exact ⟨_, _, h.2.2.2.2.2.2.2, h.2.2.2.2.2.2.2, fun k' h1 _ => ⟨h.1, h.2.1, h.2.2.1, h.2.2.2.1, h.2.2.2.2.1, h.2.2.2.2.2.1, h.2.2.2.2.2.2.1, h1⟩, fun S0 e => by have e : some _ = some S0 := e; cases e; exact ⟨rfl, rfl⟩⟩ | exact ⟨_, _, h.2.2.2.2.2.2.2.2, h.2.2.2.2.2.2.2.2, fun k' h1 _ => ⟨h.1, h.2.1, h.2.2.1, h.2.2.2.1, h.2.2.2.2.1, h.2.2.2.2.2.1, h.2.2.2.2.2.2.1, h.2.2.2.2.2.2.2.1, h1⟩, fun S0 e => by have e : some _ = some S0 := e; cases e; exact ⟨rfl, rfl⟩⟩ | exact ⟨_, _, h.2.2.2.2.2.2.2.2.2, h.2.2.2.2.2.2.2.2.2, fun k' h1 _ => ⟨h.1, h.2.1, h.2.2.1, h.2.2.2.1, h.2.2.2.2.1, h.2.2.2.2.2.1, h.2.2.2.2.2.2.1, h.2.2.2.2.2.2.2.1, h.2.2.2.2.2.2.2.2.1, h1⟩, fun S0 e => by have e : some _ = some S0 := e; cases e; exact ⟨rfl, rfl⟩⟩)
def cx_dup2 : cm_F1 := fun E P t S => match S.2.2.1 with
  | x :: y :: st => some (cm_adv S 1 (x :: y :: x :: y :: st))
  | _ => none
theorem cd_dup2 : cm_Dt cm_dup2 cx_dup2 := by
  intro E P t S k h
  obtain ⟨pc, L, st, M⟩ := S
  unfold cm_dup2 at h ⊢
  dsimp only at h ⊢
  split at h <;> (first | exact h.elim | exact ⟨_, _, h, h, fun k' h1 _ => h1, fun S0 e => by have e : some _ = some S0 := e; cases e; exact ⟨rfl, rfl⟩⟩ | exact ⟨_, _, h.2, h.2, fun k' h1 _ => ⟨h.1, h1⟩, fun S0 e => by have e : some _ = some S0 := e; cases e; exact ⟨rfl, rfl⟩⟩ | exact ⟨_, _, h.2.2, h.2.2, fun k' h1 _ => ⟨h.1, h.2.1, h1⟩, fun S0 e => by have e : some _ = some S0 := e; cases e; exact ⟨rfl, rfl⟩⟩ | exact ⟨_, _, h.2.2.2, h.2.2.2, fun k' h1 _ => ⟨h.1, h.2.1, h.2.2.1, h1⟩, fun S0 e => by have e : some _ = some S0 := e; cases e; exact ⟨rfl, rfl⟩⟩ | exact ⟨_, _, h.2.2.2.2, h.2.2.2.2, fun k' h1 _ => ⟨h.1, h.2.1, h.2.2.1, h.2.2.2.1, h1⟩, fun S0 e => by have e : some _ = some S0 := e; cases e; exact ⟨rfl, rfl⟩⟩ | exact ⟨_, _, h.2.2.2.2.2, h.2.2.2.2.2, fun k' h1 _ => ⟨h.1, h.2.1, h.2.2.1, h.2.2.2.1, h.2.2.2.2.1, h1⟩, fun S0 e => by have e : some _ = some S0 := e; cases e; exact ⟨rfl, rfl⟩⟩ | exact ⟨_, _, h.2.2.2.2.2.2, h.2.2.2.2.2.2, fun k' h1 _ => ⟨h.1, h.2.1, h.2.2.1, h.2.2.2.1, h.2.2.2.2.1, h.2.2.2.2.2.1, h1⟩, fun S0 e => by have e : some _ = some S0 := e; cases e; exact ⟨rfl, rfl⟩⟩ | exact ⟨_, _, h.2.2.2.2.2.2.2, h.2.2.2.2.2.2.2, fun k' h1 _ => ⟨h.1, h.2.1, h.2.2.1, h.2.2.2.1, h.2.2.2.2.1, h.2.2.2.2.2.1, h.2.2.2.2.2.2.1, h1⟩, fun S0 e => by have e : some _ = some S0 := e; cases e; exact ⟨rfl, rfl⟩⟩ | exact ⟨_, _, h.2.2.2.2.2.2.2.2, h.2.2.2.2.2.2.2.2, fun k' h1 _ => ⟨h.1, h.2.1, h.2.2.1, h.2.2.2.1, h.2.2.2.2.1, h.2.2.2.2.2.1, h.2.2.2.2.2.2.1, h.2.2.2.2.2.2.2.1, h1⟩, fun S0 e => by have e : some _ = some S0 := e; cases e; exact ⟨rfl, rfl⟩⟩ | exact ⟨_, _, h.2.2.2.2.2.2.2.2.2, h.2.2.2.2.2.2.2.2.2, fun k' h1 _ => ⟨h.1, h.2.1, h.2.2.1, h.2.2.2.1, h.2.2.2.2.1, h.2.2.2.2.2.1, h.2.2.2.2.2.2.1, h.2.2.2.2.2.2.2.1, h.2.2.2.2.2.2.2.2.1, h1⟩, fun S0 e => by have e : some _ = some S0 := e; cases e; exact ⟨rfl, rfl⟩⟩)
def cx_iinc : cm_F1 := fun E P t S => match cm_look S.2.1 t.1.toNat with
  | some (.int x) => some (S.1 + 3, cm_st1 S.2.1 t.1.toNat (.int (x + Int32.ofInt t.2.1)), S.2.2)
  | _ => none
theorem cd_iinc : cm_Dt cm_iinc cx_iinc := by
  intro E P t S k h
  obtain ⟨pc, L, st, M⟩ := S
  unfold cm_iinc at h ⊢
  dsimp only at h ⊢
  split at h
  · rename_i x hz
    refine ⟨_, _, h.2, h.2, fun k' h1 _ => ?_, fun S0 e => ?_⟩
    · first | exact ⟨h.1, h1⟩ | (rw [hz]; exact ⟨h.1, h1⟩)
    · unfold cx_iinc at e
      dsimp only at e
      rw [hz] at e
      cases e
      exact ⟨rfl, rfl⟩
  · exact h.elim
def cx_icmp_eq : cm_F1 := fun E P t S => match S.2.2.1 with
  | .int y :: .int x :: st => some (if ev_cmp 0 x y = true then (((S.1 : Int) + t.1).toNat, S.2.1, st, S.2.2.2) else (S.1 + 3, S.2.1, st, S.2.2.2))
  | _ => none
theorem cd_icmp_eq : cm_Dt cm_icmp_eq cx_icmp_eq := by
  intro E P t S k h
  obtain ⟨pc, L, st, M⟩ := S
  unfold cm_icmp_eq at h ⊢
  dsimp only at h ⊢
  split at h
  · rename_i y x st'
    cases hc : ev_cmp 0 x y with
    | true =>
      refine ⟨_, _, h.2.1 hc, h.2.1 hc, fun k' h1 _ => ⟨h.1, fun _ => h1, fun z => ?_⟩, fun S0 e => ?_⟩
      · cases z
      · unfold cx_icmp_eq at e
        dsimp only at e
        rw [if_pos hc] at e
        cases e
        exact ⟨rfl, rfl⟩
    | false =>
      refine ⟨_, _, h.2.2 hc, h.2.2 hc, fun k' h1 _ => ⟨h.1, fun z => ?_, fun _ => h1⟩, fun S0 e => ?_⟩
      · cases z
      · unfold cx_icmp_eq at e
        dsimp only at e
        rw [if_neg (by rw [hc]; decide)] at e
        cases e
        exact ⟨rfl, rfl⟩
  · exact h.elim
def cx_icmp_ne : cm_F1 := fun E P t S => match S.2.2.1 with
  | .int y :: .int x :: st => some (if ev_cmp 1 x y = true then (((S.1 : Int) + t.1).toNat, S.2.1, st, S.2.2.2) else (S.1 + 3, S.2.1, st, S.2.2.2))
  | _ => none
theorem cd_icmp_ne : cm_Dt cm_icmp_ne cx_icmp_ne := by
  intro E P t S k h
  obtain ⟨pc, L, st, M⟩ := S
  unfold cm_icmp_ne at h ⊢
  dsimp only at h ⊢
  split at h
  · rename_i y x st'
    cases hc : ev_cmp 1 x y with
    | true =>
      refine ⟨_, _, h.2.1 hc, h.2.1 hc, fun k' h1 _ => ⟨h.1, fun _ => h1, fun z => ?_⟩, fun S0 e => ?_⟩
      · cases z
      · unfold cx_icmp_ne at e
        dsimp only at e
        rw [if_pos hc] at e
        cases e
        exact ⟨rfl, rfl⟩
    | false =>
      refine ⟨_, _, h.2.2 hc, h.2.2 hc, fun k' h1 _ => ⟨h.1, fun z => ?_, fun _ => h1⟩, fun S0 e => ?_⟩
      · cases z
      · unfold cx_icmp_ne at e
        dsimp only at e
        rw [if_neg (by rw [hc]; decide)] at e
        cases e
        exact ⟨rfl, rfl⟩
  · exact h.elim
def cx_icmp_lt : cm_F1 := fun E P t S => match S.2.2.1 with
  | .int y :: .int x :: st => some (if ev_cmp 2 x y = true then (((S.1 : Int) + t.1).toNat, S.2.1, st, S.2.2.2) else (S.1 + 3, S.2.1, st, S.2.2.2))
  | _ => none
theorem cd_icmp_lt : cm_Dt cm_icmp_lt cx_icmp_lt := by
  intro E P t S k h
  obtain ⟨pc, L, st, M⟩ := S
  unfold cm_icmp_lt at h ⊢
  dsimp only at h ⊢
  split at h
  · rename_i y x st'
    cases hc : ev_cmp 2 x y with
    | true =>
      refine ⟨_, _, h.2.1 hc, h.2.1 hc, fun k' h1 _ => ⟨h.1, fun _ => h1, fun z => ?_⟩, fun S0 e => ?_⟩
      · cases z
      · unfold cx_icmp_lt at e
        dsimp only at e
        rw [if_pos hc] at e
        cases e
        exact ⟨rfl, rfl⟩
    | false =>
      refine ⟨_, _, h.2.2 hc, h.2.2 hc, fun k' h1 _ => ⟨h.1, fun z => ?_, fun _ => h1⟩, fun S0 e => ?_⟩
      · cases z
      · unfold cx_icmp_lt at e
        dsimp only at e
        rw [if_neg (by rw [hc]; decide)] at e
        cases e
        exact ⟨rfl, rfl⟩
  · exact h.elim
def cx_icmp_ge : cm_F1 := fun E P t S => match S.2.2.1 with
  | .int y :: .int x :: st => some (if ev_cmp 3 x y = true then (((S.1 : Int) + t.1).toNat, S.2.1, st, S.2.2.2) else (S.1 + 3, S.2.1, st, S.2.2.2))
  | _ => none
theorem cd_icmp_ge : cm_Dt cm_icmp_ge cx_icmp_ge := by
  intro E P t S k h
  obtain ⟨pc, L, st, M⟩ := S
  unfold cm_icmp_ge at h ⊢
  dsimp only at h ⊢
  split at h
  · rename_i y x st'
    cases hc : ev_cmp 3 x y with
    | true =>
      refine ⟨_, _, h.2.1 hc, h.2.1 hc, fun k' h1 _ => ⟨h.1, fun _ => h1, fun z => ?_⟩, fun S0 e => ?_⟩
      · cases z
      · unfold cx_icmp_ge at e
        dsimp only at e
        rw [if_pos hc] at e
        cases e
        exact ⟨rfl, rfl⟩
    | false =>
      refine ⟨_, _, h.2.2 hc, h.2.2 hc, fun k' h1 _ => ⟨h.1, fun z => ?_, fun _ => h1⟩, fun S0 e => ?_⟩
      · cases z
      · unfold cx_icmp_ge at e
        dsimp only at e
        rw [if_neg (by rw [hc]; decide)] at e
        cases e
        exact ⟨rfl, rfl⟩
  · exact h.elim
def cx_icmp_gt : cm_F1 := fun E P t S => match S.2.2.1 with
  | .int y :: .int x :: st => some (if ev_cmp 4 x y = true then (((S.1 : Int) + t.1).toNat, S.2.1, st, S.2.2.2) else (S.1 + 3, S.2.1, st, S.2.2.2))
  | _ => none
theorem cd_icmp_gt : cm_Dt cm_icmp_gt cx_icmp_gt := by
  intro E P t S k h
  obtain ⟨pc, L, st, M⟩ := S
  unfold cm_icmp_gt at h ⊢
  dsimp only at h ⊢
  split at h
  · rename_i y x st'
    cases hc : ev_cmp 4 x y with
    | true =>
      refine ⟨_, _, h.2.1 hc, h.2.1 hc, fun k' h1 _ => ⟨h.1, fun _ => h1, fun z => ?_⟩, fun S0 e => ?_⟩
      · cases z
      · unfold cx_icmp_gt at e
        dsimp only at e
        rw [if_pos hc] at e
        cases e
        exact ⟨rfl, rfl⟩
    | false =>
      refine ⟨_, _, h.2.2 hc, h.2.2 hc, fun k' h1 _ => ⟨h.1, fun z => ?_, fun _ => h1⟩, fun S0 e => ?_⟩
      · cases z
      · unfold cx_icmp_gt at e
        dsimp only at e
        rw [if_neg (by rw [hc]; decide)] at e
        cases e
        exact ⟨rfl, rfl⟩
  · exact h.elim
def cx_icmp_le : cm_F1 := fun E P t S => match S.2.2.1 with
  | .int y :: .int x :: st => some (if ev_cmp 5 x y = true then (((S.1 : Int) + t.1).toNat, S.2.1, st, S.2.2.2) else (S.1 + 3, S.2.1, st, S.2.2.2))
  | _ => none
theorem cd_icmp_le : cm_Dt cm_icmp_le cx_icmp_le := by
  intro E P t S k h
  obtain ⟨pc, L, st, M⟩ := S
  unfold cm_icmp_le at h ⊢
  dsimp only at h ⊢
  split at h
  · rename_i y x st'
    cases hc : ev_cmp 5 x y with
    | true =>
      refine ⟨_, _, h.2.1 hc, h.2.1 hc, fun k' h1 _ => ⟨h.1, fun _ => h1, fun z => ?_⟩, fun S0 e => ?_⟩
      · cases z
      · unfold cx_icmp_le at e
        dsimp only at e
        rw [if_pos hc] at e
        cases e
        exact ⟨rfl, rfl⟩
    | false =>
      refine ⟨_, _, h.2.2 hc, h.2.2 hc, fun k' h1 _ => ⟨h.1, fun z => ?_, fun _ => h1⟩, fun S0 e => ?_⟩
      · cases z
      · unfold cx_icmp_le at e
        dsimp only at e
        rw [if_neg (by rw [hc]; decide)] at e
        cases e
        exact ⟨rfl, rfl⟩
  · exact h.elim
def cx_if_eq : cm_F1 := fun E P t S => match S.2.2.1 with
  | .int x :: st => some (if ev_cmp 0 x 0 = true then (((S.1 : Int) + t.1).toNat, S.2.1, st, S.2.2.2) else (S.1 + 3, S.2.1, st, S.2.2.2))
  | _ => none
theorem cd_if_eq : cm_Dt cm_if_eq cx_if_eq := by
  intro E P t S k h
  obtain ⟨pc, L, st, M⟩ := S
  unfold cm_if_eq at h ⊢
  dsimp only at h ⊢
  split at h
  · rename_i x st'
    cases hc : ev_cmp 0 x 0 with
    | true =>
      refine ⟨_, _, h.2.1 hc, h.2.1 hc, fun k' h1 _ => ⟨h.1, fun _ => h1, fun z => ?_⟩, fun S0 e => ?_⟩
      · cases z
      · unfold cx_if_eq at e
        dsimp only at e
        rw [if_pos hc] at e
        cases e
        exact ⟨rfl, rfl⟩
    | false =>
      refine ⟨_, _, h.2.2 hc, h.2.2 hc, fun k' h1 _ => ⟨h.1, fun z => ?_, fun _ => h1⟩, fun S0 e => ?_⟩
      · cases z
      · unfold cx_if_eq at e
        dsimp only at e
        rw [if_neg (by rw [hc]; decide)] at e
        cases e
        exact ⟨rfl, rfl⟩
  · exact h.elim
def cx_if_ne : cm_F1 := fun E P t S => match S.2.2.1 with
  | .int x :: st => some (if ev_cmp 1 x 0 = true then (((S.1 : Int) + t.1).toNat, S.2.1, st, S.2.2.2) else (S.1 + 3, S.2.1, st, S.2.2.2))
  | _ => none
theorem cd_if_ne : cm_Dt cm_if_ne cx_if_ne := by
  intro E P t S k h
  obtain ⟨pc, L, st, M⟩ := S
  unfold cm_if_ne at h ⊢
  dsimp only at h ⊢
  split at h
  · rename_i x st'
    cases hc : ev_cmp 1 x 0 with
    | true =>
      refine ⟨_, _, h.2.1 hc, h.2.1 hc, fun k' h1 _ => ⟨h.1, fun _ => h1, fun z => ?_⟩, fun S0 e => ?_⟩
      · cases z
      · unfold cx_if_ne at e
        dsimp only at e
        rw [if_pos hc] at e
        cases e
        exact ⟨rfl, rfl⟩
    | false =>
      refine ⟨_, _, h.2.2 hc, h.2.2 hc, fun k' h1 _ => ⟨h.1, fun z => ?_, fun _ => h1⟩, fun S0 e => ?_⟩
      · cases z
      · unfold cx_if_ne at e
        dsimp only at e
        rw [if_neg (by rw [hc]; decide)] at e
        cases e
        exact ⟨rfl, rfl⟩
  · exact h.elim
def cx_if_lt : cm_F1 := fun E P t S => match S.2.2.1 with
  | .int x :: st => some (if ev_cmp 2 x 0 = true then (((S.1 : Int) + t.1).toNat, S.2.1, st, S.2.2.2) else (S.1 + 3, S.2.1, st, S.2.2.2))
  | _ => none
theorem cd_if_lt : cm_Dt cm_if_lt cx_if_lt := by
  intro E P t S k h
  obtain ⟨pc, L, st, M⟩ := S
  unfold cm_if_lt at h ⊢
  dsimp only at h ⊢
  split at h
  · rename_i x st'
    cases hc : ev_cmp 2 x 0 with
    | true =>
      refine ⟨_, _, h.2.1 hc, h.2.1 hc, fun k' h1 _ => ⟨h.1, fun _ => h1, fun z => ?_⟩, fun S0 e => ?_⟩
      · cases z
      · unfold cx_if_lt at e
        dsimp only at e
        rw [if_pos hc] at e
        cases e
        exact ⟨rfl, rfl⟩
    | false =>
      refine ⟨_, _, h.2.2 hc, h.2.2 hc, fun k' h1 _ => ⟨h.1, fun z => ?_, fun _ => h1⟩, fun S0 e => ?_⟩
      · cases z
      · unfold cx_if_lt at e
        dsimp only at e
        rw [if_neg (by rw [hc]; decide)] at e
        cases e
        exact ⟨rfl, rfl⟩
  · exact h.elim
def cx_if_ge : cm_F1 := fun E P t S => match S.2.2.1 with
  | .int x :: st => some (if ev_cmp 3 x 0 = true then (((S.1 : Int) + t.1).toNat, S.2.1, st, S.2.2.2) else (S.1 + 3, S.2.1, st, S.2.2.2))
  | _ => none
theorem cd_if_ge : cm_Dt cm_if_ge cx_if_ge := by
  intro E P t S k h
  obtain ⟨pc, L, st, M⟩ := S
  unfold cm_if_ge at h ⊢
  dsimp only at h ⊢
  split at h
  · rename_i x st'
    cases hc : ev_cmp 3 x 0 with
    | true =>
      refine ⟨_, _, h.2.1 hc, h.2.1 hc, fun k' h1 _ => ⟨h.1, fun _ => h1, fun z => ?_⟩, fun S0 e => ?_⟩
      · cases z
      · unfold cx_if_ge at e
        dsimp only at e
        rw [if_pos hc] at e
        cases e
        exact ⟨rfl, rfl⟩
    | false =>
      refine ⟨_, _, h.2.2 hc, h.2.2 hc, fun k' h1 _ => ⟨h.1, fun z => ?_, fun _ => h1⟩, fun S0 e => ?_⟩
      · cases z
      · unfold cx_if_ge at e
        dsimp only at e
        rw [if_neg (by rw [hc]; decide)] at e
        cases e
        exact ⟨rfl, rfl⟩
  · exact h.elim
def cx_if_gt : cm_F1 := fun E P t S => match S.2.2.1 with
  | .int x :: st => some (if ev_cmp 4 x 0 = true then (((S.1 : Int) + t.1).toNat, S.2.1, st, S.2.2.2) else (S.1 + 3, S.2.1, st, S.2.2.2))
  | _ => none
theorem cd_if_gt : cm_Dt cm_if_gt cx_if_gt := by
  intro E P t S k h
  obtain ⟨pc, L, st, M⟩ := S
  unfold cm_if_gt at h ⊢
  dsimp only at h ⊢
  split at h
  · rename_i x st'
    cases hc : ev_cmp 4 x 0 with
    | true =>
      refine ⟨_, _, h.2.1 hc, h.2.1 hc, fun k' h1 _ => ⟨h.1, fun _ => h1, fun z => ?_⟩, fun S0 e => ?_⟩
      · cases z
      · unfold cx_if_gt at e
        dsimp only at e
        rw [if_pos hc] at e
        cases e
        exact ⟨rfl, rfl⟩
    | false =>
      refine ⟨_, _, h.2.2 hc, h.2.2 hc, fun k' h1 _ => ⟨h.1, fun z => ?_, fun _ => h1⟩, fun S0 e => ?_⟩
      · cases z
      · unfold cx_if_gt at e
        dsimp only at e
        rw [if_neg (by rw [hc]; decide)] at e
        cases e
        exact ⟨rfl, rfl⟩
  · exact h.elim
def cx_if_le : cm_F1 := fun E P t S => match S.2.2.1 with
  | .int x :: st => some (if ev_cmp 5 x 0 = true then (((S.1 : Int) + t.1).toNat, S.2.1, st, S.2.2.2) else (S.1 + 3, S.2.1, st, S.2.2.2))
  | _ => none
theorem cd_if_le : cm_Dt cm_if_le cx_if_le := by
  intro E P t S k h
  obtain ⟨pc, L, st, M⟩ := S
  unfold cm_if_le at h ⊢
  dsimp only at h ⊢
  split at h
  · rename_i x st'
    cases hc : ev_cmp 5 x 0 with
    | true =>
      refine ⟨_, _, h.2.1 hc, h.2.1 hc, fun k' h1 _ => ⟨h.1, fun _ => h1, fun z => ?_⟩, fun S0 e => ?_⟩
      · cases z
      · unfold cx_if_le at e
        dsimp only at e
        rw [if_pos hc] at e
        cases e
        exact ⟨rfl, rfl⟩
    | false =>
      refine ⟨_, _, h.2.2 hc, h.2.2 hc, fun k' h1 _ => ⟨h.1, fun z => ?_, fun _ => h1⟩, fun S0 e => ?_⟩
      · cases z
      · unfold cx_if_le at e
        dsimp only at e
        rw [if_neg (by rw [hc]; decide)] at e
        cases e
        exact ⟨rfl, rfl⟩
  · exact h.elim
def cx_goto : cm_F1 := fun E P t S => some (((S.1 : Int) + t.1).toNat, S.2)
theorem cd_goto : cm_Dt cm_goto cx_goto := by
  intro E P t S k h
  obtain ⟨pc, L, st, M⟩ := S
  unfold cm_goto at h ⊢
  dsimp only at h ⊢
  first | exact h.elim | exact ⟨_, _, h, h, fun k' h1 _ => h1, fun S0 e => by have e : some _ = some S0 := e; cases e; exact ⟨rfl, rfl⟩⟩ | exact ⟨_, _, h.2, h.2, fun k' h1 _ => ⟨h.1, h1⟩, fun S0 e => by have e : some _ = some S0 := e; cases e; exact ⟨rfl, rfl⟩⟩ | exact ⟨_, _, h.2.2, h.2.2, fun k' h1 _ => ⟨h.1, h.2.1, h1⟩, fun S0 e => by have e : some _ = some S0 := e; cases e; exact ⟨rfl, rfl⟩⟩ | exact ⟨_, _, h.2.2.2, h.2.2.2, fun k' h1 _ => ⟨h.1, h.2.1, h.2.2.1, h1⟩, fun S0 e => by have e : some _ = some S0 := e; cases e; exact ⟨rfl, rfl⟩⟩ | exact ⟨_, _, h.2.2.2.2, h.2.2.2.2, fun k' h1 _ => ⟨h.1, h.2.1, h.2.2.1, h.2.2.2.1, h1⟩, fun S0 e => by have e : some _ = some S0 := e; cases e; exact ⟨rfl, rfl⟩⟩ | exact ⟨_, _, h.2.2.2.2.2, h.2.2.2.2.2, fun k' h1 _ => ⟨h.1, h.2.1, h.2.2.1, h.2.2.2.1, h.2.2.2.2.1, h1⟩, fun S0 e => by have e : some _ = some S0 := e; cases e; exact ⟨rfl, rfl⟩⟩ | exact ⟨_, _, h.2.2.2.2.2.2, h.2.2.2.2.2.2, fun k' h1 _ => ⟨h.1, h.2.1, h.2.2.1, h.2.2.2.1, h.2.2.2.2.1, h.2.2.2.2.2.1, h1⟩, fun S0 e => by have e : some _ = some S0 := e; cases e; exact ⟨rfl, rfl⟩⟩ | exact ⟨_, _, h.2.2.2.2.2.2.2, h.2.2.2.2.2.2.2, fun k' h1 _ => ⟨h.1, h.2.1, h.2.2.1, h.2.2.2.1, h.2.2.2.2.1, h.2.2.2.2.2.1, h.2.2.2.2.2.2.1, h1⟩, fun S0 e => by have e : some _ = some S0 := e; cases e; exact ⟨rfl, rfl⟩⟩ | exact ⟨_, _, h.2.2.2.2.2.2.2.2, h.2.2.2.2.2.2.2.2, fun k' h1 _ => ⟨h.1, h.2.1, h.2.2.1, h.2.2.2.1, h.2.2.2.2.1, h.2.2.2.2.2.1, h.2.2.2.2.2.2.1, h.2.2.2.2.2.2.2.1, h1⟩, fun S0 e => by have e : some _ = some S0 := e; cases e; exact ⟨rfl, rfl⟩⟩ | exact ⟨_, _, h.2.2.2.2.2.2.2.2.2, h.2.2.2.2.2.2.2.2.2, fun k' h1 _ => ⟨h.1, h.2.1, h.2.2.1, h.2.2.2.1, h.2.2.2.2.1, h.2.2.2.2.2.1, h.2.2.2.2.2.2.1, h.2.2.2.2.2.2.2.1, h.2.2.2.2.2.2.2.2.1, h1⟩, fun S0 e => by have e : some _ = some S0 := e; cases e; exact ⟨rfl, rfl⟩⟩
def cx_sw : cm_F1 := fun E P t S => match t.2.2.2, S.2.2.1 with
  | _ :: offs, .int x :: st => if x.toInt < t.2.1 ∨ t.2.2.1 < x.toInt then some (((S.1 : Int) + t.1).toNat, S.2.1, st, S.2.2.2) else (match offs[(x.toInt - t.2.1).toNat]? with
    | some o => some (((S.1 : Int) + o).toNat, S.2.1, st, S.2.2.2)
    | none => none)
  | _, _ => none
theorem cd_sw : cm_Dt cm_sw cx_sw := by
  intro E P t S k h
  obtain ⟨pc, L, st, M⟩ := S
  unfold cm_sw at h ⊢
  dsimp only at h ⊢
  split at h
  · rename_i y offs x st' ht
    obtain ⟨a1, a2, a3, a4, a5⟩ := h
    by_cases hc : x.toInt < t.2.1 ∨ t.2.2.1 < x.toInt
    · refine ⟨_, _, a4 hc, a4 hc, fun k' h1 _ => ⟨a1, a2, a3, fun _ => h1, fun j o q1 q2 => ?_⟩, fun S0 e => ?_⟩
      · exfalso
        have hj := (List.getElem?_eq_some_iff.mp q1).1
        omega
      · unfold cx_sw at e
        dsimp only at e
        rw [ht] at e
        dsimp only at e
        rw [if_pos hc] at e
        cases e
        exact ⟨rfl, rfl⟩
    · have hlt : (x.toInt - t.2.1).toNat < offs.length := by omega
      have hj := List.getElem?_eq_getElem hlt
      have hx : x.toInt = t.2.1 + (((x.toInt - t.2.1).toNat : Nat) : Int) := by omega
      refine ⟨_, _, a5 _ _ hj hx, a5 _ _ hj hx, fun k' h1 _ => ⟨a1, a2, a3, fun q => absurd q hc, fun j o q1 q2 => ?_⟩, fun S0 e => ?_⟩
      · have ej : j = (x.toInt - t.2.1).toNat := by omega
        subst ej
        rw [hj] at q1
        cases q1
        exact h1
      · unfold cx_sw at e
        dsimp only at e
        rw [ht] at e
        dsimp only at e
        rw [if_neg hc, hj] at e
        cases e
        exact ⟨rfl, rfl⟩
  · exact h.elim
def cx_get : cm_F1 := fun E P t S => match S.2.2.1 with
  | .ref c :: st => some (cm_adv S 3 (cm_rd S.2.2.2 (cm_ft t.1.toNat t.2.1.toNat) c t.2.1.toNat :: st))
  | _ => none
theorem cd_get : cm_Dt cm_get cx_get := by
  intro E P t S k h
  obtain ⟨pc, L, st, M⟩ := S
  unfold cm_get at h ⊢
  dsimp only at h ⊢
  split at h <;> (first | exact h.elim | exact ⟨_, _, h, h, fun k' h1 _ => h1, fun S0 e => by have e : some _ = some S0 := e; cases e; exact ⟨rfl, rfl⟩⟩ | exact ⟨_, _, h.2, h.2, fun k' h1 _ => ⟨h.1, h1⟩, fun S0 e => by have e : some _ = some S0 := e; cases e; exact ⟨rfl, rfl⟩⟩ | exact ⟨_, _, h.2.2, h.2.2, fun k' h1 _ => ⟨h.1, h.2.1, h1⟩, fun S0 e => by have e : some _ = some S0 := e; cases e; exact ⟨rfl, rfl⟩⟩ | exact ⟨_, _, h.2.2.2, h.2.2.2, fun k' h1 _ => ⟨h.1, h.2.1, h.2.2.1, h1⟩, fun S0 e => by have e : some _ = some S0 := e; cases e; exact ⟨rfl, rfl⟩⟩ | exact ⟨_, _, h.2.2.2.2, h.2.2.2.2, fun k' h1 _ => ⟨h.1, h.2.1, h.2.2.1, h.2.2.2.1, h1⟩, fun S0 e => by have e : some _ = some S0 := e; cases e; exact ⟨rfl, rfl⟩⟩ | exact ⟨_, _, h.2.2.2.2.2, h.2.2.2.2.2, fun k' h1 _ => ⟨h.1, h.2.1, h.2.2.1, h.2.2.2.1, h.2.2.2.2.1, h1⟩, fun S0 e => by have e : some _ = some S0 := e; cases e; exact ⟨rfl, rfl⟩⟩ | exact ⟨_, _, h.2.2.2.2.2.2, h.2.2.2.2.2.2, fun k' h1 _ => ⟨h.1, h.2.1, h.2.2.1, h.2.2.2.1, h.2.2.2.2.1, h.2.2.2.2.2.1, h1⟩, fun S0 e => by have e : some _ = some S0 := e; cases e; exact ⟨rfl, rfl⟩⟩ | exact ⟨_, _, h.2.2.2.2.2.2.2, h.2.2.2.2.2.2.2, fun k' h1 _ => ⟨h.1, h.2.1, h.2.2.1, h.2.2.2.1, h.2.2.2.2.1, h.2.2.2.2.2.1, h.2.2.2.2.2.2.1, h1⟩, fun S0 e => by have e : some _ = some S0 := e; cases e; exact ⟨rfl, rfl⟩⟩ | exact ⟨_, _, h.2.2.2.2.2.2.2.2, h.2.2.2.2.2.2.2.2, fun k' h1 _ => ⟨h.1, h.2.1, h.2.2.1, h.2.2.2.1, h.2.2.2.2.1, h.2.2.2.2.2.1, h.2.2.2.2.2.2.1, h.2.2.2.2.2.2.2.1, h1⟩, fun S0 e => by have e : some _ = some S0 := e; cases e; exact ⟨rfl, rfl⟩⟩ | exact ⟨_, _, h.2.2.2.2.2.2.2.2.2, h.2.2.2.2.2.2.2.2.2, fun k' h1 _ => ⟨h.1, h.2.1, h.2.2.1, h.2.2.2.1, h.2.2.2.2.1, h.2.2.2.2.2.1, h.2.2.2.2.2.2.1, h.2.2.2.2.2.2.2.1, h.2.2.2.2.2.2.2.2.1, h1⟩, fun S0 e => by have e : some _ = some S0 := e; cases e; exact ⟨rfl, rfl⟩⟩)
def cx_put : cm_F1 := fun E P t S => match S.2.2.1 with
  | v :: .ref c :: st => some (S.1 + 3, S.2.1, st, cm_wf S.2.2.2 c t.2.1.toNat v)
  | _ => none
theorem cd_put : cm_Dt cm_put cx_put := by
  intro E P t S k h
  obtain ⟨pc, L, st, M⟩ := S
  unfold cm_put at h ⊢
  dsimp only at h ⊢
  split at h <;> (first | exact h.elim | exact ⟨_, _, h, h, fun k' h1 _ => h1, fun S0 e => by have e : some _ = some S0 := e; cases e; exact ⟨rfl, rfl⟩⟩ | exact ⟨_, _, h.2, h.2, fun k' h1 _ => ⟨h.1, h1⟩, fun S0 e => by have e : some _ = some S0 := e; cases e; exact ⟨rfl, rfl⟩⟩ | exact ⟨_, _, h.2.2, h.2.2, fun k' h1 _ => ⟨h.1, h.2.1, h1⟩, fun S0 e => by have e : some _ = some S0 := e; cases e; exact ⟨rfl, rfl⟩⟩ | exact ⟨_, _, h.2.2.2, h.2.2.2, fun k' h1 _ => ⟨h.1, h.2.1, h.2.2.1, h1⟩, fun S0 e => by have e : some _ = some S0 := e; cases e; exact ⟨rfl, rfl⟩⟩ | exact ⟨_, _, h.2.2.2.2, h.2.2.2.2, fun k' h1 _ => ⟨h.1, h.2.1, h.2.2.1, h.2.2.2.1, h1⟩, fun S0 e => by have e : some _ = some S0 := e; cases e; exact ⟨rfl, rfl⟩⟩ | exact ⟨_, _, h.2.2.2.2.2, h.2.2.2.2.2, fun k' h1 _ => ⟨h.1, h.2.1, h.2.2.1, h.2.2.2.1, h.2.2.2.2.1, h1⟩, fun S0 e => by have e : some _ = some S0 := e; cases e; exact ⟨rfl, rfl⟩⟩ | exact ⟨_, _, h.2.2.2.2.2.2, h.2.2.2.2.2.2, fun k' h1 _ => ⟨h.1, h.2.1, h.2.2.1, h.2.2.2.1, h.2.2.2.2.1, h.2.2.2.2.2.1, h1⟩, fun S0 e => by have e : some _ = some S0 := e; cases e; exact ⟨rfl, rfl⟩⟩ | exact ⟨_, _, h.2.2.2.2.2.2.2, h.2.2.2.2.2.2.2, fun k' h1 _ => ⟨h.1, h.2.1, h.2.2.1, h.2.2.2.1, h.2.2.2.2.1, h.2.2.2.2.2.1, h.2.2.2.2.2.2.1, h1⟩, fun S0 e => by have e : some _ = some S0 := e; cases e; exact ⟨rfl, rfl⟩⟩ | exact ⟨_, _, h.2.2.2.2.2.2.2.2, h.2.2.2.2.2.2.2.2, fun k' h1 _ => ⟨h.1, h.2.1, h.2.2.1, h.2.2.2.1, h.2.2.2.2.1, h.2.2.2.2.2.1, h.2.2.2.2.2.2.1, h.2.2.2.2.2.2.2.1, h1⟩, fun S0 e => by have e : some _ = some S0 := e; cases e; exact ⟨rfl, rfl⟩⟩ | exact ⟨_, _, h.2.2.2.2.2.2.2.2.2, h.2.2.2.2.2.2.2.2.2, fun k' h1 _ => ⟨h.1, h.2.1, h.2.2.1, h.2.2.2.1, h.2.2.2.2.1, h.2.2.2.2.2.1, h.2.2.2.2.2.2.1, h.2.2.2.2.2.2.2.1, h.2.2.2.2.2.2.2.2.1, h1⟩, fun S0 e => by have e : some _ = some S0 := e; cases e; exact ⟨rfl, rfl⟩⟩)
def cx_iaload : cm_F1 := fun E P t S => match S.2.2.1 with
  | .int i :: .ref c :: st => some (cm_adv S 1 (.int (S.2.2.2.1 c i.toNatClampNeg) :: st))
  | _ => none
theorem cd_iaload : cm_Dt cm_iaload cx_iaload := by
  intro E P t S k h
  obtain ⟨pc, L, st, M⟩ := S
  unfold cm_iaload at h ⊢
  dsimp only at h ⊢
  split at h <;> (first | exact h.elim | exact ⟨_, _, h, h, fun k' h1 _ => h1, fun S0 e => by have e : some _ = some S0 := e; cases e; exact ⟨rfl, rfl⟩⟩ | exact ⟨_, _, h.2, h.2, fun k' h1 _ => ⟨h.1, h1⟩, fun S0 e => by have e : some _ = some S0 := e; cases e; exact ⟨rfl, rfl⟩⟩ | exact ⟨_, _, h.2.2, h.2.2, fun k' h1 _ => ⟨h.1, h.2.1, h1⟩, fun S0 e => by have e : some _ = some S0 := e; cases e; exact ⟨rfl, rfl⟩⟩ | exact ⟨_, _, h.2.2.2, h.2.2.2, fun k' h1 _ => ⟨h.1, h.2.1, h.2.2.1, h1⟩, fun S0 e => by have e : some _ = some S0 := e; cases e; exact ⟨rfl, rfl⟩⟩ | exact ⟨_, _, h.2.2.2.2, h.2.2.2.2, fun k' h1 _ => ⟨h.1, h.2.1, h.2.2.1, h.2.2.2.1, h1⟩, fun S0 e => by have e : some _ = some S0 := e; cases e; exact ⟨rfl, rfl⟩⟩ | exact ⟨_, _, h.2.2.2.2.2, h.2.2.2.2.2, fun k' h1 _ => ⟨h.1, h.2.1, h.2.2.1, h.2.2.2.1, h.2.2.2.2.1, h1⟩, fun S0 e => by have e : some _ = some S0 := e; cases e; exact ⟨rfl, rfl⟩⟩ | exact ⟨_, _, h.2.2.2.2.2.2, h.2.2.2.2.2.2, fun k' h1 _ => ⟨h.1, h.2.1, h.2.2.1, h.2.2.2.1, h.2.2.2.2.1, h.2.2.2.2.2.1, h1⟩, fun S0 e => by have e : some _ = some S0 := e; cases e; exact ⟨rfl, rfl⟩⟩ | exact ⟨_, _, h.2.2.2.2.2.2.2, h.2.2.2.2.2.2.2, fun k' h1 _ => ⟨h.1, h.2.1, h.2.2.1, h.2.2.2.1, h.2.2.2.2.1, h.2.2.2.2.2.1, h.2.2.2.2.2.2.1, h1⟩, fun S0 e => by have e : some _ = some S0 := e; cases e; exact ⟨rfl, rfl⟩⟩ | exact ⟨_, _, h.2.2.2.2.2.2.2.2, h.2.2.2.2.2.2.2.2, fun k' h1 _ => ⟨h.1, h.2.1, h.2.2.1, h.2.2.2.1, h.2.2.2.2.1, h.2.2.2.2.2.1, h.2.2.2.2.2.2.1, h.2.2.2.2.2.2.2.1, h1⟩, fun S0 e => by have e : some _ = some S0 := e; cases e; exact ⟨rfl, rfl⟩⟩ | exact ⟨_, _, h.2.2.2.2.2.2.2.2.2, h.2.2.2.2.2.2.2.2.2, fun k' h1 _ => ⟨h.1, h.2.1, h.2.2.1, h.2.2.2.1, h.2.2.2.2.1, h.2.2.2.2.2.1, h.2.2.2.2.2.2.1, h.2.2.2.2.2.2.2.1, h.2.2.2.2.2.2.2.2.1, h1⟩, fun S0 e => by have e : some _ = some S0 := e; cases e; exact ⟨rfl, rfl⟩⟩)
def cx_baload : cm_F1 := fun E P t S => match S.2.2.1 with
  | .int i :: .ref c :: st => some (cm_adv S 1 (.int (S.2.2.2.1 c i.toNatClampNeg) :: st))
  | _ => none
theorem cd_baload : cm_Dt cm_baload cx_baload := by
  intro E P t S k h
  obtain ⟨pc, L, st, M⟩ := S
  unfold cm_baload at h ⊢
  dsimp only at h ⊢
  split at h <;> (first | exact h.elim | exact ⟨_, _, h, h, fun k' h1 _ => h1, fun S0 e => by have e : some _ = some S0 := e; cases e; exact ⟨rfl, rfl⟩⟩ | exact ⟨_, _, h.2, h.2, fun k' h1 _ => ⟨h.1, h1⟩, fun S0 e => by have e : some _ = some S0 := e; cases e; exact ⟨rfl, rfl⟩⟩ | exact ⟨_, _, h.2.2, h.2.2, fun k' h1 _ => ⟨h.1, h.2.1, h1⟩, fun S0 e => by have e : some _ = some S0 := e; cases e; exact ⟨rfl, rfl⟩⟩ | exact ⟨_, _, h.2.2.2, h.2.2.2, fun k' h1 _ => ⟨h.1, h.2.1, h.2.2.1, h1⟩, fun S0 e => by have e : some _ = some S0 := e; cases e; exact ⟨rfl, rfl⟩⟩ | exact ⟨_, _, h.2.2.2.2, h.2.2.2.2, fun k' h1 _ => ⟨h.1, h.2.1, h.2.2.1, h.2.2.2.1, h1⟩, fun S0 e => by have e : some _ = some S0 := e; cases e; exact ⟨rfl, rfl⟩⟩ | exact ⟨_, _, h.2.2.2.2.2, h.2.2.2.2.2, fun k' h1 _ => ⟨h.1, h.2.1, h.2.2.1, h.2.2.2.1, h.2.2.2.2.1, h1⟩, fun S0 e => by have e : some _ = some S0 := e; cases e; exact ⟨rfl, rfl⟩⟩ | exact ⟨_, _, h.2.2.2.2.2.2, h.2.2.2.2.2.2, fun k' h1 _ => ⟨h.1, h.2.1, h.2.2.1, h.2.2.2.1, h.2.2.2.2.1, h.2.2.2.2.2.1, h1⟩, fun S0 e => by have e : some _ = some S0 := e; cases e; exact ⟨rfl, rfl⟩⟩ | exact ⟨_, _, h.2.2.2.2.2.2.2, h.2.2.2.2.2.2.2, fun k' h1 _ => ⟨h.1, h.2.1, h.2.2.1, h.2.2.2.1, h.2.2.2.2.1, h.2.2.2.2.2.1, h.2.2.2.2.2.2.1, h1⟩, fun S0 e => by have e : some _ = some S0 := e; cases e; exact ⟨rfl, rfl⟩⟩ | exact ⟨_, _, h.2.2.2.2.2.2.2.2, h.2.2.2.2.2.2.2.2, fun k' h1 _ => ⟨h.1, h.2.1, h.2.2.1, h.2.2.2.1, h.2.2.2.2.1, h.2.2.2.2.2.1, h.2.2.2.2.2.2.1, h.2.2.2.2.2.2.2.1, h1⟩, fun S0 e => by have e : some _ = some S0 := e; cases e; exact ⟨rfl, rfl⟩⟩ | exact ⟨_, _, h.2.2.2.2.2.2.2.2.2, h.2.2.2.2.2.2.2.2.2, fun k' h1 _ => ⟨h.1, h.2.1, h.2.2.1, h.2.2.2.1, h.2.2.2.2.1, h.2.2.2.2.2.1, h.2.2.2.2.2.2.1, h.2.2.2.2.2.2.2.1, h.2.2.2.2.2.2.2.2.1, h1⟩, fun S0 e => by have e : some _ = some S0 := e; cases e; exact ⟨rfl, rfl⟩⟩)
def cx_laload : cm_F1 := fun E P t S => match S.2.2.1 with
  | .int i :: .ref c :: st => some (cm_adv S 1 (.long (S.2.2.2.2.1 c i.toNatClampNeg) :: st))
  | _ => none
theorem cd_laload : cm_Dt cm_laload cx_laload := by
  intro E P t S k h
  obtain ⟨pc, L, st, M⟩ := S
  unfold cm_laload at h ⊢
  dsimp only at h ⊢
  split at h <;> (first | exact h.elim | exact ⟨_, _, h, h, fun k' h1 _ => h1, fun S0 e => by have e : some _ = some S0 := e; cases e; exact ⟨rfl, rfl⟩⟩ | exact ⟨_, _, h.2, h.2, fun k' h1 _ => ⟨h.1, h1⟩, fun S0 e => by have e : some _ = some S0 := e; cases e; exact ⟨rfl, rfl⟩⟩ | exact ⟨_, _, h.2.2, h.2.2, fun k' h1 _ => ⟨h.1, h.2.1, h1⟩, fun S0 e => by have e : some _ = some S0 := e; cases e; exact ⟨rfl, rfl⟩⟩ | exact ⟨_, _, h.2.2.2, h.2.2.2, fun k' h1 _ => ⟨h.1, h.2.1, h.2.2.1, h1⟩, fun S0 e => by have e : some _ = some S0 := e; cases e; exact ⟨rfl, rfl⟩⟩ | exact ⟨_, _, h.2.2.2.2, h.2.2.2.2, fun k' h1 _ => ⟨h.1, h.2.1, h.2.2.1, h.2.2.2.1, h1⟩, fun S0 e => by have e : some _ = some S0 := e; cases e; exact ⟨rfl, rfl⟩⟩ | exact ⟨_, _, h.2.2.2.2.2, h.2.2.2.2.2, fun k' h1 _ => ⟨h.1, h.2.1, h.2.2.1, h.2.2.2.1, h.2.2.2.2.1, h1⟩, fun S0 e => by have e : some _ = some S0 := e; cases e; exact ⟨rfl, rfl⟩⟩ | exact ⟨_, _, h.2.2.2.2.2.2, h.2.2.2.2.2.2, fun k' h1 _ => ⟨h.1, h.2.1, h.2.2.1, h.2.2.2.1, h.2.2.2.2.1, h.2.2.2.2.2.1, h1⟩, fun S0 e => by have e : some _ = some S0 := e; cases e; exact ⟨rfl, rfl⟩⟩ | exact ⟨_, _, h.2.2.2.2.2.2.2, h.2.2.2.2.2.2.2, fun k' h1 _ => ⟨h.1, h.2.1, h.2.2.1, h.2.2.2.1, h.2.2.2.2.1, h.2.2.2.2.2.1, h.2.2.2.2.2.2.1, h1⟩, fun S0 e => by have e : some _ = some S0 := e; cases e; exact ⟨rfl, rfl⟩⟩ | exact ⟨_, _, h.2.2.2.2.2.2.2.2, h.2.2.2.2.2.2.2.2, fun k' h1 _ => ⟨h.1, h.2.1, h.2.2.1, h.2.2.2.1, h.2.2.2.2.1, h.2.2.2.2.2.1, h.2.2.2.2.2.2.1, h.2.2.2.2.2.2.2.1, h1⟩, fun S0 e => by have e : some _ = some S0 := e; cases e; exact ⟨rfl, rfl⟩⟩ | exact ⟨_, _, h.2.2.2.2.2.2.2.2.2, h.2.2.2.2.2.2.2.2.2, fun k' h1 _ => ⟨h.1, h.2.1, h.2.2.1, h.2.2.2.1, h.2.2.2.2.1, h.2.2.2.2.2.1, h.2.2.2.2.2.2.1, h.2.2.2.2.2.2.2.1, h.2.2.2.2.2.2.2.2.1, h1⟩, fun S0 e => by have e : some _ = some S0 := e; cases e; exact ⟨rfl, rfl⟩⟩)
def cx_aaload : cm_F1 := fun E P t S => match S.2.2.1 with
  | .int i :: .ref c :: st => some (cm_adv S 1 (cm_rq (S.2.2.2.2.2 c i.toNatClampNeg) :: st))
  | _ => none
theorem cd_aaload : cm_Dt cm_aaload cx_aaload := by
  intro E P t S k h
  obtain ⟨pc, L, st, M⟩ := S
  unfold cm_aaload at h ⊢
  dsimp only at h ⊢
  split at h <;> (first | exact h.elim | exact ⟨_, _, h, h, fun k' h1 _ => h1, fun S0 e => by have e : some _ = some S0 := e; cases e; exact ⟨rfl, rfl⟩⟩ | exact ⟨_, _, h.2, h.2, fun k' h1 _ => ⟨h.1, h1⟩, fun S0 e => by have e : some _ = some S0 := e; cases e; exact ⟨rfl, rfl⟩⟩ | exact ⟨_, _, h.2.2, h.2.2, fun k' h1 _ => ⟨h.1, h.2.1, h1⟩, fun S0 e => by have e : some _ = some S0 := e; cases e; exact ⟨rfl, rfl⟩⟩ | exact ⟨_, _, h.2.2.2, h.2.2.2, fun k' h1 _ => ⟨h.1, h.2.1, h.2.2.1, h1⟩, fun S0 e => by have e : some _ = some S0 := e; cases e; exact ⟨rfl, rfl⟩⟩ | exact ⟨_, _, h.2.2.2.2, h.2.2.2.2, fun k' h1 _ => ⟨h.1, h.2.1, h.2.2.1, h.2.2.2.1, h1⟩, fun S0 e => by have e : some _ = some S0 := e; cases e; exact ⟨rfl, rfl⟩⟩ | exact ⟨_, _, h.2.2.2.2.2, h.2.2.2.2.2, fun k' h1 _ => ⟨h.1, h.2.1, h.2.2.1, h.2.2.2.1, h.2.2.2.2.1, h1⟩, fun S0 e => by have e : some _ = some S0 := e; cases e; exact ⟨rfl, rfl⟩⟩ | exact ⟨_, _, h.2.2.2.2.2.2, h.2.2.2.2.2.2, fun k' h1 _ => ⟨h.1, h.2.1, h.2.2.1, h.2.2.2.1, h.2.2.2.2.1, h.2.2.2.2.2.1, h1⟩, fun S0 e => by have e : some _ = some S0 := e; cases e; exact ⟨rfl, rfl⟩⟩ | exact ⟨_, _, h.2.2.2.2.2.2.2, h.2.2.2.2.2.2.2, fun k' h1 _ => ⟨h.1, h.2.1, h.2.2.1, h.2.2.2.1, h.2.2.2.2.1, h.2.2.2.2.2.1, h.2.2.2.2.2.2.1, h1⟩, fun S0 e => by have e : some _ = some S0 := e; cases e; exact ⟨rfl, rfl⟩⟩ | exact ⟨_, _, h.2.2.2.2.2.2.2.2, h.2.2.2.2.2.2.2.2, fun k' h1 _ => ⟨h.1, h.2.1, h.2.2.1, h.2.2.2.1, h.2.2.2.2.1, h.2.2.2.2.2.1, h.2.2.2.2.2.2.1, h.2.2.2.2.2.2.2.1, h1⟩, fun S0 e => by have e : some _ = some S0 := e; cases e; exact ⟨rfl, rfl⟩⟩ | exact ⟨_, _, h.2.2.2.2.2.2.2.2.2, h.2.2.2.2.2.2.2.2.2, fun k' h1 _ => ⟨h.1, h.2.1, h.2.2.1, h.2.2.2.1, h.2.2.2.2.1, h.2.2.2.2.2.1, h.2.2.2.2.2.2.1, h.2.2.2.2.2.2.2.1, h.2.2.2.2.2.2.2.2.1, h1⟩, fun S0 e => by have e : some _ = some S0 := e; cases e; exact ⟨rfl, rfl⟩⟩)
def cx_iastore : cm_F1 := fun E P t S => match S.2.2.1 with
  | .int x :: .int i :: .ref c :: st => some (S.1 + 1, S.2.1, st, cm_wi S.2.2.2 c i.toNatClampNeg x)
  | _ => none
theorem cd_iastore : cm_Dt cm_iastore cx_iastore := by
  intro E P t S k h
  obtain ⟨pc, L, st, M⟩ := S
  unfold cm_iastore at h ⊢
  dsimp only at h ⊢
  split at h <;> (first | exact h.elim | exact ⟨_, _, h, h, fun k' h1 _ => h1, fun S0 e => by have e : some _ = some S0 := e; cases e; exact ⟨rfl, rfl⟩⟩ | exact ⟨_, _, h.2, h.2, fun k' h1 _ => ⟨h.1, h1⟩, fun S0 e => by have e : some _ = some S0 := e; cases e; exact ⟨rfl, rfl⟩⟩ | exact ⟨_, _, h.2.2, h.2.2, fun k' h1 _ => ⟨h.1, h.2.1, h1⟩, fun S0 e => by have e : some _ = some S0 := e; cases e; exact ⟨rfl, rfl⟩⟩ | exact ⟨_, _, h.2.2.2, h.2.2.2, fun k' h1 _ => ⟨h.1, h.2.1, h.2.2.1, h1⟩, fun S0 e => by have e : some _ = some S0 := e; cases e; exact ⟨rfl, rfl⟩⟩ | exact ⟨_, _, h.2.2.2.2, h.2.2.2.2, fun k' h1 _ => ⟨h.1, h.2.1, h.2.2.1, h.2.2.2.1, h1⟩, fun S0 e => by have e : some _ = some S0 := e; cases e; exact ⟨rfl, rfl⟩⟩ | exact ⟨_, _, h.2.2.2.2.2, h.2.2.2.2.2, fun k' h1 _ => ⟨h.1, h.2.1, h.2.2.1, h.2.2.2.1, h.2.2.2.2.1, h1⟩, fun S0 e => by have e : some _ = some S0 := e; cases e; exact ⟨rfl, rfl⟩⟩ | exact ⟨_, _, h.2.2.2.2.2.2, h.2.2.2.2.2.2, fun k' h1 _ => ⟨h.1, h.2.1, h.2.2.1, h.2.2.2.1, h.2.2.2.2.1, h.2.2.2.2.2.1, h1⟩, fun S0 e => by have e : some _ = some S0 := e; cases e; exact ⟨rfl, rfl⟩⟩ | exact ⟨_, _, h.2.2.2.2.2.2.2, h.2.2.2.2.2.2.2, fun k' h1 _ => ⟨h.1, h.2.1, h.2.2.1, h.2.2.2.1, h.2.2.2.2.1, h.2.2.2.2.2.1, h.2.2.2.2.2.2.1, h1⟩, fun S0 e => by have e : some _ = some S0 := e; cases e; exact ⟨rfl, rfl⟩⟩ | exact ⟨_, _, h.2.2.2.2.2.2.2.2, h.2.2.2.2.2.2.2.2, fun k' h1 _ => ⟨h.1, h.2.1, h.2.2.1, h.2.2.2.1, h.2.2.2.2.1, h.2.2.2.2.2.1, h.2.2.2.2.2.2.1, h.2.2.2.2.2.2.2.1, h1⟩, fun S0 e => by have e : some _ = some S0 := e; cases e; exact ⟨rfl, rfl⟩⟩ | exact ⟨_, _, h.2.2.2.2.2.2.2.2.2, h.2.2.2.2.2.2.2.2.2, fun k' h1 _ => ⟨h.1, h.2.1, h.2.2.1, h.2.2.2.1, h.2.2.2.2.1, h.2.2.2.2.2.1, h.2.2.2.2.2.2.1, h.2.2.2.2.2.2.2.1, h.2.2.2.2.2.2.2.2.1, h1⟩, fun S0 e => by have e : some _ = some S0 := e; cases e; exact ⟨rfl, rfl⟩⟩)
def cx_bastore : cm_F1 := fun E P t S => match S.2.2.1 with
  | .int x :: .int i :: .ref c :: st => some (S.1 + 1, S.2.1, st, cm_wi S.2.2.2 c i.toNatClampNeg (vp_nar .byte x))
  | _ => none
theorem cd_bastore : cm_Dt cm_bastore cx_bastore := by
  intro E P t S k h
  obtain ⟨pc, L, st, M⟩ := S
  unfold cm_bastore at h ⊢
  dsimp only at h ⊢
  split at h <;> (first | exact h.elim | exact ⟨_, _, h, h, fun k' h1 _ => h1, fun S0 e => by have e : some _ = some S0 := e; cases e; exact ⟨rfl, rfl⟩⟩ | exact ⟨_, _, h.2, h.2, fun k' h1 _ => ⟨h.1, h1⟩, fun S0 e => by have e : some _ = some S0 := e; cases e; exact ⟨rfl, rfl⟩⟩ | exact ⟨_, _, h.2.2, h.2.2, fun k' h1 _ => ⟨h.1, h.2.1, h1⟩, fun S0 e => by have e : some _ = some S0 := e; cases e; exact ⟨rfl, rfl⟩⟩ | exact ⟨_, _, h.2.2.2, h.2.2.2, fun k' h1 _ => ⟨h.1, h.2.1, h.2.2.1, h1⟩, fun S0 e => by have e : some _ = some S0 := e; cases e; exact ⟨rfl, rfl⟩⟩ | exact ⟨_, _, h.2.2.2.2, h.2.2.2.2, fun k' h1 _ => ⟨h.1, h.2.1, h.2.2.1, h.2.2.2.1, h1⟩, fun S0 e => by have e : some _ = some S0 := e; cases e; exact ⟨rfl, rfl⟩⟩ | exact ⟨_, _, h.2.2.2.2.2, h.2.2.2.2.2, fun k' h1 _ => ⟨h.1, h.2.1, h.2.2.1, h.2.2.2.1, h.2.2.2.2.1, h1⟩, fun S0 e => by have e : some _ = some S0 := e; cases e; exact ⟨rfl, rfl⟩⟩ | exact ⟨_, _, h.2.2.2.2.2.2, h.2.2.2.2.2.2, fun k' h1 _ => ⟨h.1, h.2.1, h.2.2.1, h.2.2.2.1, h.2.2.2.2.1, h.2.2.2.2.2.1, h1⟩, fun S0 e => by have e : some _ = some S0 := e; cases e; exact ⟨rfl, rfl⟩⟩ | exact ⟨_, _, h.2.2.2.2.2.2.2, h.2.2.2.2.2.2.2, fun k' h1 _ => ⟨h.1, h.2.1, h.2.2.1, h.2.2.2.1, h.2.2.2.2.1, h.2.2.2.2.2.1, h.2.2.2.2.2.2.1, h1⟩, fun S0 e => by have e : some _ = some S0 := e; cases e; exact ⟨rfl, rfl⟩⟩ | exact ⟨_, _, h.2.2.2.2.2.2.2.2, h.2.2.2.2.2.2.2.2, fun k' h1 _ => ⟨h.1, h.2.1, h.2.2.1, h.2.2.2.1, h.2.2.2.2.1, h.2.2.2.2.2.1, h.2.2.2.2.2.2.1, h.2.2.2.2.2.2.2.1, h1⟩, fun S0 e => by have e : some _ = some S0 := e; cases e; exact ⟨rfl, rfl⟩⟩ | exact ⟨_, _, h.2.2.2.2.2.2.2.2.2, h.2.2.2.2.2.2.2.2.2, fun k' h1 _ => ⟨h.1, h.2.1, h.2.2.1, h.2.2.2.1, h.2.2.2.2.1, h.2.2.2.2.2.1, h.2.2.2.2.2.2.1, h.2.2.2.2.2.2.2.1, h.2.2.2.2.2.2.2.2.1, h1⟩, fun S0 e => by have e : some _ = some S0 := e; cases e; exact ⟨rfl, rfl⟩⟩)
def cx_alen : cm_F1 := fun E P t S => match S.2.2.1 with
  | .ref c :: st => if c = 1000 then (match E with
    | some q => some (cm_adv S 1 (.int (Int32.ofNat q.1) :: st))
    | none => none) else some (cm_adv S 1 (.int (Int32.ofNat (cm_kind c).2) :: st))
  | _ => none
theorem cd_alen : cm_Dt cm_alen cx_alen := by
  intro E P t S k h
  obtain ⟨pc, L, st, M⟩ := S
  unfold cm_alen at h ⊢
  dsimp only at h ⊢
  split at h
  · rename_i c st'
    by_cases hc : c = 1000
    · rw [if_pos hc] at h
      cases E with
      | none => exact h.elim
      | some q =>
        refine ⟨_, _, h, h, fun k' h1 _ => ?_, fun S0 e => ?_⟩
        · (try dsimp only); rw [if_pos hc]; exact h1
        · unfold cx_alen at e
          dsimp only at e
          rw [if_pos hc] at e
          cases e
          exact ⟨rfl, rfl⟩
    · rw [if_neg hc] at h
      refine ⟨_, _, h.2.2, h.2.2, fun k' h1 _ => ?_, fun S0 e => ?_⟩
      · (try dsimp only); rw [if_neg hc]; exact ⟨h.1, h.2.1, h1⟩
      · unfold cx_alen at e
        dsimp only at e
        rw [if_neg hc] at e
        cases e
        exact ⟨rfl, rfl⟩
  · exact h.elim
def cx_sald : cm_F1 := fun E P t S => match E, S.2.2.1 with
  | some q, .int i :: .ref c :: st => some (cm_adv S 1 (.int (q.2 i.toNatClampNeg) :: st))
  | _, _ => none
theorem cd_sald : cm_Dt cm_sald cx_sald := by
  intro E P t S k h
  obtain ⟨pc, L, st, M⟩ := S
  unfold cm_sald at h ⊢
  dsimp only at h ⊢
  split at h
  · exact ⟨_, _, h.2.2.2, h.2.2.2, fun k' h1 _ => ⟨h.1, h.2.1, h.2.2.1, h1⟩, fun S0 e => by have e : some _ = some S0 := e; cases e; exact ⟨rfl, rfl⟩⟩
  · exact h.elim
def cx_mmin : cm_F1 := fun E P t S => match S.2.2.1 with
  | .int y :: .int x :: st => some (cm_adv S 3 (.int (if y < x then y else x) :: st))
  | _ => none
theorem cd_mmin : cm_Dt cm_mmin cx_mmin := by
  intro E P t S k h
  obtain ⟨pc, L, st, M⟩ := S
  unfold cm_mmin at h ⊢
  dsimp only at h ⊢
  split at h <;> (first | exact h.elim | exact ⟨_, _, h, h, fun k' h1 _ => h1, fun S0 e => by have e : some _ = some S0 := e; cases e; exact ⟨rfl, rfl⟩⟩ | exact ⟨_, _, h.2, h.2, fun k' h1 _ => ⟨h.1, h1⟩, fun S0 e => by have e : some _ = some S0 := e; cases e; exact ⟨rfl, rfl⟩⟩ | exact ⟨_, _, h.2.2, h.2.2, fun k' h1 _ => ⟨h.1, h.2.1, h1⟩, fun S0 e => by have e : some _ = some S0 := e; cases e; exact ⟨rfl, rfl⟩⟩ | exact ⟨_, _, h.2.2.2, h.2.2.2, fun k' h1 _ => ⟨h.1, h.2.1, h.2.2.1, h1⟩, fun S0 e => by have e : some _ = some S0 := e; cases e; exact ⟨rfl, rfl⟩⟩ | exact ⟨_, _, h.2.2.2.2, h.2.2.2.2, fun k' h1 _ => ⟨h.1, h.2.1, h.2.2.1, h.2.2.2.1, h1⟩, fun S0 e => by have e : some _ = some S0 := e; cases e; exact ⟨rfl, rfl⟩⟩ | exact ⟨_, _, h.2.2.2.2.2, h.2.2.2.2.2, fun k' h1 _ => ⟨h.1, h.2.1, h.2.2.1, h.2.2.2.1, h.2.2.2.2.1, h1⟩, fun S0 e => by have e : some _ = some S0 := e; cases e; exact ⟨rfl, rfl⟩⟩ | exact ⟨_, _, h.2.2.2.2.2.2, h.2.2.2.2.2.2, fun k' h1 _ => ⟨h.1, h.2.1, h.2.2.1, h.2.2.2.1, h.2.2.2.2.1, h.2.2.2.2.2.1, h1⟩, fun S0 e => by have e : some _ = some S0 := e; cases e; exact ⟨rfl, rfl⟩⟩ | exact ⟨_, _, h.2.2.2.2.2.2.2, h.2.2.2.2.2.2.2, fun k' h1 _ => ⟨h.1, h.2.1, h.2.2.1, h.2.2.2.1, h.2.2.2.2.1, h.2.2.2.2.2.1, h.2.2.2.2.2.2.1, h1⟩, fun S0 e => by have e : some _ = some S0 := e; cases e; exact ⟨rfl, rfl⟩⟩ | exact ⟨_, _, h.2.2.2.2.2.2.2.2, h.2.2.2.2.2.2.2.2, fun k' h1 _ => ⟨h.1, h.2.1, h.2.2.1, h.2.2.2.1, h.2.2.2.2.1, h.2.2.2.2.2.1, h.2.2.2.2.2.2.1, h.2.2.2.2.2.2.2.1, h1⟩, fun S0 e => by have e : some _ = some S0 := e; cases e; exact ⟨rfl, rfl⟩⟩ | exact ⟨_, _, h.2.2.2.2.2.2.2.2.2, h.2.2.2.2.2.2.2.2.2, fun k' h1 _ => ⟨h.1, h.2.1, h.2.2.1, h.2.2.2.1, h.2.2.2.2.1, h.2.2.2.2.2.1, h.2.2.2.2.2.2.1, h.2.2.2.2.2.2.2.1, h.2.2.2.2.2.2.2.2.1, h1⟩, fun S0 e => by have e : some _ = some S0 := e; cases e; exact ⟨rfl, rfl⟩⟩)
def cx_ldc : cm_F1 := fun E P t S => some (cm_adv S 2 (.int (Int32.ofInt t.1) :: S.2.2.1))
theorem cd_ldc : cm_Dt cm_ldc cx_ldc := by
  intro E P t S k h
  obtain ⟨pc, L, st, M⟩ := S
  unfold cm_ldc at h ⊢
  dsimp only at h ⊢
  first | exact h.elim | exact ⟨_, _, h, h, fun k' h1 _ => h1, fun S0 e => by have e : some _ = some S0 := e; cases e; exact ⟨rfl, rfl⟩⟩ | exact ⟨_, _, h.2, h.2, fun k' h1 _ => ⟨h.1, h1⟩, fun S0 e => by have e : some _ = some S0 := e; cases e; exact ⟨rfl, rfl⟩⟩ | exact ⟨_, _, h.2.2, h.2.2, fun k' h1 _ => ⟨h.1, h.2.1, h1⟩, fun S0 e => by have e : some _ = some S0 := e; cases e; exact ⟨rfl, rfl⟩⟩ | exact ⟨_, _, h.2.2.2, h.2.2.2, fun k' h1 _ => ⟨h.1, h.2.1, h.2.2.1, h1⟩, fun S0 e => by have e : some _ = some S0 := e; cases e; exact ⟨rfl, rfl⟩⟩ | exact ⟨_, _, h.2.2.2.2, h.2.2.2.2, fun k' h1 _ => ⟨h.1, h.2.1, h.2.2.1, h.2.2.2.1, h1⟩, fun S0 e => by have e : some _ = some S0 := e; cases e; exact ⟨rfl, rfl⟩⟩ | exact ⟨_, _, h.2.2.2.2.2, h.2.2.2.2.2, fun k' h1 _ => ⟨h.1, h.2.1, h.2.2.1, h.2.2.2.1, h.2.2.2.2.1, h1⟩, fun S0 e => by have e : some _ = some S0 := e; cases e; exact ⟨rfl, rfl⟩⟩ | exact ⟨_, _, h.2.2.2.2.2.2, h.2.2.2.2.2.2, fun k' h1 _ => ⟨h.1, h.2.1, h.2.2.1, h.2.2.2.1, h.2.2.2.2.1, h.2.2.2.2.2.1, h1⟩, fun S0 e => by have e : some _ = some S0 := e; cases e; exact ⟨rfl, rfl⟩⟩ | exact ⟨_, _, h.2.2.2.2.2.2.2, h.2.2.2.2.2.2.2, fun k' h1 _ => ⟨h.1, h.2.1, h.2.2.1, h.2.2.2.1, h.2.2.2.2.1, h.2.2.2.2.2.1, h.2.2.2.2.2.2.1, h1⟩, fun S0 e => by have e : some _ = some S0 := e; cases e; exact ⟨rfl, rfl⟩⟩ | exact ⟨_, _, h.2.2.2.2.2.2.2.2, h.2.2.2.2.2.2.2.2, fun k' h1 _ => ⟨h.1, h.2.1, h.2.2.1, h.2.2.2.1, h.2.2.2.2.1, h.2.2.2.2.2.1, h.2.2.2.2.2.2.1, h.2.2.2.2.2.2.2.1, h1⟩, fun S0 e => by have e : some _ = some S0 := e; cases e; exact ⟨rfl, rfl⟩⟩ | exact ⟨_, _, h.2.2.2.2.2.2.2.2.2, h.2.2.2.2.2.2.2.2.2, fun k' h1 _ => ⟨h.1, h.2.1, h.2.2.1, h.2.2.2.1, h.2.2.2.2.1, h.2.2.2.2.2.1, h.2.2.2.2.2.2.1, h.2.2.2.2.2.2.2.1, h.2.2.2.2.2.2.2.2.1, h1⟩, fun S0 e => by have e : some _ = some S0 := e; cases e; exact ⟨rfl, rfl⟩⟩
def cx_ldcS : cm_F1 := fun E P t S => some (cm_adv S 2 (.ref (1001 + 2 * t.1.toNat) :: S.2.2.1))
theorem cd_ldcS : cm_Dt cm_ldcS cx_ldcS := by
  intro E P t S k h
  obtain ⟨pc, L, st, M⟩ := S
  unfold cm_ldcS at h ⊢
  dsimp only at h ⊢
  first | exact h.elim | exact ⟨_, _, h, h, fun k' h1 _ => h1, fun S0 e => by have e : some _ = some S0 := e; cases e; exact ⟨rfl, rfl⟩⟩ | exact ⟨_, _, h.2, h.2, fun k' h1 _ => ⟨h.1, h1⟩, fun S0 e => by have e : some _ = some S0 := e; cases e; exact ⟨rfl, rfl⟩⟩ | exact ⟨_, _, h.2.2, h.2.2, fun k' h1 _ => ⟨h.1, h.2.1, h1⟩, fun S0 e => by have e : some _ = some S0 := e; cases e; exact ⟨rfl, rfl⟩⟩ | exact ⟨_, _, h.2.2.2, h.2.2.2, fun k' h1 _ => ⟨h.1, h.2.1, h.2.2.1, h1⟩, fun S0 e => by have e : some _ = some S0 := e; cases e; exact ⟨rfl, rfl⟩⟩ | exact ⟨_, _, h.2.2.2.2, h.2.2.2.2, fun k' h1 _ => ⟨h.1, h.2.1, h.2.2.1, h.2.2.2.1, h1⟩, fun S0 e => by have e : some _ = some S0 := e; cases e; exact ⟨rfl, rfl⟩⟩ | exact ⟨_, _, h.2.2.2.2.2, h.2.2.2.2.2, fun k' h1 _ => ⟨h.1, h.2.1, h.2.2.1, h.2.2.2.1, h.2.2.2.2.1, h1⟩, fun S0 e => by have e : some _ = some S0 := e; cases e; exact ⟨rfl, rfl⟩⟩ | exact ⟨_, _, h.2.2.2.2.2.2, h.2.2.2.2.2.2, fun k' h1 _ => ⟨h.1, h.2.1, h.2.2.1, h.2.2.2.1, h.2.2.2.2.1, h.2.2.2.2.2.1, h1⟩, fun S0 e => by have e : some _ = some S0 := e; cases e; exact ⟨rfl, rfl⟩⟩ | exact ⟨_, _, h.2.2.2.2.2.2.2, h.2.2.2.2.2.2.2, fun k' h1 _ => ⟨h.1, h.2.1, h.2.2.1, h.2.2.2.1, h.2.2.2.2.1, h.2.2.2.2.2.1, h.2.2.2.2.2.2.1, h1⟩, fun S0 e => by have e : some _ = some S0 := e; cases e; exact ⟨rfl, rfl⟩⟩ | exact ⟨_, _, h.2.2.2.2.2.2.2.2, h.2.2.2.2.2.2.2.2, fun k' h1 _ => ⟨h.1, h.2.1, h.2.2.1, h.2.2.2.1, h.2.2.2.2.1, h.2.2.2.2.2.1, h.2.2.2.2.2.2.1, h.2.2.2.2.2.2.2.1, h1⟩, fun S0 e => by have e : some _ = some S0 := e; cases e; exact ⟨rfl, rfl⟩⟩ | exact ⟨_, _, h.2.2.2.2.2.2.2.2.2, h.2.2.2.2.2.2.2.2.2, fun k' h1 _ => ⟨h.1, h.2.1, h.2.2.1, h.2.2.2.1, h.2.2.2.2.1, h.2.2.2.2.2.1, h.2.2.2.2.2.2.1, h.2.2.2.2.2.2.2.1, h.2.2.2.2.2.2.2.2.1, h1⟩, fun S0 e => by have e : some _ = some S0 := e; cases e; exact ⟨rfl, rfl⟩⟩
def cx_getV : cm_F1 := fun E P t S => match S.2.2.1 with
  | .ref c :: st => some (cm_adv S 3 (.ref (c + 1) :: st))
  | _ => none
theorem cd_getV : cm_Dt cm_getV cx_getV := by
  intro E P t S k h
  obtain ⟨pc, L, st, M⟩ := S
  unfold cm_getV at h ⊢
  dsimp only at h ⊢
  split at h <;> (first | exact h.elim | exact ⟨_, _, h, h, fun k' h1 _ => h1, fun S0 e => by have e : some _ = some S0 := e; cases e; exact ⟨rfl, rfl⟩⟩ | exact ⟨_, _, h.2, h.2, fun k' h1 _ => ⟨h.1, h1⟩, fun S0 e => by have e : some _ = some S0 := e; cases e; exact ⟨rfl, rfl⟩⟩ | exact ⟨_, _, h.2.2, h.2.2, fun k' h1 _ => ⟨h.1, h.2.1, h1⟩, fun S0 e => by have e : some _ = some S0 := e; cases e; exact ⟨rfl, rfl⟩⟩ | exact ⟨_, _, h.2.2.2, h.2.2.2, fun k' h1 _ => ⟨h.1, h.2.1, h.2.2.1, h1⟩, fun S0 e => by have e : some _ = some S0 := e; cases e; exact ⟨rfl, rfl⟩⟩ | exact ⟨_, _, h.2.2.2.2, h.2.2.2.2, fun k' h1 _ => ⟨h.1, h.2.1, h.2.2.1, h.2.2.2.1, h1⟩, fun S0 e => by have e : some _ = some S0 := e; cases e; exact ⟨rfl, rfl⟩⟩ | exact ⟨_, _, h.2.2.2.2.2, h.2.2.2.2.2, fun k' h1 _ => ⟨h.1, h.2.1, h.2.2.1, h.2.2.2.1, h.2.2.2.2.1, h1⟩, fun S0 e => by have e : some _ = some S0 := e; cases e; exact ⟨rfl, rfl⟩⟩ | exact ⟨_, _, h.2.2.2.2.2.2, h.2.2.2.2.2.2, fun k' h1 _ => ⟨h.1, h.2.1, h.2.2.1, h.2.2.2.1, h.2.2.2.2.1, h.2.2.2.2.2.1, h1⟩, fun S0 e => by have e : some _ = some S0 := e; cases e; exact ⟨rfl, rfl⟩⟩ | exact ⟨_, _, h.2.2.2.2.2.2.2, h.2.2.2.2.2.2.2, fun k' h1 _ => ⟨h.1, h.2.1, h.2.2.1, h.2.2.2.1, h.2.2.2.2.1, h.2.2.2.2.2.1, h.2.2.2.2.2.2.1, h1⟩, fun S0 e => by have e : some _ = some S0 := e; cases e; exact ⟨rfl, rfl⟩⟩ | exact ⟨_, _, h.2.2.2.2.2.2.2.2, h.2.2.2.2.2.2.2.2, fun k' h1 _ => ⟨h.1, h.2.1, h.2.2.1, h.2.2.2.1, h.2.2.2.2.1, h.2.2.2.2.2.1, h.2.2.2.2.2.2.1, h.2.2.2.2.2.2.2.1, h1⟩, fun S0 e => by have e : some _ = some S0 := e; cases e; exact ⟨rfl, rfl⟩⟩ | exact ⟨_, _, h.2.2.2.2.2.2.2.2.2, h.2.2.2.2.2.2.2.2.2, fun k' h1 _ => ⟨h.1, h.2.1, h.2.2.1, h.2.2.2.1, h.2.2.2.2.1, h.2.2.2.2.2.1, h.2.2.2.2.2.2.1, h.2.2.2.2.2.2.2.1, h.2.2.2.2.2.2.2.2.1, h1⟩, fun S0 e => by have e : some _ = some S0 := e; cases e; exact ⟨rfl, rfl⟩⟩)
def cx_getC : cm_F1 := fun E P t S => match S.2.2.1 with
  | .ref c :: st => some (cm_adv S 3 (.int 0 :: st))
  | _ => none
theorem cd_getC : cm_Dt cm_getC cx_getC := by
  intro E P t S k h
  obtain ⟨pc, L, st, M⟩ := S
  unfold cm_getC at h ⊢
  dsimp only at h ⊢
  split at h <;> (first | exact h.elim | exact ⟨_, _, h, h, fun k' h1 _ => h1, fun S0 e => by have e : some _ = some S0 := e; cases e; exact ⟨rfl, rfl⟩⟩ | exact ⟨_, _, h.2, h.2, fun k' h1 _ => ⟨h.1, h1⟩, fun S0 e => by have e : some _ = some S0 := e; cases e; exact ⟨rfl, rfl⟩⟩ | exact ⟨_, _, h.2.2, h.2.2, fun k' h1 _ => ⟨h.1, h.2.1, h1⟩, fun S0 e => by have e : some _ = some S0 := e; cases e; exact ⟨rfl, rfl⟩⟩ | exact ⟨_, _, h.2.2.2, h.2.2.2, fun k' h1 _ => ⟨h.1, h.2.1, h.2.2.1, h1⟩, fun S0 e => by have e : some _ = some S0 := e; cases e; exact ⟨rfl, rfl⟩⟩ | exact ⟨_, _, h.2.2.2.2, h.2.2.2.2, fun k' h1 _ => ⟨h.1, h.2.1, h.2.2.1, h.2.2.2.1, h1⟩, fun S0 e => by have e : some _ = some S0 := e; cases e; exact ⟨rfl, rfl⟩⟩ | exact ⟨_, _, h.2.2.2.2.2, h.2.2.2.2.2, fun k' h1 _ => ⟨h.1, h.2.1, h.2.2.1, h.2.2.2.1, h.2.2.2.2.1, h1⟩, fun S0 e => by have e : some _ = some S0 := e; cases e; exact ⟨rfl, rfl⟩⟩ | exact ⟨_, _, h.2.2.2.2.2.2, h.2.2.2.2.2.2, fun k' h1 _ => ⟨h.1, h.2.1, h.2.2.1, h.2.2.2.1, h.2.2.2.2.1, h.2.2.2.2.2.1, h1⟩, fun S0 e => by have e : some _ = some S0 := e; cases e; exact ⟨rfl, rfl⟩⟩ | exact ⟨_, _, h.2.2.2.2.2.2.2, h.2.2.2.2.2.2.2, fun k' h1 _ => ⟨h.1, h.2.1, h.2.2.1, h.2.2.2.1, h.2.2.2.2.1, h.2.2.2.2.2.1, h.2.2.2.2.2.2.1, h1⟩, fun S0 e => by have e : some _ = some S0 := e; cases e; exact ⟨rfl, rfl⟩⟩ | exact ⟨_, _, h.2.2.2.2.2.2.2.2, h.2.2.2.2.2.2.2.2, fun k' h1 _ => ⟨h.1, h.2.1, h.2.2.1, h.2.2.2.1, h.2.2.2.2.1, h.2.2.2.2.2.1, h.2.2.2.2.2.2.1, h.2.2.2.2.2.2.2.1, h1⟩, fun S0 e => by have e : some _ = some S0 := e; cases e; exact ⟨rfl, rfl⟩⟩ | exact ⟨_, _, h.2.2.2.2.2.2.2.2.2, h.2.2.2.2.2.2.2.2.2, fun k' h1 _ => ⟨h.1, h.2.1, h.2.2.1, h.2.2.2.1, h.2.2.2.2.1, h.2.2.2.2.2.1, h.2.2.2.2.2.2.1, h.2.2.2.2.2.2.2.1, h.2.2.2.2.2.2.2.2.1, h1⟩, fun S0 e => by have e : some _ = some S0 := e; cases e; exact ⟨rfl, rfl⟩⟩)
def cx_gets : cm_F1 := fun E P t S => some (cm_adv S 3 (.int 1 :: S.2.2.1))
theorem cd_gets : cm_Dt cm_gets cx_gets := by
  intro E P t S k h
  obtain ⟨pc, L, st, M⟩ := S
  unfold cm_gets at h ⊢
  dsimp only at h ⊢
  first | exact h.elim | exact ⟨_, _, h, h, fun k' h1 _ => h1, fun S0 e => by have e : some _ = some S0 := e; cases e; exact ⟨rfl, rfl⟩⟩ | exact ⟨_, _, h.2, h.2, fun k' h1 _ => ⟨h.1, h1⟩, fun S0 e => by have e : some _ = some S0 := e; cases e; exact ⟨rfl, rfl⟩⟩ | exact ⟨_, _, h.2.2, h.2.2, fun k' h1 _ => ⟨h.1, h.2.1, h1⟩, fun S0 e => by have e : some _ = some S0 := e; cases e; exact ⟨rfl, rfl⟩⟩ | exact ⟨_, _, h.2.2.2, h.2.2.2, fun k' h1 _ => ⟨h.1, h.2.1, h.2.2.1, h1⟩, fun S0 e => by have e : some _ = some S0 := e; cases e; exact ⟨rfl, rfl⟩⟩ | exact ⟨_, _, h.2.2.2.2, h.2.2.2.2, fun k' h1 _ => ⟨h.1, h.2.1, h.2.2.1, h.2.2.2.1, h1⟩, fun S0 e => by have e : some _ = some S0 := e; cases e; exact ⟨rfl, rfl⟩⟩ | exact ⟨_, _, h.2.2.2.2.2, h.2.2.2.2.2, fun k' h1 _ => ⟨h.1, h.2.1, h.2.2.1, h.2.2.2.1, h.2.2.2.2.1, h1⟩, fun S0 e => by have e : some _ = some S0 := e; cases e; exact ⟨rfl, rfl⟩⟩ | exact ⟨_, _, h.2.2.2.2.2.2, h.2.2.2.2.2.2, fun k' h1 _ => ⟨h.1, h.2.1, h.2.2.1, h.2.2.2.1, h.2.2.2.2.1, h.2.2.2.2.2.1, h1⟩, fun S0 e => by have e : some _ = some S0 := e; cases e; exact ⟨rfl, rfl⟩⟩ | exact ⟨_, _, h.2.2.2.2.2.2.2, h.2.2.2.2.2.2.2, fun k' h1 _ => ⟨h.1, h.2.1, h.2.2.1, h.2.2.2.1, h.2.2.2.2.1, h.2.2.2.2.2.1, h.2.2.2.2.2.2.1, h1⟩, fun S0 e => by have e : some _ = some S0 := e; cases e; exact ⟨rfl, rfl⟩⟩ | exact ⟨_, _, h.2.2.2.2.2.2.2.2, h.2.2.2.2.2.2.2.2, fun k' h1 _ => ⟨h.1, h.2.1, h.2.2.1, h.2.2.2.1, h.2.2.2.2.1, h.2.2.2.2.2.1, h.2.2.2.2.2.2.1, h.2.2.2.2.2.2.2.1, h1⟩, fun S0 e => by have e : some _ = some S0 := e; cases e; exact ⟨rfl, rfl⟩⟩ | exact ⟨_, _, h.2.2.2.2.2.2.2.2.2, h.2.2.2.2.2.2.2.2.2, fun k' h1 _ => ⟨h.1, h.2.1, h.2.2.1, h.2.2.2.1, h.2.2.2.2.1, h.2.2.2.2.2.1, h.2.2.2.2.2.2.1, h.2.2.2.2.2.2.2.1, h.2.2.2.2.2.2.2.2.1, h1⟩, fun S0 e => by have e : some _ = some S0 := e; cases e; exact ⟨rfl, rfl⟩⟩
def cx_alenS : cm_F1 := fun E P t S => match S.2.2.1 with
  | .ref c :: st => (match ev_strs[(c - 1001) / 2]? with
    | some r => some (cm_adv S 1 (.int (Int32.ofNat r.2.2.2.length) :: st))
    | none => none)
  | _ => none
theorem cd_alenS : cm_Dt cm_alenS cx_alenS := by
  intro E P t S k h
  obtain ⟨pc, L, st, M⟩ := S
  unfold cm_alenS at h ⊢
  dsimp only at h ⊢
  split at h
  · split at h
    · rename_i hz
      refine ⟨_, _, h.2.2.2, h.2.2.2, fun k' h1 _ => ?_, fun S0 e => ?_⟩
      · exact ⟨h.1, h.2.1, h.2.2.1, h1⟩
      · unfold cx_alenS at e
        dsimp only at e
        rw [hz] at e
        cases e
        exact ⟨rfl, rfl⟩
    · exact h.elim
  · exact h.elim
def cx_baloadS : cm_F1 := fun E P t S => match S.2.2.1 with
  | .int i :: .ref c :: st => (match ev_strs[(c - 1001) / 2]? with
    | some r => some (cm_adv S 1 (.int (r.2.2.2.getD i.toNatClampNeg 0) :: st))
    | none => none)
  | _ => none
theorem cd_baloadS : cm_Dt cm_baloadS cx_baloadS := by
  intro E P t S k h
  obtain ⟨pc, L, st, M⟩ := S
  unfold cm_baloadS at h ⊢
  dsimp only at h ⊢
  split at h
  · split at h
    · rename_i hz
      refine ⟨_, _, h.2.2.2.2.2, h.2.2.2.2.2, fun k' h1 _ => ?_, fun S0 e => ?_⟩
      · exact ⟨h.1, h.2.1, h.2.2.1, h.2.2.2.1, h.2.2.2.2.1, h1⟩
      · unfold cx_baloadS at e
        dsimp only at e
        rw [hz] at e
        cases e
        exact ⟨rfl, rfl⟩
    · exact h.elim
  · exact h.elim
def cx_i2c : cm_F1 := fun E P t S => match S.2.2.1 with
  | .int x :: st => some (cm_adv S 1 (.int ((x.toUInt32 % 65536).toInt32) :: st))
  | _ => none
theorem cd_i2c : cm_Dt cm_i2c cx_i2c := by
  intro E P t S k h
  obtain ⟨pc, L, st, M⟩ := S
  unfold cm_i2c at h ⊢
  dsimp only at h ⊢
  split at h <;> (first | exact h.elim | exact ⟨_, _, h, h, fun k' h1 _ => h1, fun S0 e => by have e : some _ = some S0 := e; cases e; exact ⟨rfl, rfl⟩⟩ | exact ⟨_, _, h.2, h.2, fun k' h1 _ => ⟨h.1, h1⟩, fun S0 e => by have e : some _ = some S0 := e; cases e; exact ⟨rfl, rfl⟩⟩ | exact ⟨_, _, h.2.2, h.2.2, fun k' h1 _ => ⟨h.1, h.2.1, h1⟩, fun S0 e => by have e : some _ = some S0 := e; cases e; exact ⟨rfl, rfl⟩⟩ | exact ⟨_, _, h.2.2.2, h.2.2.2, fun k' h1 _ => ⟨h.1, h.2.1, h.2.2.1, h1⟩, fun S0 e => by have e : some _ = some S0 := e; cases e; exact ⟨rfl, rfl⟩⟩ | exact ⟨_, _, h.2.2.2.2, h.2.2.2.2, fun k' h1 _ => ⟨h.1, h.2.1, h.2.2.1, h.2.2.2.1, h1⟩, fun S0 e => by have e : some _ = some S0 := e; cases e; exact ⟨rfl, rfl⟩⟩ | exact ⟨_, _, h.2.2.2.2.2, h.2.2.2.2.2, fun k' h1 _ => ⟨h.1, h.2.1, h.2.2.1, h.2.2.2.1, h.2.2.2.2.1, h1⟩, fun S0 e => by have e : some _ = some S0 := e; cases e; exact ⟨rfl, rfl⟩⟩ | exact ⟨_, _, h.2.2.2.2.2.2, h.2.2.2.2.2.2, fun k' h1 _ => ⟨h.1, h.2.1, h.2.2.1, h.2.2.2.1, h.2.2.2.2.1, h.2.2.2.2.2.1, h1⟩, fun S0 e => by have e : some _ = some S0 := e; cases e; exact ⟨rfl, rfl⟩⟩ | exact ⟨_, _, h.2.2.2.2.2.2.2, h.2.2.2.2.2.2.2, fun k' h1 _ => ⟨h.1, h.2.1, h.2.2.1, h.2.2.2.1, h.2.2.2.2.1, h.2.2.2.2.2.1, h.2.2.2.2.2.2.1, h1⟩, fun S0 e => by have e : some _ = some S0 := e; cases e; exact ⟨rfl, rfl⟩⟩ | exact ⟨_, _, h.2.2.2.2.2.2.2.2, h.2.2.2.2.2.2.2.2, fun k' h1 _ => ⟨h.1, h.2.1, h.2.2.1, h.2.2.2.1, h.2.2.2.2.1, h.2.2.2.2.2.1, h.2.2.2.2.2.2.1, h.2.2.2.2.2.2.2.1, h1⟩, fun S0 e => by have e : some _ = some S0 := e; cases e; exact ⟨rfl, rfl⟩⟩ | exact ⟨_, _, h.2.2.2.2.2.2.2.2.2, h.2.2.2.2.2.2.2.2.2, fun k' h1 _ => ⟨h.1, h.2.1, h.2.2.1, h.2.2.2.1, h.2.2.2.2.1, h.2.2.2.2.2.1, h.2.2.2.2.2.2.1, h.2.2.2.2.2.2.2.1, h.2.2.2.2.2.2.2.2.1, h1⟩, fun S0 e => by have e : some _ = some S0 := e; cases e; exact ⟨rfl, rfl⟩⟩)
def cx_ladd : cm_F1 := fun E P t S => match S.2.2.1 with
  | .long y :: .long x :: st => some (cm_adv S 1 (.long (x + y) :: st))
  | _ => none
theorem cd_ladd : cm_Dt cm_ladd cx_ladd := by
  intro E P t S k h
  obtain ⟨pc, L, st, M⟩ := S
  unfold cm_ladd at h ⊢
  dsimp only at h ⊢
  split at h <;> (first | exact h.elim | exact ⟨_, _, h, h, fun k' h1 _ => h1, fun S0 e => by have e : some _ = some S0 := e; cases e; exact ⟨rfl, rfl⟩⟩ | exact ⟨_, _, h.2, h.2, fun k' h1 _ => ⟨h.1, h1⟩, fun S0 e => by have e : some _ = some S0 := e; cases e; exact ⟨rfl, rfl⟩⟩ | exact ⟨_, _, h.2.2, h.2.2, fun k' h1 _ => ⟨h.1, h.2.1, h1⟩, fun S0 e => by have e : some _ = some S0 := e; cases e; exact ⟨rfl, rfl⟩⟩ | exact ⟨_, _, h.2.2.2, h.2.2.2, fun k' h1 _ => ⟨h.1, h.2.1, h.2.2.1, h1⟩, fun S0 e => by have e : some _ = some S0 := e; cases e; exact ⟨rfl, rfl⟩⟩ | exact ⟨_, _, h.2.2.2.2, h.2.2.2.2, fun k' h1 _ => ⟨h.1, h.2.1, h.2.2.1, h.2.2.2.1, h1⟩, fun S0 e => by have e : some _ = some S0 := e; cases e; exact ⟨rfl, rfl⟩⟩ | exact ⟨_, _, h.2.2.2.2.2, h.2.2.2.2.2, fun k' h1 _ => ⟨h.1, h.2.1, h.2.2.1, h.2.2.2.1, h.2.2.2.2.1, h1⟩, fun S0 e => by have e : some _ = some S0 := e; cases e; exact ⟨rfl, rfl⟩⟩ | exact ⟨_, _, h.2.2.2.2.2.2, h.2.2.2.2.2.2, fun k' h1 _ => ⟨h.1, h.2.1, h.2.2.1, h.2.2.2.1, h.2.2.2.2.1, h.2.2.2.2.2.1, h1⟩, fun S0 e => by have e : some _ = some S0 := e; cases e; exact ⟨rfl, rfl⟩⟩ | exact ⟨_, _, h.2.2.2.2.2.2.2, h.2.2.2.2.2.2.2, fun k' h1 _ => ⟨h.1, h.2.1, h.2.2.1, h.2.2.2.1, h.2.2.2.2.1, h.2.2.2.2.2.1, h.2.2.2.2.2.2.1, h1⟩, fun S0 e => by have e : some _ = some S0 := e; cases e; exact ⟨rfl, rfl⟩⟩ | exact ⟨_, _, h.2.2.2.2.2.2.2.2, h.2.2.2.2.2.2.2.2, fun k' h1 _ => ⟨h.1, h.2.1, h.2.2.1, h.2.2.2.1, h.2.2.2.2.1, h.2.2.2.2.2.1, h.2.2.2.2.2.2.1, h.2.2.2.2.2.2.2.1, h1⟩, fun S0 e => by have e : some _ = some S0 := e; cases e; exact ⟨rfl, rfl⟩⟩ | exact ⟨_, _, h.2.2.2.2.2.2.2.2.2, h.2.2.2.2.2.2.2.2.2, fun k' h1 _ => ⟨h.1, h.2.1, h.2.2.1, h.2.2.2.1, h.2.2.2.2.1, h.2.2.2.2.2.1, h.2.2.2.2.2.2.1, h.2.2.2.2.2.2.2.1, h.2.2.2.2.2.2.2.2.1, h1⟩, fun S0 e => by have e : some _ = some S0 := e; cases e; exact ⟨rfl, rfl⟩⟩)
def cx_lsub : cm_F1 := fun E P t S => match S.2.2.1 with
  | .long y :: .long x :: st => some (cm_adv S 1 (.long (x - y) :: st))
  | _ => none
theorem cd_lsub : cm_Dt cm_lsub cx_lsub := by
  intro E P t S k h
  obtain ⟨pc, L, st, M⟩ := S
  unfold cm_lsub at h ⊢
  dsimp only at h ⊢
  split at h <;> (first | exact h.elim | exact ⟨_, _, h, h, fun k' h1 _ => h1, fun S0 e => by have e : some _ = some S0 := e; cases e; exact ⟨rfl, rfl⟩⟩ | exact ⟨_, _, h.2, h.2, fun k' h1 _ => ⟨h.1, h1⟩, fun S0 e => by have e : some _ = some S0 := e; cases e; exact ⟨rfl, rfl⟩⟩ | exact ⟨_, _, h.2.2, h.2.2, fun k' h1 _ => ⟨h.1, h.2.1, h1⟩, fun S0 e => by have e : some _ = some S0 := e; cases e; exact ⟨rfl, rfl⟩⟩ | exact ⟨_, _, h.2.2.2, h.2.2.2, fun k' h1 _ => ⟨h.1, h.2.1, h.2.2.1, h1⟩, fun S0 e => by have e : some _ = some S0 := e; cases e; exact ⟨rfl, rfl⟩⟩ | exact ⟨_, _, h.2.2.2.2, h.2.2.2.2, fun k' h1 _ => ⟨h.1, h.2.1, h.2.2.1, h.2.2.2.1, h1⟩, fun S0 e => by have e : some _ = some S0 := e; cases e; exact ⟨rfl, rfl⟩⟩ | exact ⟨_, _, h.2.2.2.2.2, h.2.2.2.2.2, fun k' h1 _ => ⟨h.1, h.2.1, h.2.2.1, h.2.2.2.1, h.2.2.2.2.1, h1⟩, fun S0 e => by have e : some _ = some S0 := e; cases e; exact ⟨rfl, rfl⟩⟩ | exact ⟨_, _, h.2.2.2.2.2.2, h.2.2.2.2.2.2, fun k' h1 _ => ⟨h.1, h.2.1, h.2.2.1, h.2.2.2.1, h.2.2.2.2.1, h.2.2.2.2.2.1, h1⟩, fun S0 e => by have e : some _ = some S0 := e; cases e; exact ⟨rfl, rfl⟩⟩ | exact ⟨_, _, h.2.2.2.2.2.2.2, h.2.2.2.2.2.2.2, fun k' h1 _ => ⟨h.1, h.2.1, h.2.2.1, h.2.2.2.1, h.2.2.2.2.1, h.2.2.2.2.2.1, h.2.2.2.2.2.2.1, h1⟩, fun S0 e => by have e : some _ = some S0 := e; cases e; exact ⟨rfl, rfl⟩⟩ | exact ⟨_, _, h.2.2.2.2.2.2.2.2, h.2.2.2.2.2.2.2.2, fun k' h1 _ => ⟨h.1, h.2.1, h.2.2.1, h.2.2.2.1, h.2.2.2.2.1, h.2.2.2.2.2.1, h.2.2.2.2.2.2.1, h.2.2.2.2.2.2.2.1, h1⟩, fun S0 e => by have e : some _ = some S0 := e; cases e; exact ⟨rfl, rfl⟩⟩ | exact ⟨_, _, h.2.2.2.2.2.2.2.2.2, h.2.2.2.2.2.2.2.2.2, fun k' h1 _ => ⟨h.1, h.2.1, h.2.2.1, h.2.2.2.1, h.2.2.2.2.1, h.2.2.2.2.2.1, h.2.2.2.2.2.2.1, h.2.2.2.2.2.2.2.1, h.2.2.2.2.2.2.2.2.1, h1⟩, fun S0 e => by have e : some _ = some S0 := e; cases e; exact ⟨rfl, rfl⟩⟩)
def cx_lmul : cm_F1 := fun E P t S => match S.2.2.1 with
  | .long y :: .long x :: st => some (cm_adv S 1 (.long (x * y) :: st))
  | _ => none
theorem cd_lmul : cm_Dt cm_lmul cx_lmul := by
  intro E P t S k h
  obtain ⟨pc, L, st, M⟩ := S
  unfold cm_lmul at h ⊢
  dsimp only at h ⊢
  split at h <;> (first | exact h.elim | exact ⟨_, _, h, h, fun k' h1 _ => h1, fun S0 e => by have e : some _ = some S0 := e; cases e; exact ⟨rfl, rfl⟩⟩ | exact ⟨_, _, h.2, h.2, fun k' h1 _ => ⟨h.1, h1⟩, fun S0 e => by have e : some _ = some S0 := e; cases e; exact ⟨rfl, rfl⟩⟩ | exact ⟨_, _, h.2.2, h.2.2, fun k' h1 _ => ⟨h.1, h.2.1, h1⟩, fun S0 e => by have e : some _ = some S0 := e; cases e; exact ⟨rfl, rfl⟩⟩ | exact ⟨_, _, h.2.2.2, h.2.2.2, fun k' h1 _ => ⟨h.1, h.2.1, h.2.2.1, h1⟩, fun S0 e => by have e : some _ = some S0 := e; cases e; exact ⟨rfl, rfl⟩⟩ | exact ⟨_, _, h.2.2.2.2, h.2.2.2.2, fun k' h1 _ => ⟨h.1, h.2.1, h.2.2.1, h.2.2.2.1, h1⟩, fun S0 e => by have e : some _ = some S0 := e; cases e; exact ⟨rfl, rfl⟩⟩ | exact ⟨_, _, h.2.2.2.2.2, h.2.2.2.2.2, fun k' h1 _ => ⟨h.1, h.2.1, h.2.2.1, h.2.2.2.1, h.2.2.2.2.1, h1⟩, fun S0 e => by have e : some _ = some S0 := e; cases e; exact ⟨rfl, rfl⟩⟩ | exact ⟨_, _, h.2.2.2.2.2.2, h.2.2.2.2.2.2, fun k' h1 _ => ⟨h.1, h.2.1, h.2.2.1, h.2.2.2.1, h.2.2.2.2.1, h.2.2.2.2.2.1, h1⟩, fun S0 e => by have e : some _ = some S0 := e; cases e; exact ⟨rfl, rfl⟩⟩ | exact ⟨_, _, h.2.2.2.2.2.2.2, h.2.2.2.2.2.2.2, fun k' h1 _ => ⟨h.1, h.2.1, h.2.2.1, h.2.2.2.1, h.2.2.2.2.1, h.2.2.2.2.2.1, h.2.2.2.2.2.2.1, h1⟩, fun S0 e => by have e : some _ = some S0 := e; cases e; exact ⟨rfl, rfl⟩⟩ | exact ⟨_, _, h.2.2.2.2.2.2.2.2, h.2.2.2.2.2.2.2.2, fun k' h1 _ => ⟨h.1, h.2.1, h.2.2.1, h.2.2.2.1, h.2.2.2.2.1, h.2.2.2.2.2.1, h.2.2.2.2.2.2.1, h.2.2.2.2.2.2.2.1, h1⟩, fun S0 e => by have e : some _ = some S0 := e; cases e; exact ⟨rfl, rfl⟩⟩ | exact ⟨_, _, h.2.2.2.2.2.2.2.2.2, h.2.2.2.2.2.2.2.2.2, fun k' h1 _ => ⟨h.1, h.2.1, h.2.2.1, h.2.2.2.1, h.2.2.2.2.1, h.2.2.2.2.2.1, h.2.2.2.2.2.2.1, h.2.2.2.2.2.2.2.1, h.2.2.2.2.2.2.2.2.1, h1⟩, fun S0 e => by have e : some _ = some S0 := e; cases e; exact ⟨rfl, rfl⟩⟩)
def cx_ldiv : cm_F1 := fun E P t S => match S.2.2.1 with
  | .long y :: .long x :: st => some (cm_adv S 1 (.long (x / y) :: st))
  | _ => none
theorem cd_ldiv : cm_Dt cm_ldiv cx_ldiv := by
  intro E P t S k h
  obtain ⟨pc, L, st, M⟩ := S
  unfold cm_ldiv at h ⊢
  dsimp only at h ⊢
  split at h <;> (first | exact h.elim | exact ⟨_, _, h, h, fun k' h1 _ => h1, fun S0 e => by have e : some _ = some S0 := e; cases e; exact ⟨rfl, rfl⟩⟩ | exact ⟨_, _, h.2, h.2, fun k' h1 _ => ⟨h.1, h1⟩, fun S0 e => by have e : some _ = some S0 := e; cases e; exact ⟨rfl, rfl⟩⟩ | exact ⟨_, _, h.2.2, h.2.2, fun k' h1 _ => ⟨h.1, h.2.1, h1⟩, fun S0 e => by have e : some _ = some S0 := e; cases e; exact ⟨rfl, rfl⟩⟩ | exact ⟨_, _, h.2.2.2, h.2.2.2, fun k' h1 _ => ⟨h.1, h.2.1, h.2.2.1, h1⟩, fun S0 e => by have e : some _ = some S0 := e; cases e; exact ⟨rfl, rfl⟩⟩ | exact ⟨_, _, h.2.2.2.2, h.2.2.2.2, fun k' h1 _ => ⟨h.1, h.2.1, h.2.2.1, h.2.2.2.1, h1⟩, fun S0 e => by have e : some _ = some S0 := e; cases e; exact ⟨rfl, rfl⟩⟩ | exact ⟨_, _, h.2.2.2.2.2, h.2.2.2.2.2, fun k' h1 _ => ⟨h.1, h.2.1, h.2.2.1, h.2.2.2.1, h.2.2.2.2.1, h1⟩, fun S0 e => by have e : some _ = some S0 := e; cases e; exact ⟨rfl, rfl⟩⟩ | exact ⟨_, _, h.2.2.2.2.2.2, h.2.2.2.2.2.2, fun k' h1 _ => ⟨h.1, h.2.1, h.2.2.1, h.2.2.2.1, h.2.2.2.2.1, h.2.2.2.2.2.1, h1⟩, fun S0 e => by have e : some _ = some S0 := e; cases e; exact ⟨rfl, rfl⟩⟩ | exact ⟨_, _, h.2.2.2.2.2.2.2, h.2.2.2.2.2.2.2, fun k' h1 _ => ⟨h.1, h.2.1, h.2.2.1, h.2.2.2.1, h.2.2.2.2.1, h.2.2.2.2.2.1, h.2.2.2.2.2.2.1, h1⟩, fun S0 e => by have e : some _ = some S0 := e; cases e; exact ⟨rfl, rfl⟩⟩ | exact ⟨_, _, h.2.2.2.2.2.2.2.2, h.2.2.2.2.2.2.2.2, fun k' h1 _ => ⟨h.1, h.2.1, h.2.2.1, h.2.2.2.1, h.2.2.2.2.1, h.2.2.2.2.2.1, h.2.2.2.2.2.2.1, h.2.2.2.2.2.2.2.1, h1⟩, fun S0 e => by have e : some _ = some S0 := e; cases e; exact ⟨rfl, rfl⟩⟩ | exact ⟨_, _, h.2.2.2.2.2.2.2.2.2, h.2.2.2.2.2.2.2.2.2, fun k' h1 _ => ⟨h.1, h.2.1, h.2.2.1, h.2.2.2.1, h.2.2.2.2.1, h.2.2.2.2.2.1, h.2.2.2.2.2.2.1, h.2.2.2.2.2.2.2.1, h.2.2.2.2.2.2.2.2.1, h1⟩, fun S0 e => by have e : some _ = some S0 := e; cases e; exact ⟨rfl, rfl⟩⟩)
def cx_lrem : cm_F1 := fun E P t S => match S.2.2.1 with
  | .long y :: .long x :: st => some (cm_adv S 1 (.long (x - x / y * y) :: st))
  | _ => none
theorem cd_lrem : cm_Dt cm_lrem cx_lrem := by
  intro E P t S k h
  obtain ⟨pc, L, st, M⟩ := S
  unfold cm_lrem at h ⊢
  dsimp only at h ⊢
  split at h <;> (first | exact h.elim | exact ⟨_, _, h, h, fun k' h1 _ => h1, fun S0 e => by have e : some _ = some S0 := e; cases e; exact ⟨rfl, rfl⟩⟩ | exact ⟨_, _, h.2, h.2, fun k' h1 _ => ⟨h.1, h1⟩, fun S0 e => by have e : some _ = some S0 := e; cases e; exact ⟨rfl, rfl⟩⟩ | exact ⟨_, _, h.2.2, h.2.2, fun k' h1 _ => ⟨h.1, h.2.1, h1⟩, fun S0 e => by have e : some _ = some S0 := e; cases e; exact ⟨rfl, rfl⟩⟩ | exact ⟨_, _, h.2.2.2, h.2.2.2, fun k' h1 _ => ⟨h.1, h.2.1, h.2.2.1, h1⟩, fun S0 e => by have e : some _ = some S0 := e; cases e; exact ⟨rfl, rfl⟩⟩ | exact ⟨_, _, h.2.2.2.2, h.2.2.2.2, fun k' h1 _ => ⟨h.1, h.2.1, h.2.2.1, h.2.2.2.1, h1⟩, fun S0 e => by have e : some _ = some S0 := e; cases e; exact ⟨rfl, rfl⟩⟩ | exact ⟨_, _, h.2.2.2.2.2, h.2.2.2.2.2, fun k' h1 _ => ⟨h.1, h.2.1, h.2.2.1, h.2.2.2.1, h.2.2.2.2.1, h1⟩, fun S0 e => by have e : some _ = some S0 := e; cases e; exact ⟨rfl, rfl⟩⟩ | exact ⟨_, _, h.2.2.2.2.2.2, h.2.2.2.2.2.2, fun k' h1 _ => ⟨h.1, h.2.1, h.2.2.1, h.2.2.2.1, h.2.2.2.2.1, h.2.2.2.2.2.1, h1⟩, fun S0 e => by have e : some _ = some S0 := e; cases e; exact ⟨rfl, rfl⟩⟩ | exact ⟨_, _, h.2.2.2.2.2.2.2, h.2.2.2.2.2.2.2, fun k' h1 _ => ⟨h.1, h.2.1, h.2.2.1, h.2.2.2.1, h.2.2.2.2.1, h.2.2.2.2.2.1, h.2.2.2.2.2.2.1, h1⟩, fun S0 e => by have e : some _ = some S0 := e; cases e; exact ⟨rfl, rfl⟩⟩ | exact ⟨_, _, h.2.2.2.2.2.2.2.2, h.2.2.2.2.2.2.2.2, fun k' h1 _ => ⟨h.1, h.2.1, h.2.2.1, h.2.2.2.1, h.2.2.2.2.1, h.2.2.2.2.2.1, h.2.2.2.2.2.2.1, h.2.2.2.2.2.2.2.1, h1⟩, fun S0 e => by have e : some _ = some S0 := e; cases e; exact ⟨rfl, rfl⟩⟩ | exact ⟨_, _, h.2.2.2.2.2.2.2.2.2, h.2.2.2.2.2.2.2.2.2, fun k' h1 _ => ⟨h.1, h.2.1, h.2.2.1, h.2.2.2.1, h.2.2.2.2.1, h.2.2.2.2.2.1, h.2.2.2.2.2.2.1, h.2.2.2.2.2.2.2.1, h.2.2.2.2.2.2.2.2.1, h1⟩, fun S0 e => by have e : some _ = some S0 := e; cases e; exact ⟨rfl, rfl⟩⟩)
def cx_ldc2 : cm_F1 := fun E P t S => some (cm_adv S 3 (.long (Int64.ofInt t.1) :: S.2.2.1))
theorem cd_ldc2 : cm_Dt cm_ldc2 cx_ldc2 := by
  intro E P t S k h
  obtain ⟨pc, L, st, M⟩ := S
  unfold cm_ldc2 at h ⊢
  dsimp only at h ⊢
  first | exact h.elim | exact ⟨_, _, h, h, fun k' h1 _ => h1, fun S0 e => by have e : some _ = some S0 := e; cases e; exact ⟨rfl, rfl⟩⟩ | exact ⟨_, _, h.2, h.2, fun k' h1 _ => ⟨h.1, h1⟩, fun S0 e => by have e : some _ = some S0 := e; cases e; exact ⟨rfl, rfl⟩⟩ | exact ⟨_, _, h.2.2, h.2.2, fun k' h1 _ => ⟨h.1, h.2.1, h1⟩, fun S0 e => by have e : some _ = some S0 := e; cases e; exact ⟨rfl, rfl⟩⟩ | exact ⟨_, _, h.2.2.2, h.2.2.2, fun k' h1 _ => ⟨h.1, h.2.1, h.2.2.1, h1⟩, fun S0 e => by have e : some _ = some S0 := e; cases e; exact ⟨rfl, rfl⟩⟩ | exact ⟨_, _, h.2.2.2.2, h.2.2.2.2, fun k' h1 _ => ⟨h.1, h.2.1, h.2.2.1, h.2.2.2.1, h1⟩, fun S0 e => by have e : some _ = some S0 := e; cases e; exact ⟨rfl, rfl⟩⟩ | exact ⟨_, _, h.2.2.2.2.2, h.2.2.2.2.2, fun k' h1 _ => ⟨h.1, h.2.1, h.2.2.1, h.2.2.2.1, h.2.2.2.2.1, h1⟩, fun S0 e => by have e : some _ = some S0 := e; cases e; exact ⟨rfl, rfl⟩⟩ | exact ⟨_, _, h.2.2.2.2.2.2, h.2.2.2.2.2.2, fun k' h1 _ => ⟨h.1, h.2.1, h.2.2.1, h.2.2.2.1, h.2.2.2.2.1, h.2.2.2.2.2.1, h1⟩, fun S0 e => by have e : some _ = some S0 := e; cases e; exact ⟨rfl, rfl⟩⟩ | exact ⟨_, _, h.2.2.2.2.2.2.2, h.2.2.2.2.2.2.2, fun k' h1 _ => ⟨h.1, h.2.1, h.2.2.1, h.2.2.2.1, h.2.2.2.2.1, h.2.2.2.2.2.1, h.2.2.2.2.2.2.1, h1⟩, fun S0 e => by have e : some _ = some S0 := e; cases e; exact ⟨rfl, rfl⟩⟩ | exact ⟨_, _, h.2.2.2.2.2.2.2.2, h.2.2.2.2.2.2.2.2, fun k' h1 _ => ⟨h.1, h.2.1, h.2.2.1, h.2.2.2.1, h.2.2.2.2.1, h.2.2.2.2.2.1, h.2.2.2.2.2.2.1, h.2.2.2.2.2.2.2.1, h1⟩, fun S0 e => by have e : some _ = some S0 := e; cases e; exact ⟨rfl, rfl⟩⟩ | exact ⟨_, _, h.2.2.2.2.2.2.2.2.2, h.2.2.2.2.2.2.2.2.2, fun k' h1 _ => ⟨h.1, h.2.1, h.2.2.1, h.2.2.2.1, h.2.2.2.2.1, h.2.2.2.2.2.1, h.2.2.2.2.2.2.1, h.2.2.2.2.2.2.2.1, h.2.2.2.2.2.2.2.2.1, h1⟩, fun S0 e => by have e : some _ = some S0 := e; cases e; exact ⟨rfl, rfl⟩⟩
def cx_getsF : cm_F1 := fun E P t S => none
theorem cd_getsF : cm_Dt cm_getsF cx_getsF := by
  intro E P t S k h
  obtain ⟨pc, L, st, M⟩ := S
  unfold cm_getsF at h ⊢
  dsimp only at h ⊢
  exact ⟨_, _, h.1, h.2, fun k' h1 h2 => ⟨h1, h2⟩, fun S0 e => by cases e⟩
def cx_ldcw : cm_F1 := fun E P t S => some (cm_adv S 3 (.int (Int32.ofInt t.1) :: S.2.2.1))
theorem cd_ldcw : cm_Dt cm_ldcw cx_ldcw := by
  intro E P t S k h
  obtain ⟨pc, L, st, M⟩ := S
  unfold cm_ldcw at h ⊢
  dsimp only at h ⊢
  first | exact h.elim | exact ⟨_, _, h, h, fun k' h1 _ => h1, fun S0 e => by have e : some _ = some S0 := e; cases e; exact ⟨rfl, rfl⟩⟩ | exact ⟨_, _, h.2, h.2, fun k' h1 _ => ⟨h.1, h1⟩, fun S0 e => by have e : some _ = some S0 := e; cases e; exact ⟨rfl, rfl⟩⟩ | exact ⟨_, _, h.2.2, h.2.2, fun k' h1 _ => ⟨h.1, h.2.1, h1⟩, fun S0 e => by have e : some _ = some S0 := e; cases e; exact ⟨rfl, rfl⟩⟩ | exact ⟨_, _, h.2.2.2, h.2.2.2, fun k' h1 _ => ⟨h.1, h.2.1, h.2.2.1, h1⟩, fun S0 e => by have e : some _ = some S0 := e; cases e; exact ⟨rfl, rfl⟩⟩ | exact ⟨_, _, h.2.2.2.2, h.2.2.2.2, fun k' h1 _ => ⟨h.1, h.2.1, h.2.2.1, h.2.2.2.1, h1⟩, fun S0 e => by have e : some _ = some S0 := e; cases e; exact ⟨rfl, rfl⟩⟩ | exact ⟨_, _, h.2.2.2.2.2, h.2.2.2.2.2, fun k' h1 _ => ⟨h.1, h.2.1, h.2.2.1, h.2.2.2.1, h.2.2.2.2.1, h1⟩, fun S0 e => by have e : some _ = some S0 := e; cases e; exact ⟨rfl, rfl⟩⟩ | exact ⟨_, _, h.2.2.2.2.2.2, h.2.2.2.2.2.2, fun k' h1 _ => ⟨h.1, h.2.1, h.2.2.1, h.2.2.2.1, h.2.2.2.2.1, h.2.2.2.2.2.1, h1⟩, fun S0 e => by have e : some _ = some S0 := e; cases e; exact ⟨rfl, rfl⟩⟩ | exact ⟨_, _, h.2.2.2.2.2.2.2, h.2.2.2.2.2.2.2, fun k' h1 _ => ⟨h.1, h.2.1, h.2.2.1, h.2.2.2.1, h.2.2.2.2.1, h.2.2.2.2.2.1, h.2.2.2.2.2.2.1, h1⟩, fun S0 e => by have e : some _ = some S0 := e; cases e; exact ⟨rfl, rfl⟩⟩ | exact ⟨_, _, h.2.2.2.2.2.2.2.2, h.2.2.2.2.2.2.2.2, fun k' h1 _ => ⟨h.1, h.2.1, h.2.2.1, h.2.2.2.1, h.2.2.2.2.1, h.2.2.2.2.2.1, h.2.2.2.2.2.2.1, h.2.2.2.2.2.2.2.1, h1⟩, fun S0 e => by have e : some _ = some S0 := e; cases e; exact ⟨rfl, rfl⟩⟩ | exact ⟨_, _, h.2.2.2.2.2.2.2.2.2, h.2.2.2.2.2.2.2.2.2, fun k' h1 _ => ⟨h.1, h.2.1, h.2.2.1, h.2.2.2.1, h.2.2.2.2.1, h.2.2.2.2.2.1, h.2.2.2.2.2.2.1, h.2.2.2.2.2.2.2.1, h.2.2.2.2.2.2.2.2.1, h1⟩, fun S0 e => by have e : some _ = some S0 := e; cases e; exact ⟨rfl, rfl⟩⟩
def cx_mmax : cm_F1 := fun E P t S => match S.2.2.1 with
  | .int y :: .int x :: st => some (cm_adv S 3 (.int (if x < y then y else x) :: st))
  | _ => none
theorem cd_mmax : cm_Dt cm_mmax cx_mmax := by
  intro E P t S k h
  obtain ⟨pc, L, st, M⟩ := S
  unfold cm_mmax at h ⊢
  dsimp only at h ⊢
  split at h <;> (first | exact h.elim | exact ⟨_, _, h, h, fun k' h1 _ => h1, fun S0 e => by have e : some _ = some S0 := e; cases e; exact ⟨rfl, rfl⟩⟩ | exact ⟨_, _, h.2, h.2, fun k' h1 _ => ⟨h.1, h1⟩, fun S0 e => by have e : some _ = some S0 := e; cases e; exact ⟨rfl, rfl⟩⟩ | exact ⟨_, _, h.2.2, h.2.2, fun k' h1 _ => ⟨h.1, h.2.1, h1⟩, fun S0 e => by have e : some _ = some S0 := e; cases e; exact ⟨rfl, rfl⟩⟩ | exact ⟨_, _, h.2.2.2, h.2.2.2, fun k' h1 _ => ⟨h.1, h.2.1, h.2.2.1, h1⟩, fun S0 e => by have e : some _ = some S0 := e; cases e; exact ⟨rfl, rfl⟩⟩ | exact ⟨_, _, h.2.2.2.2, h.2.2.2.2, fun k' h1 _ => ⟨h.1, h.2.1, h.2.2.1, h.2.2.2.1, h1⟩, fun S0 e => by have e : some _ = some S0 := e; cases e; exact ⟨rfl, rfl⟩⟩ | exact ⟨_, _, h.2.2.2.2.2, h.2.2.2.2.2, fun k' h1 _ => ⟨h.1, h.2.1, h.2.2.1, h.2.2.2.1, h.2.2.2.2.1, h1⟩, fun S0 e => by have e : some _ = some S0 := e; cases e; exact ⟨rfl, rfl⟩⟩ | exact ⟨_, _, h.2.2.2.2.2.2, h.2.2.2.2.2.2, fun k' h1 _ => ⟨h.1, h.2.1, h.2.2.1, h.2.2.2.1, h.2.2.2.2.1, h.2.2.2.2.2.1, h1⟩, fun S0 e => by have e : some _ = some S0 := e; cases e; exact ⟨rfl, rfl⟩⟩ | exact ⟨_, _, h.2.2.2.2.2.2.2, h.2.2.2.2.2.2.2, fun k' h1 _ => ⟨h.1, h.2.1, h.2.2.1, h.2.2.2.1, h.2.2.2.2.1, h.2.2.2.2.2.1, h.2.2.2.2.2.2.1, h1⟩, fun S0 e => by have e : some _ = some S0 := e; cases e; exact ⟨rfl, rfl⟩⟩ | exact ⟨_, _, h.2.2.2.2.2.2.2.2, h.2.2.2.2.2.2.2.2, fun k' h1 _ => ⟨h.1, h.2.1, h.2.2.1, h.2.2.2.1, h.2.2.2.2.1, h.2.2.2.2.2.1, h.2.2.2.2.2.2.1, h.2.2.2.2.2.2.2.1, h1⟩, fun S0 e => by have e : some _ = some S0 := e; cases e; exact ⟨rfl, rfl⟩⟩ | exact ⟨_, _, h.2.2.2.2.2.2.2.2.2, h.2.2.2.2.2.2.2.2.2, fun k' h1 _ => ⟨h.1, h.2.1, h.2.2.1, h.2.2.2.1, h.2.2.2.2.1, h.2.2.2.2.2.1, h.2.2.2.2.2.2.1, h.2.2.2.2.2.2.2.1, h.2.2.2.2.2.2.2.2.1, h1⟩, fun S0 e => by have e : some _ = some S0 := e; cases e; exact ⟨rfl, rfl⟩⟩)
def cx_mabs : cm_F1 := fun E P t S => match S.2.2.1 with
  | .int x :: st => some (cm_adv S 3 (.int (if 0 ≤ x then x else 0 - x) :: st))
  | _ => none
theorem cd_mabs : cm_Dt cm_mabs cx_mabs := by
  intro E P t S k h
  obtain ⟨pc, L, st, M⟩ := S
  unfold cm_mabs at h ⊢
  dsimp only at h ⊢
  split at h <;> (first | exact h.elim | exact ⟨_, _, h, h, fun k' h1 _ => h1, fun S0 e => by have e : some _ = some S0 := e; cases e; exact ⟨rfl, rfl⟩⟩ | exact ⟨_, _, h.2, h.2, fun k' h1 _ => ⟨h.1, h1⟩, fun S0 e => by have e : some _ = some S0 := e; cases e; exact ⟨rfl, rfl⟩⟩ | exact ⟨_, _, h.2.2, h.2.2, fun k' h1 _ => ⟨h.1, h.2.1, h1⟩, fun S0 e => by have e : some _ = some S0 := e; cases e; exact ⟨rfl, rfl⟩⟩ | exact ⟨_, _, h.2.2.2, h.2.2.2, fun k' h1 _ => ⟨h.1, h.2.1, h.2.2.1, h1⟩, fun S0 e => by have e : some _ = some S0 := e; cases e; exact ⟨rfl, rfl⟩⟩ | exact ⟨_, _, h.2.2.2.2, h.2.2.2.2, fun k' h1 _ => ⟨h.1, h.2.1, h.2.2.1, h.2.2.2.1, h1⟩, fun S0 e => by have e : some _ = some S0 := e; cases e; exact ⟨rfl, rfl⟩⟩ | exact ⟨_, _, h.2.2.2.2.2, h.2.2.2.2.2, fun k' h1 _ => ⟨h.1, h.2.1, h.2.2.1, h.2.2.2.1, h.2.2.2.2.1, h1⟩, fun S0 e => by have e : some _ = some S0 := e; cases e; exact ⟨rfl, rfl⟩⟩ | exact ⟨_, _, h.2.2.2.2.2.2, h.2.2.2.2.2.2, fun k' h1 _ => ⟨h.1, h.2.1, h.2.2.1, h.2.2.2.1, h.2.2.2.2.1, h.2.2.2.2.2.1, h1⟩, fun S0 e => by have e : some _ = some S0 := e; cases e; exact ⟨rfl, rfl⟩⟩ | exact ⟨_, _, h.2.2.2.2.2.2.2, h.2.2.2.2.2.2.2, fun k' h1 _ => ⟨h.1, h.2.1, h.2.2.1, h.2.2.2.1, h.2.2.2.2.1, h.2.2.2.2.2.1, h.2.2.2.2.2.2.1, h1⟩, fun S0 e => by have e : some _ = some S0 := e; cases e; exact ⟨rfl, rfl⟩⟩ | exact ⟨_, _, h.2.2.2.2.2.2.2.2, h.2.2.2.2.2.2.2.2, fun k' h1 _ => ⟨h.1, h.2.1, h.2.2.1, h.2.2.2.1, h.2.2.2.2.1, h.2.2.2.2.2.1, h.2.2.2.2.2.2.1, h.2.2.2.2.2.2.2.1, h1⟩, fun S0 e => by have e : some _ = some S0 := e; cases e; exact ⟨rfl, rfl⟩⟩ | exact ⟨_, _, h.2.2.2.2.2.2.2.2.2, h.2.2.2.2.2.2.2.2.2, fun k' h1 _ => ⟨h.1, h.2.1, h.2.2.1, h.2.2.2.1, h.2.2.2.2.1, h.2.2.2.2.2.1, h.2.2.2.2.2.2.1, h.2.2.2.2.2.2.2.1, h.2.2.2.2.2.2.2.2.1, h1⟩, fun S0 e => by have e : some _ = some S0 := e; cases e; exact ⟨rfl, rfl⟩⟩)
def cx_copyi : cm_F1 := fun E P t S => match S.2.2.1 with
  | .int n :: .int dp :: .ref d :: .int sp :: .ref c :: st => some (S.1 + 3, S.2.1, st, cm_cp S.2.2.2 c sp.toNatClampNeg d dp.toNatClampNeg n.toNatClampNeg)
  | _ => none
theorem cd_copyi : cm_Dt cm_copyi cx_copyi := by
  intro E P t S k h
  obtain ⟨pc, L, st, M⟩ := S
  unfold cm_copyi at h ⊢
  dsimp only at h ⊢
  split at h <;> (first | exact h.elim | exact ⟨_, _, h, h, fun k' h1 _ => h1, fun S0 e => by have e : some _ = some S0 := e; cases e; exact ⟨rfl, rfl⟩⟩ | exact ⟨_, _, h.2, h.2, fun k' h1 _ => ⟨h.1, h1⟩, fun S0 e => by have e : some _ = some S0 := e; cases e; exact ⟨rfl, rfl⟩⟩ | exact ⟨_, _, h.2.2, h.2.2, fun k' h1 _ => ⟨h.1, h.2.1, h1⟩, fun S0 e => by have e : some _ = some S0 := e; cases e; exact ⟨rfl, rfl⟩⟩ | exact ⟨_, _, h.2.2.2, h.2.2.2, fun k' h1 _ => ⟨h.1, h.2.1, h.2.2.1, h1⟩, fun S0 e => by have e : some _ = some S0 := e; cases e; exact ⟨rfl, rfl⟩⟩ | exact ⟨_, _, h.2.2.2.2, h.2.2.2.2, fun k' h1 _ => ⟨h.1, h.2.1, h.2.2.1, h.2.2.2.1, h1⟩, fun S0 e => by have e : some _ = some S0 := e; cases e; exact ⟨rfl, rfl⟩⟩ | exact ⟨_, _, h.2.2.2.2.2, h.2.2.2.2.2, fun k' h1 _ => ⟨h.1, h.2.1, h.2.2.1, h.2.2.2.1, h.2.2.2.2.1, h1⟩, fun S0 e => by have e : some _ = some S0 := e; cases e; exact ⟨rfl, rfl⟩⟩ | exact ⟨_, _, h.2.2.2.2.2.2, h.2.2.2.2.2.2, fun k' h1 _ => ⟨h.1, h.2.1, h.2.2.1, h.2.2.2.1, h.2.2.2.2.1, h.2.2.2.2.2.1, h1⟩, fun S0 e => by have e : some _ = some S0 := e; cases e; exact ⟨rfl, rfl⟩⟩ | exact ⟨_, _, h.2.2.2.2.2.2.2, h.2.2.2.2.2.2.2, fun k' h1 _ => ⟨h.1, h.2.1, h.2.2.1, h.2.2.2.1, h.2.2.2.2.1, h.2.2.2.2.2.1, h.2.2.2.2.2.2.1, h1⟩, fun S0 e => by have e : some _ = some S0 := e; cases e; exact ⟨rfl, rfl⟩⟩ | exact ⟨_, _, h.2.2.2.2.2.2.2.2, h.2.2.2.2.2.2.2.2, fun k' h1 _ => ⟨h.1, h.2.1, h.2.2.1, h.2.2.2.1, h.2.2.2.2.1, h.2.2.2.2.2.1, h.2.2.2.2.2.2.1, h.2.2.2.2.2.2.2.1, h1⟩, fun S0 e => by have e : some _ = some S0 := e; cases e; exact ⟨rfl, rfl⟩⟩ | exact ⟨_, _, h.2.2.2.2.2.2.2.2.2, h.2.2.2.2.2.2.2.2.2, fun k' h1 _ => ⟨h.1, h.2.1, h.2.2.1, h.2.2.2.1, h.2.2.2.2.1, h.2.2.2.2.2.1, h.2.2.2.2.2.2.1, h.2.2.2.2.2.2.2.1, h.2.2.2.2.2.2.2.2.1, h1⟩, fun S0 e => by have e : some _ = some S0 := e; cases e; exact ⟨rfl, rfl⟩⟩)
def cx_getT : cm_F1 := fun E P t S => some (cm_adv S 3 (.ref 1100 :: S.2.2.1))
theorem cd_getT : cm_Dt cm_getT cx_getT := by
  intro E P t S k h
  obtain ⟨pc, L, st, M⟩ := S
  unfold cm_getT at h ⊢
  dsimp only at h ⊢
  first | exact h.elim | exact ⟨_, _, h, h, fun k' h1 _ => h1, fun S0 e => by have e : some _ = some S0 := e; cases e; exact ⟨rfl, rfl⟩⟩ | exact ⟨_, _, h.2, h.2, fun k' h1 _ => ⟨h.1, h1⟩, fun S0 e => by have e : some _ = some S0 := e; cases e; exact ⟨rfl, rfl⟩⟩ | exact ⟨_, _, h.2.2, h.2.2, fun k' h1 _ => ⟨h.1, h.2.1, h1⟩, fun S0 e => by have e : some _ = some S0 := e; cases e; exact ⟨rfl, rfl⟩⟩ | exact ⟨_, _, h.2.2.2, h.2.2.2, fun k' h1 _ => ⟨h.1, h.2.1, h.2.2.1, h1⟩, fun S0 e => by have e : some _ = some S0 := e; cases e; exact ⟨rfl, rfl⟩⟩ | exact ⟨_, _, h.2.2.2.2, h.2.2.2.2, fun k' h1 _ => ⟨h.1, h.2.1, h.2.2.1, h.2.2.2.1, h1⟩, fun S0 e => by have e : some _ = some S0 := e; cases e; exact ⟨rfl, rfl⟩⟩ | exact ⟨_, _, h.2.2.2.2.2, h.2.2.2.2.2, fun k' h1 _ => ⟨h.1, h.2.1, h.2.2.1, h.2.2.2.1, h.2.2.2.2.1, h1⟩, fun S0 e => by have e : some _ = some S0 := e; cases e; exact ⟨rfl, rfl⟩⟩ | exact ⟨_, _, h.2.2.2.2.2.2, h.2.2.2.2.2.2, fun k' h1 _ => ⟨h.1, h.2.1, h.2.2.1, h.2.2.2.1, h.2.2.2.2.1, h.2.2.2.2.2.1, h1⟩, fun S0 e => by have e : some _ = some S0 := e; cases e; exact ⟨rfl, rfl⟩⟩ | exact ⟨_, _, h.2.2.2.2.2.2.2, h.2.2.2.2.2.2.2, fun k' h1 _ => ⟨h.1, h.2.1, h.2.2.1, h.2.2.2.1, h.2.2.2.2.1, h.2.2.2.2.2.1, h.2.2.2.2.2.2.1, h1⟩, fun S0 e => by have e : some _ = some S0 := e; cases e; exact ⟨rfl, rfl⟩⟩ | exact ⟨_, _, h.2.2.2.2.2.2.2.2, h.2.2.2.2.2.2.2.2, fun k' h1 _ => ⟨h.1, h.2.1, h.2.2.1, h.2.2.2.1, h.2.2.2.2.1, h.2.2.2.2.2.1, h.2.2.2.2.2.2.1, h.2.2.2.2.2.2.2.1, h1⟩, fun S0 e => by have e : some _ = some S0 := e; cases e; exact ⟨rfl, rfl⟩⟩ | exact ⟨_, _, h.2.2.2.2.2.2.2.2.2, h.2.2.2.2.2.2.2.2.2, fun k' h1 _ => ⟨h.1, h.2.1, h.2.2.1, h.2.2.2.1, h.2.2.2.2.1, h.2.2.2.2.2.1, h.2.2.2.2.2.2.1, h.2.2.2.2.2.2.2.1, h.2.2.2.2.2.2.2.2.1, h1⟩, fun S0 e => by have e : some _ = some S0 := e; cases e; exact ⟨rfl, rfl⟩⟩
def cx_tald : cm_F1 := fun E P t S => match S.2.2.1 with
  | .int i :: .ref c :: st => some (cm_adv S 1 (.int (cm_tens i.toNatClampNeg) :: st))
  | _ => none
theorem cd_tald : cm_Dt cm_tald cx_tald := by
  intro E P t S k h
  obtain ⟨pc, L, st, M⟩ := S
  unfold cm_tald at h ⊢
  dsimp only at h ⊢
  split at h <;> (first | exact h.elim | exact ⟨_, _, h, h, fun k' h1 _ => h1, fun S0 e => by have e : some _ = some S0 := e; cases e; exact ⟨rfl, rfl⟩⟩ | exact ⟨_, _, h.2, h.2, fun k' h1 _ => ⟨h.1, h1⟩, fun S0 e => by have e : some _ = some S0 := e; cases e; exact ⟨rfl, rfl⟩⟩ | exact ⟨_, _, h.2.2, h.2.2, fun k' h1 _ => ⟨h.1, h.2.1, h1⟩, fun S0 e => by have e : some _ = some S0 := e; cases e; exact ⟨rfl, rfl⟩⟩ | exact ⟨_, _, h.2.2.2, h.2.2.2, fun k' h1 _ => ⟨h.1, h.2.1, h.2.2.1, h1⟩, fun S0 e => by have e : some _ = some S0 := e; cases e; exact ⟨rfl, rfl⟩⟩ | exact ⟨_, _, h.2.2.2.2, h.2.2.2.2, fun k' h1 _ => ⟨h.1, h.2.1, h.2.2.1, h.2.2.2.1, h1⟩, fun S0 e => by have e : some _ = some S0 := e; cases e; exact ⟨rfl, rfl⟩⟩ | exact ⟨_, _, h.2.2.2.2.2, h.2.2.2.2.2, fun k' h1 _ => ⟨h.1, h.2.1, h.2.2.1, h.2.2.2.1, h.2.2.2.2.1, h1⟩, fun S0 e => by have e : some _ = some S0 := e; cases e; exact ⟨rfl, rfl⟩⟩ | exact ⟨_, _, h.2.2.2.2.2.2, h.2.2.2.2.2.2, fun k' h1 _ => ⟨h.1, h.2.1, h.2.2.1, h.2.2.2.1, h.2.2.2.2.1, h.2.2.2.2.2.1, h1⟩, fun S0 e => by have e : some _ = some S0 := e; cases e; exact ⟨rfl, rfl⟩⟩ | exact ⟨_, _, h.2.2.2.2.2.2.2, h.2.2.2.2.2.2.2, fun k' h1 _ => ⟨h.1, h.2.1, h.2.2.1, h.2.2.2.1, h.2.2.2.2.1, h.2.2.2.2.2.1, h.2.2.2.2.2.2.1, h1⟩, fun S0 e => by have e : some _ = some S0 := e; cases e; exact ⟨rfl, rfl⟩⟩ | exact ⟨_, _, h.2.2.2.2.2.2.2.2, h.2.2.2.2.2.2.2.2, fun k' h1 _ => ⟨h.1, h.2.1, h.2.2.1, h.2.2.2.1, h.2.2.2.2.1, h.2.2.2.2.2.1, h.2.2.2.2.2.2.1, h.2.2.2.2.2.2.2.1, h1⟩, fun S0 e => by have e : some _ = some S0 := e; cases e; exact ⟨rfl, rfl⟩⟩ | exact ⟨_, _, h.2.2.2.2.2.2.2.2.2, h.2.2.2.2.2.2.2.2.2, fun k' h1 _ => ⟨h.1, h.2.1, h.2.2.1, h.2.2.2.1, h.2.2.2.2.1, h.2.2.2.2.2.1, h.2.2.2.2.2.2.1, h.2.2.2.2.2.2.2.1, h.2.2.2.2.2.2.2.2.1, h1⟩, fun S0 e => by have e : some _ = some S0 := e; cases e; exact ⟨rfl, rfl⟩⟩)
def cx_alenT : cm_F1 := fun E P t S => match S.2.2.1 with
  | .ref c :: st => some (cm_adv S 1 (.int 5 :: st))
  | _ => none
theorem cd_alenT : cm_Dt cm_alenT cx_alenT := by
  intro E P t S k h
  obtain ⟨pc, L, st, M⟩ := S
  unfold cm_alenT at h ⊢
  dsimp only at h ⊢
  split at h <;> (first | exact h.elim | exact ⟨_, _, h, h, fun k' h1 _ => h1, fun S0 e => by have e : some _ = some S0 := e; cases e; exact ⟨rfl, rfl⟩⟩ | exact ⟨_, _, h.2, h.2, fun k' h1 _ => ⟨h.1, h1⟩, fun S0 e => by have e : some _ = some S0 := e; cases e; exact ⟨rfl, rfl⟩⟩ | exact ⟨_, _, h.2.2, h.2.2, fun k' h1 _ => ⟨h.1, h.2.1, h1⟩, fun S0 e => by have e : some _ = some S0 := e; cases e; exact ⟨rfl, rfl⟩⟩ | exact ⟨_, _, h.2.2.2, h.2.2.2, fun k' h1 _ => ⟨h.1, h.2.1, h.2.2.1, h1⟩, fun S0 e => by have e : some _ = some S0 := e; cases e; exact ⟨rfl, rfl⟩⟩ | exact ⟨_, _, h.2.2.2.2, h.2.2.2.2, fun k' h1 _ => ⟨h.1, h.2.1, h.2.2.1, h.2.2.2.1, h1⟩, fun S0 e => by have e : some _ = some S0 := e; cases e; exact ⟨rfl, rfl⟩⟩ | exact ⟨_, _, h.2.2.2.2.2, h.2.2.2.2.2, fun k' h1 _ => ⟨h.1, h.2.1, h.2.2.1, h.2.2.2.1, h.2.2.2.2.1, h1⟩, fun S0 e => by have e : some _ = some S0 := e; cases e; exact ⟨rfl, rfl⟩⟩ | exact ⟨_, _, h.2.2.2.2.2.2, h.2.2.2.2.2.2, fun k' h1 _ => ⟨h.1, h.2.1, h.2.2.1, h.2.2.2.1, h.2.2.2.2.1, h.2.2.2.2.2.1, h1⟩, fun S0 e => by have e : some _ = some S0 := e; cases e; exact ⟨rfl, rfl⟩⟩ | exact ⟨_, _, h.2.2.2.2.2.2.2, h.2.2.2.2.2.2.2, fun k' h1 _ => ⟨h.1, h.2.1, h.2.2.1, h.2.2.2.1, h.2.2.2.2.1, h.2.2.2.2.2.1, h.2.2.2.2.2.2.1, h1⟩, fun S0 e => by have e : some _ = some S0 := e; cases e; exact ⟨rfl, rfl⟩⟩ | exact ⟨_, _, h.2.2.2.2.2.2.2.2, h.2.2.2.2.2.2.2.2, fun k' h1 _ => ⟨h.1, h.2.1, h.2.2.1, h.2.2.2.1, h.2.2.2.2.1, h.2.2.2.2.2.1, h.2.2.2.2.2.2.1, h.2.2.2.2.2.2.2.1, h1⟩, fun S0 e => by have e : some _ = some S0 := e; cases e; exact ⟨rfl, rfl⟩⟩ | exact ⟨_, _, h.2.2.2.2.2.2.2.2.2, h.2.2.2.2.2.2.2.2.2, fun k' h1 _ => ⟨h.1, h.2.1, h.2.2.1, h.2.2.2.1, h.2.2.2.2.1, h.2.2.2.2.2.1, h.2.2.2.2.2.2.1, h.2.2.2.2.2.2.2.1, h.2.2.2.2.2.2.2.2.1, h1⟩, fun S0 e => by have e : some _ = some S0 := e; cases e; exact ⟨rfl, rfl⟩⟩)
def cx_lastore : cm_F1 := fun E P t S => match S.2.2.1 with
  | .long x :: .int i :: .ref c :: st => some (S.1 + 1, S.2.1, st, cm_wl S.2.2.2 c i.toNatClampNeg x)
  | _ => none
theorem cd_lastore : cm_Dt cm_lastore cx_lastore := by
  intro E P t S k h
  obtain ⟨pc, L, st, M⟩ := S
  unfold cm_lastore at h ⊢
  dsimp only at h ⊢
  split at h <;> (first | exact h.elim | exact ⟨_, _, h, h, fun k' h1 _ => h1, fun S0 e => by have e : some _ = some S0 := e; cases e; exact ⟨rfl, rfl⟩⟩ | exact ⟨_, _, h.2, h.2, fun k' h1 _ => ⟨h.1, h1⟩, fun S0 e => by have e : some _ = some S0 := e; cases e; exact ⟨rfl, rfl⟩⟩ | exact ⟨_, _, h.2.2, h.2.2, fun k' h1 _ => ⟨h.1, h.2.1, h1⟩, fun S0 e => by have e : some _ = some S0 := e; cases e; exact ⟨rfl, rfl⟩⟩ | exact ⟨_, _, h.2.2.2, h.2.2.2, fun k' h1 _ => ⟨h.1, h.2.1, h.2.2.1, h1⟩, fun S0 e => by have e : some _ = some S0 := e; cases e; exact ⟨rfl, rfl⟩⟩ | exact ⟨_, _, h.2.2.2.2, h.2.2.2.2, fun k' h1 _ => ⟨h.1, h.2.1, h.2.2.1, h.2.2.2.1, h1⟩, fun S0 e => by have e : some _ = some S0 := e; cases e; exact ⟨rfl, rfl⟩⟩ | exact ⟨_, _, h.2.2.2.2.2, h.2.2.2.2.2, fun k' h1 _ => ⟨h.1, h.2.1, h.2.2.1, h.2.2.2.1, h.2.2.2.2.1, h1⟩, fun S0 e => by have e : some _ = some S0 := e; cases e; exact ⟨rfl, rfl⟩⟩ | exact ⟨_, _, h.2.2.2.2.2.2, h.2.2.2.2.2.2, fun k' h1 _ => ⟨h.1, h.2.1, h.2.2.1, h.2.2.2.1, h.2.2.2.2.1, h.2.2.2.2.2.1, h1⟩, fun S0 e => by have e : some _ = some S0 := e; cases e; exact ⟨rfl, rfl⟩⟩ | exact ⟨_, _, h.2.2.2.2.2.2.2, h.2.2.2.2.2.2.2, fun k' h1 _ => ⟨h.1, h.2.1, h.2.2.1, h.2.2.2.1, h.2.2.2.2.1, h.2.2.2.2.2.1, h.2.2.2.2.2.2.1, h1⟩, fun S0 e => by have e : some _ = some S0 := e; cases e; exact ⟨rfl, rfl⟩⟩ | exact ⟨_, _, h.2.2.2.2.2.2.2.2, h.2.2.2.2.2.2.2.2, fun k' h1 _ => ⟨h.1, h.2.1, h.2.2.1, h.2.2.2.1, h.2.2.2.2.1, h.2.2.2.2.2.1, h.2.2.2.2.2.2.1, h.2.2.2.2.2.2.2.1, h1⟩, fun S0 e => by have e : some _ = some S0 := e; cases e; exact ⟨rfl, rfl⟩⟩ | exact ⟨_, _, h.2.2.2.2.2.2.2.2.2, h.2.2.2.2.2.2.2.2.2, fun k' h1 _ => ⟨h.1, h.2.1, h.2.2.1, h.2.2.2.1, h.2.2.2.2.1, h.2.2.2.2.2.1, h.2.2.2.2.2.2.1, h.2.2.2.2.2.2.2.1, h.2.2.2.2.2.2.2.2.1, h1⟩, fun S0 e => by have e : some _ = some S0 := e; cases e; exact ⟨rfl, rfl⟩⟩)
def cx_pop2 : cm_F1 := fun E P t S => match S.2.2.1 with
  | .long x :: st => some (cm_adv S 1 st)
  | _ => none
theorem cd_pop2 : cm_Dt cm_pop2 cx_pop2 := by
  intro E P t S k h
  obtain ⟨pc, L, st, M⟩ := S
  unfold cm_pop2 at h ⊢
  dsimp only at h ⊢
  split at h <;> (first | exact h.elim | exact ⟨_, _, h, h, fun k' h1 _ => h1, fun S0 e => by have e : some _ = some S0 := e; cases e; exact ⟨rfl, rfl⟩⟩ | exact ⟨_, _, h.2, h.2, fun k' h1 _ => ⟨h.1, h1⟩, fun S0 e => by have e : some _ = some S0 := e; cases e; exact ⟨rfl, rfl⟩⟩ | exact ⟨_, _, h.2.2, h.2.2, fun k' h1 _ => ⟨h.1, h.2.1, h1⟩, fun S0 e => by have e : some _ = some S0 := e; cases e; exact ⟨rfl, rfl⟩⟩ | exact ⟨_, _, h.2.2.2, h.2.2.2, fun k' h1 _ => ⟨h.1, h.2.1, h.2.2.1, h1⟩, fun S0 e => by have e : some _ = some S0 := e; cases e; exact ⟨rfl, rfl⟩⟩ | exact ⟨_, _, h.2.2.2.2, h.2.2.2.2, fun k' h1 _ => ⟨h.1, h.2.1, h.2.2.1, h.2.2.2.1, h1⟩, fun S0 e => by have e : some _ = some S0 := e; cases e; exact ⟨rfl, rfl⟩⟩ | exact ⟨_, _, h.2.2.2.2.2, h.2.2.2.2.2, fun k' h1 _ => ⟨h.1, h.2.1, h.2.2.1, h.2.2.2.1, h.2.2.2.2.1, h1⟩, fun S0 e => by have e : some _ = some S0 := e; cases e; exact ⟨rfl, rfl⟩⟩ | exact ⟨_, _, h.2.2.2.2.2.2, h.2.2.2.2.2.2, fun k' h1 _ => ⟨h.1, h.2.1, h.2.2.1, h.2.2.2.1, h.2.2.2.2.1, h.2.2.2.2.2.1, h1⟩, fun S0 e => by have e : some _ = some S0 := e; cases e; exact ⟨rfl, rfl⟩⟩ | exact ⟨_, _, h.2.2.2.2.2.2.2, h.2.2.2.2.2.2.2, fun k' h1 _ => ⟨h.1, h.2.1, h.2.2.1, h.2.2.2.1, h.2.2.2.2.1, h.2.2.2.2.2.1, h.2.2.2.2.2.2.1, h1⟩, fun S0 e => by have e : some _ = some S0 := e; cases e; exact ⟨rfl, rfl⟩⟩ | exact ⟨_, _, h.2.2.2.2.2.2.2.2, h.2.2.2.2.2.2.2.2, fun k' h1 _ => ⟨h.1, h.2.1, h.2.2.1, h.2.2.2.1, h.2.2.2.2.1, h.2.2.2.2.2.1, h.2.2.2.2.2.2.1, h.2.2.2.2.2.2.2.1, h1⟩, fun S0 e => by have e : some _ = some S0 := e; cases e; exact ⟨rfl, rfl⟩⟩ | exact ⟨_, _, h.2.2.2.2.2.2.2.2.2, h.2.2.2.2.2.2.2.2.2, fun k' h1 _ => ⟨h.1, h.2.1, h.2.2.1, h.2.2.2.1, h.2.2.2.2.1, h.2.2.2.2.2.1, h.2.2.2.2.2.2.1, h.2.2.2.2.2.2.2.1, h.2.2.2.2.2.2.2.2.1, h1⟩, fun S0 e => by have e : some _ = some S0 := e; cases e; exact ⟨rfl, rfl⟩⟩)
def cx_ops : List cm_F1 := [cx_iconst, cx_bipush, cx_sipush, cx_lconst, cx_iload, cx_iloadn, cx_lload, cx_lloadn, cx_aload, cx_aloadn, cx_istore, cx_istoren, cx_lstore, cx_lstoren, cx_astore, cx_astoren, cx_iadd, cx_isub, cx_imul, cx_iand, cx_ior, cx_ixor, cx_ishl, cx_ishr, cx_iushr, cx_idiv, cx_irem, cx_ineg, cx_i2b, cx_i2l, cx_lcmp, cx_dup, cx_pop, cx_dup2, cx_iinc, cx_icmp_eq, cx_icmp_ne, cx_icmp_lt, cx_icmp_ge, cx_icmp_gt, cx_icmp_le, cx_if_eq, cx_if_ne, cx_if_lt, cx_if_ge, cx_if_gt, cx_if_le, cx_goto, cx_sw, cx_get, cx_put, cx_no, cx_iaload, cx_baload, cx_laload, cx_aaload, cx_iastore, cx_bastore, cx_no, cx_no, cx_no, cx_no, cx_no, cx_no, cx_alen, cx_sald, cx_no, cx_mmin, cx_ldc, cx_ldcS, cx_getV, cx_getC, cx_gets, cx_alenS, cx_baloadS, cx_i2c, cx_ladd, cx_lsub, cx_lmul, cx_ldiv, cx_lrem, cx_ldc2, cx_getsF, cx_ldcw, cx_mmax, cx_mabs, cx_copyi, cx_getT, cx_tald, cx_alenT, cx_lastore, cx_pop2]
theorem cd_1 {l1 : List cm_O} {l2 : List cm_F1} {o : cm_O} {x : cm_F1} (h : cm_Dt o x) (h2 : ∀ (i : Nat) (o : cm_O), l1[i]? = some o → ∃ x, l2[i]? = some x ∧ cm_Dt o x) : ∀ (i : Nat) (o' : cm_O), (o :: l1)[i]? = some o' → ∃ x', (x :: l2)[i]? = some x' ∧ cm_Dt o' x'
  | 0, o', e => by cases e; exact ⟨x, rfl, h⟩
  | i + 1, o', e => by
    obtain ⟨x', e1, e2⟩ := h2 i o' (by simpa using e)
    exact ⟨x', by simpa using e1, e2⟩
theorem cd_ops : ∀ (i : Nat) (o : cm_O), cm_ops[i]? = some o → ∃ x, cx_ops[i]? = some x ∧ cm_Dt o x := cd_1 cd_iconst (cd_1 cd_bipush (cd_1 cd_sipush (cd_1 cd_lconst (cd_1 cd_iload (cd_1 cd_iloadn (cd_1 cd_lload (cd_1 cd_lloadn (cd_1 cd_aload (cd_1 cd_aloadn (cd_1 cd_istore (cd_1 cd_istoren (cd_1 cd_lstore (cd_1 cd_lstoren (cd_1 cd_astore (cd_1 cd_astoren (cd_1 cd_iadd (cd_1 cd_isub (cd_1 cd_imul (cd_1 cd_iand (cd_1 cd_ior (cd_1 cd_ixor (cd_1 cd_ishl (cd_1 cd_ishr (cd_1 cd_iushr (cd_1 cd_idiv (cd_1 cd_irem (cd_1 cd_ineg (cd_1 cd_i2b (cd_1 cd_i2l (cd_1 cd_lcmp (cd_1 cd_dup (cd_1 cd_pop (cd_1 cd_dup2 (cd_1 cd_iinc (cd_1 cd_icmp_eq (cd_1 cd_icmp_ne (cd_1 cd_icmp_lt (cd_1 cd_icmp_ge (cd_1 cd_icmp_gt (cd_1 cd_icmp_le (cd_1 cd_if_eq (cd_1 cd_if_ne (cd_1 cd_if_lt (cd_1 cd_if_ge (cd_1 cd_if_gt (cd_1 cd_if_le (cd_1 cd_goto (cd_1 cd_sw (cd_1 cd_get (cd_1 cd_put (cd_1 cd_no (cd_1 cd_iaload (cd_1 cd_baload (cd_1 cd_laload (cd_1 cd_aaload (cd_1 cd_iastore (cd_1 cd_bastore (cd_1 cd_no (cd_1 cd_no (cd_1 cd_no (cd_1 cd_no (cd_1 cd_no (cd_1 cd_no (cd_1 cd_alen (cd_1 cd_sald (cd_1 cd_no (cd_1 cd_mmin (cd_1 cd_ldc (cd_1 cd_ldcS (cd_1 cd_getV (cd_1 cd_getC (cd_1 cd_gets (cd_1 cd_alenS (cd_1 cd_baloadS (cd_1 cd_i2c (cd_1 cd_ladd (cd_1 cd_lsub (cd_1 cd_lmul (cd_1 cd_ldiv (cd_1 cd_lrem (cd_1 cd_ldc2 (cd_1 cd_getsF (cd_1 cd_ldcw (cd_1 cd_mmax (cd_1 cd_mabs (cd_1 cd_copyi (cd_1 cd_getT (cd_1 cd_tald (cd_1 cd_alenT (cd_1 cd_lastore (cd_1 cd_pop2 (fun i o e => by cases e))))))))))))))))))))))))))))))))))))))))))))))))))))))))))))))))))))))))))))))))))))))))))))
