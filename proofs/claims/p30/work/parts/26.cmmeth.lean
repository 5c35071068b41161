/-! CM: methods -/
/-- from this state the method ends as wanted -/
def cm_At0 (d : Nat) (mi : ev_MI) (Post : cm_K) (S : cm_S) : Prop := ∀ (p : Program) (l : Launch) (e : Env) (s : State) (m : MethodId) (args : Array Value) (below : List Frame) (meth : Method) (c : Code) (D : va_G) (adr : Nat → Nat) (ws0 : va_W),
  cm_X p (cm_rm d) s m args c mi.2.1 mi.2.2.1 mi.1.cls D (va_A ws0 s.heap.size) adr 0 0 none → meth.sig.returnType = mi.2.2.2.1 → meth.locks = false → cm_Go p l e (cm_rm d) s m args below meth c (MQ below (cm_Q D adr (va_A ws0 s.heap.size) Post) args s 0 0 (va_A ws0 s.heap.size)) mi.2.2.1 D (va_A ws0 s.heap.size) adr 0 0 S
theorem cm_ret_ok {ms : List ev_MI} {d : Nat} {mi : ev_MI} (hM : cm_MOK ms mi) {Post : cm_K} {r : ev_Row} {S : cm_S} (hr : ev_at mi.2.2.2.2.2.2 S.1 = some r) (h : cm_ret mi.2.2.2.1 Post r.1 S) : cm_At0 d mi Post S := by
  intro p l e s m args below meth c D adr ws0 X hrt hlocks ws H locs ls hR
  obtain ⟨hx, hb, hml, hown, hts, hK, hA, hN, hcC, hcS, hf, hlc, hscr⟩ := X
  obtain ⟨hP, hD, hS, hW, hL⟩ := hR
  obtain ⟨pc, L, st, M⟩ := S
  obtain ⟨i, n, cs, hi, hd, -⟩ := hM.2.2.2.2 _ (ev_at_mem hr)
  dsimp only at hi hd
  have qq : ∀ (v : Option Value) (t : State), t.heap = H → s.WarmedH t.vm → Post v M → cm_Q D adr (va_A ws0 s.heap.size) Post args s (.returned (v.map (cm_v adr))) t := by
    intro v t ht hWm hv
    exact ⟨⟨v, M, ws, hv, rfl, by rw [ht]; exact hP, hD, cm_w_moved hWm.alike hW⟩, hS.F ht⟩
  unfold cm_ret at h
  split at h
  · rename_i x e1 e2 e3
    have hi : some ((.ireturn : Instr), (1 : Nat), ([] : List Cond)) = some (i, n, cs) := by simpa [cm_rowI, e1] using hi
    cases hi
    dsimp only at e3 h
    subst e3
    exact W.zret hx hb (hrt.trans e2) rfl (fun t ht hWm => qq (some (.int x)) t ht hWm h) hS.2.2 hd
  · rename_i x e1 e2 e3
    have hi : some ((.ireturn : Instr), (1 : Nat), ([] : List Cond)) = some (i, n, cs) := by simpa [cm_rowI, e1] using hi
    cases hi
    dsimp only at e3 h
    subst e3
    refine W.zret hx hb (hrt.trans e2) ?_ (fun t ht hWm => qq (some (.int x)) t ht hWm h.2) hS.2.2 hd
    rcases h.1 with rfl | rfl <;> decide
  · rename_i x e1 e2 e3
    have hi : some ((.ireturn : Instr), (1 : Nat), ([] : List Cond)) = some (i, n, cs) := by simpa [cm_rowI, e1] using hi
    cases hi
    dsimp only at e3 h
    subst e3
    obtain ⟨h0, h1, h2⟩ := h
    refine W.zret hx hb (hrt.trans e2) ?_ (fun t ht hWm => qq (some (.int x)) t ht hWm h2) hS.2.2 hd
    have e : x = nI x.toInt.toNat := by
      apply Int32.toInt_inj.mp
      rw [nI_toInt (by omega)]
      omega
    rw [e]
    exact (pk_charN (by omega)).1
  · rename_i x e1 e2 e3
    have hi : some ((.ireturn : Instr), (1 : Nat), ([] : List Cond)) = some (i, n, cs) := by simpa [cm_rowI, e1] using hi
    cases hi
    dsimp only at e3 h
    subst e3
    obtain ⟨rfl, h2⟩ := h
    exact W.zret hx hb (hrt.trans e2) (by decide) (fun t ht hWm => qq (some (.int 0)) t ht hWm h2) hS.2.2 hd
  · rename_i x e1 e2 e3
    have hi : some ((.lreturn : Instr), (1 : Nat), ([] : List Cond)) = some (i, n, cs) := by simpa [cm_rowI, e1] using hi
    cases hi
    dsimp only at e3 h
    subst e3
    exact W.lret hx hb (hrt.trans e2) (fun t ht hWm => qq (some (.long x)) t ht hWm h) hS.2.2 hd
  · rename_i nm x e1 e2 e3
    have hi : some ((.areturn : Instr), (1 : Nat), ([] : List Cond)) = some (i, n, cs) := by simpa [cm_rowI, e1] using hi
    cases hi
    dsimp only at e3 h
    subst e3
    exact W.aret hx hb (hrt.trans e2) (Or.inl ⟨_, rfl⟩) (Or.inr ⟨_, rfl⟩) (fun t ht hWm => qq (some (.ref x)) t ht hWm h) hS.2.2 hd
  · rename_i e1 e2 e3
    have hi : some ((.return_ : Instr), (1 : Nat), ([] : List Cond)) = some (i, n, cs) := by simpa [cm_rowI, e1] using hi
    cases hi
    dsimp only at e3 h
    subst e3
    exact W.vret hx hb (hrt.trans e2) (fun t ht hWm => qq none t ht hWm h) hS.2.2 hd
  · exact h.elim
theorem cm_At_run0 {ms : List ev_MI} (hMS : ∀ (k : Nat) (mi : ev_MI), ms[k]? = some mi → cm_MOK ms mi) {d k : Nat} {mi : ev_MI} (hk : ms[k]? = some mi) {Post : cm_K} {stops : List (Nat × List Nat)} {J : cm_S → Prop} (hJ : ∀ S, J S → cm_At0 d mi Post S) {n : Nat} {S : cm_S} (h : cm_wp ms (cm_Call0 ms d) none (cm_P mi) mi.2.2.2.2.2.2 stops J (cm_ret mi.2.2.2.1 Post) n S) : cm_At0 d mi Post S := by
  intro p l e s m args below meth c D adr ws0 X hrt hlocks
  exact cm_wp_ok (P := cm_P mi) hMS ⟨Nat.le_refl _, Nat.le_refl _⟩ X (hMS k mi hk).2.2.2.2 (fun S hS => hJ S hS p l e s m args below meth c D adr ws0 X hrt hlocks) (fun r S hr _ hZ => cm_ret_ok (hMS k mi hk) hr hZ p l e s m args below meth c D adr ws0 X hrt hlocks) n S h
theorem cm_sl_len (adr : Nat → Nat) : ∀ as : List Value, (lg_sl (as.map (cm_v adr))).length = cm_cs as
  | [] => rfl
  | a :: as => by
    have ih := cm_sl_len adr as
    simp only [lg_sl, List.map_cons, List.flatMap_cons, List.length_append, cm_cs, List.sum_cons] at ih ⊢
    rw [ih]
    cases a <;> rfl
theorem cm_args_ok (adr : Nat → Nat) : ∀ (as : List Value) (i : Nat), ∀ q ∈ cm_args i as, (q.1, cm_v adr q.2) ∈ lv_args i (as.map (cm_v adr))
  | [], i, q, hq => nomatch hq
  | a :: as, i, q, hq => by
    unfold cm_args at hq
    rw [List.map_cons]
    unfold lv_args
    rcases List.mem_cons.mp hq with rfl | hq
    · exact List.mem_cons_self
    · refine List.mem_cons_of_mem _ ?_
      have := cm_args_ok adr as _ q hq
      rw [cm_v_cat]
      by_cases h2 : a.category = 2
      · rw [if_pos h2]; rw [h2] at this; exact this
      · have h1 : a.category = 1 := by cases a <;> first | rfl | exact absurd rfl h2
        rw [if_neg h2]; rw [h1] at this; exact this
theorem cm_Call_of0 {ms : List ev_MI} (hMS : ∀ (k : Nat) (mi : ev_MI), ms[k]? = some mi → cm_MOK ms mi) {d k : Nat} {mi : ev_MI} (hk : ms[k]? = some mi) {as : List Value} {M : cm_M} {Post : cm_K} (hcs : cm_cs as ≤ mi.2.2.1) (h : cm_At0 d mi Post (0, cm_args 0 as, [], M)) : cm_Call0 ms (d + 1) k as M Post := by
  refine ⟨mi, d, Post, hk, Nat.le_refl _, fun _ _ q => q, fun l D adr ws sz => ?_⟩
  obtain ⟨hpl, hcd, hnL, hmh, hrows⟩ := hMS k mi hk
  refine Met.ofW (cc := mi.2.1) (maxL := mi.2.2.1) (ret := mi.2.2.2.1) hpl rfl ?_
  intro p e s m args below meth c s₁ B hml hv
  obtain ⟨rfl, hsz, hP, hK, hD0, hW, hN⟩ := hv
  subst hsz
  have hD : va_D (va_A ws s.heap.size) ws := hD0.self (sz := s.heap.size)
  have hts : ∀ w ∈ lw_good, w.before (as.map (cm_v adr)).toArray s = true := fun w hw => atoms_spec (ws := Cond.code mi.1 mi.2.1 mi.2.2.1 mi.2.2.2.1 :: lw_good) B.pre w (List.mem_cons_of_mem _ hw)
  have X : cm_X p (cm_rm d) s m (as.map (cm_v adr)).toArray c mi.2.1 mi.2.2.1 mi.1.cls D (va_A ws s.heap.size) adr 0 0 none :=
    ⟨B.exec, B.bytes, hml, findClass_of_methodNamed B.named, hts, hK, fun q h => Or.inr h, hN, Nat.le_refl _, Nat.le_refl _, by simp [cm_rm], by simp only [cm_rm]; omega, trivial⟩
  have hlen : (lg_sl (as.map (cm_v adr))).length ≤ mi.2.2.1 := by rw [cm_sl_len]; exact hcs
  have hl := lv_entry (as.map (cm_v adr)) (n := mi.2.2.1) hlen
  rw [lg_entry_eq]
  refine h p l e s m _ below meth c D adr ws X B.returns B.notSynchronized ws s.heap [] _ ⟨hP, hD, va_S.rf, hW, hl.1, hl.2.1, fun q hq => ?_⟩
  obtain ⟨r, hr, rfl⟩ := List.mem_map.mp hq
  exact hl.2.2 _ (cm_args_ok adr as 0 r hr)
