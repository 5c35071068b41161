section VXA
/-- where a method has thrown q: the class by its name, the cell, what was written, the world -/
noncomputable def vx_T (XC : String → State → State → Prop) (st : State) (q : Addr) (t : State) (mc ms : Nat) (free : Addr → Prop) : Prop :=
  ∃ (E : String) (ce : Cell) (L : List Loc), XC E st t ∧ t.heap[q]? = some ce ∧ ce.vm = .none ∧ st.vm.findClass E = some ce.cls ∧ st.WarmedH t.vm ∧ st.sameButNew ({ t with vm := st.vm } : State) L mc ms ∧ ∀ z ∈ L, free z.base
noncomputable def vx_Q (Qc : Array Value → State → Outcome → State → Prop) (XC : String → State → State → Prop) (mc ms : Nat) (free : Addr → Prop) : Array Value → State → Outcome → State → Prop := fun a st o t =>
  (Qc a st o t ∧ ∃ L, FrameEnd st o t L mc ms ∧ ∀ q ∈ L, free q.base) ∨ ∃ q, o = .threw q ∧ vx_T XC st q t mc ms free
/-- a callee that returns or throws -/
noncomputable def vx_Met (l : Launch) (y : MethodName) (ws : List Cond) (rm : Room) (Pc : Array Value → State → Prop) (Qc : Array Value → State → Outcome → State → Prop) (XC : String → State → State → Prop) (mc ms : Nat) (free : Addr → Prop) : Prop :=
  MetFree l y (headSpec ws rm) Pc (fun _ _ _ _ _ => True) (vx_Q Qc XC mc ms free)
noncomputable def vx_Post (XC : String → State → State → Prop) (mc ms : Nat) (free : Addr → Prop) : Pt → Array Value → Addr → Pt → Prop := fun A a q B =>
  ∃ (g : JFrame) (mk : MethodId) (t : State) (L : List Loc) (E : String) (ce : Cell), B.U.heap = t.heap ∧ B.U.vm = t.vm ∧ XC E (A.U.calling g mk a) t ∧ t.heap[q]? = some ce ∧ ce.vm = .none ∧ A.U.vm.findClass E = some ce.cls ∧ B.locs = A.locs ++ L ∧ (∀ z ∈ L, free z.base) ∧ B.cells = A.cells + mc ∧ B.slots = A.slots + ms
noncomputable def vx_Back (l : Launch) (R : Room) (p : Program) (e : Env) (below : List Frame) (s : State) (sargs : Array Value) (y : MethodName) (len W9 : Nat)
    (Pre : Pt → Array Value → Prop) (Post : Pt → Array Value → Option Value → Pt → Prop) (PostX : Pt → Array Value → Addr → Pt → Prop) : Prop :=
  ∀ (m : MethodId) (meth : Method) (c : Code) (A : Pt) (g : JFrame) (ig : Instr) (mk : MethodId) (a : Array Value),
    Stand p l e R s m sargs below meth c A.U A.locs A.cells A.slots → g.method = m → g.locals.size = c.maxLocals → decode c.code g.pc = .ok (ig, len) →
    2 * g.monitorRoom + (g.stack.map fun v => v.category).sum ≤ W9 → A.U.methodNamed? y = some mk → Pre A a →
    (∃ (v : Option Value) (B : Pt), Stand p l e R s m sargs below meth c B.U B.locs B.cells B.slots ∧ Post A a v B ∧
      Steps p.tables e below (doInvoke e (A.U.setTop g) [] mk a).1 (B.U.setTop { g with pc := g.pc + len, stack := v.toList ++ g.stack })) ∨
    (∃ (q : Addr) (B : Pt), Stand p l e R s m sargs below meth c B.U B.locs B.cells B.slots ∧ PostX A a q B ∧
      Steps p.tables e below (doInvoke e (A.U.setTop g) [] mk a).1 ((B.U.setTop g).pushFrame (.throwing q)))
section Payer
variable {l : Launch} {R : Room} {p : Program} {e : Env} {below : List Frame} {s : State} {sargs : Array Value} {y : MethodName} {len W9 : Nat}
theorem vx_back {ws : List Cond} {rm : Room} {Pc : Array Value → State → Prop} {Qc : Array Value → State → Outcome → State → Prop} {XC : String → State → State → Prop} {mc ms : Nat} {free : Addr → Prop} {bytes : ByteArray} {maxL : Nat} {ret : Option FieldType}
    (hM : vx_Met l y ws rm Pc Qc XC mc ms free) (hblind : FrameBlind Pc) (hrc : rm.cells = mc) (hrs : rm.slots = ms)
    (hframes : rm.frames + 1 ≤ R.frames) (hlocals : W9 + (maxL + 11) + rm.locals ≤ R.locals)
    (hws : ∀ w ∈ ws, ∀ a' U, s.WarmedH U.vm → w.before a' U = true) (hcode : Cond.code y bytes maxL ret ∈ ws) (hinit : ∀ a' U, s.WarmedH U.vm → (Cond.initialized y.cls).before a' U = true) :
    vx_Back l R p e below s sargs y len W9 (PreOf R mc ms Pc) (PostOf Qc mc ms free) (vx_Post XC mc ms free) := by
  intro m meth c A g ig mk a X hg hsize hdg hW hn hp
  have h1 : (headSpec ws rm).pre.before a A.U = true := atoms_intro fun w hw => hws w hw _ _ X.warmed
  have h2 : (Cond.code y bytes maxL ret).before a A.U = true := hws _ hcode _ _ X.warmed
  have h3 : (Cond.initialized y.cls).before a A.U = true := hinit _ _ X.warmed
  have h4 : A.cells + (headSpec ws rm).room.cells ≤ R.cells := by rw [show (headSpec ws rm).room.cells = mc from hrc]; exact hp.1
  have h5 : A.slots + (headSpec ws rm).room.slots ≤ R.slots := by rw [show (headSpec ws rm).room.slots = ms from hrs]; exact hp.2.1
  have hPc : Pc a (A.U.calling g mk a) := hblind _ _ _ _ hp.2.2
  obtain ⟨U, Ls, c0, s0⟩ := A
  dsimp only [Pt.U, Pt.locs, Pt.cells, Pt.slots] at h1 h2 h3 h4 h5 X hn hPc ⊢
  obtain ⟨methY, cY, hmY, hcY, -, hlY, -, -, -, -⟩ := Cond.code_spec hn h2
  obtain ⟨kY, hkY, -⟩ := className_of_methodNamed hn
  have hinitY : kY.init = .initialized := Cond.initialized_spec (findClass_of_methodNamed hn) hkY h3
  have h : At U g.method c below := by rw [hg]; exact X.here
  have hlocals9 : W9 + (maxL + 11) + (headSpec ws rm).room.locals ≤ R.locals := hlocals
  have happ : (headSpec ws rm).appliesLoose y e.platform (U.calling g mk a) = true :=
    Spec.appliesLoose_calling (g := g) h hdg hn hkY hinitY
      (X.room_calling (g := g) (R' := (headSpec ws rm).room) hsize hmY hcY hframes (by rw [hlY]; omega) h4 h5) h1
  obtain ⟨mid, hmid⟩ := h.above
  have hfr : (U.setTop g).frames = (.java g :: mid) ++ below := by rw [State.frames_setTop' g h.top, hmid]; rfl
  obtain ⟨o, s₂, hsteps, -, hend, hq⟩ := Steps.callFree hM p X.admits X.cas X.clock (acts := []) hfr happ hPc trivial
  have hq' : vx_Q Qc XC mc ms free a (U.calling g mk a) o s₂ := hq
  rw [State.frames_setTop' g h.top] at hend
  obtain ⟨g₀, hg0⟩ := Option.isSome_iff_exists.mp h.top
  obtain ⟨r, hr⟩ := State.topJava?_eq_some.mp hg0
  have hr' : (({ U with heap := s₂.heap, slotsUsed := s₂.slotsUsed } : State).setVm s₂.vm).frames = .java g₀ :: r := hr
  rcases hq' with ⟨hqc, L, hfe, hL⟩ | ⟨q, rfl, E, ce, L, hx, hce, hcv, hcl, hW₂, hsm, hL⟩
  · obtain ⟨⟨v, rfl⟩, hW₂, e2, q2, q3, q4, q5, q6⟩ := id hfe
    have e3 : s₂ = ({ (U.calling g mk a).setFrames s₂.frames with heap := s₂.heap, slotsUsed := s₂.slotsUsed } : State).setVm s₂.vm := by
      have : s₂ = ({ s₂ with vm := (U.calling g mk a).vm } : State).setVm s₂.vm := rfl
      rw [e2] at this
      exact this
    obtain ⟨c₂, i₂, len₂, hc₂, hd₂, hf₂⟩ := hend
    have hW' : U.WarmedH s₂.vm := hW₂
    have hcc : c₂ = c := by
      have h1 : s₂.code? g.method = U.code? g.method := by
        rw [State.code?_eq, State.code?_eq, hW'.alike.method?]
      exact Option.some.inj (hc₂.symm.trans (h1.trans h.code))
    subst hcc
    have hlen : len₂ = len := by rw [hdg] at hd₂; cases hd₂; rfl
    subst hlen
    have hs₂ : s₂ = (({ U with heap := s₂.heap, slotsUsed := s₂.slotsUsed } : State).setVm s₂.vm).setTop { g with pc := g.pc + len₂, stack := v.toList ++ g.stack } := by
      refine e3.trans ?_
      rw [hf₂, State.calling_eq h.top, State.setFrames_setFrames, State.setTop_of_frames _ hr', hr]
      rfl
    have hsame : U.sameButNew ({ U with heap := s₂.heap, slotsUsed := s₂.slotsUsed } : State) L mc ms := by
      refine ⟨?_, q2, q3, q4, q5, q6⟩
      obtain ⟨t, ht, -⟩ := State.frames_cons hr
      show ({ U with heap := s₂.heap, slotsUsed := s₂.slotsUsed } : State) = { U.setFrames U.frames with heap := s₂.heap, slotsUsed := s₂.slotsUsed }
      rw [State.setFrames_self ht]
    subst hg
    refine Or.inl ⟨v, ⟨(({ U with heap := s₂.heap, slotsUsed := s₂.slotsUsed } : State).setVm s₂.vm), Ls ++ L, c0 + mc, s0 + ms⟩,
      ⟨X.admits, X.cas, X.clock, X.frames, X.room, X.hears, X.method, X.code, (X.here.setHeapUsed s₂.heap s₂.slotsUsed).setVm hW'.alike, X.tail, State.WarmedH.trans X.warmed hW', X.limits, X.bytes, X.same.trans (hsame.setVm s.vm)⟩,
      ⟨g, mk, s₂, L, rfl, rfl, hqc, rfl, hL, rfl, rfl⟩, ?_⟩
    show Steps p.tables e below _ ((({ U with heap := s₂.heap, slotsUsed := s₂.slotsUsed } : State).setVm s₂.vm).setTop { g with pc := g.pc + len₂, stack := v.toList ++ g.stack })
    rw [← hs₂]
    exact hsteps
  · obtain ⟨e2, q2, q3, q4, q5, q6⟩ := id hsm
    have e3 : s₂ = ({ (U.calling g mk a).setFrames s₂.frames with heap := s₂.heap, slotsUsed := s₂.slotsUsed } : State).setVm s₂.vm := by
      have : s₂ = ({ s₂ with vm := (U.calling g mk a).vm } : State).setVm s₂.vm := rfl
      rw [e2] at this
      exact this
    have hf₂ : s₂.frames = .throwing q :: .java g :: U.frames.tail := hend
    have hW' : U.WarmedH s₂.vm := hW₂
    have hs₂ : s₂ = ((({ U with heap := s₂.heap, slotsUsed := s₂.slotsUsed } : State).setVm s₂.vm).setTop g).pushFrame (.throwing q) := by
      refine e3.trans ?_
      rw [hf₂, State.calling_eq h.top, State.setFrames_setFrames, State.pushFrame, State.frames_setTop _ hr', State.setTop_of_frames _ hr', State.setFrames_setFrames, hr]
      rfl
    have hsame : U.sameButNew ({ U with heap := s₂.heap, slotsUsed := s₂.slotsUsed } : State) L mc ms := by
      refine ⟨?_, q2, q3, q4, q5, q6⟩
      obtain ⟨t, ht, -⟩ := State.frames_cons hr
      show ({ U with heap := s₂.heap, slotsUsed := s₂.slotsUsed } : State) = { U.setFrames U.frames with heap := s₂.heap, slotsUsed := s₂.slotsUsed }
      rw [State.setFrames_self ht]
    subst hg
    refine Or.inr ⟨q, ⟨(({ U with heap := s₂.heap, slotsUsed := s₂.slotsUsed } : State).setVm s₂.vm), Ls ++ L, c0 + mc, s0 + ms⟩,
      ⟨X.admits, X.cas, X.clock, X.frames, X.room, X.hears, X.method, X.code, (X.here.setHeapUsed s₂.heap s₂.slotsUsed).setVm hW'.alike, X.tail, State.WarmedH.trans X.warmed hW', X.limits, X.bytes, X.same.trans (hsame.setVm s.vm)⟩,
      ⟨g, mk, s₂, L, E, ce, rfl, rfl, hx, hce, hcv, hcl, rfl, hL, rfl, rfl⟩, ?_⟩
    show Steps p.tables e below _ (((({ U with heap := s₂.heap, slotsUsed := s₂.slotsUsed } : State).setVm s₂.vm).setTop g).pushFrame (.throwing q))
    rw [← hs₂]
    exact hsteps
end Payer
section Calls
variable {p : Program} {l : Launch} {e : Env} {R : Room} {s : State} {m : MethodId} {args : Array Value} {below : List Frame} {meth : Method} {c : Code} {T : State} {locs : List Loc} {cells slots : Nat}
theorem vx_callV (X : Stand p l e R s m args below meth c T locs cells slots) (hexec : p.tables.exec = Jvm.exec) {own C : String} {index : Nat} {y : MethodName} {bytes : ByteArray} {maxL : Nat} {ret : Option FieldType}
    (hown : s.vm.findClass own = some m.cls) (hlink : (Cond.methodLink own index y).before args s = true) (hinst : (Cond.instanceMethod y).before args s = true) (hsel : (Cond.selects C y y).before args s = true)
    (hcode : (Cond.code y bytes maxL ret).before args s = true) (hy : y.cls ≠ "java/lang/invoke/MethodHandle" ∧ y.cls ≠ "java/lang/invoke/VarHandle")
    {W9 : Nat} {Pre : Pt → Array Value → Prop} {Post : Pt → Array Value → Option Value → Pt → Prop} {PostX : Pt → Array Value → Addr → Pt → Prop} (hK : vx_Back l R p e below s args y 3 W9 Pre Post PostX)
    {b : Addr} {cellB : Cell} (hcell : T.heap[b]? = some cellB) (hobj : cellB.vm.isStatics = false) (hcls : s.vm.findClass C = some cellB.cls)
    {g : JFrame} (hg : g.method = m) (hsize : g.locals.size = c.maxLocals) {argsL rest : List Value} (hlen : ∀ sig, parseMethodDescriptor y.desc = some sig → argsL.length = sig.parameters.length)
    (hstack : g.stack = argsL.reverse ++ .ref b :: rest) (hW : 2 * g.monitorRoom + (rest.map fun v => v.category).sum ≤ W9) (hdg : decode c.code g.pc = .ok (.invokevirtual index, 3))
    (hpre : ∀ vm₁, s.WarmedH vm₁ → Pre ⟨T.setVm vm₁, locs, cells, slots⟩ (Value.ref b :: argsL).toArray) :
    (∃ (v : Option Value) (vm₁ : Vm) (B : Pt), s.WarmedH vm₁ ∧ Stand p l e R s m args below meth c B.U B.locs B.cells B.slots ∧ Post ⟨T.setVm vm₁, locs, cells, slots⟩ (Value.ref b :: argsL).toArray v B ∧
      ∀ target, Steps p.tables e below (B.U.setTop { g with pc := g.pc + 3, stack := v.toList ++ rest }) target → Steps p.tables e below (T.setTop g) target) ∨
    (∃ (q : Addr) (vm₁ : Vm) (B : Pt), s.WarmedH vm₁ ∧ Stand p l e R s m args below meth c B.U B.locs B.cells B.slots ∧ PostX ⟨T.setVm vm₁, locs, cells, slots⟩ (Value.ref b :: argsL).toArray q B ∧
      Steps p.tables e below (T.setTop g) ((B.U.setTop { g with stack := rest }).pushFrame (.throwing q))) := by
  obtain ⟨mk, methM, hnamed, hmethM, hstM, habM⟩ := Cond.instanceMethod_spec hinst
  obtain ⟨methM', cM, hmethM', -, -, -, -, -, -, hsigM⟩ := Cond.code_spec hnamed hcode
  cases hmethM.symm.trans hmethM'
  obtain ⟨c2, r2, m2, q1, q2, q3, q4, kP, hkP, hkPi⟩ := Cond.selects_spec hsel
  cases hcls.symm.trans q1
  cases (State.methodFound?_of_named hnamed hy).symm.trans q2
  cases hnamed.symm.trans q3
  have hselP : selectMethod e.platform s.vm cellB.cls mk = .method mk := by rw [Launch.admits_selectMethod X.admits]; exact q4
  obtain ⟨vm₁, X₁, hstep₁⟩ := X.invokevirtual hexec hown hlink hnamed hmethM hstM hkP hkPi hy (a := b) (cell := cellB) hcell
    (fun z h => by rw [h] at hobj; cases hobj) hselP hmethM habM hkP hkPi (g := g) hg (argsL := argsL) (rest := rest) (hlen _ hsigM) hstack hdg
  rcases hK m meth c ⟨T.setVm vm₁, locs, cells, slots⟩ { g with stack := rest } (.invokevirtual index) mk (Value.ref b :: argsL).toArray X₁ hg hsize hdg hW (X₁.named hnamed) (hpre vm₁ X₁.warmed) with ⟨v, B, X', hpost, hsteps⟩ | ⟨q, B, X', hpost, hsteps⟩
  · exact Or.inl ⟨v, vm₁, B, X₁.warmed, X', hpost, fun target h => hstep₁ _ fun acts => by rw [doInvoke_state]; exact hsteps.trans h⟩
  · exact Or.inr ⟨q, vm₁, B, X₁.warmed, X', hpost, hstep₁ _ fun acts => by rw [doInvoke_state]; exact hsteps⟩
end Calls
theorem vx_cls {s : State} {T : State} {vm₁ : Vm} {E : String} {k : ClassId} (hW : s.WarmedH vm₁) (h : (T.setVm vm₁).vm.findClass E = some k) : s.vm.findClass E = some k := by
  have h1 : vm₁.findClass E = some k := h
  rw [hW.alike.findClass] at h1
  exact h1
/-- the method's frame g, with q thrown over it -/
noncomputable def vx_W (p : Program) (l : Launch) (e : Env) (R : Room) (s : State) (m : MethodId) (args : Array Value) (below : List Frame) (meth : Method) (c : Code) (H : Heap) (locs : List Loc) (cells slots : Nat) (Q : State → Prop) (g : JFrame) (q : Addr) : Prop :=
  ∀ T : State, T.heap = H → Stand p l e R s m args below meth c T locs cells slots → ∃ t, Steps p.tables e below ((T.setTop g).pushFrame (.throwing q)) t ∧ Q t
noncomputable def vx_Run (p : Program) (l : Launch) (e : Env) (R : Room) (s : State) (m : MethodId) (args : Array Value) (below : List Frame) (meth : Method) (c : Code) (H : Heap) (locs : List Loc) (cells slots mc ms : Nat) (g : JFrame) (rest : List Value) (Qa : State → Outcome → State → Prop) (XC : String → State → State → Prop) (free : Addr → Prop) : Prop :=
  ∀ T : State, T.heap = H → Stand p l e R s m args below meth c T locs cells slots →
    (∃ (v : Option Value) (st₀ t T' : State) (L : List Loc), st₀.heap = H ∧ Stand p l e R s m args below meth c T' (locs ++ L) (cells + mc) (slots + ms) ∧ (∀ q ∈ L, free q.base) ∧ T'.heap = t.heap ∧ T'.vm = t.vm ∧ Qa st₀ (.returned v) t ∧
      Goes p e below T g T' { g with pc := g.pc + 3, stack := v.toList ++ rest }) ∨
    (∃ (q : Addr) (st₀ t T' : State) (L : List Loc) (E : String) (ce : Cell), st₀.heap = H ∧ Stand p l e R s m args below meth c T' (locs ++ L) (cells + mc) (slots + ms) ∧ (∀ z ∈ L, free z.base) ∧ T'.heap = t.heap ∧ T'.vm = t.vm ∧ XC E st₀ t ∧ t.heap[q]? = some ce ∧ ce.vm = .none ∧ s.vm.findClass E = some ce.cls ∧
      Steps p.tables e below (T.setTop g) ((T'.setTop { g with stack := rest }).pushFrame (.throwing q)))
noncomputable def vx_X {S : Type} (px : S → Prop) (B : String → S → State → Prop) (A : Nat → Prop) : String → State → State → Prop := fun E st t => ∃ u : S, px u ∧ B E u t ∧ va_F A st t
section Runs
variable {p : Program} {l : Launch} {e : Env} {R : Room} {s : State} {m : MethodId} {args : Array Value} {below : List Frame} {meth : Method} {c : Code} {H : Heap} {locs : List Loc} {cells slots : Nat}
variable {y : MethodName} {bytes cc : ByteArray} {maxL nL mc ms n index : Nat} {ret : Option FieldType} {ws : List Cond} {rm : Room} {Pc : Array Value → State → Prop} {Qc : Array Value → State → Outcome → State → Prop} {XC : String → State → State → Prop} {free : Addr → Prop} {Ts : List Cond} {own C : String} {b : Addr} {As rest : List Value} {g : JFrame}
theorem vx_callBack (cb : CallB R s args own index y bytes maxL ret ws rm mc ms n) (hM : vx_Met l y ws rm Pc Qc XC mc ms free) (hbl : FrameBlind Pc) : vx_Back l R p e below s args y 3 8 (PreOf R mc ms Pc) (PostOf Qc mc ms free) (vx_Post XC mc ms free) := by
  obtain ⟨hrc, hrs, hfr, hlo, hws, hcw, -, hini, -⟩ := cb
  exact vx_back (bytes := bytes) (maxL := maxL) (ret := ret) hM hbl hrc hrs hfr hlo hws hcw (fun a' U hW => word_at hW (Or.inl (by first | rfl | simp [Cond.onTables, Cond.keeps, Cond.steady])) hini)
theorem vx_runV (S : CallFix p m c cc nL s args Ts own) (hM : vx_Met l y ws rm Pc Qc XC mc ms free) (cw : CallW R s args own C index y bytes maxL ret ws rm mc ms n) (hp : PreV s H C b Pc As)
    (hg : g.method = m) (hn : As.length = n) (hsize : g.locals.size = nL) (hstack : g.stack = As.reverse ++ .ref b :: rest) (hW : 2 * g.monitorRoom + (rest.map fun v => v.category).sum ≤ 8) (hdg : decode cc g.pc = .ok (.invokevirtual index, 3)) (hf : cells + mc ≤ R.cells ∧ slots + ms ≤ R.slots) :
    vx_Run p l e R s m args below meth c H locs cells slots mc ms g rest (Qc (Value.ref b :: As).toArray) XC free := by
  have hK : vx_Back l R p e below s args y 3 8 (PreOf R mc ms Pc) (PostOf Qc mc ms free) (vx_Post XC mc ms free) := vx_callBack cw.1 hM hp.1
  obtain ⟨⟨-, -, -, -, -, -, hcode, -, hy, hlen, hl⟩, hin, hse⟩ := cw
  obtain ⟨hx, hb, hml, ho, -⟩ := S
  obtain ⟨-, ⟨cellB, hcB, hoB, hclB⟩, hPc⟩ := hp
  intro T hT X
  rcases vx_callV X hx (C := C) (bytes := bytes) (maxL := maxL) (ret := ret) ho hl hin hse hcode hy hK (by rw [hT]; exact hcB) hoB hclB hg (hsize.trans hml.symm) (argsL := As) (rest := rest) (fun sig h => hn.trans (hlen sig h)) hstack hW (by rw [hb]; exact hdg)
    (fun vm₁ hW₁ => ⟨hf.1, hf.2, hPc (T.setVm vm₁) hT hW₁⟩) with ⟨v, vm₁, ⟨U', l2, c2, s2⟩, hW₁, X', ⟨g', mk, t, L, e1, e2, hq, h1, hL, h2, h3⟩, st⟩ | ⟨q, vm₁, ⟨U', l2, c2, s2⟩, hW₁, X', ⟨g', mk, t, L, E, ce, e1, e2, hq, hce, hcv, hcl, h1, hL, h2, h3⟩, st⟩
  · dsimp only [Pt.U, Pt.locs, Pt.cells, Pt.slots] at X' e1 e2 h1 h2 h3 st
    subst h1; subst h2; subst h3
    exact Or.inl ⟨v, (T.setVm vm₁).calling g' mk (Value.ref b :: As).toArray, t, U', L, hT, X', hL, e1, e2, hq, st⟩
  · dsimp only [Pt.U, Pt.locs, Pt.cells, Pt.slots] at X' e1 e2 h1 h2 h3 st hcl
    subst h1; subst h2; subst h3
    exact Or.inr ⟨q, (T.setVm vm₁).calling g' mk (Value.ref b :: As).toArray, t, U', L, E, ce, hT, X', hL, e1, e2, hq, hce, hcv, vx_cls hW₁ hcl, st⟩
end Runs
section Rows
variable {p : Program} {l : Launch} {e : Env} {R : Room} {s : State} {m : MethodId} {args : Array Value} {below : List Frame} {meth : Method} {c : Code} {H : Heap} {locs : List Loc} {cells slots : Nat} {Q : State → Prop}
variable {mc ms : Nat} {free : Addr → Prop} {A0 A1 : Nat → Prop} {H0 : Heap} {a : Array Value} {pc : Nat} {ls : Array Slot} {st0 rest : List Value}
theorem vx_keep {st₀ t T' : State} {L : List Loc} (h0 : st₀.heap = H) (e1 : T'.heap = t.heap) (hS : va_S A0 H0 H locs) (hA : ∀ q, q < H.size → A1 q → A0 q) (hf : ∀ q, free q → A0 q) (hL : ∀ q ∈ L, free q.base) (hF : va_F A1 st₀ t) :
    H.size ≤ T'.heap.size ∧ (∀ q : Nat, q < H.size → ¬ A1 q → T'.heap[q]? = H[q]?) ∧ va_S A0 H0 T'.heap (locs ++ L) := by
  obtain ⟨hz, hk⟩ := hF
  rw [h0] at hz hk
  exact ⟨by rw [e1]; exact hz, fun q h1 h2 => by rw [e1]; exact hk q h1 h2,
    ⟨Nat.le_trans hS.1 (by rw [e1]; exact hz), fun q h1 h2 => by rw [e1, hk q (Nat.lt_of_lt_of_le h1 hS.1) (fun z => h2 (hA q (Nat.lt_of_lt_of_le h1 hS.1) z))]; exact hS.2.1 q h1 h2, fun q hq => by
      rcases List.mem_append.mp hq with h | h
      · exact hS.2.2 q h
      · exact hf _ (hL q h)⟩⟩
theorem vx_calli {S SX : Type} {post : Int32 → S → Prop} {px : SX → Prop} {B : S → State → Prop} {BX : String → SX → State → Prop} {AX : Nat → Prop} (hr : vx_Run p l e R s m args below meth c H locs cells slots mc ms (F0 m pc ls st0) rest (va_Qi post B A1 a) (vx_X px BX AX) free) (hS : va_S A0 H0 H locs) (hA : ∀ q, q < H.size → A1 q → A0 q) (hf : ∀ q, free q → A0 q) (hAX : ∀ q, q < H.size → AX q → A0 q)
    (kx : ∀ (E : String) (ce : Cell) (q9 : Addr) (u : SX) (t : State) (H1 : Heap) (locs1 : List Loc), t.heap = H1 → s.vm.Alike t.vm → px u → BX E u t → H.size ≤ H1.size → (∀ q : Nat, q < H.size → ¬ AX q → H1[q]? = H[q]?) → va_S A0 H0 H1 locs1 → H1[q9]? = some ce → ce.vm = .none → s.vm.findClass E = some ce.cls → vx_W p l e R s m args below meth c H1 locs1 (cells + mc) (slots + ms) Q (F0 m pc ls rest) q9)
    (kk : ∀ (r : Int32) (u : S) (t : State) (H1 : Heap) (locs1 : List Loc), t.heap = H1 → s.vm.Alike t.vm → post r u → B u t → H.size ≤ H1.size → (∀ q : Nat, q < H.size → ¬ A1 q → H1[q]? = H[q]?) → va_S A0 H0 H1 locs1 → W p l e R s m args below meth c H1 locs1 (cells + mc) (slots + ms) Q (F0 m (pc + 3) ls (.int r :: rest))) : W p l e R s m args below meth c H locs cells slots Q (F0 m pc ls st0) := by
  intro T hT X
  rcases hr T hT X with ⟨v, st₀, t, T', L, h0, X', hL, e1, e2, ⟨⟨r, u, hv, hp, hb⟩, hF⟩, st⟩ | ⟨q, st₀, t, T', L, E, ce, h0, X', hL, e1, e2, ⟨u, hp, hb, hF⟩, hce, hcv, hcl, st⟩
  · cases hv
    obtain ⟨k1, k2, k3⟩ := vx_keep h0 e1 hS hA hf hL hF
    obtain ⟨t2, a1, b1⟩ := kk r u t T'.heap (locs ++ L) e1.symm (by rw [← e2]; exact X'.warmed.alike) hp hb k1 k2 k3 T' rfl X'
    exact ⟨t2, st t2 a1, b1⟩
  · obtain ⟨k1, k2, k3⟩ := vx_keep h0 e1 hS hAX hf hL hF
    obtain ⟨t2, a1, b1⟩ := kx E ce q u t T'.heap (locs ++ L) e1.symm (by rw [← e2]; exact X'.warmed.alike) hp hb k1 k2 k3 (by rw [e1]; exact hce) hcv hcl T' rfl X'
    exact ⟨t2, st.trans a1, b1⟩
/-- the search of a handler stops at the first row, if that one takes the object -/
theorem led_go {Qh : Handler → Pre} {Eh : CtlPost} {e9 : Env} {dd : Bool} {acts : List Action} {S : State} {f : JFrame} {q : Addr} {x : ExceptionTableEntry} {suf : List ExceptionTableEntry} {c4 : ClassId} {ce : Cell} (hx : covers x f.pc = true) (h0 : x.catchType ≠ 0)
    (hlk : S.vm.ClassLinks e9.platform f.method.cls x.catchType c4) (hcT : S.heap[q]? = some ce) (hobj : ∀ k, ce.vm ≠ .statics k) (hk1 : ∃ k, S.vm.classes[ce.cls]? = some k) (hk2 : ∃ k, S.vm.classes[c4]? = some k) (hfit : S.vm.assignable ce.cls c4 = true) :
    wp (findHandler.go f q (x :: suf)) Qh Eh e9 dd acts S ↔ Qh (.found x.handlerPc) dd acts (S.setVm (S.vm.noted f.method.cls x.catchType (.cls c4))) := by
  simp only [covers] at hx
  obtain ⟨ha, ht⟩ := (resolveClass_links e9.toSetting hlk).op (op := VmOp.resolveClass f.method.cls x.catchType) rfl
  have hal : S.vm.Alike (S.vm.noted f.method.cls x.catchType (.cls c4)) := (Vm.Alike.refl S.vm).noted _ _ _
  obtain ⟨k1, hk1⟩ := hk1
  obtain ⟨k2, hk2⟩ := hk2
  obtain ⟨k1', hk1', -⟩ := hal.2.2 _ _ hk1
  obtain ⟨k2', hk2', -⟩ := hal.2.2 _ _ hk2
  have hfit' : (S.vm.noted f.method.cls x.catchType (.cls c4)).assignable ce.cls c4 = true := by rw [hal.assignable]; exact hfit
  simp [findHandler.go, hx, h0, ha, ht, hcT, hobj, hk1', hk2', hfit', VmOp.dirties, VmOp.acts]
/-- caught by the first row of the method's own table -/
theorem led_catch {own name : String} {E : String} {ce : Cell} {q : Addr} (hown : s.vm.findClass own = some m.cls) (x : ExceptionTableEntry) (suf : List ExceptionTableEntry) (hsplit : c.exceptionTable.toList = x :: suf) (hx : covers x pc = true) (h0 : x.catchType ≠ 0)
    (hlink : (Cond.classLink own x.catchType name).before args s = true) (hcast : (Cond.castable E name).before args s = true) (hcell : H[q]? = some ce) (hv : ce.vm = .none) (hcl : s.vm.findClass E = some ce.cls)
    (kk : W p l e R s m args below meth c H locs cells slots Q (F0 m x.handlerPc ls [.ref q])) : vx_W p l e R s m args below meth c H locs cells slots Q (F0 m pc ls rest) q := by
  intro T hT X
  have hpl : e.platform.magicAccessors = ({} : Platform).magicAccessors := by rw [X.admits.platform]
  obtain ⟨c3, c4, hc3, hc4, hasg⟩ := Cond.castable_spec hcast
  cases Option.some.inj (hc3.symm.trans hcl)
  obtain ⟨c5, hc5, hcl5⟩ := Cond.classLink_spec hown hlink e.platform hpl
  cases Option.some.inj (hc4.symm.trans hc5)
  obtain ⟨dk, _, _, kt, hd, _, _, _, _, hkt, _, hopen⟩ := hcl5.here
  have hlk := X.warmed.classLinks hcl5
  have hW' : s.WarmedH (T.vm.noted m.cls x.catchType (.cls c4)) := X.warmed.noted hd hopen (State.rightAt_cls hcl5)
  obtain ⟨kt', hkt', -⟩ := X.warmed.alike.2.2 _ _ hkt
  have hfit : T.vm.assignable ce.cls c4 = true := by rw [X.warmed.alike.assignable]; exact hasg
  obtain ⟨k1, hk1⟩ := Vm.classAt_of_assignable hfit ⟨kt', hkt'⟩
  have hcT : T.heap[q]? = some ce := by rw [hT]; exact hcell
  have hobj : ∀ k, ce.vm ≠ .statics k := fun k h => by rw [hv] at h; cases h
  have hfind : ∀ (Qh : Handler → Pre) (Eh : CtlPost) (dd : Bool) (acts : List Action), wp (findHandler (F0 m pc ls rest) q) Qh Eh e dd acts ((T.setTop (F0 m pc ls rest)).pushFrame (.throwing q)) ↔ Qh (.found x.handlerPc) dd acts (((T.setTop (F0 m pc ls rest)).pushFrame (.throwing q)).setVm (T.vm.noted m.cls x.catchType (.cls c4))) := by
    intro Qh Eh dd acts
    rw [Jvm.W.findHandler_eq (s := (T.setTop (F0 m pc ls rest)).pushFrame (.throwing q)) (f := F0 m pc ls rest) (meth := meth) (code := c) X.method' X.code, hsplit]
    exact led_go (S := (T.setTop (F0 m pc ls rest)).pushFrame (.throwing q)) (f := F0 m pc ls rest) hx h0 hlk hcT hobj ⟨k1, hk1⟩ ⟨kt', hkt'⟩ hfit
  obtain ⟨t, a1, b1⟩ := kk (T.setVm (T.vm.noted m.cls x.catchType (.cls c4))) hT (X.noted hW')
  refine ⟨t, ?_, b1⟩
  have hstep : (stepThrowing e ((T.setTop (F0 m pc ls rest)).pushFrame (.throwing q)) q (.java (F0 m pc ls rest) :: T.frames.tail)).Is ((((T.setTop (F0 m pc ls rest)).pushFrame (.throwing q)).setVm (T.vm.noted m.cls x.catchType (.cls c4))).setFrames (.java { (F0 m pc ls rest) with pc := x.handlerPc, stack := [.ref q] } :: T.frames.tail)) [] := by
    simp only [stepThrowing, searchFrame, vmDo]
    generalize hr : Sem.go _ e false [] ((T.setTop (F0 m pc ls rest)).pushFrame (.throwing q)) = res
    obtain ⟨as, rfl, hz⟩ := Sem.eq_ok_of hr (a := Handler.found x.handlerPc) (s' := ((T.setTop (F0 m pc ls rest)).pushFrame (.throwing q)).setVm (T.vm.noted m.cls x.catchType (.cls c4))) (acts' := []) (by simp [hfind _ _ _ _])
    exact ⟨rfl, hz⟩
  obtain ⟨hgo, hw⟩ := X.here.throwing (g := F0 m pc ls rest) q
  refine Steps.head hgo hw ?_
  rw [stepThread_throwing (frames_entered X.here.top _), hstep.1]
  obtain ⟨g₀, hg⟩ := Option.isSome_iff_exists.mp X.here.top
  obtain ⟨r, hr⟩ := State.topJava?_eq_some.mp hg
  have hr' : (T.setVm (T.vm.noted m.cls x.catchType (.cls c4))).frames = .java g₀ :: r := hr
  rw [State.setTop_of_frames _ hr'] at a1
  have key : ∀ (u : State) (v9 : Vm) (F G : List Frame), ((u.setFrames F).setVm v9).setFrames G = (u.setVm v9).setFrames G := by
    intro u v9 F G
    show ((u.setVm v9).setFrames F).setFrames G = _
    rw [State.setFrames_setFrames]
  rw [hr, List.tail_cons, State.pushFrame, key, State.setTop_of_frames _ hr, key]
  exact a1
end Rows
section Ends
variable {p : Program} {l : Launch} {e : Env} {R : Room} {s : State} {m : MethodId} {args : Array Value} {below : List Frame} {meth : Method} {c : Code} {H : Heap} {locs : List Loc} {cells slots : Nat} {Q : State → Prop}
variable {mc ms : Nat} {free : Addr → Prop} {A0 A1 : Nat → Prop} {H0 : Heap} {a : Array Value} {ls : Array Slot} {st0 rest : List Value}
variable {Qc : Array Value → State → Outcome → State → Prop} {XC : String → State → State → Prop}
/-- what a body that may throw owes at its end -/
noncomputable def vx_MQ (below : List Frame) (Qc : Array Value → State → Outcome → State → Prop) (XC : String → State → State → Prop) (a : Array Value) (s : State) (mc ms : Nat) (free : Addr → Prop) : State → Prop := fun t =>
  ∃ o, t.status = .running ∧ Ended t below o ∧ vx_Q Qc XC mc ms free a s o t
theorem vx_ret {g : JFrame} {mc ms : Nat} (k : W p l e R s m args below meth c H locs cells slots (MQ below Qc args s mc ms free) g) : W p l e R s m args below meth c H locs cells slots (vx_MQ below Qc XC args s mc ms free) g := by
  intro T hT X
  obtain ⟨t, a1, o, b1, b2, b3, b4⟩ := k T hT X
  exact ⟨t, a1, o, b1, b2, Or.inl ⟨b3, b4⟩⟩
theorem vx_frame {U : State} {k n : Nat} (h : s.sameButNew ({ U with vm := s.vm } : State) locs k n) : s.heap.size ≤ U.heap.size ∧ ∀ q : Nat, q < s.heap.size → (∀ z ∈ locs, z.base ≠ q) → U.heap[q]? = s.heap[q]? := by
  obtain ⟨-, h2, -, -, -, h6⟩ := h
  refine ⟨h2, fun q hq hz => ?_⟩
  obtain ⟨c9, e1, e2, e3, e4⟩ := h6 q _ (Array.getElem?_eq_getElem hq)
  have hs : c9.slots = (s.heap[q]).slots := Array.ext_getElem? fun i => e4 i fun hm => hz _ hm rfl
  have h9 : c9 = s.heap[q] := by
    rw [hs] at e2
    exact e2
  have e5 : U.heap[q]? = some c9 := e1
  rw [e5, h9, Array.getElem?_eq_getElem hq]
/-- the words of a throw but the four that speak of the heap -/
noncomputable def vx_no (w : Cond) : Bool := decide (w ≠ .isRef (.static Bundle.tN "UNASSIGNED_STACK" Bundle.steD)) && decide (w ≠ .isRef (.static Bundle.tN "SUPPRESSED_SENTINEL" Bundle.listD)) && decide (w ≠ .laysStatic Bundle.tN "UNASSIGNED_STACK" Bundle.steD) && decide (w ≠ .laysStatic Bundle.tN "SUPPRESSED_SENTINEL" Bundle.listD)
noncomputable def vx_at0 (own : String) (ic : Nat) (X : String) (names : List String) : List Cond := (Bundle.ownAtoms0 own ic X names).filter vx_no
/-- a word that the tables alone decide, or a good one -/
noncomputable def vx_ot (w : Cond) : Bool := w.onTables || goodWord w
theorem vx_ot_at {args a' : Array Value} {s U : State} {w : Cond} (hW : s.WarmedH U.vm) (hvm : s.vm = U.vm) (hg : vx_ot w = true) (h : w.before args s = true) : w.before a' U = true := by
  simp only [vx_ot, Bool.or_eq_true] at hg
  rcases hg with hg | hg
  · exact va_tabs hg hvm h
  · exact word_at hW (good_of_word hg) h
theorem vx_own {args : Array Value} {s : State} {L : List Cond} (h1 : ∀ w ∈ L.filter vx_no, w.before args s = true)
    (hU : (Cond.isRef (.static Bundle.tN "UNASSIGNED_STACK" Bundle.steD)).before args s = true) (hN : (Cond.isRef (.static Bundle.tN "SUPPRESSED_SENTINEL" Bundle.listD)).before args s = true)
    (lU : (Cond.laysStatic Bundle.tN "UNASSIGNED_STACK" Bundle.steD).before args s = true) (lN : (Cond.laysStatic Bundle.tN "SUPPRESSED_SENTINEL" Bundle.listD).before args s = true) : ∀ w ∈ L, w.before args s = true := by
  intro w hw
  by_cases e1 : w = .isRef (.static Bundle.tN "UNASSIGNED_STACK" Bundle.steD)
  · rw [e1]; exact hU
  · by_cases e2 : w = .isRef (.static Bundle.tN "SUPPRESSED_SENTINEL" Bundle.listD)
    · rw [e2]; exact hN
    · by_cases e3 : w = .laysStatic Bundle.tN "UNASSIGNED_STACK" Bundle.steD
      · rw [e3]; exact lU
      · by_cases e4 : w = .laysStatic Bundle.tN "SUPPRESSED_SENTINEL" Bundle.listD
        · rw [e4]; exact lN
        · exact h1 w (List.mem_filter.mpr ⟨hw, by unfold vx_no; rw [decide_eq_true e1, decide_eq_true e2, decide_eq_true e3, decide_eq_true e4]; rfl⟩)
/-- where a static field lies, its class's statics cell in H -/
noncomputable def vx_L (C n d : String) (A : Nat → Prop) (U : State) (H : Heap) : Prop := ∃ (c : ClassId) (k : Class) (i : Nat) (f : Field) (a : Nat) (cell : Cell), U.vm.findClass C = some c ∧ U.fieldFound? C n d = some (c, k, i, f) ∧ f.isStatic = true ∧ k.statics = some a ∧ H[a]? = some cell ∧ cell.vm.isStatics = true ∧ cell.cls = c ∧ f.slot < cell.slots.size ∧ k.staticTypes[f.slot]? = some f.type ∧ ¬ A a
theorem vx_L.moved {C n d : String} {A : Nat → Prop} {u U : State} {H : Heap} (hvm : u.vm.Alike U.vm) (h : vx_L C n d A u H) : vx_L C n d A U H := by
  obtain ⟨c, k, i, f, a, cell, h1, h2, h3, h4, h5, h6, h7, h8, h9, h10⟩ := h
  obtain ⟨k', hi', he⟩ := State.fieldFound?_setVm hvm h2
  exact ⟨c, k', i, f, a, cell, by rw [hvm.findClass]; exact h1, hi', h3, by rw [he]; exact h4, h5, h6, h7, h8, by rw [he]; exact h9, h10⟩
theorem vx_L.kept {C n d : String} {A : Nat → Prop} {U : State} {H H1 : Heap} (h : vx_L C n d A U H) (hq : ∀ a : Nat, a < H.size → ¬ A a → H1[a]? = H[a]?) : vx_L C n d A U H1 := by
  obtain ⟨c, k, i, f, a, cell, h1, h2, h3, h4, h5, h6, h7, h8, h9, h10⟩ := h
  exact ⟨c, k, i, f, a, cell, h1, h2, h3, h4, by rw [hq a (Array.getElem?_eq_some_iff.mp h5).1 h10]; exact h5, h6, h7, h8, h9, h10⟩
theorem vx_L.narrow {C n d : String} {A B : Nat → Prop} {U : State} {H : Heap} (h : vx_L C n d A U H) (hAB : ∀ q, B q → A q) : vx_L C n d B U H := by
  obtain ⟨c, k, i, f, a, cell, h1, h2, h3, h4, h5, h6, h7, h8, h9, h10⟩ := h
  exact ⟨c, k, i, f, a, cell, h1, h2, h3, h4, h5, h6, h7, h8, h9, fun z => h10 (hAB _ z)⟩
theorem vx_L.word {C n d : String} {A : Nat → Prop} {s : State} {args : Array Value} (h : vx_L C n d A s s.heap) : (Cond.laysStatic C n d).before args s = true := by
  obtain ⟨c, k, i, f, a, cell, h1, h2, h3, h4, h5, h6, h7, h8, h9, -⟩ := h
  show (Cond.laysStatic C n d).holds args s none s [] = true
  exact Cond.laysStatic_of h1 h2 h3 h4 h5 h6 h7 h8 h9
/-- .. and what it holds: null or some reference -/
noncomputable def vx_Zq (C n d : String) (A : Nat → Prop) (U : State) (H : Heap) : Prop := va_Zq C n d A U H ∧ vx_L C n d A U H
theorem vx_Zq.moved {C n d : String} {A : Nat → Prop} {u U : State} {H : Heap} (hvm : u.vm.Alike U.vm) (h : vx_Zq C n d A u H) : vx_Zq C n d A U H := ⟨va_Zq.moved hvm h.1, vx_L.moved hvm h.2⟩
theorem vx_Zq.kept {C n d : String} {A : Nat → Prop} {U : State} {H H1 : Heap} (h : vx_Zq C n d A U H) (hq : ∀ a : Nat, a < H.size → ¬ A a → H1[a]? = H[a]?) : vx_Zq C n d A U H1 := ⟨va_Zq.kept h.1 hq, vx_L.kept h.2 hq⟩
theorem vx_Zq.narrow {C n d : String} {A B : Nat → Prop} {U : State} {H : Heap} (h : vx_Zq C n d A U H) (hAB : ∀ q, B q → A q) : vx_Zq C n d B U H := ⟨va_Zq.narrow h.1 hAB, vx_L.narrow h.2 hAB⟩
theorem vx_Zqof {args : Array Value} {s : State} {C n d : String} {A : Nat → Prop} (hl : (Cond.laysStatic C n d).before args s = true) (hini : (Cond.initialized C).before args s = true) (h : (Cond.isRef (.static C n d)).before args s = true) (hA : ∀ a : Nat, a < s.heap.size → ¬ A a) : vx_Zq C n d A s s.heap := by
  refine ⟨va_Zqof hl hini h hA, ?_⟩
  obtain ⟨c, k, i, f, a, cell, h1, h2, h3, h4, h5, h6, h7, h8, h9⟩ := Cond.laysStatic_spec hl
  exact ⟨c, k, i, f, a, cell, h1, h2, h3, h4, h5, h6, h7, h8, h9, hA a (Array.getElem?_eq_some_iff.mp h5).1⟩
theorem vx_isRef {C n d : String} {v : Value} {A : Nat → Prop} {s : State} {args : Array Value} (h : va_Z C n d v A s s.heap) (hv : v.isRef = true) : (Cond.isRef (.static C n d)).before args s = true := by
  obtain ⟨cf, kf, fi, f, a, cell, h1, h2, h3, h4, h5, h6, h7, -⟩ := h
  have he : (Term.static C n d).eval args s none [] s = some v := by
    simp [Term.eval, State.fieldNamed?, h1, h2, h4, h5, h6, h7]
  simp only [Cond.before, Cond.holds, Cond.value, he]
  cases v <;> simp_all [Value.isRef]
theorem vx_isRefq {C n d : String} {A : Nat → Prop} {s : State} {args : Array Value} (h : va_Zq C n d A s s.heap) : (Cond.isRef (.static C n d)).before args s = true := by
  rcases h with h | ⟨t, h⟩
  · exact vx_isRef h rfl
  · exact vx_isRef h rfl
/-- the same frame, seen from here: as if the method were called anew in this heap -/
theorem vx_rebase {T : State} (X : Stand p l e R s m args below meth c T locs cells slots) {R' : Room} (hf : R'.frames ≤ R.frames) (hl : R'.locals ≤ R.locals) (hc : cells + R'.cells ≤ R.cells) (hs : slots + R'.slots ≤ R.slots) :
    Stand p l e R' ((T.setVm s.vm).setFrames (.invoking m args :: below)) m args below meth c T [] 0 0 := by
  have htop : (T.setVm s.vm).topJava?.isSome := X.here.top
  have hF : ((T.setVm s.vm).setFrames (.invoking m args :: below)).frames = .invoking m args :: below := State.frames_setFrames _ (State.cur_lt_of_top htop)
  obtain ⟨g₀, hg0⟩ := Option.isSome_iff_exists.mp htop
  obtain ⟨r, hr⟩ := State.topJava?_eq_some.mp hg0
  have hl9 : e.platform.stackLimits (T.setVm s.vm).me = e.platform.stackLimits s.me := X.limits
  have hb9 : (T.setVm s.vm).me.stackBytes = s.me.stackBytes := X.bytes
  refine ⟨X.admits, X.cas, X.clock, hF, ?_, X.hears, X.method, X.code, X.here, X.tail, X.warmed, ?_, ?_, ?_⟩
  · have h := X.room
    have hU : ((T.setVm s.vm).setFrames (.invoking m args :: below)).localsInUse = s.localsInUse := by
      rw [State.localsInUse_invoking hF (meth := meth) (c := c) X.method X.code, State.localsInUse_invoking X.frames X.method X.code]
    simp only [State.hasRoom, Bool.and_eq_true, decide_eq_true_eq] at h ⊢
    obtain ⟨⟨⟨⟨h1, h2, h3, h4, h5, h6⟩, h7⟩, h8⟩, h9⟩ := h
    rw [X.frames, List.length_cons] at h2 h3
    have q1 := X.heapSize
    have q2 := X.used
    simp only [hF, hU, List.length_cons, State.stackLimits_setFrames, State.stackBytes_setFrames, hl9, hb9]
    refine ⟨⟨⟨⟨by omega, by omega, by omega, by omega, by omega, h6⟩, ?_⟩, ?_⟩, X.book⟩
    · show T.heap.size + R'.cells ≤ e.platform.maxCells
      omega
    · show T.slotsUsed + R'.slots ≤ e.platform.maxSlots
      omega
  · rw [State.stackLimits_setFrames]; rfl
  · rw [State.stackBytes_setFrames]; rfl
  · refine ⟨?_, Nat.le_refl _, Nat.le_refl _, ?_, ?_, fun a c9 h9 => ⟨c9, h9, rfl, rfl, fun _ _ => rfl⟩⟩
    · obtain ⟨t, ht, -⟩ := State.frames_cons hr
      show T.setVm s.vm = { ((T.setVm s.vm).setFrames (.invoking m args :: below)).setFrames (T.setVm s.vm).frames with heap := T.heap, slotsUsed := T.slotsUsed }
      rw [State.setFrames_setFrames, State.setFrames_self ht]
      rfl
    · show T.slotsUsed = T.slotsUsed + ((T.heap.toList.drop T.heap.size).map (·.slots.size)).sum
      rw [List.drop_eq_nil_of_le (Nat.le_of_eq Array.length_toList)]
      rfl
    · show ((T.heap.toList.drop T.heap.size).map (·.slots.size)).sum ≤ 0
      rw [List.drop_eq_nil_of_le (Nat.le_of_eq Array.length_toList)]
      exact Nat.le_refl _
/-- 'throw new E()': new; dup; invokespecial; athrow -/
theorem vx_throw0 {cc : ByteArray} {pc : Nat} (hexec : p.tables.exec = Jvm.exec) (hb : c.code = cc) (hl : l.stackTraces = false) {own cls : String} {names : List String} {ik ic mc ms : Nat} {A : Nat → Prop}
    (hown : s.vm.findClass own = some m.cls) (hcls : Bundle.fit cls = true) (hnames : ∀ n ∈ names, Bundle.fit n = true)
    (hk : (Cond.classLink own ik cls).before args s = true) (hini : (Cond.initialized cls).before args s = true) (hat : ∀ w ∈ vx_at0 own ic cls names, w.before args s = true)
    (hgood : ∀ w ∈ Cond.classLink own ik cls :: Cond.initialized cls :: vx_at0 own ic cls names, vx_ot w = true)
    (hU : vx_Zq Bundle.tN "UNASSIGNED_STACK" Bundle.steD A s s.heap) (hN : vx_Zq Bundle.tN "SUPPRESSED_SENTINEL" Bundle.listD A s s.heap) (hS : va_S A s.heap H locs) (hsize : ls.size = c.maxLocals)
    (d0 : decode cc pc = .ok (.new ik, 3)) (d3 : decode cc (pc + 3) = .ok (.dup, 1)) (d4 : decode cc (pc + 4) = .ok (.invokespecial ic, 3)) (d7 : decode cc (pc + 7) = .ok (.athrow, 1))
    (hout : ∀ x ∈ c.exceptionTable.toList, covers x (pc + 7) = false)
    (hRframes : names.length + 3 < R.frames) (hRlocals : (rest.map fun v => v.category).sum + (13 * (names.length + 1) + 42) ≤ R.locals) (hRcells : cells + 1 ≤ R.cells) (hRslots : slots + 6 ≤ R.slots) (hlocks : meth.locks = false)
    (hx : ∀ t : State, s.vm.Alike t.vm → H.size ≤ t.heap.size → (∀ q : Nat, q < H.size → t.heap[q]? = H[q]?) → XC cls s t)
    (hf : ∀ z ∈ locs, free z.base) (hc : cells + 1 ≤ mc) (hs : slots + 6 ≤ ms) :
    W p l e R s m args below meth c H locs cells slots (vx_MQ below Qc XC args s mc ms free) (F0 m pc ls rest) := by
  intro T hT X
  have htr : e.platform.stackTraces = false := (show e.platform.stackTraces = l.stackTraces by rw [X.admits.platform]).trans hl
  have Y := vx_rebase X (R' := { frames := R.frames, locals := R.locals, cells := 1, slots := 6 }) (Nat.le_refl _) (Nat.le_refl _) hRcells hRslots
  obtain ⟨s', hA⟩ : ∃ z, z = (T.setVm s.vm).setFrames (.invoking m args :: below) := ⟨_, rfl⟩
  rw [← hA] at Y
  have hvm : s'.vm = s.vm := by rw [hA]; rfl
  have hhp : s'.heap = H := by rw [hA]; exact hT
  have hW0 : s.WarmedH s'.vm := by rw [hvm]; exact State.WarmedH.refl s
  have hat' : ∀ w ∈ vx_at0 own ic cls names, w.before args s' = true := fun w hw => vx_ot_at hW0 hvm.symm (hgood w (List.mem_cons_of_mem _ (List.mem_cons_of_mem _ hw))) (hat w hw)
  have hk' : (Cond.classLink own ik cls).before args s' = true := vx_ot_at hW0 hvm.symm (hgood _ List.mem_cons_self) hk
  have hini' : (Cond.initialized cls).before args s' = true := vx_ot_at hW0 hvm.symm (hgood _ (List.mem_cons_of_mem _ List.mem_cons_self)) hini
  have hU' : vx_Zq Bundle.tN "UNASSIGNED_STACK" Bundle.steD A s' s'.heap := by rw [hhp]; exact vx_Zq.moved hW0.alike (hU.kept hS.2.1)
  have hN' : vx_Zq Bundle.tN "SUPPRESSED_SENTINEL" Bundle.listD A s' s'.heap := by rw [hhp]; exact vx_Zq.moved hW0.alike (hN.kept hS.2.1)
  have h : ∀ w ∈ Bundle.ownAtoms0 own ic cls names, w.before args s' = true := vx_own hat' (vx_isRefq hU'.1) (vx_isRefq hN'.1) hU'.2.word hN'.2.word
  have hown' : s'.vm.findClass own = some m.cls := by rw [hvm]; exact hown
  have hins : (Cond.instantiable cls 6).before args s' = true := h _ (by simp [Bundle.ownAtoms0])
  obtain ⟨vm₁, cX, kX, hfX, hkX, -, -, X₁, st1⟩ := Y.newCold hexec (own := own) (C := cls) (index := ik) (n := 6) hown' hk' hins hini'
    (g := F0 m pc ls rest) rfl (by rw [hb]; exact d0) (Nat.le_refl _) (Nat.le_refl _)
  generalize hT1 : (T.setVm vm₁).pushCell { cls := cX, slots := kX.instanceTypes.map defaultValue, vm := .none } = T1 at X₁ st1
  have hcat : (Value.ref T.heap.size).category = 1 := rfl
  have hcellA : T1.heap[T.heap.size]? = some (freshCell cX kX) := by rw [← hT1]; exact State.heap_pushCell_size _ _
  have d3' : decode c.code (pc + 3) = .ok (.dup, 1) := by rw [hb]; exact d3
  obtain ⟨U, hsteps, hrun, hend, hW, hsame, ce, hce, hO⟩ := X₁.ctorThrow0 hexec htr (own := own) (cls := cls) (names := names) (ic := ic) hown' hcls hnames h (fun x hx => nomatch hx) hfX hkX hcellA (by rw [hhp, hT]; exact Nat.le_refl _)
    (g := { method := m, pc := pc + 4, locals := ls, stack := .ref T.heap.size :: .ref T.heap.size :: rest, locked := none }) rfl hsize rfl rfl (rest := rest) rfl
    (by rw [hb]; exact d4) (by rw [hb]; exact d7) hout hRframes (by simp only [List.map_cons, List.sum_cons, hcat]; omega) hlocks
  obtain ⟨f1, f2⟩ := vx_frame hsame
  rw [hhp] at f1 f2
  have hWs : s.WarmedH U.vm := State.WarmedH.trans hW0 hW
  have hcl : s.vm.findClass cls = some ce.cls := by
    have h9 := hO.cls
    rw [hvm] at h9
    exact h9
  have hall : s.sameButNew ({ U with vm := s.vm } : State) locs mc ms := by
    subst hA
    obtain ⟨e1, e2⟩ := hsame
    rw [State.setFrames_setFrames] at e1
    have h2 : (T.setVm s.vm).sameButNew ({ U with vm := s.vm } : State) [] (0 + 1) (0 + 6) := ⟨e1, e2⟩
    have h3 := X.same.trans h2
    rw [List.append_nil] at h3
    exact h3.mono hc hs
  refine ⟨U, ?_, .threw T.heap.size, hrun, hend, Or.inr ⟨T.heap.size, rfl, cls, ce, locs, hx U hWs.alike f1 (fun q hq => f2 q hq (fun z hz => nomatch hz)), hce, hO.vm, hcl, hWs, hall, hf⟩⟩
  refine st1 _ ?_
  show Steps p.tables e below (T1.setTop { method := m, pc := pc + 3, locals := ls, stack := .ref T.heap.size :: rest, locked := none }) _
  jvm_step X₁.here [X₁.here.top, hexec, d3', Value.category]
  exact hsteps
end Ends
section Bodies
variable {l : Launch}
theorem vx_ofW {y : MethodName} {ws ws' : List Cond} {rm : Room} {Pc : Array Value → State → Prop} {Qc : Array Value → State → Outcome → State → Prop} {XC : String → State → State → Prop} {mc ms : Nat} {free : Addr → Prop} {cc : ByteArray} {maxL : Nat} {ret : Option FieldType}
    (hy : plainName y.cls = true) (hw : ws = Cond.code y cc maxL ret :: ws')
    (body : ∀ p e s m args below meth c s₁, BodyLoose p l y (headSpec ws rm) cc maxL ret e s m args below meth c s₁ → c.maxLocals = maxL → (∀ x ∈ c.exceptionTable.toList, False) → Pc args s →
      W p l e (headSpec ws rm).room s m args below meth c s.heap [] 0 0 (vx_MQ below Qc XC args s mc ms free) (entryFrame m args maxL)) : vx_Met l y ws rm Pc Qc XC mc ms free := by
  refine MetFree.of_bodyS (code := cc) (maxLocals := maxL) (ret := ret) hy ?_ ?_
  · intro args s m h hn
    obtain ⟨meth, c, h1, h2, h3, h4, h5, h6, -, -⟩ := Cond.code_spec hn (atoms_spec (ws := ws) h _ (by rw [hw]; exact List.mem_cons_self))
    exact ⟨meth, c, h1, h2, h3, h4, h5, h6⟩
  · intro p e s m args below meth c s₁ B hml hP _
    have hh0 : s₁.heap = s.heap := by rw [B.state]; rfl
    have ht : ∀ x ∈ c.exceptionTable.toList, False := by
      obtain ⟨meth9, c9, h1, h2, -, -, -, -, h7, -⟩ := Cond.code_spec B.named (atoms_spec (ws := ws) B.pre _ (by rw [hw]; exact List.mem_cons_self))
      cases Option.some.inj (h1.symm.trans B.method)
      cases Option.some.inj (h2.symm.trans (Stand.of_body B).code)
      intro x hx
      rw [Array.isEmpty_iff.mp h7] at hx
      cases hx
    obtain ⟨t, a1, o, b1, b2, b3⟩ := body p e s m args below meth c s₁ B hml ht hP s₁ hh0 (Stand.of_body B)
    exact ⟨t, o, a1, b1, b2, b3⟩
/-- the table of a body with handlers -/
theorem vx_table {p : Program} {x y : MethodName} {S : Spec} {cc bytes : ByteArray} {maxL maxL' : Nat} {ret ret' : Option FieldType} {e : Env} {s s₁ : State} {m : MethodId} {args : Array Value} {below : List Frame} {meth : Method} {c : Code} {hh : List (Nat × Nat × Nat × Nat)}
    (B : BodyLoose p l y S cc maxL ret e s m args below meth c s₁) (h : (Cond.codeWith y bytes maxL' ret' hh).before args s = true) : c.exceptionTable.toList = tableOf hh := by
  obtain ⟨m9, meth9, c9, hn9, h1, h2, -, -, h6, -⟩ := Cond.codeWith_spec h
  cases Option.some.inj (hn9.symm.trans B.named)
  cases Option.some.inj (h1.symm.trans B.method)
  cases Option.some.inj (h2.symm.trans (Stand.of_body B).code)
  rw [← h6, table_eq]
end Bodies
end VXA
section VXS
variable {p : Program} {l : Launch} {e : Env} {R : Room} {s : State} {m : MethodId} {args : Array Value} {below : List Frame} {meth : Method} {c : Code} {T : State} {H : Heap} {locs : List Loc} {cells slots : Nat}
noncomputable abbrev vx_CSW (R : Room) (s : State) (args : Array Value) (own : String) (index : Nat) (y : MethodName) (bytes : ByteArray) (maxL : Nat) (ret : Option FieldType) (hh : List (Nat × Nat × Nat × Nat)) (ws : List Cond) (rm : Room) (mc ms n : Nat) : Prop :=
  (rm.cells = mc ∧ rm.slots = ms ∧ rm.frames + 1 ≤ R.frames ∧ 8 + (maxL + 11) + rm.locals ≤ R.locals ∧ (∀ w ∈ ws, ∀ (a' : Array Value) (U : State), s.WarmedH U.vm → w.before a' U = true) ∧ Cond.codeWith y bytes maxL ret hh ∈ ws) ∧
  (Cond.codeWith y bytes maxL ret hh).before args s = true ∧ (Cond.initialized y.cls).before args s = true ∧ (y.cls ≠ "java/lang/invoke/MethodHandle" ∧ y.cls ≠ "java/lang/invoke/VarHandle") ∧
  (∀ sig, parseMethodDescriptor y.desc = some sig → n = sig.parameters.length) ∧ (Cond.methodLink own index y).before args s = true ∧ (Cond.static y).before args s = true
theorem vx_cwSW {own : String} {index maxL mc ms : Nat} {y : MethodName} {bytes : ByteArray} {ret : Option FieldType} {hh : List (Nat × Nat × Nat × Nat)} {Ts ws ws' : List Cond} {rm : Room} (n : Nat) (ht : ∀ w ∈ Ts, w.before args s = true) (hT : GoodIn Ts (va_wsS own index y ws)) (hw : ws = Cond.codeWith y bytes maxL ret hh :: ws') (hrc : rm.cells = mc) (hrs : rm.slots = ms)
    (hd : y.cls ≠ "java/lang/invoke/MethodHandle" ∧ y.cls ≠ "java/lang/invoke/VarHandle" ∧ (parseMethodDescriptor y.desc).map (fun d => d.parameters.length) = some n) (hR : rm.frames + 1 ≤ R.frames ∧ 8 + (maxL + 11) + rm.locals ≤ R.locals) :
    vx_CSW R s args own index y bytes maxL ret hh ws rm mc ms n := by
  have ok : ∀ w ∈ va_wsS own index y ws, w.before args s = true := fun w h => ht w (hT w h).1
  have hG : GoodIn Ts ws := fun w h => hT w (by unfold va_wsS; exact List.mem_append_right _ h)
  have hc : Cond.codeWith y bytes maxL ret hh ∈ ws := by rw [hw]; exact List.mem_cons_self
  refine ⟨⟨hrc, hrs, hR.1, hR.2, pay_in ht hG, hc⟩, ht _ (hG _ hc).1, ok _ (by simp [va_wsS]), ⟨hd.1, hd.2.1⟩, fun sig h => ?_, ok _ (by simp [va_wsS]), ok _ (by simp [va_wsS])⟩
  have h2 := hd.2.2
  rw [h] at h2
  exact (Option.some.inj h2).symm
theorem vx_callSW (X : Stand p l e R s m args below meth c T locs cells slots) (hexec : p.tables.exec = Jvm.exec) {own : String} {index : Nat} {y : MethodName} {bytes : ByteArray} {maxL : Nat} {ret : Option FieldType} {hh : List (Nat × Nat × Nat × Nat)}
    (hown : s.vm.findClass own = some m.cls) (hlink : (Cond.methodLink own index y).before args s = true) (hstat : (Cond.static y).before args s = true) (hinit : (Cond.initialized y.cls).before args s = true)
    (hcode : (Cond.codeWith y bytes maxL ret hh).before args s = true) (hy : y.cls ≠ "java/lang/invoke/MethodHandle" ∧ y.cls ≠ "java/lang/invoke/VarHandle")
    {W9 : Nat} {Pre : Pt → Array Value → Prop} {Post : Pt → Array Value → Option Value → Pt → Prop} (hK : Back l R p e below s args y 3 W9 Pre Post)
    {g : JFrame} (hg : g.method = m) (hsize : g.locals.size = c.maxLocals) {argsL rest : List Value} (hlen : ∀ sig, parseMethodDescriptor y.desc = some sig → argsL.length = sig.parameters.length)
    (hstack : g.stack = argsL.reverse ++ rest) (hW : 2 * g.monitorRoom + (rest.map fun v => v.category).sum ≤ W9) (hdg : decode c.code g.pc = .ok (.invokestatic index, 3))
    (hpre : ∀ vm₁, s.WarmedH vm₁ → Pre ⟨T.setVm vm₁, locs, cells, slots⟩ argsL.toArray) :
    ∃ (v : Option Value) (vm₁ : Vm) (B : Pt), s.WarmedH vm₁ ∧ Stand p l e R s m args below meth c B.U B.locs B.cells B.slots ∧ Post ⟨T.setVm vm₁, locs, cells, slots⟩ argsL.toArray v B ∧
      ∀ target, Steps p.tables e below (B.U.setTop { g with pc := g.pc + 3, stack := v.toList ++ rest }) target → Steps p.tables e below (T.setTop g) target := by
  obtain ⟨mk, methM, cM, hnamed, hmethM, -, -, -, -, -, -, hsigM⟩ := Cond.codeWith_spec hcode
  have hstatic : methM.isStatic = true := Cond.static_spec hnamed hmethM hstat
  obtain ⟨kP, hkP, -⟩ := className_of_methodNamed hnamed
  have hinitP : kP.init = .initialized := Cond.initialized_spec (findClass_of_methodNamed hnamed) hkP hinit
  obtain ⟨vm₁, X₁, hstep₁⟩ := X.invokestatic hexec hown hlink hnamed hmethM hstatic hkP hinitP hy (g := g) hg (argsL := argsL) (rest := rest) (hlen _ hsigM) hstack hdg
  obtain ⟨v, B, X', hpost, hsteps⟩ := hK m meth c ⟨T.setVm vm₁, locs, cells, slots⟩ { g with stack := rest } (.invokestatic index) mk argsL.toArray X₁ hg hsize hdg hW (X₁.named hnamed) (hpre vm₁ X₁.warmed)
  exact ⟨v, vm₁, B, X₁.warmed, X', hpost, fun target h => hstep₁ _ fun acts => by rw [doInvoke_state]; exact hsteps.trans h⟩
theorem vx_runSW {y : MethodName} {bytes cc : ByteArray} {maxL nL mc ms n index : Nat} {ret : Option FieldType} {hh : List (Nat × Nat × Nat × Nat)} {ws : List Cond} {rm : Room} {Pc : Array Value → State → Prop} {Qc : Array Value → State → Outcome → State → Prop} {free : Addr → Prop} {Ts : List Cond} {own : String} {As rest : List Value} {g : JFrame}
    (S : CallFix p m c cc nL s args Ts own) (hM : Met l y ws rm Pc Qc mc ms free) (cw : vx_CSW R s args own index y bytes maxL ret hh ws rm mc ms n) (hp : PreS s H Pc As)
    (hg : g.method = m) (hn : As.length = n) (hsize : g.locals.size = nL) (hstack : g.stack = As.reverse ++ rest) (hW : 2 * g.monitorRoom + (rest.map fun v => v.category).sum ≤ 8) (hdg : decode cc g.pc = .ok (.invokestatic index, 3)) (hf : cells + mc ≤ R.cells ∧ slots + ms ≤ R.slots) :
    va_Run p l e R s m args below meth c H locs cells slots mc ms g rest (Qc As.toArray) (free) := by
  obtain ⟨⟨hrc, hrs, hfr, hlo, hws, hcw⟩, hcode, hini, hy, hlen, hl, hstt⟩ := cw
  have hK : Back l R p e below s args y 3 8 (PreOf R mc ms Pc) (PostOf Qc mc ms free) := va_backW (hh := hh) (bytes := bytes) (maxL := maxL) (ret := ret) hM hp.1 hrc hrs hfr hlo hws hcw (fun a' U hW => word_at hW (Or.inl (by first | rfl | simp [Cond.onTables, Cond.keeps, Cond.steady])) hini)
  obtain ⟨hx, hb, hml, ho, -⟩ := S
  intro T hT X
  obtain ⟨v, vm₁, ⟨U', l2, c2, s2⟩, hW₁, X', ⟨g', mk, t, L, e1, e2, hq, h1, hL, h2, h3⟩, st⟩ := vx_callSW X hx (hh := hh) (bytes := bytes) (maxL := maxL) (ret := ret) ho hl hstt hini hcode hy hK hg (hsize.trans hml.symm) (argsL := As) (rest := rest) (fun sig h => hn.trans (hlen sig h)) hstack hW (by rw [hb]; exact hdg)
    (fun vm₁ hW₁ => ⟨hf.1, hf.2, hp.2 (T.setVm vm₁) hT hW₁⟩)
  dsimp only [Pt.U, Pt.locs, Pt.cells, Pt.slots] at X' e1 e2 h1 h2 h3 st
  subst h1; subst h2; subst h3
  exact ⟨v, (T.setVm vm₁).calling g' mk As.toArray, t, U', L, hT, X', hL, e1, e2, hq, st⟩
end VXS
theorem vx_ofWH {l : Launch} {y : MethodName} {ws ws' : List Cond} {rm : Room} {Pc : Array Value → State → Prop} {Qc : Array Value → State → Outcome → State → Prop} {XC : String → State → State → Prop} {mc ms : Nat} {free : Addr → Prop} {cc : ByteArray} {maxL : Nat} {ret : Option FieldType} {hh : List (Nat × Nat × Nat × Nat)}
    (hy : plainName y.cls = true) (hw : ws = Cond.codeWith y cc maxL ret hh :: ws')
    (body : ∀ p e s m args below meth c s₁, BodyLoose p l y (headSpec ws rm) cc maxL ret e s m args below meth c s₁ → c.maxLocals = maxL → Pc args s →
      W p l e (headSpec ws rm).room s m args below meth c s.heap [] 0 0 (vx_MQ below Qc XC args s mc ms free) (entryFrame m args maxL)) : vx_Met l y ws rm Pc Qc XC mc ms free := by
  refine MetFree.of_bodyS (code := cc) (maxLocals := maxL) (ret := ret) hy ?_ ?_
  · intro args s m h hn
    obtain ⟨m9, meth, c, hn9, h1, h2, h3, h4, -, h5, h6, -⟩ := Cond.codeWith_spec (atoms_spec (ws := ws) h _ (by rw [hw]; exact List.mem_cons_self))
    cases hn.symm.trans hn9
    exact ⟨meth, c, h1, h2, h3, h4, h5, h6⟩
  · intro p e s m args below meth c s₁ B hml hP _
    have hh0 : s₁.heap = s.heap := by rw [B.state]; rfl
    obtain ⟨t, a1, o, b1, b2, b3⟩ := body p e s m args below meth c s₁ B hml hP s₁ hh0 (Stand.of_body B)
    exact ⟨t, o, a1, b1, b2, b3⟩
/-- what the law keeps: how much of the tape is used, on both sides -/
noncomputable def stC (c : Nat) : Bool := c == 1 || (c == 125 || (c == 127 || ((decide (6 ≤ c) && decide (c ≤ 31)) && (!(c == 16) && !(c == 29))))) || ((decide (32 ≤ c) && decide (c ≤ 34)) || ((decide (41 ≤ c) && decide (c ≤ 97)) || (c == 129 || (c == 130 || c == 131))))
noncomputable def stI (c : Nat) : List Nat := if c = 0 then [1, 3, 4, 12] else if c = 124 then [2, 9, 14, 20, 21] else if c = 38 then [2, 3, 4] else []
/-- what only feed and town write -/
noncomputable def st_B (c i : Nat) : Bool := stC c || (stI c).contains i
theorem st_B_t {c i : Nat} (h1 : 6 ≤ c) (h2 : c ≤ 31) (h3 : c ≠ 16) (h4 : c ≠ 29) : st_B c i = true := by
  have e : ∀ x : Nat, 6 ≤ x → x ≤ 31 → x ≠ 16 → x ≠ 29 → stC x = true := fun x a b u v => by
    have q : ∀ y, y < 32 → 6 ≤ y → y ≠ 16 → y ≠ 29 → stC y = true := by decide
    exact q x (by omega) a u v
  unfold st_B
  rw [e c h1 h2 h3 h4]
  rfl
noncomputable def lu_P (M M' : cm_M) : Prop := ab_ok hp hN M' ∧ ∀ c i, st_B c i = true → M'.1 c i = M.1 c i ∧ M'.2.2 c i = M.2.2 c i
noncomputable def lk_st (md : ab_Md) : Bool := md.all (fun q => !(stC q.1) && (if q.2.isEmpty then (stI q.1).isEmpty else q.2.all (fun i => !((stI q.1).contains i))))
theorem lk_st_in {md : ab_Md} (h : lk_st md = true) {c i : Nat} (hb : st_B c i = true) : ab_inM md c i = false := by
  unfold ab_inM
  cases hc : ev_at md c with
  | none => rfl
  | some l =>
    have h1 := List.all_eq_true.mp h _ (ev_at_mem hc)
    dsimp only at h1 ⊢
    rw [Bool.and_eq_true, Bool.not_eq_true'] at h1
    obtain ⟨h2, h3⟩ := h1
    have hb2 : (stI c).contains i = true := by
      unfold st_B at hb
      rw [h2] at hb
      exact hb
    cases he : l.isEmpty with
    | true =>
      rw [he, if_pos rfl] at h3
      rw [List.isEmpty_iff.mp h3] at hb2
      cases hb2
    | false =>
      rw [he, if_neg (by decide)] at h3
      cases hl : l.contains i with
      | false => rfl
      | true =>
        have h4 := List.all_eq_true.mp h3 i (List.contains_iff_mem.mp hl)
        rw [hb2] at h4
        cases h4
theorem lk_lt_in {md : ab_Md} (h : md.all (fun q => decide (q.1 < 124)) = true) {c i : Nat} (hc : 124 ≤ c) : ab_inM md c i = false := by
  unfold ab_inM
  cases he : ev_at md c with
  | none => rfl
  | some l =>
    have h1 := of_decide_eq_true (List.all_eq_true.mp h _ (ev_at_mem he))
    dsimp only at h1
    omega
theorem lk_ge_in {md : ab_Md} (h : md.all (fun q => decide (124 ≤ q.1)) = true) {c i : Nat} (hc : c < 124) : ab_inM md c i = false := by
  unfold ab_inM
  cases he : ev_at md c with
  | none => rfl
  | some l =>
    have h1 := of_decide_eq_true (List.all_eq_true.mp h _ (ev_at_mem he))
    dsimp only at h1
    omega
noncomputable def lp_kd : Nat → Option Value → Prop
  | 0, v => ∃ r, v = some (.int r)
  | 1, v => ∃ r, v = some (.long r)
  | _, v => v = none
noncomputable def lp_P (kd : Nat) (M : cm_M) : cm_K := fun v M' => lp_kd kd v ∧ lu_P M M'
noncomputable def lk_kd (kd : Nat) (st : List ab_A) : Bool := match st with
  | [] => kd == 2
  | [a] => (kd == 0 && ab_isI a) || (kd == 1 && a.1 == 6)
  | _ => false
theorem lk_kd_ok {kd : Nat} {st : List ab_A} {ρ : List Int32} {v : Option Value} (h : lk_kd kd st = true) (hs : ab_s ρ st v.toList) : lp_kd kd v := by
  cases v with
  | none =>
    cases st with
    | nil =>
      have h : (kd == 2) = true := h
      have e := beq_iff_eq.mp h
      subst e
      rfl
    | cons a st => exact hs.elim
  | some v =>
    cases st with
    | nil => exact hs.elim
    | cons a st =>
      cases st with
      | cons b st => cases h
      | nil =>
        have h : ((kd == 0 && ab_isI a) || (kd == 1 && a.1 == 6)) = true := h
        have hv : ab_v ρ a v := hs.1
        rw [Bool.or_eq_true, Bool.and_eq_true, Bool.and_eq_true] at h
        rcases h with ⟨h1, h2⟩ | ⟨h1, h2⟩
        · have e := beq_iff_eq.mp h1
          subst e
          obtain ⟨x, -, rfl⟩ := ab_vi h2 hv
          exact ⟨x, rfl⟩
        · have e := beq_iff_eq.mp h1
          subst e
          have e2 := beq_iff_eq.mp h2
          obtain ⟨t, z, cs⟩ := a
          dsimp only at e2
          subst e2
          obtain ⟨x, rfl⟩ := hv
          exact ⟨x, rfl⟩
noncomputable def lk_chk (kd : Nat) (c : ab_Ct) : Bool := c.2.2.2.2.2.all (fun o => lk_kd kd o.1) && lk_st c.2.2.2.2.1
theorem lk_ok {kd d : Nat} {c : ab_Ct} (hc : ab_CT cm_ms hp hN d c) (hd : d ≤ 30) (hk : lk_chk kd c = true) {M : cm_M} (hM : ab_ok hp hN M) {ρ : List Int32} {vs : List Value} (hs : ab_s ρ c.2.1 vs) (hkk : ab_k ρ c.2.2.1) (hca : ab_ca ρ M c.2.2.2.1) : cm_Call cm_ms 30 c.1 vs M (lp_P kd M) := by
  unfold lk_chk at hk
  rw [Bool.and_eq_true] at hk
  obtain ⟨k1, k2⟩ := hk
  refine cm_Call_up (hc ρ vs M hs hkk hM hca) hd (fun v M' hv => ?_)
  obtain ⟨o, ho, ext, h1, h2, h3⟩ := hv
  exact ⟨lk_kd_ok (List.all_eq_true.mp k1 o ho) h1, h3.1, fun c i q => ⟨(h3.2.1 c i (lk_st_in k2 q)).1, (h3.2.1 c i (lk_st_in k2 q)).2.2⟩⟩
noncomputable def lpa_P (kd : Nat) (_ : cm_M) : cm_K := fun v M' => lp_kd kd v ∧ ab_ok hp hN M'
noncomputable def lka_chk (kd : Nat) (c : ab_Ct) : Bool := c.2.2.2.2.2.all (fun o => lk_kd kd o.1)
theorem lka_ok {kd d : Nat} {c : ab_Ct} (hc : ab_CT cm_ms hp hN d c) (hd : d ≤ 30) (hk : lka_chk kd c = true) {M : cm_M} (hM : ab_ok hp hN M) {ρ : List Int32} {vs : List Value} (hs : ab_s ρ c.2.1 vs) (hkk : ab_k ρ c.2.2.1) (hca : ab_ca ρ M c.2.2.2.1) : cm_Call cm_ms 30 c.1 vs M (lpa_P kd M) := by
  refine cm_Call_up (hc ρ vs M hs hkk hM hca) hd (fun v M' hv => ?_)
  obtain ⟨o, ho, ext, h1, h2, h3⟩ := hv
  exact ⟨lk_kd_ok (List.all_eq_true.mp hk o ho) h1, h3.1⟩
noncomputable def lk_all : ab_K → List Int32 → Prop
  | [], [] => True
  | r :: K, x :: ρ => (r.2.2.1 = 0 ∧ r.1 ≤ x.toInt ∧ x.toInt ≤ r.2.1) ∧ lk_all K ρ
  | _, _ => False
theorem lk_all_at : ∀ {K : ab_K} {ρ : List Int32}, lk_all K ρ → K.length = ρ.length ∧ ∀ (j : Nat) (r : ab_Ke) (x : Int32), K[j]? = some r → ρ[j]? = some x → r.2.2.1 = 0 ∧ r.1 ≤ x.toInt ∧ x.toInt ≤ r.2.1
  | [], [], _ => ⟨rfl, fun j r x h => by cases h⟩
  | [], _ :: _, h => h.elim
  | _ :: _, [], h => h.elim
  | r :: K, x :: ρ, h => by
    obtain ⟨e, ih⟩ := lk_all_at h.2
    refine ⟨by simp [e], fun j r' x' h1 h2 => ?_⟩
    match j with
    | 0 => cases h1; cases h2; exact h.1
    | j + 1 => exact ih j r' x' (by simpa using h1) (by simpa using h2)
theorem lk_k {K : ab_K} {ρ : List Int32} (h : lk_all K ρ) : ab_k ρ K := by
  obtain ⟨e, ih⟩ := lk_all_at h
  refine ⟨e, fun j r x h1 h2 => ?_⟩
  obtain ⟨a, b, c⟩ := ih j r x h1 h2
  exact ⟨⟨b, c⟩, Or.inl a⟩
theorem lu_f (x : Int32) : (0 : Nat) = 0 ∧ (-2147483648 : Int) ≤ x.toInt ∧ x.toInt ≤ 2147483647 := ⟨rfl, ev_lo x, ev_hi x⟩
theorem lu_127 {M : cm_M} (h : ab_ok hp hN M) : M.1 127 8 = 0 ∨ M.1 127 8 = 1 ∨ M.1 127 8 = 2 ∨ M.1 127 8 = 3 ∨ M.1 127 8 = 4 ∨ M.1 127 8 = 5 := by
  have h2 := h.1 127 8
  rw [show ab_hi hp 127 8 = (0, 5) from by decide +kernel] at h2
  obtain ⟨a, b⟩ := h2
  dsimp only at a b
  have hv : M.1 127 8 = Int32.ofInt (M.1 127 8).toInt := (Int32.ofInt_toInt _).symm
  generalize (M.1 127 8).toInt = z at a b hv
  rcases (by omega : z = 0 ∨ z = 1 ∨ z = 2 ∨ z = 3 ∨ z = 4 ∨ z = 5) with rfl | rfl | rfl | rfl | rfl | rfl
  · exact Or.inl hv
  · exact Or.inr (Or.inl hv)
  · exact Or.inr (Or.inr (Or.inl hv))
  · exact Or.inr (Or.inr (Or.inr (Or.inl hv)))
  · exact Or.inr (Or.inr (Or.inr (Or.inr (Or.inl hv))))
  · exact Or.inr (Or.inr (Or.inr (Or.inr (Or.inr hv))))
set_option maxRecDepth 1000000 in
/-- BarberMinutes.fault -/
theorem lk_96 {M : cm_M} (hM : ab_ok hp hN M) : cm_Call cm_ms 30 96 [.ref 0] M (lp_P 0 M) := lk_ok ck_234 (by decide) (by decide +kernel) hM (ρ := []) ⟨⟨0, List.mem_cons_self, rfl⟩, trivial⟩ (lk_k trivial) (fun q hq => nomatch hq)
set_option maxRecDepth 1000000 in
/-- BarberMinutes.where -/
theorem lk_97 {M : cm_M} (hM : ab_ok hp hN M) : cm_Call cm_ms 30 97 [.ref 0] M (lp_P 0 M) := lk_ok ck_235 (by decide) (by decide +kernel) hM (ρ := []) ⟨⟨0, List.mem_cons_self, rfl⟩, trivial⟩ (lk_k trivial) (fun q hq => nomatch hq)
set_option maxRecDepth 1000000 in
/-- BarberMinutes.man -/
theorem lk_98 {M : cm_M} (hM : ab_ok hp hN M) (x0 x1 : Int32) : cm_Call cm_ms 30 98 [.ref 0, .int x0, .int x1] M (lp_P 0 M) := lk_ok ck_236 (by decide) (by decide +kernel) hM (ρ := [x0, x1]) ⟨⟨0, List.mem_cons_self, rfl⟩, ⟨x0, rfl, rfl⟩, ⟨x1, rfl, rfl⟩, trivial⟩ (lk_k ⟨lu_f x0, lu_f x1, trivial⟩) (fun q hq => nomatch hq)
set_option maxRecDepth 1000000 in
/-- BarberMinutes.motion -/
theorem lk_99 {M : cm_M} (hM : ab_ok hp hN M) (x0 x1 : Int32) : cm_Call cm_ms 30 99 [.ref 0, .int x0, .int x1] M (lp_P 0 M) := lk_ok ck_237 (by decide) (by decide +kernel) hM (ρ := [x0, x1]) ⟨⟨0, List.mem_cons_self, rfl⟩, ⟨x0, rfl, rfl⟩, ⟨x1, rfl, rfl⟩, trivial⟩ (lk_k ⟨lu_f x0, lu_f x1, trivial⟩) (fun q hq => nomatch hq)
set_option maxRecDepth 1000000 in
/-- BarberMinutes.floor -/
theorem lk_100 {M : cm_M} (hM : ab_ok hp hN M) (x0 : Int32) : cm_Call cm_ms 30 100 [.ref 0, .int x0] M (lp_P 0 M) := lk_ok ck_238 (by decide) (by decide +kernel) hM (ρ := [x0]) ⟨⟨0, List.mem_cons_self, rfl⟩, ⟨x0, rfl, rfl⟩, trivial⟩ (lk_k ⟨lu_f x0, trivial⟩) (fun q hq => nomatch hq)
set_option maxRecDepth 1000000 in
/-- BarberMinutes.bald -/
theorem lk_101 {M : cm_M} (hM : ab_ok hp hN M) : cm_Call cm_ms 30 101 [.ref 0] M (lp_P 0 M) := lk_ok ck_239 (by decide) (by decide +kernel) hM (ρ := []) ⟨⟨0, List.mem_cons_self, rfl⟩, trivial⟩ (lk_k trivial) (fun q hq => nomatch hq)
set_option maxRecDepth 1000000 in
/-- BarberMinutes.longest -/
theorem lk_102 {M : cm_M} (hM : ab_ok hp hN M) : cm_Call cm_ms 30 102 [.ref 0] M (lp_P 0 M) := lk_ok ck_240 (by decide) (by decide +kernel) hM (ρ := []) ⟨⟨0, List.mem_cons_self, rfl⟩, trivial⟩ (lk_k trivial) (fun q hq => nomatch hq)
set_option maxRecDepth 1000000 in
/-- BarberMinutes.ready -/
theorem lk_103 {M : cm_M} (hM : ab_ok hp hN M) : cm_Call cm_ms 30 103 [.ref 0] M (lp_P 0 M) := lk_ok ck_241 (by decide) (by decide +kernel) hM (ρ := []) ⟨⟨0, List.mem_cons_self, rfl⟩, trivial⟩ (lk_k trivial) (fun q hq => nomatch hq)
set_option maxRecDepth 1000000 in
/-- BarberMinutes.quorum -/
theorem lk_104 {M : cm_M} (hM : ab_ok hp hN M) : cm_Call cm_ms 30 104 [.ref 0] M (lp_P 0 M) := lk_ok ck_242 (by decide) (by decide +kernel) hM (ρ := []) ⟨⟨0, List.mem_cons_self, rfl⟩, trivial⟩ (lk_k trivial) (fun q hq => nomatch hq)
set_option maxRecDepth 1000000 in
/-- BarberMinutes.behind -/
theorem lk_105 {M : cm_M} (hM : ab_ok hp hN M) (x0 : Int32) : cm_Call cm_ms 30 105 [.ref 0, .int x0] M (lp_P 0 M) := lk_ok ck_243 (by decide) (by decide +kernel) hM (ρ := [x0]) ⟨⟨0, List.mem_cons_self, rfl⟩, ⟨x0, rfl, rfl⟩, trivial⟩ (lk_k ⟨lu_f x0, trivial⟩) (fun q hq => nomatch hq)
set_option maxRecDepth 1000000 in
/-- BarberMinutes.depth -/
theorem lk_106 {M : cm_M} (hM : ab_ok hp hN M) (x0 : Int32) : cm_Call cm_ms 30 106 [.ref 0, .int x0] M (lp_P 0 M) := lk_ok ck_244 (by decide) (by decide +kernel) hM (ρ := [x0]) ⟨⟨0, List.mem_cons_self, rfl⟩, ⟨x0, rfl, rfl⟩, trivial⟩ (lk_k ⟨lu_f x0, trivial⟩) (fun q hq => nomatch hq)
set_option maxRecDepth 1000000 in
/-- BarberMinutes.longIn -/
theorem lk_107 {M : cm_M} (hM : ab_ok hp hN M) (x0 x1 : Int32) : cm_Call cm_ms 30 107 [.ref 0, .int x0, .int x1] M (lp_P 0 M) := lk_ok ck_246 (by decide) (by decide +kernel) hM (ρ := [x0, x1]) ⟨⟨0, List.mem_cons_self, rfl⟩, ⟨x0, rfl, rfl⟩, ⟨x1, rfl, rfl⟩, trivial⟩ (lk_k ⟨lu_f x0, lu_f x1, trivial⟩) (fun q hq => nomatch hq)
set_option maxRecDepth 1000000 in
/-- BarberMinutes.yesIn -/
theorem lk_108 {M : cm_M} (hM : ab_ok hp hN M) (x0 x1 : Int32) : cm_Call cm_ms 30 108 [.ref 0, .int x0, .int x1] M (lp_P 0 M) := lk_ok ck_247 (by decide) (by decide +kernel) hM (ρ := [x0, x1]) ⟨⟨0, List.mem_cons_self, rfl⟩, ⟨x0, rfl, rfl⟩, ⟨x1, rfl, rfl⟩, trivial⟩ (lk_k ⟨lu_f x0, lu_f x1, trivial⟩) (fun q hq => nomatch hq)
set_option maxRecDepth 1000000 in
/-- BarberMinutes.carryIn -/
theorem lk_109 {M : cm_M} (hM : ab_ok hp hN M) (x0 : Int32) : cm_Call cm_ms 30 109 [.ref 0, .int x0] M (lp_P 0 M) := lk_ok ck_249 (by decide) (by decide +kernel) hM (ρ := [x0]) ⟨⟨0, List.mem_cons_self, rfl⟩, ⟨x0, rfl, rfl⟩, trivial⟩ (lk_k ⟨lu_f x0, trivial⟩) (fun q hq => nomatch hq)
set_option maxRecDepth 1000000 in
/-- BarberMinutes.hairyIn -/
theorem lk_110 {M : cm_M} (hM : ab_ok hp hN M) : cm_Call cm_ms 30 110 [.ref 0] M (lp_P 0 M) := lk_ok ck_250 (by decide) (by decide +kernel) hM (ρ := []) ⟨⟨0, List.mem_cons_self, rfl⟩, trivial⟩ (lk_k trivial) (fun q hq => nomatch hq)
set_option maxRecDepth 1000000 in
/-- BarberMinutes.soonest -/
theorem lk_111 {M : cm_M} (hM : ab_ok hp hN M) : cm_Call cm_ms 30 111 [.ref 0] M (lp_P 0 M) := lk_ok ck_251 (by decide) (by decide +kernel) hM (ρ := []) ⟨⟨0, List.mem_cons_self, rfl⟩, trivial⟩ (lk_k trivial) (fun q hq => nomatch hq)
set_option maxRecDepth 1000000 in
/-- BarberMinutes.worthOf -/
theorem lk_114 {M : cm_M} (hM : ab_ok hp hN M) (x0 x1 : Int32) : cm_Call cm_ms 30 114 [.ref 0, .int x0, .int x1] M (lp_P 0 M) := lk_ok ck_252 (by decide) (by decide +kernel) hM (ρ := [x0, x1]) ⟨⟨0, List.mem_cons_self, rfl⟩, ⟨x0, rfl, rfl⟩, ⟨x1, rfl, rfl⟩, trivial⟩ (lk_k ⟨lu_f x0, lu_f x1, trivial⟩) (fun q hq => nomatch hq)
set_option maxRecDepth 1000000 in
/-- BarberMinutes.bestRow -/
theorem lk_115 {M : cm_M} (hM : ab_ok hp hN M) (x0 : Int32) : cm_Call cm_ms 30 115 [.ref 0, .int x0] M (lp_P 0 M) := lk_ok ck_253 (by decide) (by decide +kernel) hM (ρ := [x0]) ⟨⟨0, List.mem_cons_self, rfl⟩, ⟨x0, rfl, rfl⟩, trivial⟩ (lk_k ⟨lu_f x0, trivial⟩) (fun q hq => nomatch hq)
set_option maxRecDepth 1000000 in
/-- BarberMinutes.bestWorth -/
theorem lk_116 {M : cm_M} (hM : ab_ok hp hN M) (x0 : Int32) : cm_Call cm_ms 30 116 [.ref 0, .int x0] M (lp_P 0 M) := lk_ok ck_254 (by decide) (by decide +kernel) hM (ρ := [x0]) ⟨⟨0, List.mem_cons_self, rfl⟩, ⟨x0, rfl, rfl⟩, trivial⟩ (lk_k ⟨lu_f x0, trivial⟩) (fun q hq => nomatch hq)
set_option maxRecDepth 1000000 in
/-- BarberMinutes.bestCarried -/
theorem lk_117 {M : cm_M} (hM : ab_ok hp hN M) (x0 : Int32) : cm_Call cm_ms 30 117 [.ref 0, .int x0] M (lp_P 0 M) := lk_ok ck_255 (by decide) (by decide +kernel) hM (ρ := [x0]) ⟨⟨0, List.mem_cons_self, rfl⟩, ⟨x0, rfl, rfl⟩, trivial⟩ (lk_k ⟨lu_f x0, trivial⟩) (fun q hq => nomatch hq)
set_option maxRecDepth 1000000 in
/-- BarberMinutes.weeksFor -/
theorem lk_118 {M : cm_M} (hM : ab_ok hp hN M) (x0 : Int32) : cm_Call cm_ms 30 118 [.ref 0, .int x0] M (lp_P 0 M) := lk_ok ck_256 (by decide) (by decide +kernel) hM (ρ := [x0]) ⟨⟨0, List.mem_cons_self, rfl⟩, ⟨x0, rfl, rfl⟩, trivial⟩ (lk_k ⟨lu_f x0, trivial⟩) (fun q hq => nomatch hq)
set_option maxRecDepth 1000000 in
/-- BarberMinutes.swings -/
theorem lk_120 {M : cm_M} (hM : ab_ok hp hN M) (x0 x1 : Int32) : cm_Call cm_ms 30 120 [.ref 0, .int x0, .int x1] M (lp_P 0 M) := lk_ok ck_257 (by decide) (by decide +kernel) hM (ρ := [x0, x1]) ⟨⟨0, List.mem_cons_self, rfl⟩, ⟨x0, rfl, rfl⟩, ⟨x1, rfl, rfl⟩, trivial⟩ (lk_k ⟨lu_f x0, lu_f x1, trivial⟩) (fun q hq => nomatch hq)
set_option maxRecDepth 1000000 in
/-- BarberMinutes.mighty -/
theorem lk_121 {M : cm_M} (hM : ab_ok hp hN M) (x0 : Int32) : cm_Call cm_ms 30 121 [.ref 0, .int x0] M (lp_P 0 M) := lk_ok ck_258 (by decide) (by decide +kernel) hM (ρ := [x0]) ⟨⟨0, List.mem_cons_self, rfl⟩, ⟨x0, rfl, rfl⟩, trivial⟩ (lk_k ⟨lu_f x0, trivial⟩) (fun q hq => nomatch hq)
set_option maxRecDepth 1000000 in
/-- BarberMinutes.outvoted -/
theorem lk_122 {M : cm_M} (hM : ab_ok hp hN M) (x0 : Int32) : cm_Call cm_ms 30 122 [.ref 0, .int x0] M (lp_P 0 M) := lk_ok ck_259 (by decide) (by decide +kernel) hM (ρ := [x0]) ⟨⟨0, List.mem_cons_self, rfl⟩, ⟨x0, rfl, rfl⟩, trivial⟩ (lk_k ⟨lu_f x0, trivial⟩) (fun q hq => nomatch hq)
set_option maxRecDepth 1000000 in
/-- BarberMinutes.bench -/
theorem lk_123 {M : cm_M} (hM : ab_ok hp hN M) (x0 : Int32) : cm_Call cm_ms 30 123 [.ref 0, .int x0] M (lp_P 0 M) := lk_ok ck_260 (by decide) (by decide +kernel) hM (ρ := [x0]) ⟨⟨0, List.mem_cons_self, rfl⟩, ⟨x0, rfl, rfl⟩, trivial⟩ (lk_k ⟨lu_f x0, trivial⟩) (fun q hq => nomatch hq)
set_option maxRecDepth 1000000 in
/-- BarberMinutes.parting -/
theorem lk_124 {M : cm_M} (hM : ab_ok hp hN M) : cm_Call cm_ms 30 124 [.ref 0] M (lp_P 0 M) := lk_ok ck_261 (by decide) (by decide +kernel) hM (ρ := []) ⟨⟨0, List.mem_cons_self, rfl⟩, trivial⟩ (lk_k trivial) (fun q hq => nomatch hq)
set_option maxRecDepth 1000000 in
/-- BarberMinutes.left -/
theorem lk_125 {M : cm_M} (hM : ab_ok hp hN M) : cm_Call cm_ms 30 125 [.ref 0] M (lp_P 0 M) := lk_ok ck_262 (by decide) (by decide +kernel) hM (ρ := []) ⟨⟨0, List.mem_cons_self, rfl⟩, trivial⟩ (lk_k trivial) (fun q hq => nomatch hq)
set_option maxRecDepth 1000000 in
/-- BarberMinutes.peace -/
theorem lk_126 {M : cm_M} (hM : ab_ok hp hN M) : cm_Call cm_ms 30 126 [.ref 0] M (lp_P 0 M) := lk_ok ck_263 (by decide) (by decide +kernel) hM (ρ := []) ⟨⟨0, List.mem_cons_self, rfl⟩, trivial⟩ (lk_k trivial) (fun q hq => nomatch hq)
set_option maxRecDepth 1000000 in
/-- BarberMinutes.apart -/
theorem lk_128 {M : cm_M} (hM : ab_ok hp hN M) (x0 x1 : Int32) : cm_Call cm_ms 30 128 [.ref 0, .int x0, .int x1] M (lp_P 0 M) := lk_ok ck_264 (by decide) (by decide +kernel) hM (ρ := [x0, x1]) ⟨⟨0, List.mem_cons_self, rfl⟩, ⟨x0, rfl, rfl⟩, ⟨x1, rfl, rfl⟩, trivial⟩ (lk_k ⟨lu_f x0, lu_f x1, trivial⟩) (fun q hq => nomatch hq)
set_option maxRecDepth 1000000 in
/-- BarberMinutes.round -/
theorem lk_129 {M : cm_M} (hM : ab_ok hp hN M) : cm_Call cm_ms 30 129 [.ref 0] M (lp_P 0 M) := lk_ok ck_265 (by decide) (by decide +kernel) hM (ρ := []) ⟨⟨0, List.mem_cons_self, rfl⟩, trivial⟩ (lk_k trivial) (fun q hq => nomatch hq)
set_option maxRecDepth 1000000 in
/-- BarberMinutes.roundAt -/
theorem lk_130 {M : cm_M} (hM : ab_ok hp hN M) (x0 : Int32) : cm_Call cm_ms 30 130 [.ref 0, .int x0] M (lp_P 0 M) := lk_ok ck_266 (by decide) (by decide +kernel) hM (ρ := [x0]) ⟨⟨0, List.mem_cons_self, rfl⟩, ⟨x0, rfl, rfl⟩, trivial⟩ (lk_k ⟨lu_f x0, trivial⟩) (fun q hq => nomatch hq)
set_option maxRecDepth 1000000 in
/-- BarberMinutes.fits -/
theorem lk_131 {M : cm_M} (hM : ab_ok hp hN M) : cm_Call cm_ms 30 131 [.ref 0] M (lp_P 0 M) := lk_ok ck_267 (by decide) (by decide +kernel) hM (ρ := []) ⟨⟨0, List.mem_cons_self, rfl⟩, trivial⟩ (lk_k trivial) (fun q hq => nomatch hq)
set_option maxRecDepth 1000000 in
/-- BarberMinutes.fitAt -/
theorem lk_132 {M : cm_M} (hM : ab_ok hp hN M) (x0 : Int32) : cm_Call cm_ms 30 132 [.ref 0, .int x0] M (lp_P 0 M) := lk_ok ck_268 (by decide) (by decide +kernel) hM (ρ := [x0]) ⟨⟨0, List.mem_cons_self, rfl⟩, ⟨x0, rfl, rfl⟩, trivial⟩ (lk_k ⟨lu_f x0, trivial⟩) (fun q hq => nomatch hq)
set_option maxRecDepth 1000000 in
/-- BarberMinutes.could -/
theorem lk_133 {M : cm_M} (hM : ab_ok hp hN M) : cm_Call cm_ms 30 133 [.ref 0] M (lp_P 0 M) := lk_ok ck_269 (by decide) (by decide +kernel) hM (ρ := []) ⟨⟨0, List.mem_cons_self, rfl⟩, trivial⟩ (lk_k trivial) (fun q hq => nomatch hq)
set_option maxRecDepth 1000000 in
/-- BarberMinutes.surely -/
theorem lk_134 {M : cm_M} (hM : ab_ok hp hN M) : cm_Call cm_ms 30 134 [.ref 0] M (lp_P 0 M) := lk_ok ck_270 (by decide) (by decide +kernel) hM (ρ := []) ⟨⟨0, List.mem_cons_self, rfl⟩, trivial⟩ (lk_k trivial) (fun q hq => nomatch hq)
set_option maxRecDepth 1000000 in
/-- BarberMinutes.ask -/
theorem lk_135 {M : cm_M} (hM : ab_ok hp hN M) : cm_Call cm_ms 30 135 [.ref 0] M (lp_P 0 M) := lk_ok ck_271 (by decide) (by decide +kernel) hM (ρ := []) ⟨⟨0, List.mem_cons_self, rfl⟩, trivial⟩ (lk_k trivial) (fun q hq => nomatch hq)
set_option maxRecDepth 1000000 in
/-- BarberMinutes.askLeaves -/
theorem lk_136 {M : cm_M} (hM : ab_ok hp hN M) : cm_Call cm_ms 30 136 [.ref 0] M (lp_P 0 M) := lk_ok ck_272 (by decide) (by decide +kernel) hM (ρ := []) ⟨⟨0, List.mem_cons_self, rfl⟩, trivial⟩ (lk_k trivial) (fun q hq => nomatch hq)
set_option maxRecDepth 1000000 in
/-- BarberMinutes.talk -/
theorem lk_138 {M : cm_M} (hM : ab_ok hp hN M) (x0 x1 x2 x3 : Int32) (h1 : 0 ≤ x1.toInt ∧ x1.toInt ≤ 1) (h2 : 0 ≤ x2.toInt ∧ x2.toInt ≤ 1) (h3 : 0 ≤ x3.toInt ∧ x3.toInt ≤ 1) : cm_Call cm_ms 30 138 [.ref 0, .int x0, .int x1, .int x2, .int x3] M (lp_P 0 M) := lk_ok ck_273 (by decide) (by decide +kernel) hM (ρ := [x0, x1, x2, x3]) ⟨⟨0, List.mem_cons_self, rfl⟩, ⟨x0, rfl, rfl⟩, ⟨x1, rfl, rfl⟩, ⟨x2, rfl, rfl⟩, ⟨x3, rfl, rfl⟩, trivial⟩ (lk_k ⟨lu_f x0, ⟨rfl, h1⟩, ⟨rfl, h2⟩, ⟨rfl, h3⟩, trivial⟩) (fun q hq => nomatch hq)
set_option maxRecDepth 1000000 in
/-- BarberMinutes.rests -/
theorem lk_139 {M : cm_M} (hM : ab_ok hp hN M) (x0 : Int32) : cm_Call cm_ms 30 139 [.ref 0, .int x0] M (lp_P 0 M) := lk_ok ck_275 (by decide) (by decide +kernel) hM (ρ := [x0]) ⟨⟨0, List.mem_cons_self, rfl⟩, ⟨x0, rfl, rfl⟩, trivial⟩ (lk_k ⟨lu_f x0, trivial⟩) (fun q hq => nomatch hq)
set_option maxRecDepth 1000000 in
/-- BarberMinutes.rest -/
theorem lk_140 {M : cm_M} (hM : ab_ok hp hN M) (x0 : Int32) : cm_Call cm_ms 30 140 [.ref 0, .int x0] M (lp_P 0 M) := lk_ok ck_276 (by decide) (by decide +kernel) hM (ρ := [x0]) ⟨⟨0, List.mem_cons_self, rfl⟩, ⟨x0, rfl, rfl⟩, trivial⟩ (lk_k ⟨lu_f x0, trivial⟩) (fun q hq => nomatch hq)
set_option maxRecDepth 1000000 in
/-- BarberMinutes.odds -/
theorem lk_144 {M : cm_M} (hM : ab_ok hp hN M) (x0 x1 : Int32) (h1 : 0 ≤ x1.toInt ∧ x1.toInt ≤ 1) : cm_Call cm_ms 30 144 [.ref 0, .int x0, .int x1] M (lp_P 1 M) := lk_ok ck_277 (by decide) (by decide +kernel) hM (ρ := [x0, x1]) ⟨⟨0, List.mem_cons_self, rfl⟩, ⟨x0, rfl, rfl⟩, ⟨x1, rfl, rfl⟩, trivial⟩ (lk_k ⟨lu_f x0, ⟨rfl, h1⟩, trivial⟩) (fun q hq => nomatch hq)
set_option maxRecDepth 1000000 in
/-- BarberMinutes.mean -/
theorem lk_145 {M : cm_M} (hM : ab_ok hp hN M) (x0 x1 : Int32) (h1 : 0 ≤ x1.toInt ∧ x1.toInt ≤ 1) : cm_Call cm_ms 30 145 [.ref 0, .int x0, .int x1] M (lp_P 1 M) := lk_ok ck_278 (by decide) (by decide +kernel) hM (ρ := [x0, x1]) ⟨⟨0, List.mem_cons_self, rfl⟩, ⟨x0, rfl, rfl⟩, ⟨x1, rfl, rfl⟩, trivial⟩ (lk_k ⟨lu_f x0, ⟨rfl, h1⟩, trivial⟩) (fun q hq => nomatch hq)
set_option maxRecDepth 1000000 in
/-- BarberMinutes.shaves -/
theorem lk_146 {M : cm_M} (hM : ab_ok hp hN M) (x0 x1 x2 : Int32) : cm_Call cm_ms 30 146 [.ref 0, .int x0, .int x1, .int x2] M (lp_P 0 M) := lk_ok ck_279 (by decide) (by decide +kernel) hM (ρ := [x0, x1, x2]) ⟨⟨0, List.mem_cons_self, rfl⟩, ⟨x0, rfl, rfl⟩, ⟨x1, rfl, rfl⟩, ⟨x2, rfl, rfl⟩, trivial⟩ (lk_k ⟨lu_f x0, lu_f x1, lu_f x2, trivial⟩) (fun q hq => nomatch hq)
set_option maxRecDepth 1000000 in
/-- BarberMinutes.carries -/
theorem lk_147 {M : cm_M} (hM : ab_ok hp hN M) (x0 x1 x2 : Int32) : cm_Call cm_ms 30 147 [.ref 0, .int x0, .int x1, .int x2] M (lp_P 0 M) := lk_ok ck_280 (by decide) (by decide +kernel) hM (ρ := [x0, x1, x2]) ⟨⟨0, List.mem_cons_self, rfl⟩, ⟨x0, rfl, rfl⟩, ⟨x1, rfl, rfl⟩, ⟨x2, rfl, rfl⟩, trivial⟩ (lk_k ⟨lu_f x0, lu_f x1, lu_f x2, trivial⟩) (fun q hq => nomatch hq)
set_option maxRecDepth 1000000 in
/-- BarberMinutes.put -/
theorem lk_149 {M : cm_M} (hM : ab_ok hp hN M) (x0 : Int32) : cm_Call cm_ms 30 149 [.ref 0, .int x0] M (lpa_P 0 M) := lka_ok ck_281 (by decide) (by decide +kernel) hM (ρ := [x0]) ⟨⟨0, List.mem_cons_self, rfl⟩, ⟨x0, rfl, rfl⟩, trivial⟩ (lk_k ⟨lu_f x0, trivial⟩) (fun q hq => nomatch hq)
set_option maxRecDepth 1000000 in
/-- BarberMinutes.week -/
theorem lk_150 {M : cm_M} (hM : ab_ok hp hN M) : cm_Call cm_ms 30 150 [.ref 0] M (lpa_P 0 M) := lka_ok ck_282 (by decide) (by decide +kernel) hM (ρ := []) ⟨⟨0, List.mem_cons_self, rfl⟩, trivial⟩ (lk_k trivial) (fun q hq => nomatch hq)
set_option maxRecDepth 1000000 in
/-- BarberMinutes.shave -/
theorem lk_151 {M : cm_M} (hM : ab_ok hp hN M) (x0 : Int32) : cm_Call cm_ms 30 151 [.ref 0, .int x0] M (lpa_P 0 M) := lka_ok ck_283 (by decide) (by decide +kernel) hM (ρ := [x0]) ⟨⟨0, List.mem_cons_self, rfl⟩, ⟨x0, rfl, rfl⟩, trivial⟩ (lk_k ⟨lu_f x0, trivial⟩) (fun q hq => nomatch hq)
set_option maxRecDepth 1000000 in
/-- BarberMinutes.undo -/
theorem lk_152 {M : cm_M} (hM : ab_ok hp hN M) : cm_Call cm_ms 30 152 [.ref 0] M (lpa_P 0 M) := lka_ok ck_284 (by decide) (by decide +kernel) hM (ρ := []) ⟨⟨0, List.mem_cons_self, rfl⟩, trivial⟩ (lk_k trivial) (fun q hq => nomatch hq)
set_option maxRecDepth 1000000 in
/-- BarberMinutes.image -/
theorem lk_153 {M : cm_M} (hM : ab_ok hp hN M) : cm_Call cm_ms 30 153 [.ref 0] M (lpa_P 0 M) := lka_ok ck_285 (by decide) (by decide +kernel) hM (ρ := []) ⟨⟨0, List.mem_cons_self, rfl⟩, trivial⟩ (lk_k trivial) (fun q hq => nomatch hq)
set_option maxRecDepth 1000000 in
/-- BarberMinutes.back -/
theorem lk_154 {M : cm_M} (hM : ab_ok hp hN M) (x0 : Int32) : cm_Call cm_ms 30 154 [.ref 0, .int x0] M (lpa_P 0 M) := lka_ok ck_286 (by decide) (by decide +kernel) hM (ρ := [x0]) ⟨⟨0, List.mem_cons_self, rfl⟩, ⟨x0, rfl, rfl⟩, trivial⟩ (lk_k ⟨lu_f x0, trivial⟩) (fun q hq => nomatch hq)
set_option maxRecDepth 1000000 in
/-- BarberMinutes.size -/
theorem lk_155 {M : cm_M} (hM : ab_ok hp hN M) (x0 : Int32) : cm_Call cm_ms 30 155 [.ref 0, .int x0] M (lp_P 0 M) := lk_ok ck_287 (by decide) (by decide +kernel) hM (ρ := [x0]) ⟨⟨0, List.mem_cons_self, rfl⟩, ⟨x0, rfl, rfl⟩, trivial⟩ (lk_k ⟨lu_f x0, trivial⟩) (fun q hq => nomatch hq)
set_option maxRecDepth 1000000 in
/-- BarberMinutes.trouble -/
theorem lk_156 {M : cm_M} (hM : ab_ok hp hN M) : cm_Call cm_ms 30 156 [.ref 0] M (lp_P 0 M) := lk_ok ck_288 (by decide) (by decide +kernel) hM (ρ := []) ⟨⟨0, List.mem_cons_self, rfl⟩, trivial⟩ (lk_k trivial) (fun q hq => nomatch hq)
set_option maxRecDepth 1000000 in
/-- BarberMinutesModel.fault -/
theorem lk_203 {M : cm_M} (hM : ab_ok hp hN M) : cm_Call cm_ms 30 203 [.ref 124] M (lp_P 0 M) := lk_ok ck_353 (by decide) (by decide +kernel) hM (ρ := []) ⟨⟨124, List.mem_cons_self, rfl⟩, trivial⟩ (lk_k trivial) (fun q hq => nomatch hq)
set_option maxRecDepth 1000000 in
/-- BarberMinutesModel.where -/
theorem lk_204 {M : cm_M} (hM : ab_ok hp hN M) : cm_Call cm_ms 30 204 [.ref 124] M (lp_P 0 M) := lk_ok ck_354 (by decide) (by decide +kernel) hM (ρ := []) ⟨⟨124, List.mem_cons_self, rfl⟩, trivial⟩ (lk_k trivial) (fun q hq => nomatch hq)
set_option maxRecDepth 1000000 in
/-- BarberMinutesModel.man -/
theorem lk_221 {M : cm_M} (hM : ab_ok hp hN M) (x0 x1 : Int32) : cm_Call cm_ms 30 221 [.ref 124, .int x0, .int x1] M (lp_P 0 M) := lk_ok ck_370 (by decide) (by decide +kernel) hM (ρ := [x0, x1]) ⟨⟨124, List.mem_cons_self, rfl⟩, ⟨x0, rfl, rfl⟩, ⟨x1, rfl, rfl⟩, trivial⟩ (lk_k ⟨lu_f x0, lu_f x1, trivial⟩) (fun q hq => nomatch hq)
set_option maxRecDepth 1000000 in
/-- BarberMinutesModel.motion -/
theorem lk_223 {M : cm_M} (hM : ab_ok hp hN M) (x0 x1 : Int32) : cm_Call cm_ms 30 223 [.ref 124, .int x0, .int x1] M (lp_P 0 M) := lk_ok ck_371 (by decide) (by decide +kernel) hM (ρ := [x0, x1]) ⟨⟨124, List.mem_cons_self, rfl⟩, ⟨x0, rfl, rfl⟩, ⟨x1, rfl, rfl⟩, trivial⟩ (lk_k ⟨lu_f x0, lu_f x1, trivial⟩) (fun q hq => nomatch hq)
set_option maxRecDepth 1000000 in
/-- BarberMinutesModel.floor -/
theorem lk_224 {M : cm_M} (hM : ab_ok hp hN M) (x0 : Int32) : cm_Call cm_ms 30 224 [.ref 124, .int x0] M (lp_P 0 M) := lk_ok ck_372 (by decide) (by decide +kernel) hM (ρ := [x0]) ⟨⟨124, List.mem_cons_self, rfl⟩, ⟨x0, rfl, rfl⟩, trivial⟩ (lk_k ⟨lu_f x0, trivial⟩) (fun q hq => nomatch hq)
set_option maxRecDepth 1000000 in
/-- BarberMinutesModel.bald -/
theorem lk_225 {M : cm_M} (hM : ab_ok hp hN M) : cm_Call cm_ms 30 225 [.ref 124] M (lp_P 0 M) := lk_ok ck_373 (by decide) (by decide +kernel) hM (ρ := []) ⟨⟨124, List.mem_cons_self, rfl⟩, trivial⟩ (lk_k trivial) (fun q hq => nomatch hq)
set_option maxRecDepth 1000000 in
/-- BarberMinutesModel.longest -/
theorem lk_226 {M : cm_M} (hM : ab_ok hp hN M) : cm_Call cm_ms 30 226 [.ref 124] M (lp_P 0 M) := lk_ok ck_374 (by decide) (by decide +kernel) hM (ρ := []) ⟨⟨124, List.mem_cons_self, rfl⟩, trivial⟩ (lk_k trivial) (fun q hq => nomatch hq)
set_option maxRecDepth 1000000 in
/-- BarberMinutesModel.ready -/
theorem lk_227 {M : cm_M} (hM : ab_ok hp hN M) : cm_Call cm_ms 30 227 [.ref 124] M (lp_P 0 M) := lk_ok ck_375 (by decide) (by decide +kernel) hM (ρ := []) ⟨⟨124, List.mem_cons_self, rfl⟩, trivial⟩ (lk_k trivial) (fun q hq => nomatch hq)
set_option maxRecDepth 1000000 in
/-- BarberMinutesModel.quorum -/
theorem lk_229 {M : cm_M} (hM : ab_ok hp hN M) : cm_Call cm_ms 30 229 [.ref 124] M (lp_P 0 M) := lk_ok ck_377 (by decide) (by decide +kernel) hM (ρ := []) ⟨⟨124, List.mem_cons_self, rfl⟩, trivial⟩ (lk_k trivial) (fun q hq => nomatch hq)
set_option maxRecDepth 1000000 in
/-- BarberMinutesModel.behind -/
theorem lk_230 {M : cm_M} (hM : ab_ok hp hN M) (x0 : Int32) : cm_Call cm_ms 30 230 [.ref 124, .int x0] M (lp_P 0 M) := lk_ok ck_378 (by decide) (by decide +kernel) hM (ρ := [x0]) ⟨⟨124, List.mem_cons_self, rfl⟩, ⟨x0, rfl, rfl⟩, trivial⟩ (lk_k ⟨lu_f x0, trivial⟩) (fun q hq => nomatch hq)
set_option maxRecDepth 1000000 in
/-- BarberMinutesModel.depth -/
theorem lk_232 {M : cm_M} (hM : ab_ok hp hN M) (x0 : Int32) : cm_Call cm_ms 30 232 [.ref 124, .int x0] M (lp_P 0 M) := lk_ok ck_384 (by decide) (by decide +kernel) hM (ρ := [x0]) ⟨⟨124, List.mem_cons_self, rfl⟩, ⟨x0, rfl, rfl⟩, trivial⟩ (lk_k ⟨lu_f x0, trivial⟩) (fun q hq => nomatch hq)
set_option maxRecDepth 1000000 in
/-- BarberMinutesModel.longIn -/
theorem lk_234 {M : cm_M} (hM : ab_ok hp hN M) (x0 x1 : Int32) : cm_Call cm_ms 30 234 [.ref 124, .int x0, .int x1] M (lp_P 0 M) := lk_ok ck_385 (by decide) (by decide +kernel) hM (ρ := [x0, x1]) ⟨⟨124, List.mem_cons_self, rfl⟩, ⟨x0, rfl, rfl⟩, ⟨x1, rfl, rfl⟩, trivial⟩ (lk_k ⟨lu_f x0, lu_f x1, trivial⟩) (fun q hq => nomatch hq)
set_option maxRecDepth 1000000 in
/-- BarberMinutesModel.yesIn -/
theorem lk_235 {M : cm_M} (hM : ab_ok hp hN M) (x0 x1 : Int32) : cm_Call cm_ms 30 235 [.ref 124, .int x0, .int x1] M (lp_P 0 M) := lk_ok ck_386 (by decide) (by decide +kernel) hM (ρ := [x0, x1]) ⟨⟨124, List.mem_cons_self, rfl⟩, ⟨x0, rfl, rfl⟩, ⟨x1, rfl, rfl⟩, trivial⟩ (lk_k ⟨lu_f x0, lu_f x1, trivial⟩) (fun q hq => nomatch hq)
set_option maxRecDepth 1000000 in
/-- BarberMinutesModel.carryIn -/
theorem lk_237 {M : cm_M} (hM : ab_ok hp hN M) (x0 : Int32) : cm_Call cm_ms 30 237 [.ref 124, .int x0] M (lp_P 0 M) := lk_ok ck_388 (by decide) (by decide +kernel) hM (ρ := [x0]) ⟨⟨124, List.mem_cons_self, rfl⟩, ⟨x0, rfl, rfl⟩, trivial⟩ (lk_k ⟨lu_f x0, trivial⟩) (fun q hq => nomatch hq)
set_option maxRecDepth 1000000 in
/-- BarberMinutesModel.hairyIn -/
theorem lk_238 {M : cm_M} (hM : ab_ok hp hN M) : cm_Call cm_ms 30 238 [.ref 124] M (lp_P 0 M) := lk_ok ck_389 (by decide) (by decide +kernel) hM (ρ := []) ⟨⟨124, List.mem_cons_self, rfl⟩, trivial⟩ (lk_k trivial) (fun q hq => nomatch hq)
set_option maxRecDepth 1000000 in
/-- BarberMinutesModel.soonest -/
theorem lk_239 {M : cm_M} (hM : ab_ok hp hN M) : cm_Call cm_ms 30 239 [.ref 124] M (lp_P 0 M) := lk_ok ck_390 (by decide) (by decide +kernel) hM (ρ := []) ⟨⟨124, List.mem_cons_self, rfl⟩, trivial⟩ (lk_k trivial) (fun q hq => nomatch hq)
set_option maxRecDepth 1000000 in
/-- BarberMinutesModel.worthOf -/
theorem lk_242 {M : cm_M} (hM : ab_ok hp hN M) (x0 x1 : Int32) : cm_Call cm_ms 30 242 [.ref 124, .int x0, .int x1] M (lp_P 0 M) := lk_ok ck_392 (by decide) (by decide +kernel) hM (ρ := [x0, x1]) ⟨⟨124, List.mem_cons_self, rfl⟩, ⟨x0, rfl, rfl⟩, ⟨x1, rfl, rfl⟩, trivial⟩ (lk_k ⟨lu_f x0, lu_f x1, trivial⟩) (fun q hq => nomatch hq)
set_option maxRecDepth 1000000 in
/-- BarberMinutesModel.bestRow -/
theorem lk_245 {M : cm_M} (hM : ab_ok hp hN M) (x0 : Int32) : cm_Call cm_ms 30 245 [.ref 124, .int x0] M (lp_P 0 M) := lk_ok ck_395 (by decide) (by decide +kernel) hM (ρ := [x0]) ⟨⟨124, List.mem_cons_self, rfl⟩, ⟨x0, rfl, rfl⟩, trivial⟩ (lk_k ⟨lu_f x0, trivial⟩) (fun q hq => nomatch hq)
set_option maxRecDepth 1000000 in
/-- BarberMinutesModel.bestWorth -/
theorem lk_246 {M : cm_M} (hM : ab_ok hp hN M) (x0 : Int32) : cm_Call cm_ms 30 246 [.ref 124, .int x0] M (lp_P 0 M) := lk_ok ck_396 (by decide) (by decide +kernel) hM (ρ := [x0]) ⟨⟨124, List.mem_cons_self, rfl⟩, ⟨x0, rfl, rfl⟩, trivial⟩ (lk_k ⟨lu_f x0, trivial⟩) (fun q hq => nomatch hq)
set_option maxRecDepth 1000000 in
/-- BarberMinutesModel.bestCarried -/
theorem lk_247 {M : cm_M} (hM : ab_ok hp hN M) (x0 : Int32) : cm_Call cm_ms 30 247 [.ref 124, .int x0] M (lp_P 0 M) := lk_ok ck_397 (by decide) (by decide +kernel) hM (ρ := [x0]) ⟨⟨124, List.mem_cons_self, rfl⟩, ⟨x0, rfl, rfl⟩, trivial⟩ (lk_k ⟨lu_f x0, trivial⟩) (fun q hq => nomatch hq)
set_option maxRecDepth 1000000 in
/-- BarberMinutesModel.weeksFor -/
theorem lk_248 {M : cm_M} (hM : ab_ok hp hN M) (x0 : Int32) : cm_Call cm_ms 30 248 [.ref 124, .int x0] M (lp_P 0 M) := lk_ok ck_398 (by decide) (by decide +kernel) hM (ρ := [x0]) ⟨⟨124, List.mem_cons_self, rfl⟩, ⟨x0, rfl, rfl⟩, trivial⟩ (lk_k ⟨lu_f x0, trivial⟩) (fun q hq => nomatch hq)
set_option maxRecDepth 1000000 in
/-- BarberMinutesModel.swings -/
theorem lk_250 {M : cm_M} (hM : ab_ok hp hN M) (x0 x1 : Int32) : cm_Call cm_ms 30 250 [.ref 124, .int x0, .int x1] M (lp_P 0 M) := lk_ok ck_400 (by decide) (by decide +kernel) hM (ρ := [x0, x1]) ⟨⟨124, List.mem_cons_self, rfl⟩, ⟨x0, rfl, rfl⟩, ⟨x1, rfl, rfl⟩, trivial⟩ (lk_k ⟨lu_f x0, lu_f x1, trivial⟩) (fun q hq => nomatch hq)
set_option maxRecDepth 1000000 in
/-- BarberMinutesModel.mighty -/
theorem lk_251 {M : cm_M} (hM : ab_ok hp hN M) (x0 : Int32) : cm_Call cm_ms 30 251 [.ref 124, .int x0] M (lp_P 0 M) := lk_ok ck_401 (by decide) (by decide +kernel) hM (ρ := [x0]) ⟨⟨124, List.mem_cons_self, rfl⟩, ⟨x0, rfl, rfl⟩, trivial⟩ (lk_k ⟨lu_f x0, trivial⟩) (fun q hq => nomatch hq)
set_option maxRecDepth 1000000 in
/-- BarberMinutesModel.outvoted -/
theorem lk_252 {M : cm_M} (hM : ab_ok hp hN M) (x0 : Int32) : cm_Call cm_ms 30 252 [.ref 124, .int x0] M (lp_P 0 M) := lk_ok ck_402 (by decide) (by decide +kernel) hM (ρ := [x0]) ⟨⟨124, List.mem_cons_self, rfl⟩, ⟨x0, rfl, rfl⟩, trivial⟩ (lk_k ⟨lu_f x0, trivial⟩) (fun q hq => nomatch hq)
set_option maxRecDepth 1000000 in
/-- BarberMinutesModel.bench -/
theorem lk_253 {M : cm_M} (hM : ab_ok hp hN M) (x0 : Int32) : cm_Call cm_ms 30 253 [.ref 124, .int x0] M (lp_P 0 M) := lk_ok ck_403 (by decide) (by decide +kernel) hM (ρ := [x0]) ⟨⟨124, List.mem_cons_self, rfl⟩, ⟨x0, rfl, rfl⟩, trivial⟩ (lk_k ⟨lu_f x0, trivial⟩) (fun q hq => nomatch hq)
set_option maxRecDepth 1000000 in
/-- BarberMinutesModel.parting -/
theorem lk_256 {M : cm_M} (hM : ab_ok hp hN M) : cm_Call cm_ms 30 256 [.ref 124] M (lp_P 0 M) := lk_ok ck_406 (by decide) (by decide +kernel) hM (ρ := []) ⟨⟨124, List.mem_cons_self, rfl⟩, trivial⟩ (lk_k trivial) (fun q hq => nomatch hq)
set_option maxRecDepth 1000000 in
/-- BarberMinutesModel.left -/
theorem lk_257 {M : cm_M} (hM : ab_ok hp hN M) : cm_Call cm_ms 30 257 [.ref 124] M (lp_P 0 M) := lk_ok ck_407 (by decide) (by decide +kernel) hM (ρ := []) ⟨⟨124, List.mem_cons_self, rfl⟩, trivial⟩ (lk_k trivial) (fun q hq => nomatch hq)
set_option maxRecDepth 1000000 in
/-- BarberMinutesModel.peace -/
theorem lk_258 {M : cm_M} (hM : ab_ok hp hN M) : cm_Call cm_ms 30 258 [.ref 124] M (lp_P 0 M) := lk_ok ck_408 (by decide) (by decide +kernel) hM (ρ := []) ⟨⟨124, List.mem_cons_self, rfl⟩, trivial⟩ (lk_k trivial) (fun q hq => nomatch hq)
set_option maxRecDepth 1000000 in
/-- BarberMinutesModel.apart -/
theorem lk_260 {M : cm_M} (hM : ab_ok hp hN M) (x0 x1 : Int32) : cm_Call cm_ms 30 260 [.ref 124, .int x0, .int x1] M (lp_P 0 M) := lk_ok ck_410 (by decide) (by decide +kernel) hM (ρ := [x0, x1]) ⟨⟨124, List.mem_cons_self, rfl⟩, ⟨x0, rfl, rfl⟩, ⟨x1, rfl, rfl⟩, trivial⟩ (lk_k ⟨lu_f x0, lu_f x1, trivial⟩) (fun q hq => nomatch hq)
set_option maxRecDepth 1000000 in
/-- BarberMinutesModel.round -/
theorem lk_263 {M : cm_M} (hM : ab_ok hp hN M) : cm_Call cm_ms 30 263 [.ref 124] M (lp_P 0 M) := by
  rcases lu_127 hM with h | h | h | h | h | h
  · exact lk_ok ck_431 (by decide) (by decide +kernel) hM (ρ := []) ⟨⟨124, List.mem_cons_self, rfl⟩, trivial⟩ (lk_k trivial) (fun q hq => by rw [List.mem_singleton.mp hq]; exact congrArg some h.symm)
  · exact lk_ok ck_432 (by decide) (by decide +kernel) hM (ρ := []) ⟨⟨124, List.mem_cons_self, rfl⟩, trivial⟩ (lk_k trivial) (fun q hq => by rw [List.mem_singleton.mp hq]; exact congrArg some h.symm)
  · exact lk_ok ck_433 (by decide) (by decide +kernel) hM (ρ := []) ⟨⟨124, List.mem_cons_self, rfl⟩, trivial⟩ (lk_k trivial) (fun q hq => by rw [List.mem_singleton.mp hq]; exact congrArg some h.symm)
  · exact lk_ok ck_434 (by decide) (by decide +kernel) hM (ρ := []) ⟨⟨124, List.mem_cons_self, rfl⟩, trivial⟩ (lk_k trivial) (fun q hq => by rw [List.mem_singleton.mp hq]; exact congrArg some h.symm)
  · exact lk_ok ck_435 (by decide) (by decide +kernel) hM (ρ := []) ⟨⟨124, List.mem_cons_self, rfl⟩, trivial⟩ (lk_k trivial) (fun q hq => by rw [List.mem_singleton.mp hq]; exact congrArg some h.symm)
  · exact lk_ok ck_436 (by decide) (by decide +kernel) hM (ρ := []) ⟨⟨124, List.mem_cons_self, rfl⟩, trivial⟩ (lk_k trivial) (fun q hq => by rw [List.mem_singleton.mp hq]; exact congrArg some h.symm)
set_option maxRecDepth 1000000 in
/-- BarberMinutesModel.roundAt -/
theorem lk_264 {M : cm_M} (hM : ab_ok hp hN M) (x0 : Int32) : cm_Call cm_ms 30 264 [.ref 124, .int x0] M (lp_P 0 M) := by
  rcases lu_127 hM with h | h | h | h | h | h
  · exact lk_ok ck_437 (by decide) (by decide +kernel) hM (ρ := [x0]) ⟨⟨124, List.mem_cons_self, rfl⟩, ⟨x0, rfl, rfl⟩, trivial⟩ (lk_k ⟨lu_f x0, trivial⟩) (fun q hq => by rw [List.mem_singleton.mp hq]; exact congrArg some h.symm)
  · exact lk_ok ck_438 (by decide) (by decide +kernel) hM (ρ := [x0]) ⟨⟨124, List.mem_cons_self, rfl⟩, ⟨x0, rfl, rfl⟩, trivial⟩ (lk_k ⟨lu_f x0, trivial⟩) (fun q hq => by rw [List.mem_singleton.mp hq]; exact congrArg some h.symm)
  · exact lk_ok ck_439 (by decide) (by decide +kernel) hM (ρ := [x0]) ⟨⟨124, List.mem_cons_self, rfl⟩, ⟨x0, rfl, rfl⟩, trivial⟩ (lk_k ⟨lu_f x0, trivial⟩) (fun q hq => by rw [List.mem_singleton.mp hq]; exact congrArg some h.symm)
  · exact lk_ok ck_440 (by decide) (by decide +kernel) hM (ρ := [x0]) ⟨⟨124, List.mem_cons_self, rfl⟩, ⟨x0, rfl, rfl⟩, trivial⟩ (lk_k ⟨lu_f x0, trivial⟩) (fun q hq => by rw [List.mem_singleton.mp hq]; exact congrArg some h.symm)
  · exact lk_ok ck_441 (by decide) (by decide +kernel) hM (ρ := [x0]) ⟨⟨124, List.mem_cons_self, rfl⟩, ⟨x0, rfl, rfl⟩, trivial⟩ (lk_k ⟨lu_f x0, trivial⟩) (fun q hq => by rw [List.mem_singleton.mp hq]; exact congrArg some h.symm)
  · exact lk_ok ck_442 (by decide) (by decide +kernel) hM (ρ := [x0]) ⟨⟨124, List.mem_cons_self, rfl⟩, ⟨x0, rfl, rfl⟩, trivial⟩ (lk_k ⟨lu_f x0, trivial⟩) (fun q hq => by rw [List.mem_singleton.mp hq]; exact congrArg some h.symm)
set_option maxRecDepth 1000000 in
/-- BarberMinutesModel.fits -/
theorem lk_267 {M : cm_M} (hM : ab_ok hp hN M) : cm_Call cm_ms 30 267 [.ref 124] M (lp_P 0 M) := lk_ok ck_445 (by decide) (by decide +kernel) hM (ρ := []) ⟨⟨124, List.mem_cons_self, rfl⟩, trivial⟩ (lk_k trivial) (fun q hq => nomatch hq)
set_option maxRecDepth 1000000 in
/-- BarberMinutesModel.fitAt -/
theorem lk_268 {M : cm_M} (hM : ab_ok hp hN M) (x0 : Int32) : cm_Call cm_ms 30 268 [.ref 124, .int x0] M (lp_P 0 M) := lk_ok ck_446 (by decide) (by decide +kernel) hM (ρ := [x0]) ⟨⟨124, List.mem_cons_self, rfl⟩, ⟨x0, rfl, rfl⟩, trivial⟩ (lk_k ⟨lu_f x0, trivial⟩) (fun q hq => nomatch hq)
set_option maxRecDepth 1000000 in
/-- BarberMinutesModel.could -/
theorem lk_269 {M : cm_M} (hM : ab_ok hp hN M) : cm_Call cm_ms 30 269 [.ref 124] M (lp_P 0 M) := lk_ok ck_447 (by decide) (by decide +kernel) hM (ρ := []) ⟨⟨124, List.mem_cons_self, rfl⟩, trivial⟩ (lk_k trivial) (fun q hq => nomatch hq)
set_option maxRecDepth 1000000 in
/-- BarberMinutesModel.surely -/
theorem lk_270 {M : cm_M} (hM : ab_ok hp hN M) : cm_Call cm_ms 30 270 [.ref 124] M (lp_P 0 M) := lk_ok ck_448 (by decide) (by decide +kernel) hM (ρ := []) ⟨⟨124, List.mem_cons_self, rfl⟩, trivial⟩ (lk_k trivial) (fun q hq => nomatch hq)
set_option maxRecDepth 1000000 in
/-- BarberMinutesModel.ask -/
theorem lk_273 {M : cm_M} (hM : ab_ok hp hN M) : cm_Call cm_ms 30 273 [.ref 124] M (lp_P 0 M) := lk_ok ck_451 (by decide) (by decide +kernel) hM (ρ := []) ⟨⟨124, List.mem_cons_self, rfl⟩, trivial⟩ (lk_k trivial) (fun q hq => nomatch hq)
set_option maxRecDepth 1000000 in
/-- BarberMinutesModel.askLeaves -/
theorem lk_274 {M : cm_M} (hM : ab_ok hp hN M) : cm_Call cm_ms 30 274 [.ref 124] M (lp_P 0 M) := lk_ok ck_452 (by decide) (by decide +kernel) hM (ρ := []) ⟨⟨124, List.mem_cons_self, rfl⟩, trivial⟩ (lk_k trivial) (fun q hq => nomatch hq)
set_option maxRecDepth 1000000 in
/-- BarberMinutesModel.talk -/
theorem lk_276 {M : cm_M} (hM : ab_ok hp hN M) (x0 x1 x2 x3 : Int32) (h1 : 0 ≤ x1.toInt ∧ x1.toInt ≤ 1) (h2 : 0 ≤ x2.toInt ∧ x2.toInt ≤ 1) (h3 : 0 ≤ x3.toInt ∧ x3.toInt ≤ 1) : cm_Call cm_ms 30 276 [.ref 124, .int x0, .int x1, .int x2, .int x3] M (lp_P 0 M) := lk_ok ck_453 (by decide) (by decide +kernel) hM (ρ := [x0, x1, x2, x3]) ⟨⟨124, List.mem_cons_self, rfl⟩, ⟨x0, rfl, rfl⟩, ⟨x1, rfl, rfl⟩, ⟨x2, rfl, rfl⟩, ⟨x3, rfl, rfl⟩, trivial⟩ (lk_k ⟨lu_f x0, ⟨rfl, h1⟩, ⟨rfl, h2⟩, ⟨rfl, h3⟩, trivial⟩) (fun q hq => nomatch hq)
set_option maxRecDepth 1000000 in
/-- BarberMinutesModel.rests -/
theorem lk_279 {M : cm_M} (hM : ab_ok hp hN M) (x0 : Int32) : cm_Call cm_ms 30 279 [.ref 124, .int x0] M (lp_P 0 M) := lk_ok ck_456 (by decide) (by decide +kernel) hM (ρ := [x0]) ⟨⟨124, List.mem_cons_self, rfl⟩, ⟨x0, rfl, rfl⟩, trivial⟩ (lk_k ⟨lu_f x0, trivial⟩) (fun q hq => nomatch hq)
set_option maxRecDepth 1000000 in
/-- BarberMinutesModel.rest -/
theorem lk_280 {M : cm_M} (hM : ab_ok hp hN M) (x0 : Int32) : cm_Call cm_ms 30 280 [.ref 124, .int x0] M (lp_P 0 M) := lk_ok ck_457 (by decide) (by decide +kernel) hM (ρ := [x0]) ⟨⟨124, List.mem_cons_self, rfl⟩, ⟨x0, rfl, rfl⟩, trivial⟩ (lk_k ⟨lu_f x0, trivial⟩) (fun q hq => nomatch hq)
set_option maxRecDepth 1000000 in
/-- BarberMinutesModel.odds -/
theorem lk_282 {M : cm_M} (hM : ab_ok hp hN M) (x0 x1 : Int32) (h1 : 0 ≤ x1.toInt ∧ x1.toInt ≤ 1) : cm_Call cm_ms 30 282 [.ref 124, .int x0, .int x1] M (lp_P 1 M) := lk_ok ck_458 (by decide) (by decide +kernel) hM (ρ := [x0, x1]) ⟨⟨124, List.mem_cons_self, rfl⟩, ⟨x0, rfl, rfl⟩, ⟨x1, rfl, rfl⟩, trivial⟩ (lk_k ⟨lu_f x0, ⟨rfl, h1⟩, trivial⟩) (fun q hq => nomatch hq)
set_option maxRecDepth 1000000 in
/-- BarberMinutesModel.mean -/
theorem lk_283 {M : cm_M} (hM : ab_ok hp hN M) (x0 x1 : Int32) (h1 : 0 ≤ x1.toInt ∧ x1.toInt ≤ 1) : cm_Call cm_ms 30 283 [.ref 124, .int x0, .int x1] M (lp_P 1 M) := lk_ok ck_459 (by decide) (by decide +kernel) hM (ρ := [x0, x1]) ⟨⟨124, List.mem_cons_self, rfl⟩, ⟨x0, rfl, rfl⟩, ⟨x1, rfl, rfl⟩, trivial⟩ (lk_k ⟨lu_f x0, ⟨rfl, h1⟩, trivial⟩) (fun q hq => nomatch hq)
set_option maxRecDepth 1000000 in
/-- BarberMinutesModel.shaves -/
theorem lk_285 {M : cm_M} (hM : ab_ok hp hN M) (x0 x1 x2 : Int32) : cm_Call cm_ms 30 285 [.ref 124, .int x0, .int x1, .int x2] M (lp_P 0 M) := lk_ok ck_462 (by decide) (by decide +kernel) hM (ρ := [x0, x1, x2]) ⟨⟨124, List.mem_cons_self, rfl⟩, ⟨x0, rfl, rfl⟩, ⟨x1, rfl, rfl⟩, ⟨x2, rfl, rfl⟩, trivial⟩ (lk_k ⟨lu_f x0, lu_f x1, lu_f x2, trivial⟩) (fun q hq => nomatch hq)
set_option maxRecDepth 1000000 in
/-- BarberMinutesModel.carries -/
theorem lk_286 {M : cm_M} (hM : ab_ok hp hN M) (x0 x1 x2 : Int32) : cm_Call cm_ms 30 286 [.ref 124, .int x0, .int x1, .int x2] M (lp_P 0 M) := lk_ok ck_463 (by decide) (by decide +kernel) hM (ρ := [x0, x1, x2]) ⟨⟨124, List.mem_cons_self, rfl⟩, ⟨x0, rfl, rfl⟩, ⟨x1, rfl, rfl⟩, ⟨x2, rfl, rfl⟩, trivial⟩ (lk_k ⟨lu_f x0, lu_f x1, lu_f x2, trivial⟩) (fun q hq => nomatch hq)
set_option maxRecDepth 1000000 in
/-- BarberMinutesModel.put -/
theorem lk_288 {M : cm_M} (hM : ab_ok hp hN M) (x0 : Int32) : cm_Call cm_ms 30 288 [.ref 124, .int x0] M (lpa_P 0 M) := lka_ok ck_465 (by decide) (by decide +kernel) hM (ρ := [x0]) ⟨⟨124, List.mem_cons_self, rfl⟩, ⟨x0, rfl, rfl⟩, trivial⟩ (lk_k ⟨lu_f x0, trivial⟩) (fun q hq => nomatch hq)
set_option maxRecDepth 1000000 in
/-- BarberMinutesModel.week -/
theorem lk_289 {M : cm_M} (hM : ab_ok hp hN M) : cm_Call cm_ms 30 289 [.ref 124] M (lpa_P 0 M) := lka_ok ck_466 (by decide) (by decide +kernel) hM (ρ := []) ⟨⟨124, List.mem_cons_self, rfl⟩, trivial⟩ (lk_k trivial) (fun q hq => nomatch hq)
set_option maxRecDepth 1000000 in
/-- BarberMinutesModel.shave -/
theorem lk_290 {M : cm_M} (hM : ab_ok hp hN M) (x0 : Int32) : cm_Call cm_ms 30 290 [.ref 124, .int x0] M (lpa_P 0 M) := lka_ok ck_467 (by decide) (by decide +kernel) hM (ρ := [x0]) ⟨⟨124, List.mem_cons_self, rfl⟩, ⟨x0, rfl, rfl⟩, trivial⟩ (lk_k ⟨lu_f x0, trivial⟩) (fun q hq => nomatch hq)
set_option maxRecDepth 1000000 in
/-- BarberMinutesModel.undo -/
theorem lk_291 {M : cm_M} (hM : ab_ok hp hN M) : cm_Call cm_ms 30 291 [.ref 124] M (lpa_P 0 M) := lka_ok ck_468 (by decide) (by decide +kernel) hM (ρ := []) ⟨⟨124, List.mem_cons_self, rfl⟩, trivial⟩ (lk_k trivial) (fun q hq => nomatch hq)
set_option maxRecDepth 1000000 in
/-- BarberMinutesModel.image -/
theorem lk_292 {M : cm_M} (hM : ab_ok hp hN M) : cm_Call cm_ms 30 292 [.ref 124] M (lpa_P 0 M) := lka_ok ck_469 (by decide) (by decide +kernel) hM (ρ := []) ⟨⟨124, List.mem_cons_self, rfl⟩, trivial⟩ (lk_k trivial) (fun q hq => nomatch hq)
set_option maxRecDepth 1000000 in
/-- BarberMinutesModel.back -/
theorem lk_293 {M : cm_M} (hM : ab_ok hp hN M) (x0 : Int32) : cm_Call cm_ms 30 293 [.ref 124, .int x0] M (lpa_P 0 M) := lka_ok ck_470 (by decide) (by decide +kernel) hM (ρ := [x0]) ⟨⟨124, List.mem_cons_self, rfl⟩, ⟨x0, rfl, rfl⟩, trivial⟩ (lk_k ⟨lu_f x0, trivial⟩) (fun q hq => nomatch hq)
set_option maxRecDepth 1000000 in
/-- BarberMinutesModel.led -/
theorem lk_294 {M : cm_M} (hM : ab_ok hp hN M) (x0 : Int32) : cm_Call cm_ms 30 294 [.ref 124, .int x0] M (lp_P 0 M) := lk_ok ck_471 (by decide) (by decide +kernel) hM (ρ := [x0]) ⟨⟨124, List.mem_cons_self, rfl⟩, ⟨x0, rfl, rfl⟩, trivial⟩ (lk_k ⟨lu_f x0, trivial⟩) (fun q hq => nomatch hq)
set_option maxRecDepth 1000000 in
/-- BarberMinutesModel.size -/
theorem lk_295 {M : cm_M} (hM : ab_ok hp hN M) (x0 : Int32) : cm_Call cm_ms 30 295 [.ref 124, .int x0] M (lp_P 0 M) := lk_ok ck_472 (by decide) (by decide +kernel) hM (ρ := [x0]) ⟨⟨124, List.mem_cons_self, rfl⟩, ⟨x0, rfl, rfl⟩, trivial⟩ (lk_k ⟨lu_f x0, trivial⟩) (fun q hq => nomatch hq)
set_option maxRecDepth 1000000 in
/-- BarberMinutesModel.trouble -/
theorem lk_296 {M : cm_M} (hM : ab_ok hp hN M) : cm_Call cm_ms 30 296 [.ref 124] M (lp_P 0 M) := lk_ok ck_473 (by decide) (by decide +kernel) hM (ρ := []) ⟨⟨124, List.mem_cons_self, rfl⟩, trivial⟩ (lk_k trivial) (fun q hq => nomatch hq)
noncomputable abbrev lawP : ev_P := (0, 0, false, "BarberMinutesLaw", 7, 0)
noncomputable def lu_h : List (Nat × ev_Row) := [(23, 4, 4, 0, 0, []), (25, 9, 0, 0, 0, []), (26, 64, 0, 0, 0, []), (27, 1, 6, 0, 0, []), (29, 17, 0, 0, 0, []), (30, 39, 1699, 0, 0, []), (33, 9, 0, 0, 0, []), (34, 4, 4, 0, 0, []), (36, 65, 0, 0, 0, []), (37, 1, 63, 0, 0, []), (39, 19, 0, 0, 0, []), (40, 48, 1683, 0, 54, [236, 236, 309, 334, 347, 360, 397, 434, 459, 472, 485, 498, 511, 536, 561, 598, 635, 660, 673, 686, 723, 748, 773, 798, 823, 860, 885, 910, 935, 948, 961, 974, 1011, 1024, 1049, 1062, 1087, 1100, 1113, 1126, 1139, 1248, 1273, 1298, 1352, 1405, 1454, 1503, 1528, 1541, 1566, 1579, 1592, 1617, 1645, 1670])]
set_option maxRecDepth 1000000 in
theorem lu_h_ok : ∀ q ∈ lu_h, cm_RowOK cm_ms lawP code q := fd_chkAll_ok (ps := [[], [], [], [], [], [], [], [], [], [], [], []]) (by decide +kernel)
noncomputable def lu_z : List (Nat × ev_Row) := [(1723, 34, 4, 6, 0, []), (1726, 47, (-1703), 0, 0, [])]
set_option maxRecDepth 1000000 in
theorem lu_z_ok : ∀ q ∈ lu_z, cm_RowOK cm_ms lawP code q := fd_chkAll_ok (ps := [[], []]) (by decide +kernel)
noncomputable def lu_y : List (Nat × ev_Row) := [(1729, 0, 1, 0, 0, []), (1730, 210, 0, 0, 0, [])]
set_option maxRecDepth 1000000 in
theorem lu_y_ok : ∀ q ∈ lu_y, cm_RowOK cm_ms lawP code q := fd_chkAll_ok (ps := [[], []]) (by decide +kernel)
noncomputable def lu_c0f : List (Nat × ev_Row) := [(276, 9, 1, 0, 0, []), (277, 9, 0, 0, 0, []), (278, 4, 4, 0, 0, []), (280, 0, 1, 0, 0, []), (281, 16, 0, 0, 0, []), (282, 65, 0, 0, 0, []), (283, 9, 0, 0, 0, []), (284, 4, 4, 0, 0, []), (286, 0, 2, 0, 0, []), (287, 16, 0, 0, 0, []), (288, 65, 0, 0, 0, []), (289, 9, 0, 0, 0, []), (290, 4, 4, 0, 0, []), (292, 0, 3, 0, 0, []), (293, 16, 0, 0, 0, []), (294, 65, 0, 0, 0, []), (295, 9, 0, 0, 0, []), (296, 4, 4, 0, 0, []), (298, 0, 4, 0, 0, []), (299, 16, 0, 0, 0, []), (300, 65, 0, 0, 0, []), (301, 9, 0, 0, 0, []), (302, 4, 4, 0, 0, []), (304, 0, 5, 0, 0, []), (305, 16, 0, 0, 0, []), (306, 65, 0, 0, 0, []), (307, 200, 93, 19, 5, []), (310, 32, 0, 0, 0, []), (311, 9, 2, 0, 0, []), (312, 9, 0, 0, 0, []), (313, 4, 4, 0, 0, []), (315, 0, 1, 0, 0, []), (316, 16, 0, 0, 0, []), (317, 65, 0, 0, 0, []), (318, 9, 0, 0, 0, []), (319, 4, 4, 0, 0, []), (321, 0, 2, 0, 0, []), (322, 16, 0, 0, 0, []), (323, 65, 0, 0, 0, []), (324, 9, 0, 0, 0, []), (325, 4, 4, 0, 0, []), (327, 0, 3, 0, 0, []), (328, 16, 0, 0, 0, []), (329, 65, 0, 0, 0, []), (330, 9, 0, 0, 0, []), (331, 4, 4, 0, 0, []), (333, 0, 4, 0, 0, []), (334, 16, 0, 0, 0, []), (335, 65, 0, 0, 0, []), (336, 9, 0, 0, 0, []), (337, 4, 4, 0, 0, []), (339, 0, 5, 0, 0, []), (340, 16, 0, 0, 0, []), (341, 65, 0, 0, 0, []), (342, 200, 172, 23, 5, []), (345, 32, 0, 0, 0, []), (346, 47, 1377, 0, 0, [])]
set_option maxRecDepth 1000000 in
theorem lu_c0f_ok : ∀ q ∈ lu_c0f, cm_RowOK cm_ms lawP code q := fd_chkAll_ok (ps := [[], [], [], [], [], [], [], [], [], [], [], [], [], [], [], [], [], [], [], [], [], [], [], [], [], [], [488, 489, 490, 116], [], [], [], [], [], [], [], [], [], [], [], [], [], [], [], [], [], [], [], [], [], [], [], [], [], [], [], [1409, 1410, 1411, 125], [], []]) (by decide +kernel)
noncomputable def lu_c1a : List (Nat × ev_Row) := [(349, 9, 1, 0, 0, []), (350, 9, 0, 0, 0, []), (351, 4, 4, 0, 0, []), (353, 0, 1, 0, 0, []), (354, 16, 0, 0, 0, []), (355, 65, 0, 0, 0, []), (356, 200, 95, 24, 1, []), (359, 32, 0, 0, 0, [])]
set_option maxRecDepth 1000000 in
theorem lu_c1a_ok : ∀ q ∈ lu_c1a, cm_RowOK cm_ms lawP code q := fd_chkAll_ok (ps := [[], [], [], [], [], [], [496, 497, 498, 116], []]) (by decide +kernel)
noncomputable def lu_c1b : List (Nat × ev_Row) := [(360, 9, 2, 0, 0, []), (361, 9, 0, 0, 0, []), (362, 4, 4, 0, 0, []), (364, 0, 1, 0, 0, []), (365, 16, 0, 0, 0, []), (366, 65, 0, 0, 0, []), (367, 200, 191, 27, 1, []), (370, 32, 0, 0, 0, []), (371, 47, 1352, 0, 0, [])]
set_option maxRecDepth 1000000 in
theorem lu_c1b_ok : ∀ q ∈ lu_c1b, cm_RowOK cm_ms lawP code q := fd_chkAll_ok (ps := [[], [], [], [], [], [], [1413, 1414, 1415, 125], [], []]) (by decide +kernel)
noncomputable def lu_c2a : List (Nat × ev_Row) := [(374, 9, 1, 0, 0, []), (375, 200, 96, 28, 0, []), (378, 32, 0, 0, 0, [])]
set_option maxRecDepth 1000000 in
theorem lu_c2a_ok : ∀ q ∈ lu_c2a, cm_RowOK cm_ms lawP code q := fd_chkAll_ok (ps := [[], [733, 734, 735, 116], []]) (by decide +kernel)
noncomputable def lu_c2b : List (Nat × ev_Row) := [(379, 9, 2, 0, 0, []), (380, 200, 203, 32, 0, []), (383, 32, 0, 0, 0, []), (384, 47, 1339, 0, 0, [])]
set_option maxRecDepth 1000000 in
theorem lu_c2b_ok : ∀ q ∈ lu_c2b, cm_RowOK cm_ms lawP code q := fd_chkAll_ok (ps := [[], [1570, 1571, 1572, 125], [], []]) (by decide +kernel)
noncomputable def lu_c3a : List (Nat × ev_Row) := [(387, 9, 1, 0, 0, []), (388, 200, 97, 33, 0, []), (391, 32, 0, 0, 0, [])]
set_option maxRecDepth 1000000 in
theorem lu_c3a_ok : ∀ q ∈ lu_c3a, cm_RowOK cm_ms lawP code q := fd_chkAll_ok (ps := [[], [737, 738, 739, 116], []]) (by decide +kernel)
noncomputable def lu_c3b : List (Nat × ev_Row) := [(392, 9, 2, 0, 0, []), (393, 200, 204, 36, 0, []), (396, 32, 0, 0, 0, []), (397, 47, 1326, 0, 0, [])]
set_option maxRecDepth 1000000 in
theorem lu_c3b_ok : ∀ q ∈ lu_c3b, cm_RowOK cm_ms lawP code q := fd_chkAll_ok (ps := [[], [1574, 1575, 1576, 125], [], []]) (by decide +kernel)
noncomputable def lu_c4a : List (Nat × ev_Row) := [(400, 9, 1, 0, 0, []), (401, 9, 0, 0, 0, []), (402, 4, 4, 0, 0, []), (404, 0, 1, 0, 0, []), (405, 16, 0, 0, 0, []), (406, 65, 0, 0, 0, []), (407, 9, 0, 0, 0, []), (408, 4, 4, 0, 0, []), (410, 0, 2, 0, 0, []), (411, 16, 0, 0, 0, []), (412, 65, 0, 0, 0, []), (413, 200, 98, 37, 2, []), (416, 32, 0, 0, 0, [])]
set_option maxRecDepth 1000000 in
theorem lu_c4a_ok : ∀ q ∈ lu_c4a, cm_RowOK cm_ms lawP code q := fd_chkAll_ok (ps := [[], [], [], [], [], [], [], [], [], [], [], [741, 742, 743, 116], []]) (by decide +kernel)
noncomputable def lu_c4b : List (Nat × ev_Row) := [(417, 9, 2, 0, 0, []), (418, 9, 0, 0, 0, []), (419, 4, 4, 0, 0, []), (421, 0, 1, 0, 0, []), (422, 16, 0, 0, 0, []), (423, 65, 0, 0, 0, []), (424, 9, 0, 0, 0, []), (425, 4, 4, 0, 0, []), (427, 0, 2, 0, 0, []), (428, 16, 0, 0, 0, []), (429, 65, 0, 0, 0, []), (430, 200, 221, 41, 2, []), (433, 32, 0, 0, 0, []), (434, 47, 1289, 0, 0, [])]
set_option maxRecDepth 1000000 in
theorem lu_c4b_ok : ∀ q ∈ lu_c4b, cm_RowOK cm_ms lawP code q := fd_chkAll_ok (ps := [[], [], [], [], [], [], [], [], [], [], [], [1578, 1579, 1580, 125], [], []]) (by decide +kernel)
noncomputable def lu_c5a : List (Nat × ev_Row) := [(437, 9, 1, 0, 0, []), (438, 9, 0, 0, 0, []), (439, 4, 4, 0, 0, []), (441, 0, 1, 0, 0, []), (442, 16, 0, 0, 0, []), (443, 65, 0, 0, 0, []), (444, 9, 0, 0, 0, []), (445, 4, 4, 0, 0, []), (447, 0, 2, 0, 0, []), (448, 16, 0, 0, 0, []), (449, 65, 0, 0, 0, []), (450, 200, 99, 42, 2, []), (453, 32, 0, 0, 0, [])]
set_option maxRecDepth 1000000 in
theorem lu_c5a_ok : ∀ q ∈ lu_c5a, cm_RowOK cm_ms lawP code q := fd_chkAll_ok (ps := [[], [], [], [], [], [], [], [], [], [], [], [761, 762, 763, 116], []]) (by decide +kernel)
noncomputable def lu_c5b : List (Nat × ev_Row) := [(454, 9, 2, 0, 0, []), (455, 9, 0, 0, 0, []), (456, 4, 4, 0, 0, []), (458, 0, 1, 0, 0, []), (459, 16, 0, 0, 0, []), (460, 65, 0, 0, 0, []), (461, 9, 0, 0, 0, []), (462, 4, 4, 0, 0, []), (464, 0, 2, 0, 0, []), (465, 16, 0, 0, 0, []), (466, 65, 0, 0, 0, []), (467, 200, 223, 45, 2, []), (470, 32, 0, 0, 0, []), (471, 47, 1252, 0, 0, [])]
set_option maxRecDepth 1000000 in
theorem lu_c5b_ok : ∀ q ∈ lu_c5b, cm_RowOK cm_ms lawP code q := fd_chkAll_ok (ps := [[], [], [], [], [], [], [], [], [], [], [], [1598, 1599, 1600, 125], [], []]) (by decide +kernel)
noncomputable def lu_c6a : List (Nat × ev_Row) := [(474, 9, 1, 0, 0, []), (475, 9, 0, 0, 0, []), (476, 4, 4, 0, 0, []), (478, 0, 1, 0, 0, []), (479, 16, 0, 0, 0, []), (480, 65, 0, 0, 0, []), (481, 200, 100, 46, 1, []), (484, 32, 0, 0, 0, [])]
set_option maxRecDepth 1000000 in
theorem lu_c6a_ok : ∀ q ∈ lu_c6a, cm_RowOK cm_ms lawP code q := fd_chkAll_ok (ps := [[], [], [], [], [], [], [791, 792, 793, 116], []]) (by decide +kernel)
noncomputable def lu_c6b : List (Nat × ev_Row) := [(485, 9, 2, 0, 0, []), (486, 9, 0, 0, 0, []), (487, 4, 4, 0, 0, []), (489, 0, 1, 0, 0, []), (490, 16, 0, 0, 0, []), (491, 65, 0, 0, 0, []), (492, 200, 224, 49, 1, []), (495, 32, 0, 0, 0, []), (496, 47, 1227, 0, 0, [])]
set_option maxRecDepth 1000000 in
theorem lu_c6b_ok : ∀ q ∈ lu_c6b, cm_RowOK cm_ms lawP code q := fd_chkAll_ok (ps := [[], [], [], [], [], [], [1622, 1623, 1624, 125], [], []]) (by decide +kernel)
noncomputable def lu_c7a : List (Nat × ev_Row) := [(499, 9, 1, 0, 0, []), (500, 200, 101, 50, 0, []), (503, 32, 0, 0, 0, [])]
set_option maxRecDepth 1000000 in
theorem lu_c7a_ok : ∀ q ∈ lu_c7a, cm_RowOK cm_ms lawP code q := fd_chkAll_ok (ps := [[], [799, 800, 801, 116], []]) (by decide +kernel)
noncomputable def lu_c7b : List (Nat × ev_Row) := [(504, 9, 2, 0, 0, []), (505, 200, 225, 53, 0, []), (508, 32, 0, 0, 0, []), (509, 47, 1214, 0, 0, [])]
set_option maxRecDepth 1000000 in
theorem lu_c7b_ok : ∀ q ∈ lu_c7b, cm_RowOK cm_ms lawP code q := fd_chkAll_ok (ps := [[], [1626, 1627, 1628, 125], [], []]) (by decide +kernel)
noncomputable def lu_c8a : List (Nat × ev_Row) := [(512, 9, 1, 0, 0, []), (513, 200, 102, 54, 0, []), (516, 32, 0, 0, 0, [])]
set_option maxRecDepth 1000000 in
theorem lu_c8a_ok : ∀ q ∈ lu_c8a, cm_RowOK cm_ms lawP code q := fd_chkAll_ok (ps := [[], [808, 809, 810, 116], []]) (by decide +kernel)
noncomputable def lu_c8b : List (Nat × ev_Row) := [(517, 9, 2, 0, 0, []), (518, 200, 226, 57, 0, []), (521, 32, 0, 0, 0, []), (522, 47, 1201, 0, 0, [])]
set_option maxRecDepth 1000000 in
theorem lu_c8b_ok : ∀ q ∈ lu_c8b, cm_RowOK cm_ms lawP code q := fd_chkAll_ok (ps := [[], [1634, 1635, 1636, 125], [], []]) (by decide +kernel)
noncomputable def lu_c9a : List (Nat × ev_Row) := [(525, 9, 1, 0, 0, []), (526, 200, 103, 58, 0, []), (529, 32, 0, 0, 0, [])]
set_option maxRecDepth 1000000 in
theorem lu_c9a_ok : ∀ q ∈ lu_c9a, cm_RowOK cm_ms lawP code q := fd_chkAll_ok (ps := [[], [812, 813, 814, 116], []]) (by decide +kernel)
noncomputable def lu_c9b : List (Nat × ev_Row) := [(530, 9, 2, 0, 0, []), (531, 200, 227, 61, 0, []), (534, 32, 0, 0, 0, []), (535, 47, 1188, 0, 0, [])]
set_option maxRecDepth 1000000 in
theorem lu_c9b_ok : ∀ q ∈ lu_c9b, cm_RowOK cm_ms lawP code q := fd_chkAll_ok (ps := [[], [1638, 1639, 1640, 125], [], []]) (by decide +kernel)
noncomputable def lu_c10a : List (Nat × ev_Row) := [(538, 9, 1, 0, 0, []), (539, 200, 104, 62, 0, []), (542, 32, 0, 0, 0, [])]
set_option maxRecDepth 1000000 in
theorem lu_c10a_ok : ∀ q ∈ lu_c10a, cm_RowOK cm_ms lawP code q := fd_chkAll_ok (ps := [[], [821, 822, 823, 116], []]) (by decide +kernel)
noncomputable def lu_c10b : List (Nat × ev_Row) := [(543, 9, 2, 0, 0, []), (544, 200, 229, 65, 0, []), (547, 32, 0, 0, 0, []), (548, 47, 1175, 0, 0, [])]
set_option maxRecDepth 1000000 in
theorem lu_c10b_ok : ∀ q ∈ lu_c10b, cm_RowOK cm_ms lawP code q := fd_chkAll_ok (ps := [[], [1646, 1647, 1648, 125], [], []]) (by decide +kernel)
noncomputable def lu_c11a : List (Nat × ev_Row) := [(551, 9, 1, 0, 0, []), (552, 9, 0, 0, 0, []), (553, 4, 4, 0, 0, []), (555, 0, 1, 0, 0, []), (556, 16, 0, 0, 0, []), (557, 65, 0, 0, 0, []), (558, 200, 105, 66, 1, []), (561, 32, 0, 0, 0, [])]
set_option maxRecDepth 1000000 in
theorem lu_c11a_ok : ∀ q ∈ lu_c11a, cm_RowOK cm_ms lawP code q := fd_chkAll_ok (ps := [[], [], [], [], [], [], [831, 832, 833, 116], []]) (by decide +kernel)
noncomputable def lu_c11b : List (Nat × ev_Row) := [(562, 9, 2, 0, 0, []), (563, 9, 0, 0, 0, []), (564, 4, 4, 0, 0, []), (566, 0, 1, 0, 0, []), (567, 16, 0, 0, 0, []), (568, 65, 0, 0, 0, []), (569, 200, 230, 69, 1, []), (572, 32, 0, 0, 0, []), (573, 47, 1150, 0, 0, [])]
set_option maxRecDepth 1000000 in
theorem lu_c11b_ok : ∀ q ∈ lu_c11b, cm_RowOK cm_ms lawP code q := fd_chkAll_ok (ps := [[], [], [], [], [], [], [1658, 1659, 1660, 125], [], []]) (by decide +kernel)
noncomputable def lu_c12a : List (Nat × ev_Row) := [(576, 9, 1, 0, 0, []), (577, 9, 0, 0, 0, []), (578, 4, 4, 0, 0, []), (580, 0, 1, 0, 0, []), (581, 16, 0, 0, 0, []), (582, 65, 0, 0, 0, []), (583, 200, 106, 70, 1, []), (586, 32, 0, 0, 0, [])]
set_option maxRecDepth 1000000 in
theorem lu_c12a_ok : ∀ q ∈ lu_c12a, cm_RowOK cm_ms lawP code q := fd_chkAll_ok (ps := [[], [], [], [], [], [], [839, 840, 841, 116], []]) (by decide +kernel)
noncomputable def lu_c12b : List (Nat × ev_Row) := [(587, 9, 2, 0, 0, []), (588, 9, 0, 0, 0, []), (589, 4, 4, 0, 0, []), (591, 0, 1, 0, 0, []), (592, 16, 0, 0, 0, []), (593, 65, 0, 0, 0, []), (594, 200, 232, 73, 1, []), (597, 32, 0, 0, 0, []), (598, 47, 1125, 0, 0, [])]
set_option maxRecDepth 1000000 in
theorem lu_c12b_ok : ∀ q ∈ lu_c12b, cm_RowOK cm_ms lawP code q := fd_chkAll_ok (ps := [[], [], [], [], [], [], [1662, 1663, 1664, 125], [], []]) (by decide +kernel)
noncomputable def lu_c13a : List (Nat × ev_Row) := [(601, 9, 1, 0, 0, []), (602, 9, 0, 0, 0, []), (603, 4, 4, 0, 0, []), (605, 0, 1, 0, 0, []), (606, 16, 0, 0, 0, []), (607, 65, 0, 0, 0, []), (608, 9, 0, 0, 0, []), (609, 4, 4, 0, 0, []), (611, 0, 2, 0, 0, []), (612, 16, 0, 0, 0, []), (613, 65, 0, 0, 0, []), (614, 200, 107, 74, 2, []), (617, 32, 0, 0, 0, [])]
set_option maxRecDepth 1000000 in
theorem lu_c13a_ok : ∀ q ∈ lu_c13a, cm_RowOK cm_ms lawP code q := fd_chkAll_ok (ps := [[], [], [], [], [], [], [], [], [], [], [], [847, 848, 849, 116], []]) (by decide +kernel)
noncomputable def lu_c13b : List (Nat × ev_Row) := [(618, 9, 2, 0, 0, []), (619, 9, 0, 0, 0, []), (620, 4, 4, 0, 0, []), (622, 0, 1, 0, 0, []), (623, 16, 0, 0, 0, []), (624, 65, 0, 0, 0, []), (625, 9, 0, 0, 0, []), (626, 4, 4, 0, 0, []), (628, 0, 2, 0, 0, []), (629, 16, 0, 0, 0, []), (630, 65, 0, 0, 0, []), (631, 200, 234, 77, 2, []), (634, 32, 0, 0, 0, []), (635, 47, 1088, 0, 0, [])]
set_option maxRecDepth 1000000 in
theorem lu_c13b_ok : ∀ q ∈ lu_c13b, cm_RowOK cm_ms lawP code q := fd_chkAll_ok (ps := [[], [], [], [], [], [], [], [], [], [], [], [1670, 1671, 1672, 125], [], []]) (by decide +kernel)
noncomputable def lu_c14a : List (Nat × ev_Row) := [(638, 9, 1, 0, 0, []), (639, 9, 0, 0, 0, []), (640, 4, 4, 0, 0, []), (642, 0, 1, 0, 0, []), (643, 16, 0, 0, 0, []), (644, 65, 0, 0, 0, []), (645, 9, 0, 0, 0, []), (646, 4, 4, 0, 0, []), (648, 0, 2, 0, 0, []), (649, 16, 0, 0, 0, []), (650, 65, 0, 0, 0, []), (651, 200, 108, 78, 2, []), (654, 32, 0, 0, 0, [])]
set_option maxRecDepth 1000000 in
theorem lu_c14a_ok : ∀ q ∈ lu_c14a, cm_RowOK cm_ms lawP code q := fd_chkAll_ok (ps := [[], [], [], [], [], [], [], [], [], [], [], [864, 865, 866, 116], []]) (by decide +kernel)
noncomputable def lu_c14b : List (Nat × ev_Row) := [(655, 9, 2, 0, 0, []), (656, 9, 0, 0, 0, []), (657, 4, 4, 0, 0, []), (659, 0, 1, 0, 0, []), (660, 16, 0, 0, 0, []), (661, 65, 0, 0, 0, []), (662, 9, 0, 0, 0, []), (663, 4, 4, 0, 0, []), (665, 0, 2, 0, 0, []), (666, 16, 0, 0, 0, []), (667, 65, 0, 0, 0, []), (668, 200, 235, 81, 2, []), (671, 32, 0, 0, 0, []), (672, 47, 1051, 0, 0, [])]
set_option maxRecDepth 1000000 in
theorem lu_c14b_ok : ∀ q ∈ lu_c14b, cm_RowOK cm_ms lawP code q := fd_chkAll_ok (ps := [[], [], [], [], [], [], [], [], [], [], [], [1686, 1687, 1688, 125], [], []]) (by decide +kernel)
noncomputable def lu_c15a : List (Nat × ev_Row) := [(675, 9, 1, 0, 0, []), (676, 9, 0, 0, 0, []), (677, 4, 4, 0, 0, []), (679, 0, 1, 0, 0, []), (680, 16, 0, 0, 0, []), (681, 65, 0, 0, 0, []), (682, 200, 109, 82, 1, []), (685, 32, 0, 0, 0, [])]
set_option maxRecDepth 1000000 in
theorem lu_c15a_ok : ∀ q ∈ lu_c15a, cm_RowOK cm_ms lawP code q := fd_chkAll_ok (ps := [[], [], [], [], [], [], [868, 869, 870, 116], []]) (by decide +kernel)
noncomputable def lu_c15b : List (Nat × ev_Row) := [(686, 9, 2, 0, 0, []), (687, 9, 0, 0, 0, []), (688, 4, 4, 0, 0, []), (690, 0, 1, 0, 0, []), (691, 16, 0, 0, 0, []), (692, 65, 0, 0, 0, []), (693, 200, 237, 85, 1, []), (696, 32, 0, 0, 0, []), (697, 47, 1026, 0, 0, [])]
set_option maxRecDepth 1000000 in
theorem lu_c15b_ok : ∀ q ∈ lu_c15b, cm_RowOK cm_ms lawP code q := fd_chkAll_ok (ps := [[], [], [], [], [], [], [1690, 1691, 1692, 125], [], []]) (by decide +kernel)
noncomputable def lu_c16a : List (Nat × ev_Row) := [(700, 9, 1, 0, 0, []), (701, 200, 110, 86, 0, []), (704, 32, 0, 0, 0, [])]
set_option maxRecDepth 1000000 in
theorem lu_c16a_ok : ∀ q ∈ lu_c16a, cm_RowOK cm_ms lawP code q := fd_chkAll_ok (ps := [[], [876, 877, 878, 116], []]) (by decide +kernel)
noncomputable def lu_c16b : List (Nat × ev_Row) := [(705, 9, 2, 0, 0, []), (706, 200, 238, 89, 0, []), (709, 32, 0, 0, 0, []), (710, 47, 1013, 0, 0, [])]
set_option maxRecDepth 1000000 in
theorem lu_c16b_ok : ∀ q ∈ lu_c16b, cm_RowOK cm_ms lawP code q := fd_chkAll_ok (ps := [[], [1698, 1699, 1700, 125], [], []]) (by decide +kernel)
noncomputable def lu_c17a : List (Nat × ev_Row) := [(713, 9, 1, 0, 0, []), (714, 200, 111, 90, 0, []), (717, 32, 0, 0, 0, [])]
set_option maxRecDepth 1000000 in
theorem lu_c17a_ok : ∀ q ∈ lu_c17a, cm_RowOK cm_ms lawP code q := fd_chkAll_ok (ps := [[], [880, 881, 882, 116], []]) (by decide +kernel)
noncomputable def lu_c17b : List (Nat × ev_Row) := [(718, 9, 2, 0, 0, []), (719, 200, 239, 93, 0, []), (722, 32, 0, 0, 0, []), (723, 47, 1000, 0, 0, [])]
set_option maxRecDepth 1000000 in
theorem lu_c17b_ok : ∀ q ∈ lu_c17b, cm_RowOK cm_ms lawP code q := fd_chkAll_ok (ps := [[], [1702, 1703, 1704, 125], [], []]) (by decide +kernel)
noncomputable def lu_c18a : List (Nat × ev_Row) := [(726, 9, 1, 0, 0, []), (727, 9, 0, 0, 0, []), (728, 4, 4, 0, 0, []), (730, 0, 1, 0, 0, []), (731, 16, 0, 0, 0, []), (732, 65, 0, 0, 0, []), (733, 9, 0, 0, 0, []), (734, 4, 4, 0, 0, []), (736, 0, 2, 0, 0, []), (737, 16, 0, 0, 0, []), (738, 65, 0, 0, 0, []), (739, 200, 114, 94, 2, []), (742, 32, 0, 0, 0, [])]
set_option maxRecDepth 1000000 in
theorem lu_c18a_ok : ∀ q ∈ lu_c18a, cm_RowOK cm_ms lawP code q := fd_chkAll_ok (ps := [[], [], [], [], [], [], [], [], [], [], [], [884, 885, 886, 116], []]) (by decide +kernel)
noncomputable def lu_c18b : List (Nat × ev_Row) := [(743, 9, 2, 0, 0, []), (744, 9, 0, 0, 0, []), (745, 4, 4, 0, 0, []), (747, 0, 1, 0, 0, []), (748, 16, 0, 0, 0, []), (749, 65, 0, 0, 0, []), (750, 9, 0, 0, 0, []), (751, 4, 4, 0, 0, []), (753, 0, 2, 0, 0, []), (754, 16, 0, 0, 0, []), (755, 65, 0, 0, 0, []), (756, 200, 242, 97, 2, []), (759, 32, 0, 0, 0, []), (760, 47, 963, 0, 0, [])]
set_option maxRecDepth 1000000 in
theorem lu_c18b_ok : ∀ q ∈ lu_c18b, cm_RowOK cm_ms lawP code q := fd_chkAll_ok (ps := [[], [], [], [], [], [], [], [], [], [], [], [1706, 1707, 1708, 125], [], []]) (by decide +kernel)
noncomputable def lu_c19a : List (Nat × ev_Row) := [(763, 9, 1, 0, 0, []), (764, 9, 0, 0, 0, []), (765, 4, 4, 0, 0, []), (767, 0, 1, 0, 0, []), (768, 16, 0, 0, 0, []), (769, 65, 0, 0, 0, []), (770, 200, 115, 98, 1, []), (773, 32, 0, 0, 0, [])]
set_option maxRecDepth 1000000 in
theorem lu_c19a_ok : ∀ q ∈ lu_c19a, cm_RowOK cm_ms lawP code q := fd_chkAll_ok (ps := [[], [], [], [], [], [], [920, 921, 922, 116], []]) (by decide +kernel)
noncomputable def lu_c19b : List (Nat × ev_Row) := [(774, 9, 2, 0, 0, []), (775, 9, 0, 0, 0, []), (776, 4, 4, 0, 0, []), (778, 0, 1, 0, 0, []), (779, 16, 0, 0, 0, []), (780, 65, 0, 0, 0, []), (781, 200, 245, 101, 1, []), (784, 32, 0, 0, 0, []), (785, 47, 938, 0, 0, [])]
set_option maxRecDepth 1000000 in
theorem lu_c19b_ok : ∀ q ∈ lu_c19b, cm_RowOK cm_ms lawP code q := fd_chkAll_ok (ps := [[], [], [], [], [], [], [1726, 1727, 1728, 125], [], []]) (by decide +kernel)
noncomputable def lu_c20a : List (Nat × ev_Row) := [(788, 9, 1, 0, 0, []), (789, 9, 0, 0, 0, []), (790, 4, 4, 0, 0, []), (792, 0, 1, 0, 0, []), (793, 16, 0, 0, 0, []), (794, 65, 0, 0, 0, []), (795, 200, 116, 102, 1, []), (798, 32, 0, 0, 0, [])]
set_option maxRecDepth 1000000 in
theorem lu_c20a_ok : ∀ q ∈ lu_c20a, cm_RowOK cm_ms lawP code q := fd_chkAll_ok (ps := [[], [], [], [], [], [], [933, 934, 935, 116], []]) (by decide +kernel)
noncomputable def lu_c20b : List (Nat × ev_Row) := [(799, 9, 2, 0, 0, []), (800, 9, 0, 0, 0, []), (801, 4, 4, 0, 0, []), (803, 0, 1, 0, 0, []), (804, 16, 0, 0, 0, []), (805, 65, 0, 0, 0, []), (806, 200, 246, 105, 1, []), (809, 32, 0, 0, 0, []), (810, 47, 913, 0, 0, [])]
set_option maxRecDepth 1000000 in
theorem lu_c20b_ok : ∀ q ∈ lu_c20b, cm_RowOK cm_ms lawP code q := fd_chkAll_ok (ps := [[], [], [], [], [], [], [1737, 1738, 1739, 125], [], []]) (by decide +kernel)
noncomputable def lu_c21a : List (Nat × ev_Row) := [(813, 9, 1, 0, 0, []), (814, 9, 0, 0, 0, []), (815, 4, 4, 0, 0, []), (817, 0, 1, 0, 0, []), (818, 16, 0, 0, 0, []), (819, 65, 0, 0, 0, []), (820, 200, 117, 106, 1, []), (823, 32, 0, 0, 0, [])]
set_option maxRecDepth 1000000 in
theorem lu_c21a_ok : ∀ q ∈ lu_c21a, cm_RowOK cm_ms lawP code q := fd_chkAll_ok (ps := [[], [], [], [], [], [], [937, 938, 939, 116], []]) (by decide +kernel)
noncomputable def lu_c21b : List (Nat × ev_Row) := [(824, 9, 2, 0, 0, []), (825, 9, 0, 0, 0, []), (826, 4, 4, 0, 0, []), (828, 0, 1, 0, 0, []), (829, 16, 0, 0, 0, []), (830, 65, 0, 0, 0, []), (831, 200, 247, 109, 1, []), (834, 32, 0, 0, 0, []), (835, 47, 888, 0, 0, [])]
set_option maxRecDepth 1000000 in
theorem lu_c21b_ok : ∀ q ∈ lu_c21b, cm_RowOK cm_ms lawP code q := fd_chkAll_ok (ps := [[], [], [], [], [], [], [1741, 1742, 1743, 125], [], []]) (by decide +kernel)
noncomputable def lu_c22a : List (Nat × ev_Row) := [(838, 9, 1, 0, 0, []), (839, 9, 0, 0, 0, []), (840, 4, 4, 0, 0, []), (842, 0, 1, 0, 0, []), (843, 16, 0, 0, 0, []), (844, 65, 0, 0, 0, []), (845, 200, 118, 110, 1, []), (848, 32, 0, 0, 0, [])]
set_option maxRecDepth 1000000 in
theorem lu_c22a_ok : ∀ q ∈ lu_c22a, cm_RowOK cm_ms lawP code q := fd_chkAll_ok (ps := [[], [], [], [], [], [], [941, 942, 943, 116], []]) (by decide +kernel)
noncomputable def lu_c22b : List (Nat × ev_Row) := [(849, 9, 2, 0, 0, []), (850, 9, 0, 0, 0, []), (851, 4, 4, 0, 0, []), (853, 0, 1, 0, 0, []), (854, 16, 0, 0, 0, []), (855, 65, 0, 0, 0, []), (856, 200, 248, 113, 1, []), (859, 32, 0, 0, 0, []), (860, 47, 863, 0, 0, [])]
set_option maxRecDepth 1000000 in
theorem lu_c22b_ok : ∀ q ∈ lu_c22b, cm_RowOK cm_ms lawP code q := fd_chkAll_ok (ps := [[], [], [], [], [], [], [1745, 1746, 1747, 125], [], []]) (by decide +kernel)
noncomputable def lu_c23a : List (Nat × ev_Row) := [(863, 9, 1, 0, 0, []), (864, 9, 0, 0, 0, []), (865, 4, 4, 0, 0, []), (867, 0, 1, 0, 0, []), (868, 16, 0, 0, 0, []), (869, 65, 0, 0, 0, []), (870, 9, 0, 0, 0, []), (871, 4, 4, 0, 0, []), (873, 0, 2, 0, 0, []), (874, 16, 0, 0, 0, []), (875, 65, 0, 0, 0, []), (876, 200, 120, 114, 2, []), (879, 32, 0, 0, 0, [])]
set_option maxRecDepth 1000000 in
theorem lu_c23a_ok : ∀ q ∈ lu_c23a, cm_RowOK cm_ms lawP code q := fd_chkAll_ok (ps := [[], [], [], [], [], [], [], [], [], [], [], [954, 955, 956, 116], []]) (by decide +kernel)
noncomputable def lu_c23b : List (Nat × ev_Row) := [(880, 9, 2, 0, 0, []), (881, 9, 0, 0, 0, []), (882, 4, 4, 0, 0, []), (884, 0, 1, 0, 0, []), (885, 16, 0, 0, 0, []), (886, 65, 0, 0, 0, []), (887, 9, 0, 0, 0, []), (888, 4, 4, 0, 0, []), (890, 0, 2, 0, 0, []), (891, 16, 0, 0, 0, []), (892, 65, 0, 0, 0, []), (893, 200, 250, 117, 2, []), (896, 32, 0, 0, 0, []), (897, 47, 826, 0, 0, [])]
set_option maxRecDepth 1000000 in
theorem lu_c23b_ok : ∀ q ∈ lu_c23b, cm_RowOK cm_ms lawP code q := fd_chkAll_ok (ps := [[], [], [], [], [], [], [], [], [], [], [], [1749, 1750, 1751, 125], [], []]) (by decide +kernel)
noncomputable def lu_c24a : List (Nat × ev_Row) := [(900, 9, 1, 0, 0, []), (901, 9, 0, 0, 0, []), (902, 4, 4, 0, 0, []), (904, 0, 1, 0, 0, []), (905, 16, 0, 0, 0, []), (906, 65, 0, 0, 0, []), (907, 200, 121, 118, 1, []), (910, 32, 0, 0, 0, [])]
set_option maxRecDepth 1000000 in
theorem lu_c24a_ok : ∀ q ∈ lu_c24a, cm_RowOK cm_ms lawP code q := fd_chkAll_ok (ps := [[], [], [], [], [], [], [967, 968, 969, 116], []]) (by decide +kernel)
noncomputable def lu_c24b : List (Nat × ev_Row) := [(911, 9, 2, 0, 0, []), (912, 9, 0, 0, 0, []), (913, 4, 4, 0, 0, []), (915, 0, 1, 0, 0, []), (916, 16, 0, 0, 0, []), (917, 65, 0, 0, 0, []), (918, 200, 251, 121, 1, []), (921, 32, 0, 0, 0, []), (922, 47, 801, 0, 0, [])]
set_option maxRecDepth 1000000 in
theorem lu_c24b_ok : ∀ q ∈ lu_c24b, cm_RowOK cm_ms lawP code q := fd_chkAll_ok (ps := [[], [], [], [], [], [], [1757, 1758, 1759, 125], [], []]) (by decide +kernel)
noncomputable def lu_c25a : List (Nat × ev_Row) := [(925, 9, 1, 0, 0, []), (926, 9, 0, 0, 0, []), (927, 4, 4, 0, 0, []), (929, 0, 1, 0, 0, []), (930, 16, 0, 0, 0, []), (931, 65, 0, 0, 0, []), (932, 200, 122, 122, 1, []), (935, 32, 0, 0, 0, [])]
set_option maxRecDepth 1000000 in
theorem lu_c25a_ok : ∀ q ∈ lu_c25a, cm_RowOK cm_ms lawP code q := fd_chkAll_ok (ps := [[], [], [], [], [], [], [971, 972, 973, 116], []]) (by decide +kernel)
noncomputable def lu_c25b : List (Nat × ev_Row) := [(936, 9, 2, 0, 0, []), (937, 9, 0, 0, 0, []), (938, 4, 4, 0, 0, []), (940, 0, 1, 0, 0, []), (941, 16, 0, 0, 0, []), (942, 65, 0, 0, 0, []), (943, 200, 252, 125, 1, []), (946, 32, 0, 0, 0, []), (947, 47, 776, 0, 0, [])]
set_option maxRecDepth 1000000 in
theorem lu_c25b_ok : ∀ q ∈ lu_c25b, cm_RowOK cm_ms lawP code q := fd_chkAll_ok (ps := [[], [], [], [], [], [], [1761, 1762, 1763, 125], [], []]) (by decide +kernel)
noncomputable def lu_c26a : List (Nat × ev_Row) := [(950, 9, 1, 0, 0, []), (951, 9, 0, 0, 0, []), (952, 4, 4, 0, 0, []), (954, 0, 1, 0, 0, []), (955, 16, 0, 0, 0, []), (956, 65, 0, 0, 0, []), (957, 200, 123, 126, 1, []), (960, 32, 0, 0, 0, [])]
set_option maxRecDepth 1000000 in
theorem lu_c26a_ok : ∀ q ∈ lu_c26a, cm_RowOK cm_ms lawP code q := fd_chkAll_ok (ps := [[], [], [], [], [], [], [975, 976, 977, 116], []]) (by decide +kernel)
noncomputable def lu_c26b : List (Nat × ev_Row) := [(961, 9, 2, 0, 0, []), (962, 9, 0, 0, 0, []), (963, 4, 4, 0, 0, []), (965, 0, 1, 0, 0, []), (966, 16, 0, 0, 0, []), (967, 65, 0, 0, 0, []), (968, 200, 253, 129, 1, []), (971, 32, 0, 0, 0, []), (972, 47, 751, 0, 0, [])]
set_option maxRecDepth 1000000 in
theorem lu_c26b_ok : ∀ q ∈ lu_c26b, cm_RowOK cm_ms lawP code q := fd_chkAll_ok (ps := [[], [], [], [], [], [], [1765, 1766, 1767, 125], [], []]) (by decide +kernel)
noncomputable def lu_c27a : List (Nat × ev_Row) := [(975, 9, 1, 0, 0, []), (976, 200, 124, 130, 0, []), (979, 32, 0, 0, 0, [])]
set_option maxRecDepth 1000000 in
theorem lu_c27a_ok : ∀ q ∈ lu_c27a, cm_RowOK cm_ms lawP code q := fd_chkAll_ok (ps := [[], [980, 981, 982, 116], []]) (by decide +kernel)
noncomputable def lu_c27b : List (Nat × ev_Row) := [(980, 9, 2, 0, 0, []), (981, 200, 256, 133, 0, []), (984, 32, 0, 0, 0, []), (985, 47, 738, 0, 0, [])]
set_option maxRecDepth 1000000 in
theorem lu_c27b_ok : ∀ q ∈ lu_c27b, cm_RowOK cm_ms lawP code q := fd_chkAll_ok (ps := [[], [1772, 1773, 1774, 125], [], []]) (by decide +kernel)
noncomputable def lu_c28a : List (Nat × ev_Row) := [(988, 9, 1, 0, 0, []), (989, 200, 125, 134, 0, []), (992, 32, 0, 0, 0, [])]
set_option maxRecDepth 1000000 in
theorem lu_c28a_ok : ∀ q ∈ lu_c28a, cm_RowOK cm_ms lawP code q := fd_chkAll_ok (ps := [[], [992, 993, 994, 116], []]) (by decide +kernel)
noncomputable def lu_c28b : List (Nat × ev_Row) := [(993, 9, 2, 0, 0, []), (994, 200, 257, 137, 0, []), (997, 32, 0, 0, 0, []), (998, 47, 725, 0, 0, [])]
set_option maxRecDepth 1000000 in
theorem lu_c28b_ok : ∀ q ∈ lu_c28b, cm_RowOK cm_ms lawP code q := fd_chkAll_ok (ps := [[], [1784, 1785, 1786, 125], [], []]) (by decide +kernel)
noncomputable def lu_c29a : List (Nat × ev_Row) := [(1001, 9, 1, 0, 0, []), (1002, 200, 126, 138, 0, []), (1005, 32, 0, 0, 0, [])]
set_option maxRecDepth 1000000 in
theorem lu_c29a_ok : ∀ q ∈ lu_c29a, cm_RowOK cm_ms lawP code q := fd_chkAll_ok (ps := [[], [998, 999, 1000, 116], []]) (by decide +kernel)
noncomputable def lu_c29b : List (Nat × ev_Row) := [(1006, 9, 2, 0, 0, []), (1007, 200, 258, 141, 0, []), (1010, 32, 0, 0, 0, []), (1011, 47, 712, 0, 0, [])]
set_option maxRecDepth 1000000 in
theorem lu_c29b_ok : ∀ q ∈ lu_c29b, cm_RowOK cm_ms lawP code q := fd_chkAll_ok (ps := [[], [1788, 1789, 1790, 125], [], []]) (by decide +kernel)
noncomputable def lu_c30a : List (Nat × ev_Row) := [(1014, 9, 1, 0, 0, []), (1015, 9, 0, 0, 0, []), (1016, 4, 4, 0, 0, []), (1018, 0, 1, 0, 0, []), (1019, 16, 0, 0, 0, []), (1020, 65, 0, 0, 0, []), (1021, 9, 0, 0, 0, []), (1022, 4, 4, 0, 0, []), (1024, 0, 2, 0, 0, []), (1025, 16, 0, 0, 0, []), (1026, 65, 0, 0, 0, []), (1027, 200, 128, 142, 2, []), (1030, 32, 0, 0, 0, [])]
set_option maxRecDepth 1000000 in
theorem lu_c30a_ok : ∀ q ∈ lu_c30a, cm_RowOK cm_ms lawP code q := fd_chkAll_ok (ps := [[], [], [], [], [], [], [], [], [], [], [], [1010, 1011, 1012, 116], []]) (by decide +kernel)
noncomputable def lu_c30b : List (Nat × ev_Row) := [(1031, 9, 2, 0, 0, []), (1032, 9, 0, 0, 0, []), (1033, 4, 4, 0, 0, []), (1035, 0, 1, 0, 0, []), (1036, 16, 0, 0, 0, []), (1037, 65, 0, 0, 0, []), (1038, 9, 0, 0, 0, []), (1039, 4, 4, 0, 0, []), (1041, 0, 2, 0, 0, []), (1042, 16, 0, 0, 0, []), (1043, 65, 0, 0, 0, []), (1044, 200, 260, 145, 2, []), (1047, 32, 0, 0, 0, []), (1048, 47, 675, 0, 0, [])]
set_option maxRecDepth 1000000 in
theorem lu_c30b_ok : ∀ q ∈ lu_c30b, cm_RowOK cm_ms lawP code q := fd_chkAll_ok (ps := [[], [], [], [], [], [], [], [], [], [], [], [1792, 1793, 1794, 125], [], []]) (by decide +kernel)
noncomputable def lu_c31a : List (Nat × ev_Row) := [(1051, 9, 1, 0, 0, []), (1052, 200, 129, 146, 0, []), (1055, 32, 0, 0, 0, [])]
set_option maxRecDepth 1000000 in
theorem lu_c31a_ok : ∀ q ∈ lu_c31a, cm_RowOK cm_ms lawP code q := fd_chkAll_ok (ps := [[], [1026, 1027, 1028, 116], []]) (by decide +kernel)
noncomputable def lu_c31b : List (Nat × ev_Row) := [(1056, 9, 2, 0, 0, []), (1057, 200, 263, 149, 0, []), (1060, 32, 0, 0, 0, []), (1061, 47, 662, 0, 0, [])]
set_option maxRecDepth 1000000 in
theorem lu_c31b_ok : ∀ q ∈ lu_c31b, cm_RowOK cm_ms lawP code q := fd_chkAll_ok (ps := [[], [1804, 1805, 1806, 125], [], []]) (by decide +kernel)
noncomputable def lu_c32a : List (Nat × ev_Row) := [(1064, 9, 1, 0, 0, []), (1065, 9, 0, 0, 0, []), (1066, 4, 4, 0, 0, []), (1068, 0, 1, 0, 0, []), (1069, 16, 0, 0, 0, []), (1070, 65, 0, 0, 0, []), (1071, 200, 130, 150, 1, []), (1074, 32, 0, 0, 0, [])]
set_option maxRecDepth 1000000 in
theorem lu_c32a_ok : ∀ q ∈ lu_c32a, cm_RowOK cm_ms lawP code q := fd_chkAll_ok (ps := [[], [], [], [], [], [], [1044, 1045, 1046, 116], []]) (by decide +kernel)
noncomputable def lu_c32b : List (Nat × ev_Row) := [(1075, 9, 2, 0, 0, []), (1076, 9, 0, 0, 0, []), (1077, 4, 4, 0, 0, []), (1079, 0, 1, 0, 0, []), (1080, 16, 0, 0, 0, []), (1081, 65, 0, 0, 0, []), (1082, 200, 264, 153, 1, []), (1085, 32, 0, 0, 0, []), (1086, 47, 637, 0, 0, [])]
set_option maxRecDepth 1000000 in
theorem lu_c32b_ok : ∀ q ∈ lu_c32b, cm_RowOK cm_ms lawP code q := fd_chkAll_ok (ps := [[], [], [], [], [], [], [1817, 1818, 1819, 125], [], []]) (by decide +kernel)
noncomputable def lu_c33a : List (Nat × ev_Row) := [(1089, 9, 1, 0, 0, []), (1090, 200, 131, 154, 0, []), (1093, 32, 0, 0, 0, [])]
set_option maxRecDepth 1000000 in
theorem lu_c33a_ok : ∀ q ∈ lu_c33a, cm_RowOK cm_ms lawP code q := fd_chkAll_ok (ps := [[], [1048, 1049, 1050, 116], []]) (by decide +kernel)
noncomputable def lu_c33b : List (Nat × ev_Row) := [(1094, 9, 2, 0, 0, []), (1095, 200, 267, 157, 0, []), (1098, 32, 0, 0, 0, []), (1099, 47, 624, 0, 0, [])]
set_option maxRecDepth 1000000 in
theorem lu_c33b_ok : ∀ q ∈ lu_c33b, cm_RowOK cm_ms lawP code q := fd_chkAll_ok (ps := [[], [1821, 1822, 1823, 125], [], []]) (by decide +kernel)
noncomputable def lu_c34a : List (Nat × ev_Row) := [(1102, 9, 1, 0, 0, []), (1103, 9, 0, 0, 0, []), (1104, 4, 4, 0, 0, []), (1106, 0, 1, 0, 0, []), (1107, 16, 0, 0, 0, []), (1108, 65, 0, 0, 0, []), (1109, 200, 132, 158, 1, []), (1112, 32, 0, 0, 0, [])]
set_option maxRecDepth 1000000 in
theorem lu_c34a_ok : ∀ q ∈ lu_c34a, cm_RowOK cm_ms lawP code q := fd_chkAll_ok (ps := [[], [], [], [], [], [], [1066, 1067, 1068, 116], []]) (by decide +kernel)
noncomputable def lu_c34b : List (Nat × ev_Row) := [(1113, 9, 2, 0, 0, []), (1114, 9, 0, 0, 0, []), (1115, 4, 4, 0, 0, []), (1117, 0, 1, 0, 0, []), (1118, 16, 0, 0, 0, []), (1119, 65, 0, 0, 0, []), (1120, 200, 268, 161, 1, []), (1123, 32, 0, 0, 0, []), (1124, 47, 599, 0, 0, [])]
set_option maxRecDepth 1000000 in
theorem lu_c34b_ok : ∀ q ∈ lu_c34b, cm_RowOK cm_ms lawP code q := fd_chkAll_ok (ps := [[], [], [], [], [], [], [1833, 1834, 1835, 125], [], []]) (by decide +kernel)
noncomputable def lu_c35a : List (Nat × ev_Row) := [(1127, 9, 1, 0, 0, []), (1128, 200, 133, 162, 0, []), (1131, 32, 0, 0, 0, [])]
set_option maxRecDepth 1000000 in
theorem lu_c35a_ok : ∀ q ∈ lu_c35a, cm_RowOK cm_ms lawP code q := fd_chkAll_ok (ps := [[], [1070, 1071, 1072, 116], []]) (by decide +kernel)
noncomputable def lu_c35b : List (Nat × ev_Row) := [(1132, 9, 2, 0, 0, []), (1133, 200, 269, 165, 0, []), (1136, 32, 0, 0, 0, []), (1137, 47, 586, 0, 0, [])]
set_option maxRecDepth 1000000 in
theorem lu_c35b_ok : ∀ q ∈ lu_c35b, cm_RowOK cm_ms lawP code q := fd_chkAll_ok (ps := [[], [1837, 1838, 1839, 125], [], []]) (by decide +kernel)
noncomputable def lu_c36a : List (Nat × ev_Row) := [(1140, 9, 1, 0, 0, []), (1141, 200, 134, 166, 0, []), (1144, 32, 0, 0, 0, [])]
set_option maxRecDepth 1000000 in
theorem lu_c36a_ok : ∀ q ∈ lu_c36a, cm_RowOK cm_ms lawP code q := fd_chkAll_ok (ps := [[], [1078, 1079, 1080, 116], []]) (by decide +kernel)
noncomputable def lu_c36b : List (Nat × ev_Row) := [(1145, 9, 2, 0, 0, []), (1146, 200, 270, 169, 0, []), (1149, 32, 0, 0, 0, []), (1150, 47, 573, 0, 0, [])]
set_option maxRecDepth 1000000 in
theorem lu_c36b_ok : ∀ q ∈ lu_c36b, cm_RowOK cm_ms lawP code q := fd_chkAll_ok (ps := [[], [1841, 1842, 1843, 125], [], []]) (by decide +kernel)
noncomputable def lu_c37a : List (Nat × ev_Row) := [(1153, 9, 1, 0, 0, []), (1154, 200, 135, 170, 0, []), (1157, 32, 0, 0, 0, [])]
set_option maxRecDepth 1000000 in
theorem lu_c37a_ok : ∀ q ∈ lu_c37a, cm_RowOK cm_ms lawP code q := fd_chkAll_ok (ps := [[], [1086, 1087, 1088, 116], []]) (by decide +kernel)
noncomputable def lu_c37b : List (Nat × ev_Row) := [(1158, 9, 2, 0, 0, []), (1159, 200, 273, 173, 0, []), (1162, 32, 0, 0, 0, []), (1163, 47, 560, 0, 0, [])]
set_option maxRecDepth 1000000 in
theorem lu_c37b_ok : ∀ q ∈ lu_c37b, cm_RowOK cm_ms lawP code q := fd_chkAll_ok (ps := [[], [1845, 1846, 1847, 125], [], []]) (by decide +kernel)
noncomputable def lu_c38a : List (Nat × ev_Row) := [(1166, 9, 1, 0, 0, []), (1167, 200, 136, 174, 0, []), (1170, 32, 0, 0, 0, [])]
set_option maxRecDepth 1000000 in
theorem lu_c38a_ok : ∀ q ∈ lu_c38a, cm_RowOK cm_ms lawP code q := fd_chkAll_ok (ps := [[], [1101, 1102, 1103, 116], []]) (by decide +kernel)
noncomputable def lu_c38b : List (Nat × ev_Row) := [(1171, 9, 2, 0, 0, []), (1172, 200, 274, 177, 0, []), (1175, 32, 0, 0, 0, []), (1176, 47, 547, 0, 0, [])]
set_option maxRecDepth 1000000 in
theorem lu_c38b_ok : ∀ q ∈ lu_c38b, cm_RowOK cm_ms lawP code q := fd_chkAll_ok (ps := [[], [1857, 1858, 1859, 125], [], []]) (by decide +kernel)
noncomputable def lu_c39a : List (Nat × ev_Row) := [(1179, 9, 1, 0, 0, []), (1180, 9, 0, 0, 0, []), (1181, 4, 4, 0, 0, []), (1183, 0, 1, 0, 0, []), (1184, 16, 0, 0, 0, []), (1185, 65, 0, 0, 0, []), (1186, 9, 0, 0, 0, []), (1187, 4, 4, 0, 0, []), (1189, 0, 2, 0, 0, []), (1190, 16, 0, 0, 0, []), (1191, 65, 0, 0, 0, []), (1192, 41, 7, 0, 0, []), (1195, 0, 1, 0, 0, []), (1196, 47, 4, 0, 0, []), (1199, 0, 0, 0, 0, []), (1200, 9, 0, 0, 0, []), (1201, 4, 4, 0, 0, []), (1203, 0, 3, 0, 0, []), (1204, 16, 0, 0, 0, []), (1205, 65, 0, 0, 0, []), (1206, 41, 7, 0, 0, []), (1209, 0, 1, 0, 0, []), (1210, 47, 4, 0, 0, []), (1213, 0, 0, 0, 0, []), (1214, 9, 0, 0, 0, []), (1215, 4, 4, 0, 0, []), (1217, 0, 4, 0, 0, []), (1218, 16, 0, 0, 0, []), (1219, 65, 0, 0, 0, []), (1220, 41, 7, 0, 0, []), (1223, 0, 1, 0, 0, []), (1224, 47, 4, 0, 0, []), (1227, 0, 0, 0, 0, []), (1228, 200, 138, 178, 4, []), (1231, 32, 0, 0, 0, [])]
set_option maxRecDepth 1000000 in
theorem lu_c39a_ok : ∀ q ∈ lu_c39a, cm_RowOK cm_ms lawP code q := fd_chkAll_ok (ps := [[], [], [], [], [], [], [], [], [], [], [], [], [], [], [], [], [], [], [], [], [], [], [], [], [], [], [], [], [], [], [], [], [], [1106, 1107, 1108, 116], []]) (by decide +kernel)
noncomputable def lu_c39b : List (Nat × ev_Row) := [(1232, 9, 2, 0, 0, []), (1233, 9, 0, 0, 0, []), (1234, 4, 4, 0, 0, []), (1236, 0, 1, 0, 0, []), (1237, 16, 0, 0, 0, []), (1238, 65, 0, 0, 0, []), (1239, 9, 0, 0, 0, []), (1240, 4, 4, 0, 0, []), (1242, 0, 2, 0, 0, []), (1243, 16, 0, 0, 0, []), (1244, 65, 0, 0, 0, []), (1245, 41, 7, 0, 0, []), (1248, 0, 1, 0, 0, []), (1249, 47, 4, 0, 0, []), (1252, 0, 0, 0, 0, []), (1253, 9, 0, 0, 0, []), (1254, 4, 4, 0, 0, []), (1256, 0, 3, 0, 0, []), (1257, 16, 0, 0, 0, []), (1258, 65, 0, 0, 0, []), (1259, 41, 7, 0, 0, []), (1262, 0, 1, 0, 0, []), (1263, 47, 4, 0, 0, []), (1266, 0, 0, 0, 0, []), (1267, 9, 0, 0, 0, []), (1268, 4, 4, 0, 0, []), (1270, 0, 4, 0, 0, []), (1271, 16, 0, 0, 0, []), (1272, 65, 0, 0, 0, []), (1273, 41, 7, 0, 0, []), (1276, 0, 1, 0, 0, []), (1277, 47, 4, 0, 0, []), (1280, 0, 0, 0, 0, []), (1281, 200, 276, 182, 4, []), (1284, 32, 0, 0, 0, []), (1285, 47, 438, 0, 0, [])]
set_option maxRecDepth 1000000 in
theorem lu_c39b_ok : ∀ q ∈ lu_c39b, cm_RowOK cm_ms lawP code q := fd_chkAll_ok (ps := [[], [], [], [], [], [], [], [], [], [], [], [], [], [], [], [], [], [], [], [], [], [], [], [], [], [], [], [], [], [], [], [], [], [1861, 1862, 1863, 125], [], []]) (by decide +kernel)
noncomputable def lu_c40a : List (Nat × ev_Row) := [(1288, 9, 1, 0, 0, []), (1289, 9, 0, 0, 0, []), (1290, 4, 4, 0, 0, []), (1292, 0, 1, 0, 0, []), (1293, 16, 0, 0, 0, []), (1294, 65, 0, 0, 0, []), (1295, 200, 139, 183, 1, []), (1298, 32, 0, 0, 0, [])]
set_option maxRecDepth 1000000 in
theorem lu_c40a_ok : ∀ q ∈ lu_c40a, cm_RowOK cm_ms lawP code q := fd_chkAll_ok (ps := [[], [], [], [], [], [], [1117, 1118, 1119, 116], []]) (by decide +kernel)
noncomputable def lu_c40b : List (Nat × ev_Row) := [(1299, 9, 2, 0, 0, []), (1300, 9, 0, 0, 0, []), (1301, 4, 4, 0, 0, []), (1303, 0, 1, 0, 0, []), (1304, 16, 0, 0, 0, []), (1305, 65, 0, 0, 0, []), (1306, 200, 279, 186, 1, []), (1309, 32, 0, 0, 0, []), (1310, 47, 413, 0, 0, [])]
set_option maxRecDepth 1000000 in
theorem lu_c40b_ok : ∀ q ∈ lu_c40b, cm_RowOK cm_ms lawP code q := fd_chkAll_ok (ps := [[], [], [], [], [], [], [1868, 1869, 1870, 125], [], []]) (by decide +kernel)
noncomputable def lu_c41a : List (Nat × ev_Row) := [(1313, 9, 1, 0, 0, []), (1314, 9, 0, 0, 0, []), (1315, 4, 4, 0, 0, []), (1317, 0, 1, 0, 0, []), (1318, 16, 0, 0, 0, []), (1319, 65, 0, 0, 0, []), (1320, 200, 140, 187, 1, []), (1323, 32, 0, 0, 0, [])]
set_option maxRecDepth 1000000 in
theorem lu_c41a_ok : ∀ q ∈ lu_c41a, cm_RowOK cm_ms lawP code q := fd_chkAll_ok (ps := [[], [], [], [], [], [], [1124, 1125, 1126, 116], []]) (by decide +kernel)
noncomputable def lu_c41b : List (Nat × ev_Row) := [(1324, 9, 2, 0, 0, []), (1325, 9, 0, 0, 0, []), (1326, 4, 4, 0, 0, []), (1328, 0, 1, 0, 0, []), (1329, 16, 0, 0, 0, []), (1330, 65, 0, 0, 0, []), (1331, 200, 280, 190, 1, []), (1334, 32, 0, 0, 0, []), (1335, 47, 388, 0, 0, [])]
set_option maxRecDepth 1000000 in
theorem lu_c41b_ok : ∀ q ∈ lu_c41b, cm_RowOK cm_ms lawP code q := fd_chkAll_ok (ps := [[], [], [], [], [], [], [1879, 1880, 1881, 125], [], []]) (by decide +kernel)
noncomputable def lu_c42f : List (Nat × ev_Row) := [(1338, 9, 1, 0, 0, []), (1339, 9, 0, 0, 0, []), (1340, 4, 4, 0, 0, []), (1342, 0, 1, 0, 0, []), (1343, 16, 0, 0, 0, []), (1344, 65, 0, 0, 0, []), (1345, 9, 0, 0, 0, []), (1346, 4, 4, 0, 0, []), (1348, 0, 2, 0, 0, []), (1349, 16, 0, 0, 0, []), (1350, 65, 0, 0, 0, []), (1351, 41, 7, 0, 0, []), (1354, 0, 1, 0, 0, []), (1355, 47, 4, 0, 0, []), (1358, 0, 0, 0, 0, []), (1359, 200, 144, 191, 2, []), (1362, 9, 2, 0, 0, []), (1363, 9, 0, 0, 0, []), (1364, 4, 4, 0, 0, []), (1366, 0, 1, 0, 0, []), (1367, 16, 0, 0, 0, []), (1368, 65, 0, 0, 0, []), (1369, 9, 0, 0, 0, []), (1370, 4, 4, 0, 0, []), (1372, 0, 2, 0, 0, []), (1373, 16, 0, 0, 0, []), (1374, 65, 0, 0, 0, []), (1375, 41, 7, 0, 0, []), (1378, 0, 1, 0, 0, []), (1379, 47, 4, 0, 0, []), (1382, 0, 0, 0, 0, []), (1383, 200, 282, 195, 2, []), (1386, 30, 0, 0, 0, []), (1387, 41, 336, 0, 0, []), (1390, 0, 0, 0, 0, []), (1391, 210, 0, 0, 0, [])]
set_option maxRecDepth 1000000 in
theorem lu_c42f_ok : ∀ q ∈ lu_c42f, cm_RowOK cm_ms lawP code q := fd_chkAll_ok (ps := [[], [], [], [], [], [], [], [], [], [], [], [], [], [], [], [1128, 1129, 1130, 116], [], [], [], [], [], [], [], [], [], [], [], [], [], [], [], [1883, 1884, 1885, 125], [], [], [], []]) (by decide +kernel)
noncomputable def lu_c43a : List (Nat × ev_Row) := [(1392, 9, 1, 0, 0, []), (1393, 9, 0, 0, 0, []), (1394, 4, 4, 0, 0, []), (1396, 0, 1, 0, 0, []), (1397, 16, 0, 0, 0, []), (1398, 65, 0, 0, 0, []), (1399, 9, 0, 0, 0, []), (1400, 4, 4, 0, 0, []), (1402, 0, 2, 0, 0, []), (1403, 16, 0, 0, 0, []), (1404, 65, 0, 0, 0, []), (1405, 41, 7, 0, 0, []), (1408, 0, 1, 0, 0, []), (1409, 47, 4, 0, 0, []), (1412, 0, 0, 0, 0, []), (1413, 200, 145, 196, 2, []), (1416, 91, 0, 0, 0, [])]
set_option maxRecDepth 1000000 in
theorem lu_c43a_ok : ∀ q ∈ lu_c43a, cm_RowOK cm_ms lawP code q := fd_chkAll_ok (ps := [[], [], [], [], [], [], [], [], [], [], [], [], [], [], [], [1146, 1147, 1148, 116], []]) (by decide +kernel)
noncomputable def lu_c43b : List (Nat × ev_Row) := [(1417, 9, 2, 0, 0, []), (1418, 9, 0, 0, 0, []), (1419, 4, 4, 0, 0, []), (1421, 0, 1, 0, 0, []), (1422, 16, 0, 0, 0, []), (1423, 65, 0, 0, 0, []), (1424, 9, 0, 0, 0, []), (1425, 4, 4, 0, 0, []), (1427, 0, 2, 0, 0, []), (1428, 16, 0, 0, 0, []), (1429, 65, 0, 0, 0, []), (1430, 41, 7, 0, 0, []), (1433, 0, 1, 0, 0, []), (1434, 47, 4, 0, 0, []), (1437, 0, 0, 0, 0, []), (1438, 200, 283, 199, 2, []), (1441, 91, 0, 0, 0, []), (1442, 47, 281, 0, 0, [])]
set_option maxRecDepth 1000000 in
theorem lu_c43b_ok : ∀ q ∈ lu_c43b, cm_RowOK cm_ms lawP code q := fd_chkAll_ok (ps := [[], [], [], [], [], [], [], [], [], [], [], [], [], [], [], [1894, 1895, 1896, 125], [], []]) (by decide +kernel)
noncomputable def lu_c44a : List (Nat × ev_Row) := [(1445, 9, 1, 0, 0, []), (1446, 9, 0, 0, 0, []), (1447, 4, 4, 0, 0, []), (1449, 0, 1, 0, 0, []), (1450, 16, 0, 0, 0, []), (1451, 65, 0, 0, 0, []), (1452, 9, 0, 0, 0, []), (1453, 4, 4, 0, 0, []), (1455, 0, 2, 0, 0, []), (1456, 16, 0, 0, 0, []), (1457, 65, 0, 0, 0, []), (1458, 9, 0, 0, 0, []), (1459, 4, 4, 0, 0, []), (1461, 0, 3, 0, 0, []), (1462, 16, 0, 0, 0, []), (1463, 65, 0, 0, 0, []), (1464, 200, 146, 200, 3, []), (1467, 32, 0, 0, 0, [])]
set_option maxRecDepth 1000000 in
theorem lu_c44a_ok : ∀ q ∈ lu_c44a, cm_RowOK cm_ms lawP code q := fd_chkAll_ok (ps := [[], [], [], [], [], [], [], [], [], [], [], [], [], [], [], [], [1156, 1157, 1158, 116], []]) (by decide +kernel)
noncomputable def lu_c44b : List (Nat × ev_Row) := [(1468, 9, 2, 0, 0, []), (1469, 9, 0, 0, 0, []), (1470, 4, 4, 0, 0, []), (1472, 0, 1, 0, 0, []), (1473, 16, 0, 0, 0, []), (1474, 65, 0, 0, 0, []), (1475, 9, 0, 0, 0, []), (1476, 4, 4, 0, 0, []), (1478, 0, 2, 0, 0, []), (1479, 16, 0, 0, 0, []), (1480, 65, 0, 0, 0, []), (1481, 9, 0, 0, 0, []), (1482, 4, 4, 0, 0, []), (1484, 0, 3, 0, 0, []), (1485, 16, 0, 0, 0, []), (1486, 65, 0, 0, 0, []), (1487, 200, 285, 204, 3, []), (1490, 32, 0, 0, 0, []), (1491, 47, 232, 0, 0, [])]
set_option maxRecDepth 1000000 in
theorem lu_c44b_ok : ∀ q ∈ lu_c44b, cm_RowOK cm_ms lawP code q := fd_chkAll_ok (ps := [[], [], [], [], [], [], [], [], [], [], [], [], [], [], [], [], [1898, 1899, 1900, 125], [], []]) (by decide +kernel)
noncomputable def lu_c45a : List (Nat × ev_Row) := [(1494, 9, 1, 0, 0, []), (1495, 9, 0, 0, 0, []), (1496, 4, 4, 0, 0, []), (1498, 0, 1, 0, 0, []), (1499, 16, 0, 0, 0, []), (1500, 65, 0, 0, 0, []), (1501, 9, 0, 0, 0, []), (1502, 4, 4, 0, 0, []), (1504, 0, 2, 0, 0, []), (1505, 16, 0, 0, 0, []), (1506, 65, 0, 0, 0, []), (1507, 9, 0, 0, 0, []), (1508, 4, 4, 0, 0, []), (1510, 0, 3, 0, 0, []), (1511, 16, 0, 0, 0, []), (1512, 65, 0, 0, 0, []), (1513, 200, 147, 205, 3, []), (1516, 32, 0, 0, 0, [])]
set_option maxRecDepth 1000000 in
theorem lu_c45a_ok : ∀ q ∈ lu_c45a, cm_RowOK cm_ms lawP code q := fd_chkAll_ok (ps := [[], [], [], [], [], [], [], [], [], [], [], [], [], [], [], [], [1171, 1172, 1173, 116], []]) (by decide +kernel)
noncomputable def lu_c45b : List (Nat × ev_Row) := [(1517, 9, 2, 0, 0, []), (1518, 9, 0, 0, 0, []), (1519, 4, 4, 0, 0, []), (1521, 0, 1, 0, 0, []), (1522, 16, 0, 0, 0, []), (1523, 65, 0, 0, 0, []), (1524, 9, 0, 0, 0, []), (1525, 4, 4, 0, 0, []), (1527, 0, 2, 0, 0, []), (1528, 16, 0, 0, 0, []), (1529, 65, 0, 0, 0, []), (1530, 9, 0, 0, 0, []), (1531, 4, 4, 0, 0, []), (1533, 0, 3, 0, 0, []), (1534, 16, 0, 0, 0, []), (1535, 65, 0, 0, 0, []), (1536, 200, 286, 208, 3, []), (1539, 32, 0, 0, 0, []), (1540, 47, 183, 0, 0, [])]
set_option maxRecDepth 1000000 in
theorem lu_c45b_ok : ∀ q ∈ lu_c45b, cm_RowOK cm_ms lawP code q := fd_chkAll_ok (ps := [[], [], [], [], [], [], [], [], [], [], [], [], [], [], [], [], [1908, 1909, 1910, 125], [], []]) (by decide +kernel)
noncomputable def lu_c46a : List (Nat × ev_Row) := [(1543, 9, 1, 0, 0, []), (1544, 9, 0, 0, 0, []), (1545, 4, 4, 0, 0, []), (1547, 0, 1, 0, 0, []), (1548, 16, 0, 0, 0, []), (1549, 65, 0, 0, 0, []), (1550, 200, 149, 209, 1, []), (1553, 32, 0, 0, 0, [])]
set_option maxRecDepth 1000000 in
theorem lu_c46a_ok : ∀ q ∈ lu_c46a, cm_RowOK cm_ms lawP code q := fd_chkAll_ok (ps := [[], [], [], [], [], [], [1175, 1176, 1177, 116], []]) (by decide +kernel)
noncomputable def lu_c46b : List (Nat × ev_Row) := [(1554, 9, 2, 0, 0, []), (1555, 9, 0, 0, 0, []), (1556, 4, 4, 0, 0, []), (1558, 0, 1, 0, 0, []), (1559, 16, 0, 0, 0, []), (1560, 65, 0, 0, 0, []), (1561, 200, 288, 212, 1, []), (1564, 32, 0, 0, 0, []), (1565, 47, 158, 0, 0, [])]
set_option maxRecDepth 1000000 in
theorem lu_c46b_ok : ∀ q ∈ lu_c46b, cm_RowOK cm_ms lawP code q := fd_chkAll_ok (ps := [[], [], [], [], [], [], [1912, 1913, 1914, 125], [], []]) (by decide +kernel)
noncomputable def lu_c47a : List (Nat × ev_Row) := [(1568, 9, 1, 0, 0, []), (1569, 200, 150, 213, 0, []), (1572, 32, 0, 0, 0, [])]
set_option maxRecDepth 1000000 in
theorem lu_c47a_ok : ∀ q ∈ lu_c47a, cm_RowOK cm_ms lawP code q := fd_chkAll_ok (ps := [[], [1186, 1187, 1188, 116], []]) (by decide +kernel)
noncomputable def lu_c47b : List (Nat × ev_Row) := [(1573, 9, 2, 0, 0, []), (1574, 200, 289, 216, 0, []), (1577, 32, 0, 0, 0, []), (1578, 47, 145, 0, 0, [])]
set_option maxRecDepth 1000000 in
theorem lu_c47b_ok : ∀ q ∈ lu_c47b, cm_RowOK cm_ms lawP code q := fd_chkAll_ok (ps := [[], [1920, 1921, 1922, 125], [], []]) (by decide +kernel)
noncomputable def lu_c48a : List (Nat × ev_Row) := [(1581, 9, 1, 0, 0, []), (1582, 9, 0, 0, 0, []), (1583, 4, 4, 0, 0, []), (1585, 0, 1, 0, 0, []), (1586, 16, 0, 0, 0, []), (1587, 65, 0, 0, 0, []), (1588, 200, 151, 217, 1, []), (1591, 32, 0, 0, 0, [])]
set_option maxRecDepth 1000000 in
theorem lu_c48a_ok : ∀ q ∈ lu_c48a, cm_RowOK cm_ms lawP code q := fd_chkAll_ok (ps := [[], [], [], [], [], [], [1190, 1191, 1192, 116], []]) (by decide +kernel)
noncomputable def lu_c48b : List (Nat × ev_Row) := [(1592, 9, 2, 0, 0, []), (1593, 9, 0, 0, 0, []), (1594, 4, 4, 0, 0, []), (1596, 0, 1, 0, 0, []), (1597, 16, 0, 0, 0, []), (1598, 65, 0, 0, 0, []), (1599, 200, 290, 220, 1, []), (1602, 32, 0, 0, 0, []), (1603, 47, 120, 0, 0, [])]
set_option maxRecDepth 1000000 in
theorem lu_c48b_ok : ∀ q ∈ lu_c48b, cm_RowOK cm_ms lawP code q := fd_chkAll_ok (ps := [[], [], [], [], [], [], [1924, 1925, 1926, 125], [], []]) (by decide +kernel)
noncomputable def lu_c49a : List (Nat × ev_Row) := [(1606, 9, 1, 0, 0, []), (1607, 200, 152, 221, 0, []), (1610, 32, 0, 0, 0, [])]
set_option maxRecDepth 1000000 in
theorem lu_c49a_ok : ∀ q ∈ lu_c49a, cm_RowOK cm_ms lawP code q := fd_chkAll_ok (ps := [[], [1195, 1196, 1197, 116], []]) (by decide +kernel)
noncomputable def lu_c49b : List (Nat × ev_Row) := [(1611, 9, 2, 0, 0, []), (1612, 200, 291, 225, 0, []), (1615, 32, 0, 0, 0, []), (1616, 47, 107, 0, 0, [])]
set_option maxRecDepth 1000000 in
theorem lu_c49b_ok : ∀ q ∈ lu_c49b, cm_RowOK cm_ms lawP code q := fd_chkAll_ok (ps := [[], [1928, 1929, 1930, 125], [], []]) (by decide +kernel)
noncomputable def lu_c50a : List (Nat × ev_Row) := [(1619, 9, 1, 0, 0, []), (1620, 200, 153, 226, 0, []), (1623, 32, 0, 0, 0, [])]
set_option maxRecDepth 1000000 in
theorem lu_c50a_ok : ∀ q ∈ lu_c50a, cm_RowOK cm_ms lawP code q := fd_chkAll_ok (ps := [[], [1203, 1204, 1205, 116], []]) (by decide +kernel)
noncomputable def lu_c50b : List (Nat × ev_Row) := [(1624, 9, 2, 0, 0, []), (1625, 200, 292, 229, 0, []), (1628, 32, 0, 0, 0, []), (1629, 47, 94, 0, 0, [])]
set_option maxRecDepth 1000000 in
theorem lu_c50b_ok : ∀ q ∈ lu_c50b, cm_RowOK cm_ms lawP code q := fd_chkAll_ok (ps := [[], [1936, 1937, 1938, 125], [], []]) (by decide +kernel)
noncomputable def lu_c51a : List (Nat × ev_Row) := [(1632, 9, 1, 0, 0, []), (1633, 9, 0, 0, 0, []), (1634, 4, 4, 0, 0, []), (1636, 0, 1, 0, 0, []), (1637, 16, 0, 0, 0, []), (1638, 65, 0, 0, 0, []), (1639, 200, 154, 230, 1, []), (1642, 32, 0, 0, 0, [])]
set_option maxRecDepth 1000000 in
theorem lu_c51a_ok : ∀ q ∈ lu_c51a, cm_RowOK cm_ms lawP code q := fd_chkAll_ok (ps := [[], [], [], [], [], [], [1211, 1212, 1213, 116], []]) (by decide +kernel)
noncomputable def lu_c51b : List (Nat × ev_Row) := [(1643, 9, 2, 0, 0, []), (1644, 9, 0, 0, 0, []), (1645, 4, 4, 0, 0, []), (1647, 0, 1, 0, 0, []), (1648, 16, 0, 0, 0, []), (1649, 65, 0, 0, 0, []), (1650, 200, 293, 234, 1, []), (1653, 32, 0, 0, 0, []), (1654, 47, 69, 0, 0, [])]
set_option maxRecDepth 1000000 in
theorem lu_c51b_ok : ∀ q ∈ lu_c51b, cm_RowOK cm_ms lawP code q := fd_chkAll_ok (ps := [[], [], [], [], [], [], [1940, 1941, 1942, 125], [], []]) (by decide +kernel)
noncomputable def lu_c52a : List (Nat × ev_Row) := [(1657, 9, 1, 0, 0, []), (1658, 9, 0, 0, 0, []), (1659, 4, 4, 0, 0, []), (1661, 0, 1, 0, 0, []), (1662, 16, 0, 0, 0, []), (1663, 65, 0, 0, 0, []), (1664, 9, 3, 0, 0, [])]
set_option maxRecDepth 1000000 in
theorem lu_c52a_ok : ∀ q ∈ lu_c52a, cm_RowOK cm_ms lawP code q := fd_chkAll_ok (ps := [[], [], [], [], [], [], []]) (by decide +kernel)
noncomputable def lu_c52b : List (Nat × ev_Row) := [(1668, 10, 5, 0, 0, []), (1670, 9, 2, 0, 0, []), (1671, 9, 0, 0, 0, []), (1672, 4, 4, 0, 0, []), (1674, 0, 1, 0, 0, []), (1675, 16, 0, 0, 0, []), (1676, 65, 0, 0, 0, []), (1677, 200, 294, 240, 1, []), (1680, 10, 6, 0, 0, []), (1682, 47, 41, 0, 0, [])]
set_option maxRecDepth 1000000 in
theorem lu_c52b_ok : ∀ q ∈ lu_c52b, cm_RowOK cm_ms lawP code q := fd_chkAll_ok (ps := [[], [], [], [], [], [], [], [1944, 1945, 1946, 125], [], []]) (by decide +kernel)
noncomputable def lu_c53a : List (Nat × ev_Row) := [(1685, 9, 1, 0, 0, []), (1686, 9, 0, 0, 0, []), (1687, 4, 4, 0, 0, []), (1689, 0, 1, 0, 0, []), (1690, 16, 0, 0, 0, []), (1691, 65, 0, 0, 0, []), (1692, 200, 155, 241, 1, []), (1695, 32, 0, 0, 0, [])]
set_option maxRecDepth 1000000 in
theorem lu_c53a_ok : ∀ q ∈ lu_c53a, cm_RowOK cm_ms lawP code q := fd_chkAll_ok (ps := [[], [], [], [], [], [], [1219, 1220, 1221, 116], []]) (by decide +kernel)
noncomputable def lu_c53b : List (Nat × ev_Row) := [(1696, 9, 2, 0, 0, []), (1697, 9, 0, 0, 0, []), (1698, 4, 4, 0, 0, []), (1700, 0, 1, 0, 0, []), (1701, 16, 0, 0, 0, []), (1702, 65, 0, 0, 0, []), (1703, 200, 295, 244, 1, []), (1706, 32, 0, 0, 0, []), (1707, 47, 16, 0, 0, [])]
set_option maxRecDepth 1000000 in
theorem lu_c53b_ok : ∀ q ∈ lu_c53b, cm_RowOK cm_ms lawP code q := fd_chkAll_ok (ps := [[], [], [], [], [], [], [1948, 1949, 1950, 125], [], []]) (by decide +kernel)
noncomputable def lu_c54a : List (Nat × ev_Row) := [(1710, 9, 1, 0, 0, []), (1711, 200, 156, 245, 0, []), (1714, 32, 0, 0, 0, [])]
set_option maxRecDepth 1000000 in
theorem lu_c54a_ok : ∀ q ∈ lu_c54a, cm_RowOK cm_ms lawP code q := fd_chkAll_ok (ps := [[], [1224, 1225, 1226, 116], []]) (by decide +kernel)
noncomputable def lu_c54b : List (Nat × ev_Row) := [(1715, 9, 2, 0, 0, []), (1716, 200, 296, 248, 0, []), (1719, 32, 0, 0, 0, []), (1720, 47, 3, 0, 0, [])]
set_option maxRecDepth 1000000 in
theorem lu_c54b_ok : ∀ q ∈ lu_c54b, cm_RowOK cm_ms lawP code q := fd_chkAll_ok (ps := [[], [1952, 1953, 1954, 125], [], []]) (by decide +kernel)
noncomputable def lu_in (L : Nat) (i : Int32) : Prop := 0 ≤ i.toInt ∧ i.toInt + 6 ≤ (L : Int) ∧ L ≤ 3072
theorem lu_ix {L : Nat} {i : Int32} (h : lu_in L i) {a : Int32} (h0 : 0 ≤ a.toInt) (h5 : a.toInt ≤ 5) : 0 ≤ (i + a).toInt ∧ (i + a).toInt < (L : Int) := by
  obtain ⟨h1, h2, h3⟩ := h
  rw [Int32.toInt_add, ev_bm (by omega) (by omega)]
  omega
noncomputable abbrev lu_st (pc : Nat) : List (Nat × List Nat) := [(pc, [4, 3, 2, 1, 0])]
section HALVES
variable {J : cm_S → Prop} {L : Nat} {xs : Nat → Int32} {i : Int32} {M : cm_M}
set_option maxRecDepth 100000 in
theorem lh_1a (hi : lu_in L i) {T : cm_M → Prop} (hC : cm_Call cm_ms 30 95 [.ref 0, .int (xs (i + 1).toNatClampNeg)] M (fun v M' => lp_kd 0 v ∧ T M')) (hJ : ∀ M', T M' → J (360, law_L i, [], M')) : cm_wp cm_ms (cm_Call cm_ms 30) (some (L, xs)) lawP lu_c1a (lu_st 360) J (fun _ _ => False) 80 (349, law_L i, [], M) := by
  show 1000 = 1000 ∧ 0 ≤ (i + 1).toInt ∧ (i + 1).toInt < (L : Int) ∧ cm_cs [] ≤ 8 ∧ ev_nar1 _ _ = true ∧ (_ → _) ∧ cm_Call cm_ms 30 95 [.ref 0, .int (xs (i + 1).toNatClampNeg)] M _
  refine ⟨rfl, (lu_ix hi (a := 1) (by decide) (by decide)).1, (lu_ix hi (a := 1) (by decide) (by decide)).2, by decide, by decide, fun _ => Or.inr rfl, cm_Call_up hC (Nat.le_refl _) (fun v M1 hv => ?_)⟩
  obtain ⟨⟨r, rfl⟩, hP⟩ := hv
  show (Value.int r).category = 1 ∧ J (360, law_L i, [], M1)
  exact ⟨rfl, hJ M1 hP⟩
set_option maxRecDepth 100000 in
theorem lh_1b (hi : lu_in L i) {T : cm_M → Prop} (hC : cm_Call cm_ms 30 191 [.ref 124, .int (xs (i + 1).toNatClampNeg)] M (fun v M' => lp_kd 0 v ∧ T M')) (hJ : ∀ M', T M' → J (1723, law_L i, [], M')) : cm_wp cm_ms (cm_Call cm_ms 30) (some (L, xs)) lawP lu_c1b (lu_st 1723) J (fun _ _ => False) 80 (360, law_L i, [], M) := by
  show 1000 = 1000 ∧ 0 ≤ (i + 1).toInt ∧ (i + 1).toInt < (L : Int) ∧ cm_cs [] ≤ 8 ∧ ev_nar1 _ _ = true ∧ (_ → _) ∧ cm_Call cm_ms 30 191 [.ref 124, .int (xs (i + 1).toNatClampNeg)] M _
  refine ⟨rfl, (lu_ix hi (a := 1) (by decide) (by decide)).1, (lu_ix hi (a := 1) (by decide) (by decide)).2, by decide, by decide, fun _ => Or.inr rfl, cm_Call_up hC (Nat.le_refl _) (fun v M1 hv => ?_)⟩
  obtain ⟨⟨r, rfl⟩, hP⟩ := hv
  show (Value.int r).category = 1 ∧ 0 ≤ _ ∧ J (1723, law_L i, [], M1)
  exact ⟨rfl, (by decide : (0 : Int) ≤ 1723), hJ M1 hP⟩
set_option maxRecDepth 100000 in
theorem lh_2a (hM : ab_ok hp hN M) (hJ : ∀ M', lu_P M M' → J (379, law_L i, [], M')) : cm_wp cm_ms (cm_Call cm_ms 30) (some (L, xs)) lawP lu_c2a (lu_st 379) J (fun _ _ => False) 80 (374, law_L i, [], M) := by
  show cm_cs [] ≤ 8 ∧ ev_nar1 _ _ = true ∧ (_ → _) ∧ cm_Call cm_ms 30 96 [.ref 0] M _
  refine ⟨by decide, by decide, fun _ => Or.inr rfl, cm_Call_up (lk_96 hM) (Nat.le_refl _) (fun v M1 hv => ?_)⟩
  obtain ⟨⟨r, rfl⟩, hP⟩ := hv
  show (Value.int r).category = 1 ∧ J (379, law_L i, [], M1)
  exact ⟨rfl, hJ M1 hP⟩
set_option maxRecDepth 100000 in
theorem lh_2b (hM : ab_ok hp hN M) (hJ : ∀ M', lu_P M M' → J (1723, law_L i, [], M')) : cm_wp cm_ms (cm_Call cm_ms 30) (some (L, xs)) lawP lu_c2b (lu_st 1723) J (fun _ _ => False) 80 (379, law_L i, [], M) := by
  show cm_cs [] ≤ 8 ∧ ev_nar1 _ _ = true ∧ (_ → _) ∧ cm_Call cm_ms 30 203 [.ref 124] M _
  refine ⟨by decide, by decide, fun _ => Or.inr rfl, cm_Call_up (lk_203 hM) (Nat.le_refl _) (fun v M1 hv => ?_)⟩
  obtain ⟨⟨r, rfl⟩, hP⟩ := hv
  show (Value.int r).category = 1 ∧ 0 ≤ _ ∧ J (1723, law_L i, [], M1)
  exact ⟨rfl, (by decide : (0 : Int) ≤ 1723), hJ M1 hP⟩
set_option maxRecDepth 100000 in
theorem lh_3a (hM : ab_ok hp hN M) (hJ : ∀ M', lu_P M M' → J (392, law_L i, [], M')) : cm_wp cm_ms (cm_Call cm_ms 30) (some (L, xs)) lawP lu_c3a (lu_st 392) J (fun _ _ => False) 80 (387, law_L i, [], M) := by
  show cm_cs [] ≤ 8 ∧ ev_nar1 _ _ = true ∧ (_ → _) ∧ cm_Call cm_ms 30 97 [.ref 0] M _
  refine ⟨by decide, by decide, fun _ => Or.inr rfl, cm_Call_up (lk_97 hM) (Nat.le_refl _) (fun v M1 hv => ?_)⟩
  obtain ⟨⟨r, rfl⟩, hP⟩ := hv
  show (Value.int r).category = 1 ∧ J (392, law_L i, [], M1)
  exact ⟨rfl, hJ M1 hP⟩
set_option maxRecDepth 100000 in
theorem lh_3b (hM : ab_ok hp hN M) (hJ : ∀ M', lu_P M M' → J (1723, law_L i, [], M')) : cm_wp cm_ms (cm_Call cm_ms 30) (some (L, xs)) lawP lu_c3b (lu_st 1723) J (fun _ _ => False) 80 (392, law_L i, [], M) := by
  show cm_cs [] ≤ 8 ∧ ev_nar1 _ _ = true ∧ (_ → _) ∧ cm_Call cm_ms 30 204 [.ref 124] M _
  refine ⟨by decide, by decide, fun _ => Or.inr rfl, cm_Call_up (lk_204 hM) (Nat.le_refl _) (fun v M1 hv => ?_)⟩
  obtain ⟨⟨r, rfl⟩, hP⟩ := hv
  show (Value.int r).category = 1 ∧ 0 ≤ _ ∧ J (1723, law_L i, [], M1)
  exact ⟨rfl, (by decide : (0 : Int) ≤ 1723), hJ M1 hP⟩
set_option maxRecDepth 100000 in
theorem lh_4a (hi : lu_in L i) (hM : ab_ok hp hN M) (hJ : ∀ M', lu_P M M' → J (417, law_L i, [], M')) : cm_wp cm_ms (cm_Call cm_ms 30) (some (L, xs)) lawP lu_c4a (lu_st 417) J (fun _ _ => False) 80 (400, law_L i, [], M) := by
  show 1000 = 1000 ∧ 0 ≤ (i + 1).toInt ∧ (i + 1).toInt < (L : Int) ∧ 1000 = 1000 ∧ 0 ≤ (i + 2).toInt ∧ (i + 2).toInt < (L : Int) ∧ cm_cs [] ≤ 8 ∧ ev_nar1 _ _ = true ∧ (_ → _) ∧ cm_Call cm_ms 30 98 [.ref 0, .int (xs (i + 1).toNatClampNeg), .int (xs (i + 2).toNatClampNeg)] M _
  refine ⟨rfl, (lu_ix hi (a := 1) (by decide) (by decide)).1, (lu_ix hi (a := 1) (by decide) (by decide)).2, rfl, (lu_ix hi (a := 2) (by decide) (by decide)).1, (lu_ix hi (a := 2) (by decide) (by decide)).2, by decide, by decide, fun _ => Or.inr rfl, cm_Call_up (lk_98 hM _ _) (Nat.le_refl _) (fun v M1 hv => ?_)⟩
  obtain ⟨⟨r, rfl⟩, hP⟩ := hv
  show (Value.int r).category = 1 ∧ J (417, law_L i, [], M1)
  exact ⟨rfl, hJ M1 hP⟩
set_option maxRecDepth 100000 in
theorem lh_4b (hi : lu_in L i) (hM : ab_ok hp hN M) (hJ : ∀ M', lu_P M M' → J (1723, law_L i, [], M')) : cm_wp cm_ms (cm_Call cm_ms 30) (some (L, xs)) lawP lu_c4b (lu_st 1723) J (fun _ _ => False) 80 (417, law_L i, [], M) := by
  show 1000 = 1000 ∧ 0 ≤ (i + 1).toInt ∧ (i + 1).toInt < (L : Int) ∧ 1000 = 1000 ∧ 0 ≤ (i + 2).toInt ∧ (i + 2).toInt < (L : Int) ∧ cm_cs [] ≤ 8 ∧ ev_nar1 _ _ = true ∧ (_ → _) ∧ cm_Call cm_ms 30 221 [.ref 124, .int (xs (i + 1).toNatClampNeg), .int (xs (i + 2).toNatClampNeg)] M _
  refine ⟨rfl, (lu_ix hi (a := 1) (by decide) (by decide)).1, (lu_ix hi (a := 1) (by decide) (by decide)).2, rfl, (lu_ix hi (a := 2) (by decide) (by decide)).1, (lu_ix hi (a := 2) (by decide) (by decide)).2, by decide, by decide, fun _ => Or.inr rfl, cm_Call_up (lk_221 hM _ _) (Nat.le_refl _) (fun v M1 hv => ?_)⟩
  obtain ⟨⟨r, rfl⟩, hP⟩ := hv
  show (Value.int r).category = 1 ∧ 0 ≤ _ ∧ J (1723, law_L i, [], M1)
  exact ⟨rfl, (by decide : (0 : Int) ≤ 1723), hJ M1 hP⟩
set_option maxRecDepth 100000 in
theorem lh_5a (hi : lu_in L i) (hM : ab_ok hp hN M) (hJ : ∀ M', lu_P M M' → J (454, law_L i, [], M')) : cm_wp cm_ms (cm_Call cm_ms 30) (some (L, xs)) lawP lu_c5a (lu_st 454) J (fun _ _ => False) 80 (437, law_L i, [], M) := by
  show 1000 = 1000 ∧ 0 ≤ (i + 1).toInt ∧ (i + 1).toInt < (L : Int) ∧ 1000 = 1000 ∧ 0 ≤ (i + 2).toInt ∧ (i + 2).toInt < (L : Int) ∧ cm_cs [] ≤ 8 ∧ ev_nar1 _ _ = true ∧ (_ → _) ∧ cm_Call cm_ms 30 99 [.ref 0, .int (xs (i + 1).toNatClampNeg), .int (xs (i + 2).toNatClampNeg)] M _
  refine ⟨rfl, (lu_ix hi (a := 1) (by decide) (by decide)).1, (lu_ix hi (a := 1) (by decide) (by decide)).2, rfl, (lu_ix hi (a := 2) (by decide) (by decide)).1, (lu_ix hi (a := 2) (by decide) (by decide)).2, by decide, by decide, fun _ => Or.inr rfl, cm_Call_up (lk_99 hM _ _) (Nat.le_refl _) (fun v M1 hv => ?_)⟩
  obtain ⟨⟨r, rfl⟩, hP⟩ := hv
  show (Value.int r).category = 1 ∧ J (454, law_L i, [], M1)
  exact ⟨rfl, hJ M1 hP⟩
set_option maxRecDepth 100000 in
theorem lh_5b (hi : lu_in L i) (hM : ab_ok hp hN M) (hJ : ∀ M', lu_P M M' → J (1723, law_L i, [], M')) : cm_wp cm_ms (cm_Call cm_ms 30) (some (L, xs)) lawP lu_c5b (lu_st 1723) J (fun _ _ => False) 80 (454, law_L i, [], M) := by
  show 1000 = 1000 ∧ 0 ≤ (i + 1).toInt ∧ (i + 1).toInt < (L : Int) ∧ 1000 = 1000 ∧ 0 ≤ (i + 2).toInt ∧ (i + 2).toInt < (L : Int) ∧ cm_cs [] ≤ 8 ∧ ev_nar1 _ _ = true ∧ (_ → _) ∧ cm_Call cm_ms 30 223 [.ref 124, .int (xs (i + 1).toNatClampNeg), .int (xs (i + 2).toNatClampNeg)] M _
  refine ⟨rfl, (lu_ix hi (a := 1) (by decide) (by decide)).1, (lu_ix hi (a := 1) (by decide) (by decide)).2, rfl, (lu_ix hi (a := 2) (by decide) (by decide)).1, (lu_ix hi (a := 2) (by decide) (by decide)).2, by decide, by decide, fun _ => Or.inr rfl, cm_Call_up (lk_223 hM _ _) (Nat.le_refl _) (fun v M1 hv => ?_)⟩
  obtain ⟨⟨r, rfl⟩, hP⟩ := hv
  show (Value.int r).category = 1 ∧ 0 ≤ _ ∧ J (1723, law_L i, [], M1)
  exact ⟨rfl, (by decide : (0 : Int) ≤ 1723), hJ M1 hP⟩
end HALVES
section HALVES
variable {J : cm_S → Prop} {L : Nat} {xs : Nat → Int32} {i : Int32} {M : cm_M}
set_option maxRecDepth 100000 in
theorem lh_6a (hi : lu_in L i) (hM : ab_ok hp hN M) (hJ : ∀ M', lu_P M M' → J (485, law_L i, [], M')) : cm_wp cm_ms (cm_Call cm_ms 30) (some (L, xs)) lawP lu_c6a (lu_st 485) J (fun _ _ => False) 80 (474, law_L i, [], M) := by
  show 1000 = 1000 ∧ 0 ≤ (i + 1).toInt ∧ (i + 1).toInt < (L : Int) ∧ cm_cs [] ≤ 8 ∧ ev_nar1 _ _ = true ∧ (_ → _) ∧ cm_Call cm_ms 30 100 [.ref 0, .int (xs (i + 1).toNatClampNeg)] M _
  refine ⟨rfl, (lu_ix hi (a := 1) (by decide) (by decide)).1, (lu_ix hi (a := 1) (by decide) (by decide)).2, by decide, by decide, fun _ => Or.inr rfl, cm_Call_up (lk_100 hM _) (Nat.le_refl _) (fun v M1 hv => ?_)⟩
  obtain ⟨⟨r, rfl⟩, hP⟩ := hv
  show (Value.int r).category = 1 ∧ J (485, law_L i, [], M1)
  exact ⟨rfl, hJ M1 hP⟩
set_option maxRecDepth 100000 in
theorem lh_6b (hi : lu_in L i) (hM : ab_ok hp hN M) (hJ : ∀ M', lu_P M M' → J (1723, law_L i, [], M')) : cm_wp cm_ms (cm_Call cm_ms 30) (some (L, xs)) lawP lu_c6b (lu_st 1723) J (fun _ _ => False) 80 (485, law_L i, [], M) := by
  show 1000 = 1000 ∧ 0 ≤ (i + 1).toInt ∧ (i + 1).toInt < (L : Int) ∧ cm_cs [] ≤ 8 ∧ ev_nar1 _ _ = true ∧ (_ → _) ∧ cm_Call cm_ms 30 224 [.ref 124, .int (xs (i + 1).toNatClampNeg)] M _
  refine ⟨rfl, (lu_ix hi (a := 1) (by decide) (by decide)).1, (lu_ix hi (a := 1) (by decide) (by decide)).2, by decide, by decide, fun _ => Or.inr rfl, cm_Call_up (lk_224 hM _) (Nat.le_refl _) (fun v M1 hv => ?_)⟩
  obtain ⟨⟨r, rfl⟩, hP⟩ := hv
  show (Value.int r).category = 1 ∧ 0 ≤ _ ∧ J (1723, law_L i, [], M1)
  exact ⟨rfl, (by decide : (0 : Int) ≤ 1723), hJ M1 hP⟩
set_option maxRecDepth 100000 in
theorem lh_7a (hM : ab_ok hp hN M) (hJ : ∀ M', lu_P M M' → J (504, law_L i, [], M')) : cm_wp cm_ms (cm_Call cm_ms 30) (some (L, xs)) lawP lu_c7a (lu_st 504) J (fun _ _ => False) 80 (499, law_L i, [], M) := by
  show cm_cs [] ≤ 8 ∧ ev_nar1 _ _ = true ∧ (_ → _) ∧ cm_Call cm_ms 30 101 [.ref 0] M _
  refine ⟨by decide, by decide, fun _ => Or.inr rfl, cm_Call_up (lk_101 hM) (Nat.le_refl _) (fun v M1 hv => ?_)⟩
  obtain ⟨⟨r, rfl⟩, hP⟩ := hv
  show (Value.int r).category = 1 ∧ J (504, law_L i, [], M1)
  exact ⟨rfl, hJ M1 hP⟩
set_option maxRecDepth 100000 in
theorem lh_7b (hM : ab_ok hp hN M) (hJ : ∀ M', lu_P M M' → J (1723, law_L i, [], M')) : cm_wp cm_ms (cm_Call cm_ms 30) (some (L, xs)) lawP lu_c7b (lu_st 1723) J (fun _ _ => False) 80 (504, law_L i, [], M) := by
  show cm_cs [] ≤ 8 ∧ ev_nar1 _ _ = true ∧ (_ → _) ∧ cm_Call cm_ms 30 225 [.ref 124] M _
  refine ⟨by decide, by decide, fun _ => Or.inr rfl, cm_Call_up (lk_225 hM) (Nat.le_refl _) (fun v M1 hv => ?_)⟩
  obtain ⟨⟨r, rfl⟩, hP⟩ := hv
  show (Value.int r).category = 1 ∧ 0 ≤ _ ∧ J (1723, law_L i, [], M1)
  exact ⟨rfl, (by decide : (0 : Int) ≤ 1723), hJ M1 hP⟩
set_option maxRecDepth 100000 in
theorem lh_8a (hM : ab_ok hp hN M) (hJ : ∀ M', lu_P M M' → J (517, law_L i, [], M')) : cm_wp cm_ms (cm_Call cm_ms 30) (some (L, xs)) lawP lu_c8a (lu_st 517) J (fun _ _ => False) 80 (512, law_L i, [], M) := by
  show cm_cs [] ≤ 8 ∧ ev_nar1 _ _ = true ∧ (_ → _) ∧ cm_Call cm_ms 30 102 [.ref 0] M _
  refine ⟨by decide, by decide, fun _ => Or.inr rfl, cm_Call_up (lk_102 hM) (Nat.le_refl _) (fun v M1 hv => ?_)⟩
  obtain ⟨⟨r, rfl⟩, hP⟩ := hv
  show (Value.int r).category = 1 ∧ J (517, law_L i, [], M1)
  exact ⟨rfl, hJ M1 hP⟩
set_option maxRecDepth 100000 in
theorem lh_8b (hM : ab_ok hp hN M) (hJ : ∀ M', lu_P M M' → J (1723, law_L i, [], M')) : cm_wp cm_ms (cm_Call cm_ms 30) (some (L, xs)) lawP lu_c8b (lu_st 1723) J (fun _ _ => False) 80 (517, law_L i, [], M) := by
  show cm_cs [] ≤ 8 ∧ ev_nar1 _ _ = true ∧ (_ → _) ∧ cm_Call cm_ms 30 226 [.ref 124] M _
  refine ⟨by decide, by decide, fun _ => Or.inr rfl, cm_Call_up (lk_226 hM) (Nat.le_refl _) (fun v M1 hv => ?_)⟩
  obtain ⟨⟨r, rfl⟩, hP⟩ := hv
  show (Value.int r).category = 1 ∧ 0 ≤ _ ∧ J (1723, law_L i, [], M1)
  exact ⟨rfl, (by decide : (0 : Int) ≤ 1723), hJ M1 hP⟩
set_option maxRecDepth 100000 in
theorem lh_9a (hM : ab_ok hp hN M) (hJ : ∀ M', lu_P M M' → J (530, law_L i, [], M')) : cm_wp cm_ms (cm_Call cm_ms 30) (some (L, xs)) lawP lu_c9a (lu_st 530) J (fun _ _ => False) 80 (525, law_L i, [], M) := by
  show cm_cs [] ≤ 8 ∧ ev_nar1 _ _ = true ∧ (_ → _) ∧ cm_Call cm_ms 30 103 [.ref 0] M _
  refine ⟨by decide, by decide, fun _ => Or.inr rfl, cm_Call_up (lk_103 hM) (Nat.le_refl _) (fun v M1 hv => ?_)⟩
  obtain ⟨⟨r, rfl⟩, hP⟩ := hv
  show (Value.int r).category = 1 ∧ J (530, law_L i, [], M1)
  exact ⟨rfl, hJ M1 hP⟩
set_option maxRecDepth 100000 in
theorem lh_9b (hM : ab_ok hp hN M) (hJ : ∀ M', lu_P M M' → J (1723, law_L i, [], M')) : cm_wp cm_ms (cm_Call cm_ms 30) (some (L, xs)) lawP lu_c9b (lu_st 1723) J (fun _ _ => False) 80 (530, law_L i, [], M) := by
  show cm_cs [] ≤ 8 ∧ ev_nar1 _ _ = true ∧ (_ → _) ∧ cm_Call cm_ms 30 227 [.ref 124] M _
  refine ⟨by decide, by decide, fun _ => Or.inr rfl, cm_Call_up (lk_227 hM) (Nat.le_refl _) (fun v M1 hv => ?_)⟩
  obtain ⟨⟨r, rfl⟩, hP⟩ := hv
  show (Value.int r).category = 1 ∧ 0 ≤ _ ∧ J (1723, law_L i, [], M1)
  exact ⟨rfl, (by decide : (0 : Int) ≤ 1723), hJ M1 hP⟩
set_option maxRecDepth 100000 in
theorem lh_10a (hM : ab_ok hp hN M) (hJ : ∀ M', lu_P M M' → J (543, law_L i, [], M')) : cm_wp cm_ms (cm_Call cm_ms 30) (some (L, xs)) lawP lu_c10a (lu_st 543) J (fun _ _ => False) 80 (538, law_L i, [], M) := by
  show cm_cs [] ≤ 8 ∧ ev_nar1 _ _ = true ∧ (_ → _) ∧ cm_Call cm_ms 30 104 [.ref 0] M _
  refine ⟨by decide, by decide, fun _ => Or.inr rfl, cm_Call_up (lk_104 hM) (Nat.le_refl _) (fun v M1 hv => ?_)⟩
  obtain ⟨⟨r, rfl⟩, hP⟩ := hv
  show (Value.int r).category = 1 ∧ J (543, law_L i, [], M1)
  exact ⟨rfl, hJ M1 hP⟩
set_option maxRecDepth 100000 in
theorem lh_10b (hM : ab_ok hp hN M) (hJ : ∀ M', lu_P M M' → J (1723, law_L i, [], M')) : cm_wp cm_ms (cm_Call cm_ms 30) (some (L, xs)) lawP lu_c10b (lu_st 1723) J (fun _ _ => False) 80 (543, law_L i, [], M) := by
  show cm_cs [] ≤ 8 ∧ ev_nar1 _ _ = true ∧ (_ → _) ∧ cm_Call cm_ms 30 229 [.ref 124] M _
  refine ⟨by decide, by decide, fun _ => Or.inr rfl, cm_Call_up (lk_229 hM) (Nat.le_refl _) (fun v M1 hv => ?_)⟩
  obtain ⟨⟨r, rfl⟩, hP⟩ := hv
  show (Value.int r).category = 1 ∧ 0 ≤ _ ∧ J (1723, law_L i, [], M1)
  exact ⟨rfl, (by decide : (0 : Int) ≤ 1723), hJ M1 hP⟩
end HALVES
