/-! LOOPS: templates at loop heads, a measure that falls -/
theorem ev_X_le {p : Program} {R : Room} {s : State} {m : MethodId} {args : Array Value} {meth : Method} {c : Code} {cc : ByteArray} {nL : Nat} {own : String} {ini : Bool} {D : va_G} {A : Nat → Prop} {capC capS : Nat} {g0 g : ev_G} {Ls : Nat} (X : ev_X p R s m args meth c cc nL own ini D A capC capS g0 Ls) (h : ev_le g0 g) : ev_X p R s m args meth c cc nL own ini D A capC capS g Ls := by
  obtain ⟨hx, hb, hml, hown, hts, hK, hA, hN, hini, hcC, hcS, hf, hlc, hscr⟩ := X
  refine ⟨hx, hb, hml, hown, hts, hK, hA, by rw [h.2.1]; exact hN, hini, hcC, hcS, hf, hlc, fun L hL => ?_⟩
  obtain ⟨xs, h1, h2, h3, h4⟩ := hscr L hL
  obtain ⟨l3, e3⟩ := h.2.2
  exact ⟨xs, by rw [h.2.1]; exact h1, by rw [h.2.1]; exact h2, by rw [h.2.1]; exact h3, fun j hj => by rw [e3]; exact ev_ap (h4 j hj)⟩
/-- the first n of a template's values are the first n variables themselves -/
def ev_pre (n : Nat) (sg : List ev_A) : Bool := decide (sg.take n = (List.range n).map (fun (i : Nat) => ((3, (i : Int)) : ev_A)))
theorem ev_pre_ok {g0 g : ev_G} {sg : List ev_A} (hle : ev_le g0 g) (h : ev_pre g0.2.2.length sg = true) (hv : ∀ b ∈ sg, ∃ v, ev_v g b = some v) : ev_le g0 (g.1, g.2.1, ev_ET g sg) := by
  have h : sg.take g0.2.2.length = (List.range g0.2.2.length).map (fun (i : Nat) => ((3, (i : Int)) : ev_A)) := by simpa [ev_pre] using h
  refine ⟨hle.1, hle.2.1, ⟨ev_ET g (sg.drop g0.2.2.length), ?_⟩⟩
  obtain ⟨l3, e3⟩ := hle.2.2
  show ev_ET g sg = g0.2.2 ++ ev_ET g (sg.drop g0.2.2.length)
  have e1 : ev_ET g sg = ev_ET g (sg.take g0.2.2.length) ++ ev_ET g (sg.drop g0.2.2.length) := by
    unfold ev_ET
    rw [← List.map_append, List.take_append_drop]
  rw [e1]
  congr 1
  apply List.ext_getElem?
  intro i
  by_cases hi : i < g0.2.2.length
  · have hb : (sg.take g0.2.2.length)[i]? = some (3, (i : Int)) := by
      rw [h, List.getElem?_map, List.getElem?_range hi]
      rfl
    obtain ⟨v, hv1⟩ := hv _ (List.mem_of_mem_take (List.mem_of_getElem? hb))
    rw [ev_ET_at hb hv1]
    obtain ⟨x, rfl⟩ := ev_vI rfl hv1
    have h2 := ev_var (a := (3, (i : Int))) rfl hv1
    rw [Int.toNat_natCast, e3, List.getElem?_append_left hi] at h2
    exact h2.symm
  · rw [List.getElem?_eq_none (by unfold ev_ET; rw [List.length_map, h]; simp; omega), List.getElem?_eq_none (by omega)]
/-- all variables are ints -/
def ev_ai (g : ev_G) : Prop := ∀ (k : Nat) (v : Value), g.2.2[k]? = some v → ∃ x : Int32, v = .int x
theorem ev_ai_ET {g : ev_G} {K : ev_K} : ∀ {rs : List ev_Ke} {sg : List ev_A}, ev_mk K rs sg = true → (∀ b ∈ sg, ∃ v, ev_v g b = some v) → ∀ (k : Nat) (v : Value), (ev_ET g sg)[k]? = some v → ∃ x : Int32, v = .int x
  | [], [], _, _, k, v, h => by simp [ev_ET] at h
  | r :: rs, b :: bs, h, hv, k, v, hk => by
    unfold ev_mk at h
    simp only [Bool.and_eq_true] at h
    cases k with
    | zero =>
      obtain ⟨w, hw⟩ := hv b (List.mem_cons_self ..)
      have := ev_ET_at (sg := b :: bs) (i := 0) rfl hw
      rw [hk] at this
      cases this
      exact ev_vI h.1.2.1 hw
    | succ k => exact ev_ai_ET h.2 (fun b hb => hv b (List.mem_cons_of_mem _ hb)) k v (by simpa [ev_ET] using hk)
  | [], _ :: _, h, _, _, _, _ => by simp [ev_mk] at h
  | _ :: _, [], h, _, _, _, _ => by simp [ev_mk] at h
section EVL
variable {p : Program} {l : Launch} {e : Env} {R : Room} {s : State} {m : MethodId} {args : Array Value} {below : List Frame} {meth : Method} {c : Code} {cc : ByteArray} {Q : State → Prop} {D : va_G} {A : Nat → Prop} {g0 : ev_G} {P : ev_P} {ms : List ev_MI} {call : Nat → List ev_A → List ev_C → ev_K → Option (List ev_Out)} {d : Nat} {rows : List (Nat × ev_Row)}
/-- from a template's picture the machine comes to its end -/
def ev_At (p : Program) (l : Launch) (e : Env) (R : Room) (s : State) (m : MethodId) (args : Array Value) (below : List Frame) (meth : Method) (c : Code) (Q : State → Prop) (nL : Nat) (D : va_G) (A : Nat → Prop) (g : ev_G) (S : ev_S) : Prop :=
  ∀ (ws : va_W) (H : Heap) (locs : List Loc) (ls : Array Slot) (sc : List Value), ev_R s A D nL g S ws H locs ls sc → W p l e R s m args below meth c H locs S.2.2.2.2.2.1 S.2.2.2.2.2.2 Q (F0 m S.1 ls sc)
/-- an end of a run from a loop's head: good by itself, or an instance of a head with a smaller measure -/
def ev_Next (p : Program) (l : Launch) (e : Env) (R : Room) (s : State) (m : MethodId) (args : Array Value) (below : List Frame) (meth : Method) (c : Code) (Q : State → Prop) (nL : Nat) (D : va_G) (A : Nat → Prop) (g0 : ev_G) (heads : List ev_S) (mu : Nat → List Value → Nat) (h : Nat) (S : ev_S) : Prop :=
  (∀ gb, ev_le g0 gb → ev_Go p l e R s m args below meth c Q nL D A gb S) ∨ ∃ (h' : Nat) (T' : ev_S) (sg : List ev_A), heads[h']? = some T' ∧ ev_inst T' S sg = true ∧ ev_pre g0.2.2.length sg = true ∧
    ∀ (T : ev_S) (gh g : ev_G), heads[h]? = some T → ev_b T.2.2.2.2.1 gh → ev_ai gh → ev_le g0 gh → ev_le gh g → ev_b S.2.2.2.2.1 g → (∀ b ∈ sg, ∃ v, ev_v g b = some v) ∧ mu h' (ev_ET g sg) < mu h gh.2.2
theorem ev_loops (hMS : ∀ (k : Nat) (mi : ev_MI), ms[k]? = some mi → ev_MOK ms mi) (hC : ev_Cs ms call d) (hRm : d + 1 ≤ R.frames ∧ 40 * (d + 1) ≤ R.locals) (X : ev_X p R s m args meth c cc P.2.2.2.2.1 P.2.2.2.1 P.2.2.1 D A P.1 P.2.1 g0 P.2.2.2.2.2)
    (hrows : ∀ q ∈ rows, ev_RowOK ms P cc q) (heads : List ev_S) (mu : Nat → List Value → Nat)
    (hrun : ∀ (h : Nat) (T : ev_S), heads[h]? = some T → ∃ (n : Nat) (Ss outs : List ev_S), (∀ gh, ev_le g0 gh → (∀ S ∈ Ss, ev_Go p l e R s m args below meth c Q P.2.2.2.2.1 D A gh S) → ev_Go p l e R s m args below meth c Q P.2.2.2.2.1 D A gh T) ∧ ev_all (ev_run ms call P rows (heads.map (fun T => T.1)) n) Ss = some outs ∧ ∀ S ∈ outs, ev_Next p l e R s m args below meth c Q P.2.2.2.2.1 D A g0 heads mu h S) :
    ∀ (N h : Nat) (T : ev_S), heads[h]? = some T → ∀ gh, ev_le g0 gh → ev_ai gh → mu h gh.2.2 < N → ev_At p l e R s m args below meth c Q P.2.2.2.2.1 D A gh T
  | 0, h, T, hT, gh, hle, hai, hN => absurd hN (Nat.not_lt_zero _)
  | N + 1, h, T, hT, gh, hle, hai, hN => by
    intro ws H locs ls sc hR
    obtain ⟨n, Ss, outs, hfirst, hall, hout⟩ := hrun h T hT
    refine hfirst gh hle (fun S hS => ?_) gh ws H locs ls sc (ev_le_rf gh) hR
    obtain ⟨o', h1, h2⟩ := ev_all_ok hall S hS
    refine ev_run_ok hMS hC hRm (ev_X_le X hle) hrows n S o' h1 (fun o ho => ?_)
    rcases hout o (h2 o ho) with hg | ⟨h', T', sg, hT', hi, hp, hm⟩
    · exact hg gh hle
    · intro g ws' H' locs' ls' sc' hle' hR'
      obtain ⟨hv, hmu⟩ := hm T gh g hT hR.2.2.2.2.1 hai hle hle' hR'.2.2.2.2.1
      have hR2 := ev_inst_ok hi hv hR'
      have hai2 : ev_ai (g.1, g.2.1, ev_ET g sg) := by
        have hi2 := hi
        unfold ev_inst at hi2
        simp only [Bool.and_eq_true] at hi2
        exact ev_ai_ET hi2.2.2.2.2.1 hv
      have ih := ev_loops hMS hC hRm X hrows heads mu hrun N h' T' hT' (g.1, g.2.1, ev_ET g sg) (ev_pre_ok (ev_le_tr hle hle') hp hv) hai2 (by show mu h' (ev_ET g sg) < N; omega) ws' H' locs' ls' sc' hR2
      unfold ev_inst at hi
      simp only [Bool.and_eq_true, decide_eq_true_eq] at hi
      obtain ⟨i1, -, -, -, -, -, i7, i8⟩ := hi
      rw [← i1]
      exact W.widen i7 i8 ih
end EVL
