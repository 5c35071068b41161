/-! AB: contracts of methods: method, arguments, knowledge, memory, what may be written, ends (their stack, knowledge, memory) -/
abbrev ab_Ct : Type := Nat × List ab_A × ab_K × ab_Ca × ab_Md × List ab_Out
def ab_CT (ms : List ev_MI) (h : ab_H) (N : cm_M → Prop) (d : Nat) (c : ab_Ct) : Prop := ∀ (ρ : List Int32) (vs : List Value) (M : cm_M), ab_s ρ c.2.1 vs → ab_k ρ c.2.2.1 → ab_ok h N M → ab_ca ρ M c.2.2.2.1 → cm_Call ms d c.1 vs M (ab_Post h N M c.2.2.2.2.1 ρ c.2.2.2.2.2)
def ab_mds (a b : ab_Md) : Bool := a.all (fun q => match ev_at b q.1 with
  | some l => l.isEmpty || (!(q.2.isEmpty) && q.2.all (fun i => l.contains i))
  | none => false)
theorem ab_mds_ok {a b : ab_Md} (h : ab_mds a b = true) {c i : Nat} (hb : ab_inM b c i = false) : ab_inM a c i = false := by
  cases ha : ab_inM a c i with
  | false => rfl
  | true =>
    unfold ab_inM at ha
    split at ha
    · rename_i l hl
      have h1 := List.all_eq_true.mp h _ (ev_at_mem hl)
      dsimp only at h1
      unfold ab_inM at hb
      split at h1
      · rename_i l2 hl2
        rw [hl2] at hb
        simp only [Bool.or_eq_false_iff] at hb
        simp only [Bool.or_eq_true, Bool.and_eq_true, Bool.not_eq_true'] at h1
        rcases h1 with h1 | ⟨h1, h2⟩
        · rw [hb.1] at h1; cases h1
        · simp only [Bool.or_eq_true] at ha
          rcases ha with ha | ha
          · rw [h1] at ha; cases ha
          · have h3 := List.all_eq_true.mp h2 i (List.contains_iff_mem.mp ha)
            rw [hb.2] at h3
            cases h3
      · cases h1
    · cases ha
/-- a contract's variables at a call: those of its start by sg, new ones behind -/
def ab_tv (sg : List ab_A) (n : Nat) (a : ab_A) : ab_A := if a.1 = 3 then (match sg[a.2.1.toNat]? with
  | some b => b
  | none => ab_x (n + (a.2.1.toNat - sg.length))) else a
def ab_tk (sg : List ab_A) (n : Nat) (r : ab_Ke) : ab_Ke := (r.1, r.2.1, r.2.2.1, ab_tv sg n r.2.2.2.1, ab_tv sg n r.2.2.2.2)
theorem ab_tv_i {ρ ext : List Int32} {sg : List ab_A} {n : Nat} (hn : n = ρ.length) (hsg : ∀ b ∈ sg, ∃ x, ab_i ρ b = some x) {a : ab_A} {y : Int32} (h : ab_i (ab_rT ρ sg ++ ext) a = some y) : ab_i (ρ ++ ext) (ab_tv sg n a) = some y := by
  unfold ab_tv
  split
  · rename_i h3
    unfold ab_i at h
    rw [h3] at h
    have h : (ab_rT ρ sg ++ ext)[a.2.1.toNat]? = some y := h
    have hlen : (ab_rT ρ sg).length = sg.length := by unfold ab_rT; rw [List.length_map]
    split
    · rename_i b hb
      have hlt := (List.getElem?_eq_some_iff.mp hb).1
      rw [List.getElem?_append_left (by rw [hlen]; exact hlt)] at h
      obtain ⟨x, hx⟩ := hsg b (List.mem_of_getElem? hb)
      rw [ab_rT_at hb hx] at h
      cases h
      exact ab_i_ap hx
    · rename_i hb
      have hge : sg.length ≤ a.2.1.toNat := List.getElem?_eq_none_iff.mp hb
      rw [List.getElem?_append_right (by rw [hlen]; exact hge), hlen] at h
      unfold ab_x ab_i
      dsimp only
      rw [Int.toNat_natCast, List.getElem?_append_right (by omega)]
      rw [show n + (a.2.1.toNat - sg.length) - ρ.length = a.2.1.toNat - sg.length by omega]
      exact h
  · rename_i h3
    unfold ab_i at h ⊢
    split at h
    · exact h
    · rename_i e; exact absurd e h3
    · cases h
theorem ab_tv_v {ρ ext : List Int32} {sg : List ab_A} {n : Nat} (hn : n = ρ.length) (hsg : ∀ b ∈ sg, ∃ x, ab_i ρ b = some x) {a : ab_A} {v : Value} (h : ab_v (ab_rT ρ sg ++ ext) a v) : ab_v (ρ ++ ext) (ab_tv sg n a) v := by
  by_cases h3 : a.1 = 3
  · obtain ⟨x, hx, rfl⟩ := ab_vi (by unfold ab_isI; rw [h3]; rfl) h
    exact ab_iv (ab_tv_i hn hsg hx)
  · have e : ab_tv sg n a = a := by unfold ab_tv; rw [if_neg h3]
    rw [e]
    unfold ab_v at h ⊢
    split at h
    · exact h
    · exact h
    · exact h
    · rename_i e2; exact absurd e2 h3
    · exact h
    · exact h
    · exact h
theorem ab_tv_s {ρ ext : List Int32} {sg : List ab_A} {n : Nat} (hn : n = ρ.length) (hsg : ∀ b ∈ sg, ∃ x, ab_i ρ b = some x) : ∀ {st : List ab_A} {vs : List Value}, ab_s (ab_rT ρ sg ++ ext) st vs → ab_s (ρ ++ ext) (st.map (ab_tv sg n)) vs
  | [], [], _ => trivial
  | [], _ :: _, h => h.elim
  | _ :: _, [], h => h.elim
  | _ :: _, _ :: _, h => ⟨ab_tv_v hn hsg h.1, ab_tv_s hn hsg h.2⟩
theorem ab_tv_isI {ρ : List Int32} {sg : List ab_A} {n : Nat} (hsg : ∀ b ∈ sg, ∃ x, ab_i ρ b = some x) (a : ab_A) : ab_isI (ab_tv sg n a) = ab_isI a := by
  unfold ab_tv
  split
  · rename_i h3
    have e : ab_isI a = true := by unfold ab_isI; rw [h3]; rfl
    rw [e]
    split
    · rename_i b hb
      obtain ⟨x, hx⟩ := hsg b (List.mem_of_getElem? hb)
      exact ab_ivI hx
    · rfl
  · rfl
/-- an end's bounds of the start's variables are known behind the call -/
def ab_rf : List ab_A → ab_K → ab_K → ab_K
  | b :: sg, r :: eK, K => ab_rf sg eK (ab_set1 K b (max (ab_bd K b).1 r.1, min (ab_bd K b).2 r.2.1))
  | _, _, K => K
theorem ab_set1_len (K : ab_K) (a : ab_A) (b : Int × Int) : (ab_set1 K a b).length = K.length := by
  unfold ab_set1
  split
  · split
    · rw [List.length_set]
    · rfl
  · rfl
theorem ab_rf_len : ∀ (sg : List ab_A) (eK K : ab_K), (ab_rf sg eK K).length = K.length
  | [], _, K => by unfold ab_rf; rfl
  | _ :: _, [], K => by unfold ab_rf; rfl
  | b :: sg, r :: eK, K => by
    unfold ab_rf
    rw [ab_rf_len, ab_set1_len]
theorem ab_rf_ok {ρ : List Int32} : ∀ (sg : List ab_A) (eK : ab_K) {K : ab_K}, (∀ (j : Nat) (b : ab_A) (r : ab_Ke), sg[j]? = some b → eK[j]? = some r → ∃ x, ab_i ρ b = some x ∧ ev_inb (r.1, r.2.1) x) → ab_k ρ K → ab_k ρ (ab_rf sg eK K)
  | [], _, K, _, hk => by unfold ab_rf; exact hk
  | _ :: _, [], K, _, hk => by unfold ab_rf; exact hk
  | b :: sg, r :: eK, K, hj, hk => by
    unfold ab_rf
    obtain ⟨x, hx, hb⟩ := hj 0 b r rfl rfl
    have h1 := ab_bd_in hk hx
    obtain ⟨a1, a2⟩ := h1
    obtain ⟨b1, b2⟩ := hb
    dsimp only at b1 b2
    exact ab_rf_ok sg eK (fun j b' r' e1 e2 => hj (j + 1) b' r' e1 e2) (ab_set1_ok hk hx ⟨by dsimp only; omega, by dsimp only; omega⟩)
def ab_use (h : ab_H) (md : ab_Md) (c : ab_Ct) (as : List ab_A) (K : ab_K) (Ca : ab_Ca) : Option (List ab_Out) :=
  if ab_mds c.2.2.2.2.1 md = true then (match ab_in h 0 (0, [], c.2.1, c.2.2.1, c.2.2.2.1) (0, [], as, K, Ca) with
    | some (K1, Ca1, sg) => some (c.2.2.2.2.2.map (fun e => (e.1.map (ab_tv sg K1.length), ab_rf sg e.2.1 K1 ++ (e.2.1.drop sg.length).map (ab_tk sg K1.length), Ca1.filter (fun q => !(ab_inM c.2.2.2.2.1 q.1 q.2.1)) ++ e.2.2.map (fun q => (q.1, q.2.1, ab_tv sg K1.length q.2.2)))))
    | none => none) else none
theorem ab_use_ok {ms : List ev_MI} {h : ab_H} {N : cm_M → Prop} {M0 : cm_M} {md : ab_Md} {d : Nat} {c : ab_Ct} (hN : ab_NP h N) (hc : ab_CT ms h N d c) {as : List ab_A} {K : ab_K} {Ca : ab_Ca} {outs : List ab_Out} {ρ : List Int32} {vs : List Value} {M : cm_M} (hu : ab_use h md c as K Ca = some outs) (gs : ab_s ρ as vs) (gk : ab_k ρ K) (gm : ab_m h N M0 md ρ Ca M) : cm_Call ms d c.1 vs M (ab_Post h N M0 md ρ outs) := by
  unfold ab_use at hu
  split at hu
  · rename_i hmd
    split at hu
    · rename_i K1 Ca1 sg hin
      cases hu
      obtain ⟨e1, eT, k1, k2, k3, k4, -, k6, k7, k8⟩ := ab_in_ok (N := N) (M0 := M0) (md := md) (ρ0 := []) (e := ρ) (C := (0, [], vs, M)) hN hin rfl (fun q hq => nomatch hq) gs gk gm
      rw [List.nil_append] at k1 k2 k3 k4 k6 k7 k8
      dsimp only at k6 k7 k8 k2
      rw [List.nil_append] at k3
      rw [← k3] at k6 k7 k8
      refine cm_Call_up (hc _ vs M k6 k7 k8.1 k8.2.2) (Nat.le_refl _) (fun v M' hp => ?_)
      obtain ⟨o, ho, ext, p1, p2, p3⟩ := hp
      have hn : K1.length = (ρ ++ e1).length := k1.1
      have hlen : (ab_rT (ρ ++ e1) sg).length = sg.length := by unfold ab_rT; rw [List.length_map]
      refine ⟨_, List.mem_map.mpr ⟨o, ho, rfl⟩, e1 ++ ext, ?_, ?_, p3.1, ?_, ?_⟩
      · rw [← List.append_assoc]
        exact ab_tv_s hn k4 p1
      · rw [← List.append_assoc]
        have hol : o.2.1.length = sg.length + ext.length := by rw [p2.1, List.length_append, hlen]
        have hrf : ab_k (ρ ++ e1) (ab_rf sg o.2.1 K1) := by
          refine ab_rf_ok sg o.2.1 (fun j b r g1 g2 => ?_) k1
          obtain ⟨x, hx⟩ := k4 b (List.mem_of_getElem? g1)
          have g3 := ab_rT_at g1 hx
          exact ⟨x, hx, (p2.2 j r x g2 (ev_ap g3)).1⟩
        have hrl := ab_rf_len sg o.2.1 K1
        refine ⟨by simp only [List.length_append, List.length_map, List.length_drop]; rw [hrl, hn, hol, List.length_append]; omega, fun j r x h1 h2 => ?_⟩
        by_cases hj : j < K1.length
        · rw [List.getElem?_append_left (by rw [hrl]; exact hj)] at h1
          rw [List.getElem?_append_left (by rw [← hn]; exact hj)] at h2
          exact ab_e_ap (hrf.2 j r x h1 h2)
        · rw [List.getElem?_append_right (by rw [hrl]; omega), List.getElem?_map, List.getElem?_drop, hrl] at h1
          rw [List.getElem?_append_right (by rw [← hn]; omega)] at h2
          cases hz : o.2.1[sg.length + (j - K1.length)]? with
          | none => rw [hz] at h1; cases h1
          | some r0 =>
            rw [hz] at h1
            cases h1
            have h5 := p2.2 (sg.length + (j - K1.length)) r0 x hz (by
              rw [List.getElem?_append_right (by rw [hlen]; omega), hlen, show sg.length + (j - K1.length) - sg.length = j - (ρ ++ e1).length by omega]
              exact h2)
            refine ⟨h5.1, ?_⟩
            rcases h5.2 with h6 | ⟨y, z, hy, hz2, e⟩
            · exact Or.inl h6
            · exact Or.inr ⟨y, z, ab_tv_i hn k4 hy, ab_tv_i hn k4 hz2, e⟩
      · intro c' i' hm'
        obtain ⟨f1, f2, f3⟩ := p3.2.1 c' i' (ab_mds_ok hmd hm')
        obtain ⟨g1, g2, g3⟩ := k2.2.1 c' i' hm'
        exact ⟨f1.trans g1, f2.trans g2, f3.trans g3⟩
      · intro q hq
        rw [← List.append_assoc]
        rcases List.mem_append.mp hq with hq | hq
        · obtain ⟨q1, q2⟩ := List.mem_filter.mp hq
          have q2 : ab_inM c.2.2.2.2.1 q.1 q.2.1 = false := by simpa using q2
          obtain ⟨f1, -, f3⟩ := p3.2.1 q.1 q.2.1 q2
          exact ab_ce_ap (ab_ce_ne f1 f3 (k2.2.2 q q1))
        · obtain ⟨q0, h0, rfl⟩ := List.mem_map.mp hq
          have h1 := p3.2.2 q0 h0
          unfold ab_ce at h1 ⊢
          dsimp only
          rw [ab_tv_isI k4]
          split
          · rename_i hI
            rw [if_pos hI] at h1
            exact ab_tv_i hn k4 h1
          · rename_i hI
            rw [if_neg hI] at h1
            exact ab_tv_v hn k4 h1
    · cases hu
  · cases hu
def ab_uses (h : ab_H) (md : ab_Md) (us : List ab_Ct) (k : Nat) (as : List ab_A) (K : ab_K) (Ca : ab_Ca) : Option (List ab_Out) := match us with
  | [] => none
  | c :: r => if c.1 = k then (match ab_use h md c as K Ca with
      | some o => some o
      | none => ab_uses h md r k as K Ca) else ab_uses h md r k as K Ca
theorem ab_uses_ok {ms : List ev_MI} {h : ab_H} {N : cm_M → Prop} {M0 : cm_M} {md : ab_Md} {d : Nat} (hN : ab_NP h N) : ∀ {us : List ab_Ct}, (∀ c ∈ us, ab_CT ms h N d c) → ab_ClOk ms h N M0 md d (ab_uses h md us)
  | [], _ => fun k as K Ca outs ρ vs M hu => by cases hu
  | c :: r, hus => fun k as K Ca outs ρ vs M hu gs gk gm => by
    have ih := ab_uses_ok hN (M0 := M0) (md := md) (us := r) (fun x hx => hus x (List.mem_cons_of_mem _ hx))
    unfold ab_uses at hu
    split at hu
    · rename_i hk
      split at hu
      · rename_i o ho
        cases hu
        rw [← hk]
        exact ab_use_ok hN (hus c List.mem_cons_self) ho gs gk gm
      · exact ih k as K Ca outs ρ vs M hu gs gk gm
    · exact ih k as K Ca outs ρ vs M hu gs gk gm
/-! a method's end -/
def ab_ret (ret : Option FieldType) (rows : List (Nat × ev_Row)) (S : ab_S) : Bool := match ev_at rows S.1 with
  | some r => (match r.1, ret, S.2.2.1 with
    | 210, some .int, [a] => ab_isI a
    | 210, some .boolean, [a] => ab_isI a && (decide (0 ≤ (ab_bd S.2.2.2.1 a).1) && decide ((ab_bd S.2.2.2.1 a).2 ≤ 1))
    | 210, some .char, [a] => ab_isI a && (decide (0 ≤ (ab_bd S.2.2.2.1 a).1) && decide ((ab_bd S.2.2.2.1 a).2 ≤ 65535))
    | 210, some .byte, [a] => ab_isI a && (decide (0 ≤ (ab_bd S.2.2.2.1 a).1) && decide ((ab_bd S.2.2.2.1 a).2 ≤ 0))
    | 211, some .long, [a] => decide (a.1 = 6)
    | 212, some (.object _), [a] => decide (a.1 = 1)
    | 213, none, [] => true
    | _, _, _ => false)
  | none => false
theorem ab_ret_ok {h : ab_H} {N : cm_M → Prop} {M0 : cm_M} {md : ab_Md} {ret : Option FieldType} {rows : List (Nat × ev_Row)} {S : ab_S} {C : cm_S} {ρ : List Int32} {Post : cm_K} {r : ev_Row} (hr : ab_ret ret rows S = true) (hG : ab_G h N M0 md ρ S C) (he : ev_at rows C.1 = some r) (hp : ∀ v : Option Value, ab_s ρ S.2.2.1 v.toList → Post v C.2.2.2) : cm_ret ret Post r.1 C := by
  obtain ⟨pc, L, st, K, Ca⟩ := S
  obtain ⟨cpc, CL, sc, M⟩ := C
  obtain ⟨e0, gl, gs, gk, gm⟩ := hG
  dsimp only at e0 gl gs gk gm hp he
  subst e0
  unfold ab_ret at hr
  dsimp only at hr
  rw [he] at hr
  dsimp only at hr
  split at hr
  · rename_i a0 e1
    obtain ⟨v, sc', rfl, hv, gs'⟩ := ab_s_cons gs
    cases ab_s_nil gs'
    obtain ⟨x, hx, rfl⟩ := ab_vi hr hv
    rw [e1]
    exact hp (some (.int x)) ⟨hv, trivial⟩
  · rename_i a0 e1
    simp only [Bool.and_eq_true, decide_eq_true_eq] at hr
    obtain ⟨v, sc', rfl, hv, gs'⟩ := ab_s_cons gs
    cases ab_s_nil gs'
    obtain ⟨x, hx, rfl⟩ := ab_vi hr.1 hv
    obtain ⟨b1, b2⟩ := ab_bd_in gk hx
    rw [e1]
    refine ⟨?_, hp (some (.int x)) ⟨hv, trivial⟩⟩
    have : x.toInt = 0 ∨ x.toInt = 1 := by omega
    rcases this with h0 | h0
    · exact Or.inl (Int32.toInt_inj.mp (by rw [h0]; rfl))
    · exact Or.inr (Int32.toInt_inj.mp (by rw [h0]; rfl))
  · rename_i a0 e1
    simp only [Bool.and_eq_true, decide_eq_true_eq] at hr
    obtain ⟨v, sc', rfl, hv, gs'⟩ := ab_s_cons gs
    cases ab_s_nil gs'
    obtain ⟨x, hx, rfl⟩ := ab_vi hr.1 hv
    obtain ⟨b1, b2⟩ := ab_bd_in gk hx
    rw [e1]
    exact ⟨by omega, by omega, hp (some (.int x)) ⟨hv, trivial⟩⟩
  · rename_i a0 e1
    simp only [Bool.and_eq_true, decide_eq_true_eq] at hr
    obtain ⟨v, sc', rfl, hv, gs'⟩ := ab_s_cons gs
    cases ab_s_nil gs'
    obtain ⟨x, hx, rfl⟩ := ab_vi hr.1 hv
    obtain ⟨b1, b2⟩ := ab_bd_in gk hx
    rw [e1]
    exact ⟨Int32.toInt_inj.mp (by have : x.toInt = 0 := by omega
                                  rw [this]; rfl), hp (some (.int x)) ⟨hv, trivial⟩⟩
  · rename_i a0 e1
    obtain ⟨v, sc', rfl, hv, gs'⟩ := ab_s_cons gs
    cases ab_s_nil gs'
    obtain ⟨x, rfl⟩ := ab_v6 (of_decide_eq_true hr) hv
    rw [e1]
    exact hp (some (.long x)) ⟨hv, trivial⟩
  · rename_i a0 e1
    obtain ⟨v, sc', rfl, hv, gs'⟩ := ab_s_cons gs
    cases ab_s_nil gs'
    obtain ⟨x, -, rfl⟩ := ab_v1 (of_decide_eq_true hr) hv
    rw [e1]
    exact hp (some (.ref x)) ⟨hv, trivial⟩
  · rename_i e1
    cases ab_s_nil gs
    rw [e1]
    exact hp none trivial
  · cases hr
def ab_args : Nat → List ab_A → List (Nat × ab_A)
  | _, [] => []
  | i, a :: as => (i, a) :: ab_args (i + if a.1 = 6 then 2 else 1) as
theorem ab_args_ge : ∀ (as : List ab_A) (i : Nat), ∀ q ∈ ab_args i as, i ≤ q.1
  | [], i, q, hq => nomatch hq
  | a :: as, i, q, hq => by
    unfold ab_args at hq
    rcases List.mem_cons.mp hq with rfl | hq
    · exact Nat.le_refl _
    · have := ab_args_ge as _ q hq
      omega
theorem ab_args_ok {ρ : List Int32} : ∀ {as : List ab_A} {vs : List Value} (i : Nat), ab_s ρ as vs → ab_l ρ (ab_args i as) (cm_args i vs)
  | [], [], i, _ => fun q hq => nomatch hq
  | [], _ :: _, _, h => h.elim
  | _ :: _, [], _, h => h.elim
  | a :: as, v :: vs, i, h => by
    intro q hq
    unfold ab_args at hq
    unfold cm_args cm_look
    rcases List.mem_cons.mp hq with rfl | hq
    · rw [if_pos rfl]
      exact ⟨v, rfl, h.1⟩
    · have hge := ab_args_ge as _ q hq
      have hne : ¬ i = q.1 := by
        have : 1 ≤ (if a.1 = 6 then 2 else 1) := by split <;> omega
        omega
      rw [if_neg hne]
      have hcat : v.category = (if a.1 = 6 then 2 else 1) := by
        rcases ab_cat h.1 with ⟨h1, h2⟩ | ⟨h1, h2⟩
        · rw [h2, if_pos h1]
        · rw [h2, if_neg h1]
      rw [hcat]
      exact ab_args_ok _ h.2 q hq
