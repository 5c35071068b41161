noncomputable def ab_outs (ret : Option FieldType) (rows : List (Nat × ev_Row)) : List (Bool × ab_S) → Option (List ab_Out)
  | [] => some []
  | f :: r => if f.1 = false ∧ ab_ret ret rows f.2 = true then (match ab_outs ret rows r with
      | some o => some ((f.2.2.2.1, f.2.2.2.2.1, f.2.2.2.2.2) :: o)
      | none => none) else none
theorem ab_outs_ok {ret : Option FieldType} {rows : List (Nat × ev_Row)} : ∀ {fs : List (Bool × ab_S)} {o : List ab_Out}, ab_outs ret rows fs = some o → ∀ f ∈ fs, f.1 = false ∧ ab_ret ret rows f.2 = true ∧ (f.2.2.2.1, f.2.2.2.2.1, f.2.2.2.2.2) ∈ o
  | [], o, h => fun f hf => nomatch hf
  | g :: r, o, h => by
    unfold ab_outs at h
    split at h
    · rename_i hc
      split at h
      · rename_i o' ho
        cases h
        intro f hf
        rcases List.mem_cons.mp hf with rfl | hf
        · exact ⟨hc.1, hc.2, List.mem_cons_self⟩
        · obtain ⟨a, b, c⟩ := ab_outs_ok ho f hf
          exact ⟨a, b, List.mem_cons_of_mem _ c⟩
      · cases h
    · cases h
/-- a call: by its body where its number stands in inl, else by a contract -/
noncomputable def ab_cl (ms : List ev_MI) (h : ab_H) (md : ab_Md) (us : List ab_Ct) (inl : List (Nat × ev_MI)) : Nat → ab_Cl
  | 0 => ab_uses h md us
  | n + 1 => fun k as K Ca => (match ev_at inl k with
      | some mi => if ab_cs as ≤ mi.2.2.1 then (match ab_run (ab_cl ms h md us inl n) h md (cm_P mi) mi.2.2.2.2.2.2 [] 2000 (0, ab_args 0 as, [], K, Ca) with
          | some fs => ab_outs mi.2.2.2.1 mi.2.2.2.2.2.2 fs
          | none => none) else none
      | none => ab_uses h md us k as K Ca)
section ABC
variable {ms : List ev_MI} {h : ab_H} {N : cm_M → Prop}
theorem ab_CT_up {c : ab_Ct} {d e : Nat} (hc : ab_CT ms h N d c) (hd : d ≤ e) : ab_CT ms h N e c := fun ρ vs M h1 h2 h3 h4 => cm_Call_up (hc ρ vs M h1 h2 h3 h4) hd (fun _ _ q => q)
theorem ab_cl_ok (hMS : ∀ (k : Nat) (mi : ev_MI), ms[k]? = some mi → cm_MOK ms mi) (hRC : ∀ (k : Nat) (mi : ev_MI), ms[k]? = some mi → ∀ q ∈ mi.2.2.2.2.2.2, ab_RC ms q) {inl : List (Nat × ev_MI)} (hin : ∀ q ∈ inl, ms[q.1]? = some q.2) (hN : ab_NP h N) {M0 : cm_M} {md : ab_Md} {us : List ab_Ct} {d : Nat} (hus : ∀ c ∈ us, ab_CT ms h N d c) : ∀ n : Nat, ab_ClOk ms h N M0 md (d + n) (ab_cl ms h md us inl n)
  | 0 => ab_uses_ok hN hus
  | n + 1 => fun k as K Ca outs ρ vs M hu gs gk gm => by
    unfold ab_cl at hu
    split at hu
    · rename_i mi hmi0
      have hmi := hin _ (ev_at_mem hmi0)
      dsimp only at hmi
      · split at hu
        · rename_i hcs
          split at hu
          · rename_i fs hfs
            refine cm_Call_of hMS hmi (by rw [ab_cs_ok gs]; exact hcs) ?_
            refine cm_At_run hMS hmi (stops := []) (J := fun _ => False) (fun S hS => hS.elim) (n := 2000) ?_
            refine ab_run_ok hN (ab_cl_ok hMS hRC hin hN hus n) (hRC k mi hmi) 2000 _ fs _ ρ hfs ⟨rfl, ab_args_ok 0 gs, trivial, gk, gm⟩ (fun f hf ext C' hG => ⟨fun ht => ?_, fun _ r hr _ => ?_⟩)
            · have := (ab_outs_ok hu f hf).1
              rw [this] at ht
              cases ht
            · obtain ⟨-, o2, o3⟩ := ab_outs_ok hu f hf
              exact ab_ret_ok o2 hG hr (fun v hv => ⟨_, o3, ext, hv, hG.2.2.2.1, hG.2.2.2.2⟩)
          · cases hu
        · cases hu
    · exact cm_Call_up (ab_uses_ok hN hus k as K Ca outs ρ vs M hu gs gk gm) (by omega) (fun _ _ q => q)
end ABC
noncomputable abbrev ab_Mu : Type := List (Int × Int × ab_A)
noncomputable def ab_tm (ρ : List Int32) (m : Int × Int × ab_A) : Int := m.2.1 + m.1 * ((ab_i ρ m.2.2).getD 0).toInt
noncomputable def ab_tb (K : ab_K) (m : Int × Int × ab_A) : Int × Int := if m.1 = 1 then (m.2.1 + (ab_bd K m.2.2).1, m.2.1 + (ab_bd K m.2.2).2) else if m.1 = -1 then (m.2.1 - (ab_bd K m.2.2).2, m.2.1 - (ab_bd K m.2.2).1) else (m.2.1, m.2.1)
noncomputable def ab_tok (K : ab_K) (m : Int × Int × ab_A) : Bool := ab_def K m.2.2 && (decide (m.1 = 1 ∨ m.1 = -1 ∨ m.1 = 0) && (decide (0 ≤ (ab_tb K m).1) && decide ((ab_tb K m).2 < 17179869184)))
theorem ab_tb_in {ρ : List Int32} {K : ab_K} {m : Int × Int × ab_A} (hk : ab_k ρ K) (h : ab_tok K m = true) : (ab_tb K m).1 ≤ ab_tm ρ m ∧ ab_tm ρ m ≤ (ab_tb K m).2 ∧ 0 ≤ ab_tm ρ m ∧ ab_tm ρ m < 17179869184 := by
  simp only [ab_tok, Bool.and_eq_true, decide_eq_true_eq] at h
  obtain ⟨h1, h2, h3, h4⟩ := h
  obtain ⟨x, hx⟩ := ab_def_ok h1 hk
  obtain ⟨b1, b2⟩ := ab_bd_in hk hx
  unfold ab_tm
  rw [hx]
  unfold ab_tb at h3 h4 ⊢
  simp only [Option.getD_some]
  rcases h2 with h2 | h2 | h2
  · rw [if_pos h2] at h3 h4 ⊢
    rw [h2]
    dsimp only at h3 h4 ⊢
    omega
  · rw [if_neg (by omega), if_pos h2] at h3 h4 ⊢
    rw [h2]
    dsimp only at h3 h4 ⊢
    omega
  · rw [if_neg (by omega), if_neg (by omega)] at h3 h4 ⊢
    rw [h2]
    dsimp only at h3 h4 ⊢
    omega
noncomputable def ab_mu (ρ : List Int32) : ab_Mu → Nat
  | [] => 0
  | m :: ms => (ab_tm ρ m).toNat * 17179869184 ^ ms.length + ab_mu ρ ms
theorem ab_mu_lt {ρ : List Int32} {K : ab_K} (hk : ab_k ρ K) : ∀ {l : ab_Mu}, l.all (ab_tok K) = true → ab_mu ρ l < 17179869184 ^ l.length
  | [], _ => by show 0 < 17179869184 ^ 0; decide
  | m :: l, h => by
    rw [List.all_cons, Bool.and_eq_true] at h
    have ih := ab_mu_lt hk h.2
    obtain ⟨-, -, t1, t2⟩ := ab_tb_in hk h.1
    unfold ab_mu
    rw [List.length_cons, Nat.pow_succ]
    have h1 : (ab_tm ρ m).toNat + 1 ≤ 17179869184 := by omega
    have h2 := Nat.mul_le_mul_right (17179869184 ^ l.length) h1
    rw [Nat.add_mul, Nat.one_mul, Nat.mul_comm 17179869184] at h2
    omega
theorem ab_mu_ap {ρ ext : List Int32} : ∀ {m : ab_Mu}, (∀ q ∈ m, ∃ x, ab_i ρ q.2.2 = some x) → ab_mu (ρ ++ ext) m = ab_mu ρ m
  | [], _ => rfl
  | a :: m, hq => by
    unfold ab_mu
    rw [ab_mu_ap (fun q h => hq q (List.mem_cons_of_mem _ h))]
    obtain ⟨x, hx⟩ := hq a List.mem_cons_self
    unfold ab_tm
    rw [ab_i_ap hx, hx]
/-- the new term is less: by bounds, or one is a sum of the other -/
noncomputable def ab_tlt (K : ab_K) (o n : Int × Int × ab_A) : Bool := decide ((ab_tb K n).2 < (ab_tb K o).1) || (decide (n.1 = o.1) && (decide (n.2.1 = o.2.1) && (decide (n.2.2.1 = 3) && (match K[n.2.2.2.1.toNat]? with
  | some r => (decide (r.2.2.1 = 1) || decide (r.2.2.1 = 2)) && (ab_eqA r.2.2.2.1 o.2.2 && (decide (r.2.2.2.2.1 = 0) &&
      (let c := if r.2.2.1 = 1 then (Int32.ofInt r.2.2.2.2.2.1).toInt else - (Int32.ofInt r.2.2.2.2.2.1).toInt
       decide (o.1 * c < 0) && (decide (-2147483648 ≤ (ab_bd K o.2.2).1 + c) && decide ((ab_bd K o.2.2).2 + c ≤ 2147483647)))))
  | none => false))))
theorem ab_tlt_ok {ρ : List Int32} {K : ab_K} {o n : Int × Int × ab_A} (hk : ab_k ρ K) (ho : ab_tok K o = true) (hn : ab_tok K n = true) (h : ab_tlt K o n = true) : ab_tm ρ n < ab_tm ρ o := by
  have o1 := ab_tb_in hk ho
  have n1 := ab_tb_in hk hn
  unfold ab_tlt at h
  rw [Bool.or_eq_true] at h
  rcases h with h | h
  · have h := of_decide_eq_true h
    omega
  · simp only [Bool.and_eq_true, decide_eq_true_eq] at h
    obtain ⟨e1, e2, e3, h⟩ := h
    split at h
    · rename_i r hr
      simp only [Bool.and_eq_true, Bool.or_eq_true, decide_eq_true_eq] at h
      obtain ⟨f1, f2, f3, f4, f5, f6⟩ := h
      simp only [ab_tok, Bool.and_eq_true] at ho hn
      obtain ⟨x, hx⟩ := ab_def_ok ho.1 hk
      obtain ⟨y, hy⟩ := ab_def_ok hn.1 hk
      have hy2 : ρ[n.2.2.2.1.toNat]? = some y := by
        unfold ab_i at hy
        rw [e3] at hy
        exact hy
      have hc : ab_i ρ r.2.2.2.2 = some (Int32.ofInt r.2.2.2.2.2.1) := by
        unfold ab_i
        rw [f3]
        rfl
      obtain ⟨b1, b2⟩ := ab_bd_in hk hx
      rcases (hk.2 _ r y hr hy2).2 with hz | ⟨u, z, hu, hz, e⟩
      · omega
      · rw [hc] at hz
        cases hz
        rw [ab_eqA_ok f2, hx] at hu
        cases hu
        unfold ab_tm
        rw [hx, hy, e1, e2]
        simp only [Option.getD_some]
        have hyx : y.toInt = x.toInt + (if r.2.2.1 = 1 then (Int32.ofInt r.2.2.2.2.2.1).toInt else - (Int32.ofInt r.2.2.2.2.2.1).toInt) := by
          rcases f1 with f1 | f1
          · rw [if_pos f1] at f5 f6 ⊢
            rw [f1] at e
            have e : y = x + Int32.ofInt r.2.2.2.2.2.1 := e
            rw [e, Int32.toInt_add]
            exact ev_bm (by omega) (by omega)
          · rw [if_neg (by omega)] at f5 f6 ⊢
            rw [f1] at e
            have e : y = x - Int32.ofInt r.2.2.2.2.2.1 := e
            rw [e, Int32.toInt_sub]
            rw [show x.toInt - (Int32.ofInt r.2.2.2.2.2.1).toInt = x.toInt + - (Int32.ofInt r.2.2.2.2.2.1).toInt by omega]
            exact ev_bm (by omega) (by omega)
        rw [hyx, Int.mul_add]
        omega
    · cases h
noncomputable def ab_teq (o n : Int × Int × ab_A) : Bool := decide (n.1 = o.1) && (decide (n.2.1 = o.2.1) && ab_eqA n.2.2 o.2.2)
noncomputable def ab_lex (K : ab_K) : ab_Mu → ab_Mu → Bool
  | o :: os, n :: ns => if ab_teq o n = true then ab_lex K os ns else ab_tlt K o n
  | _, _ => false
theorem ab_lex_ok {ρ : List Int32} {K : ab_K} (hk : ab_k ρ K) : ∀ {os ns : ab_Mu}, os.length = ns.length → os.all (ab_tok K) = true → ns.all (ab_tok K) = true → ab_lex K os ns = true → ab_mu ρ ns < ab_mu ρ os
  | [], _, _, _, _, h => by cases h
  | _ :: _, [], _, _, _, h => by cases h
  | o :: os, n :: ns, hl, ho, hn, h => by
    rw [List.all_cons, Bool.and_eq_true] at ho hn
    have hl : os.length = ns.length := Nat.succ.inj hl
    unfold ab_lex at h
    unfold ab_mu
    rw [hl]
    split at h
    · rename_i he
      simp only [ab_teq, Bool.and_eq_true, decide_eq_true_eq] at he
      obtain ⟨a1, a2, a3⟩ := he
      have : n = o := Prod.ext a1 (Prod.ext a2 (ab_eqA_ok a3))
      rw [this]
      have := ab_lex_ok hk hl ho.2 hn.2 h
      omega
    · have h1 := ab_tlt_ok hk ho.1 hn.1 h
      have h2 := ab_tb_in hk ho.1
      have h3 := ab_tb_in hk hn.1
      have h4 := ab_mu_lt hk hn.2
      have h5 : (ab_tm ρ n).toNat + 1 ≤ (ab_tm ρ o).toNat := by omega
      have h6 := Nat.mul_le_mul_right (17179869184 ^ ns.length) h5
      rw [Nat.add_mul, Nat.one_mul] at h6
      omega
/-- a template at a loop's head, with its measure -/
noncomputable abbrev ab_Tm : Type := ab_S × ab_Mu
noncomputable def ab_sbm (sg : List ab_A) (mu : ab_Mu) : ab_Mu := mu.map (fun m => (m.1, m.2.1, ab_sb sg m.2.2))
theorem ab_sbm_ok {ρ : List Int32} {sg : List ab_A} {K : ab_K} (hk : ab_k ρ K) : ∀ {mu : ab_Mu}, (ab_sbm sg mu).all (ab_tok K) = true → ab_mu (ab_rT ρ sg) mu = ab_mu ρ (ab_sbm sg mu)
  | [], _ => rfl
  | m :: mu, h => by
    unfold ab_sbm at h ⊢
    rw [List.map_cons] at h ⊢
    rw [List.all_cons, Bool.and_eq_true] at h
    have ih := ab_sbm_ok hk (mu := mu) h.2
    unfold ab_sbm at ih
    unfold ab_mu
    rw [List.length_map, ih]
    congr 2
    have h1 := h.1
    simp only [ab_tok, Bool.and_eq_true] at h1
    obtain ⟨x, hx⟩ := ab_def_ok h1.1 hk
    unfold ab_tm
    dsimp only at hx ⊢
    rw [hx, ab_sb_ok hx]
/-- an end of a run: at a head, where the measure is less (if one is given), or at one of the method's ends -/
noncomputable def ab_end (h : ab_H) (nE : Nat) (ret : Option FieldType) (rows : List (Nat × ev_Row)) (tms : List ab_Tm) (ex : List ab_Out) (mu : Option ab_Mu) (f : Bool × ab_S) : Bool :=
  if f.1 = true then tms.any (fun T => decide (T.1.1 = f.2.1) && (match ab_in h nE T.1 f.2 with
    | some (K1, _, sg) => (match mu with
      | none => true
      | some m => decide (m.length = T.2.length) && (m.all (ab_tok K1) && ((ab_sbm sg T.2).all (ab_tok K1) && ab_lex K1 m (ab_sbm sg T.2))))
    | none => false))
  else ab_ret ret rows f.2 && ex.any (fun e => (ab_in h nE (f.2.1, [], e.1, e.2.1, e.2.2) (f.2.1, [], f.2.2.2)).isSome)
noncomputable def ab_chk1 (ms : List ev_MI) (h : ab_H) (us : List ab_Ct) (inl : List (Nat × ev_MI)) (dd n : Nat) (c : ab_Ct) (mi : ev_MI) (tms : List ab_Tm) (mu : Option ab_Mu) (S : ab_S) : Bool := match ab_run (ab_cl ms h c.2.2.2.2.1 us inl dd) h c.2.2.2.2.1 (cm_P mi) mi.2.2.2.2.2.2 (tms.map (fun T => (T.1.1, T.1.2.1.map (fun q => q.1)))) n S with
  | some fs => fs.all (ab_end h c.2.2.1.length mi.2.2.2.1 mi.2.2.2.2.2.2 tms c.2.2.2.2.2 mu)
  | none => false
noncomputable def ab_chk (ms : List ev_MI) (h : ab_H) (us : List ab_Ct) (inl : List (Nat × ev_MI)) (dd n : Nat) (c : ab_Ct) (tms : List ab_Tm) : Bool := match ms[c.1]? with
  | some mi => decide (ab_cs c.2.1 ≤ mi.2.2.1) && (ab_chk1 ms h us inl dd n c mi tms none (0, ab_args 0 c.2.1, [], c.2.2.1, c.2.2.2.1) && tms.all (fun T => ab_chk1 ms h us inl dd n c mi tms (some T.2) T.1))
  | none => false
section ABD
variable {ms : List ev_MI} {h : ab_H} {N : cm_M → Prop}
theorem ab_chk1_ok (hMS : ∀ (k : Nat) (mi : ev_MI), ms[k]? = some mi → cm_MOK ms mi) (hRC : ∀ (k : Nat) (mi : ev_MI), ms[k]? = some mi → ∀ q ∈ mi.2.2.2.2.2.2, ab_RC ms q) {inl : List (Nat × ev_MI)} (hin : ∀ q ∈ inl, ms[q.1]? = some q.2) (hN : ab_NP h N) {us : List ab_Ct} {d dd n : Nat} (hus : ∀ c ∈ us, ab_CT ms h N d c) {c : ab_Ct} {mi : ev_MI} (hmi : ms[c.1]? = some mi) {tms : List ab_Tm} {mu : Option ab_Mu} {S : ab_S} {C : cm_S} {M0 : cm_M} {ρ0 e : List Int32} (h0 : ρ0.length = c.2.2.1.length) (hk : ab_chk1 ms h us inl dd n c mi tms mu S = true) (hG : ab_G h N M0 c.2.2.2.2.1 (ρ0 ++ e) S C)
    (IH : ∀ T ∈ tms, ∀ (eT : List Int32) (C' : cm_S), ab_G h N M0 c.2.2.2.2.1 (ρ0 ++ eT) T.1 C' → (∀ m, mu = some m → ab_mu (ρ0 ++ eT) T.2 < ab_mu (ρ0 ++ e) m) → cm_At ms (d + dd) mi (ab_Post h N M0 c.2.2.2.2.1 ρ0 c.2.2.2.2.2) C') (hmu : ∀ m, mu = some m → ∀ q ∈ m, ∃ x, ab_i (ρ0 ++ e) q.2.2 = some x) : cm_At ms (d + dd) mi (ab_Post h N M0 c.2.2.2.2.1 ρ0 c.2.2.2.2.2) C := by
  unfold ab_chk1 at hk
  split at hk
  · rename_i fs hfs
    refine cm_At_run hMS hmi (stops := tms.map (fun T => (T.1.1, T.1.2.1.map (fun q => q.1)))) (J := cm_At ms (d + dd) mi (ab_Post h N M0 c.2.2.2.2.1 ρ0 c.2.2.2.2.2)) (fun S hS => hS) (n := n) ?_
    refine ab_run_ok hN (ab_cl_ok hMS hRC hin hN hus dd) (hRC _ mi hmi) n S fs C (ρ0 ++ e) hfs hG (fun f hf ext C' hG' => ?_)
    have h1 := List.all_eq_true.mp hk f hf
    unfold ab_end at h1
    rw [List.append_assoc] at hG'
    obtain ⟨g0, g1, g2, g3, g4⟩ := hG'
    refine ⟨fun ht => ?_, fun hfl r hr _ => ?_⟩
    · rw [if_pos ht] at h1
      obtain ⟨T, hT, h2⟩ := List.any_eq_true.mp h1
      simp only [Bool.and_eq_true, decide_eq_true_eq] at h2
      obtain ⟨hpc, h3⟩ := h2
      split at h3
      · rename_i K1 Ca1 sg hin
        obtain ⟨e1, eT, k1, -, k3, k4, k5, k6, k7, k8⟩ := ab_in_ok hN hin h0 g1 g2 g3 g4
        refine IH T hT eT C' ⟨by rw [g0, hpc], k5, k6, k7, k8⟩ (fun m hm => ?_)
        subst hm
        dsimp only at h3
        simp only [Bool.and_eq_true, decide_eq_true_eq] at h3
        obtain ⟨l1, l2, l3, l4⟩ := h3
        have h5 := ab_lex_ok k1 (by unfold ab_sbm; rw [List.length_map]; exact l1) l2 l3 l4
        rw [← ab_sbm_ok k1 l3, k3] at h5
        have h6 : ab_mu (ρ0 ++ (e ++ ext) ++ e1) m = ab_mu (ρ0 ++ e) m := by
          rw [← List.append_assoc, List.append_assoc (ρ0 ++ e)]
          exact ab_mu_ap (hmu m rfl)
        rw [h6] at h5
        exact h5
      · cases h3
    · rw [if_neg (by rw [hfl]; decide), Bool.and_eq_true] at h1
      obtain ⟨h2, h3⟩ := h1
      obtain ⟨o, ho, h4⟩ := List.any_eq_true.mp h3
      refine ab_ret_ok h2 ⟨g0, g1, g2, g3, g4⟩ hr (fun v hv => ?_)
      obtain ⟨w, hw⟩ := Option.isSome_iff_exists.mp h4
      obtain ⟨K1, Ca1, sg⟩ := w
      obtain ⟨e1, eT, -, -, -, -, -, k6, k7, k8⟩ := ab_in_ok (C := (C'.1, [], v.toList, C'.2.2.2)) hN hw h0 (fun q hq => nomatch hq) hv g3 g4
      exact ⟨o, ho, eT, k6, k7, k8⟩
  · cases hk
/-- a method keeps its contract -/
theorem ab_chk_ok (hMS : ∀ (k : Nat) (mi : ev_MI), ms[k]? = some mi → cm_MOK ms mi) (hRC : ∀ (k : Nat) (mi : ev_MI), ms[k]? = some mi → ∀ q ∈ mi.2.2.2.2.2.2, ab_RC ms q) {inl : List (Nat × ev_MI)} (hin : ∀ q ∈ inl, ms[q.1]? = some q.2) (hN : ab_NP h N) {us : List ab_Ct} {d dd n : Nat} (hus : ∀ c ∈ us, ab_CT ms h N d c) {c : ab_Ct} {tms : List ab_Tm} (hk : ab_chk ms h us inl dd n c tms = true) (hmu : ∀ T ∈ tms, T.2.all (ab_tok T.1.2.2.2.1) = true) : ab_CT ms h N (d + dd + 1) c := by
  intro ρ vs M gs gk gok gca
  unfold ab_chk at hk
  split at hk
  · rename_i mi hmi
    simp only [Bool.and_eq_true, decide_eq_true_eq] at hk
    obtain ⟨h1, h2, h3⟩ := hk
    refine cm_Call_of hMS hmi (by rw [ab_cs_ok gs]; exact h1) ?_
    have hlen : ρ.length = c.2.2.1.length := gk.1.symm
    have loops : ∀ (k : Nat) (T : ab_Tm), T ∈ tms → ∀ (eT : List Int32) (C' : cm_S), ab_G h N M c.2.2.2.2.1 (ρ ++ eT) T.1 C' → ab_mu (ρ ++ eT) T.2 < k → cm_At ms (d + dd) mi (ab_Post h N M c.2.2.2.2.1 ρ c.2.2.2.2.2) C' := by
      intro k
      induction k with
      | zero => intro T hT eT C' hG hlt; exact absurd hlt (Nat.not_lt_zero _)
      | succ k ih =>
        intro T hT eT C' hG hlt
        refine ab_chk1_ok hMS hRC hin hN hus hmi hlen (List.all_eq_true.mp h3 T hT) hG (fun T' hT' e' C2 hG2 hm => ih T' hT' e' C2 hG2 ?_) (fun m hm q hq => ?_)
        · have := hm T.2 rfl
          omega
        · cases hm
          have h4 := List.all_eq_true.mp (hmu T hT) q hq
          simp only [ab_tok, Bool.and_eq_true] at h4
          exact ab_def_ok h4.1 hG.2.2.2.1
    refine ab_chk1_ok (e := []) hMS hRC hin hN hus hmi hlen h2 ⟨rfl, by rw [ab_nil]; exact ab_args_ok 0 gs, trivial, by rw [ab_nil]; exact gk, gok, ab_fr_rf _ _, by rw [ab_nil]; exact gca⟩ (fun T hT eT C' hG _ => loops _ T hT eT C' hG (Nat.lt_succ_self _)) (fun m hm => by cases hm)
  · cases hk
end ABD
noncomputable def mins : List Nat := [32, 35, 41, 44, 47, 50, 53, 56, 59, 62, 65, 68, 71, 74, 77, 80, 83, 86, 89, 92, 95, 100, 103, 106, 109, 112, 120]
noncomputable def hp : ab_H := ([(0, [(1, 0, 900)]), (2, [(1, 0, 900), (2, 0, 900), (8, 0, 1), (9, 0, 7), (10, 0, 16)]), (5, [(0, 0, 5), (1, 0, 5), (2, 0, 5), (3, 0, 5), (4, 0, 5), (5, 0, 5), (6, 0, 5), (7, 0, 5), (8, 0, 5), (9, 0, 5), (10, 0, 5), (11, 0, 5), (12, 0, 5), (13, 0, 5), (14, 0, 5), (15, 0, 5)]), (6, [(3, 0, 6), (9, 0, 5), (15, 0, 5)]), (19, [(3, 0, 6), (9, 0, 5), (15, 0, 5)]), (38, [(2, 0, 15), (3, 0, 16), (4, 0, 3)]), (98, [(1, 0, 4)]), (118, [(1, 0, 32)]), (124, [(2, 0, 900), (3, 0, 900), (5, 0, 900), (13, 0, 1), (14, 0, 1), (20, 0, 16), (21, 0, 3)]), (127, [(2, 0, 100), (3, 0, 6), (4, 0, 5), (5, 0, 9), (6, 0, 6), (7, 0, 9), (8, 0, 5), (10, 0, 1), (11, 0, 2), (14, 0, 2), (17, 0, 2), (20, 0, 2), (23, 0, 2), (26, 0, 2), (66, 0, 1000), (67, 0, 1000), (68, 0, 1000), (69, 0, 8), (70, 0, 8), (71, 0, 8), (72, 0, 8), (73, 0, 8), (74, 0, 8), (75, 0, 8), (76, 0, 8), (77, 0, 8), (78, 0, 8), (79, 0, 8), (80, 0, 8), (81, 0, 8), (82, 0, 8), (83, 0, 8), (84, 0, 8)]), (128, [(2, 0, 100), (3, 0, 6), (4, 0, 5), (5, 0, 9), (6, 0, 6), (7, 0, 9), (8, 0, 5), (10, 0, 1), (11, 0, 2), (14, 0, 2), (17, 0, 2), (20, 0, 2), (23, 0, 2), (26, 0, 2), (66, 0, 1000), (67, 0, 1000), (68, 0, 1000), (69, 0, 8), (70, 0, 8), (71, 0, 8), (72, 0, 8), (73, 0, 8), (74, 0, 8), (75, 0, 8), (76, 0, 8), (77, 0, 8), (78, 0, 8), (79, 0, 8), (80, 0, 8), (81, 0, 8), (82, 0, 8), (83, 0, 8), (84, 0, 8)]), (133, [(0, 0, 4), (1, 0, 4), (2, 0, 4), (3, 0, 4), (4, 0, 4)])], [(0, [(0, false, [1]), (2, false, [2]), (3, false, [6, 19]), (4, false, [6, 19]), (5, false, [32]), (6, false, [35]), (7, false, [38]), (8, false, [98]), (9, false, [115]), (10, false, [118]), (11, false, [123])]), (2, [(0, true, [1]), (7, true, [6, 19]), (11, false, [3]), (12, false, [4]), (13, false, [5])]), (6, [(4, false, [7]), (5, false, [8]), (6, false, [9]), (7, false, [10]), (8, false, [11]), (10, false, [12]), (11, false, [13]), (12, false, [14]), (13, false, [15]), (14, false, [16]), (16, false, [17]), (17, false, [18])]), (19, [(4, false, [20]), (5, false, [21]), (6, false, [22]), (7, false, [23]), (8, false, [24]), (10, false, [25]), (11, false, [26]), (12, false, [27]), (13, false, [28]), (14, false, [29]), (16, false, [30]), (17, false, [31])]), (32, [(0, false, [33]), (1, false, [34])]), (35, [(0, false, [36]), (1, false, [37])]), (38, [(0, false, [39]), (1, false, [40])]), (39, [(0, false, [41]), (1, false, [44]), (2, false, [47]), (3, false, [50]), (4, false, [53]), (5, false, [56]), (6, false, [59]), (7, false, [62]), (8, false, [65]), (9, false, [68]), (10, false, [71]), (11, false, [74]), (12, false, [77]), (13, false, [80]), (14, false, [83]), (15, false, [86])]), (40, [(0, false, [89]), (1, false, [92]), (2, false, [95])]), (41, [(0, false, [42]), (1, false, [43])]), (44, [(0, false, [45]), (1, false, [46])]), (47, [(0, false, [48]), (1, false, [49])]), (50, [(0, false, [51]), (1, false, [52])]), (53, [(0, false, [54]), (1, false, [55])]), (56, [(0, false, [57]), (1, false, [58])]), (59, [(0, false, [60]), (1, false, [61])]), (62, [(0, false, [63]), (1, false, [64])]), (65, [(0, false, [66]), (1, false, [67])]), (68, [(0, false, [69]), (1, false, [70])]), (71, [(0, false, [72]), (1, false, [73])]), (74, [(0, false, [75]), (1, false, [76])]), (77, [(0, false, [78]), (1, false, [79])]), (80, [(0, false, [81]), (1, false, [82])]), (83, [(0, false, [84]), (1, false, [85])]), (86, [(0, false, [87]), (1, false, [88])]), (89, [(0, false, [90]), (1, false, [91])]), (92, [(0, false, [93]), (1, false, [94])]), (95, [(0, false, [96]), (1, false, [97])]), (98, [(0, false, [99])]), (99, [(0, false, [100]), (1, false, [103]), (2, false, [106]), (3, false, [109]), (4, false, [112])]), (100, [(0, false, [101]), (1, false, [102])]), (103, [(0, false, [104]), (1, false, [105])]), (106, [(0, false, [107]), (1, false, [108])]), (109, [(0, false, [110]), (1, false, [111])]), (112, [(0, false, [113]), (1, false, [114])]), (115, [(0, false, [116]), (1, false, [117])]), (118, [(0, false, [119]), (2, false, [120])]), (120, [(0, false, [121]), (1, false, [122])]), (124, [(1, false, [125]), (12, false, [126]), (15, false, [127]), (16, false, [128]), (17, false, [129]), (18, false, [130]), (19, false, [131]), (22, false, [132]), (23, false, [133]), (24, false, [134]), (26, false, [135])])], [(4, 0), (4, 1), (4, 2), (4, 3), (4, 4), (4, 5), (4, 6), (4, 7), (4, 8), (4, 9), (4, 10), (4, 11), (4, 12), (4, 13), (4, 14), (4, 15), (5, 0), (5, 1), (5, 2), (5, 3), (5, 4), (5, 5), (5, 6), (5, 7), (5, 8), (5, 9), (5, 10), (5, 11), (5, 12), (5, 13), (5, 14), (5, 15), (124, 6), (124, 8)], [(124, 8, 124, 6, 2, 0, 8), (5, 0, 4, 0, 2, 0, 4), (5, 1, 4, 1, 2, 0, 4), (5, 2, 4, 2, 2, 0, 4), (5, 3, 4, 3, 2, 0, 4), (5, 4, 4, 4, 2, 0, 4), (5, 5, 4, 5, 2, 0, 4), (5, 6, 4, 6, 2, 0, 4), (5, 7, 4, 7, 2, 0, 4), (5, 8, 4, 8, 2, 0, 4), (5, 9, 4, 9, 2, 0, 4), (5, 10, 4, 10, 2, 0, 4), (5, 11, 4, 11, 2, 0, 4), (5, 12, 4, 12, 2, 0, 4), (5, 13, 4, 13, 2, 0, 4), (5, 14, 4, 14, 2, 0, 4), (5, 15, 4, 15, 2, 0, 4)])
noncomputable def hp0 : ab_H := (hp.1, hp.2.1, [], [])
noncomputable def hN0 (_ : cm_M) : Prop := True
theorem hNP0 : ab_NP hp0 hN0 := ⟨fun _ _ _ _ => trivial, fun _ _ e he => by cases he⟩
/-- of a name that is a motion's the number is less than five; a word has no more than eight letters -/
noncomputable def hN (M : cm_M) : Prop := (∀ i, i < 16 → M.1 4 i = 2 → 0 ≤ (M.1 5 i).toInt ∧ (M.1 5 i).toInt ≤ 4) ∧ (M.1 124 6 = 2 → 0 ≤ (M.1 124 8).toInt ∧ (M.1 124 8).toInt ≤ 8)
theorem hp_prot : ∀ i, i < 16 → (4, i) ∈ hp.2.2.1 ∧ (5, i) ∈ hp.2.2.1 := by decide +kernel
theorem hNP : ab_NP hp hN := by
  refine ⟨fun M M' h hn => ⟨fun i hi h2 => ?_, fun h2 => ?_⟩, fun M hn e he h2 => ?_⟩
  · have h4 := (h _ (hp_prot i hi).1).1
    have h5 := (h _ (hp_prot i hi).2).1
    dsimp only at h4 h5
    rw [h4] at h2
    rw [h5]
    exact hn.1 i hi h2
  · have h4 := (h (124, 6) (by decide)).1
    have h5 := (h (124, 8) (by decide)).1
    dsimp only at h4 h5
    rw [h4] at h2
    rw [h5]
    exact hn.2 h2
  · have hall : hp.2.2.2.all (fun e => decide (e = (124, 8, 124, 6, 2, 0, 8)) || (decide (e.2.1 < 16) && decide (e = (5, e.2.1, 4, e.2.1, 2, 0, 4)))) = true := by decide +kernel
    have h1 := List.all_eq_true.mp hall e he
    rw [Bool.or_eq_true, Bool.and_eq_true, decide_eq_true_eq, decide_eq_true_eq, decide_eq_true_eq] at h1
    rcases h1 with h1 | ⟨hi, h1⟩
    · rw [h1] at h2 ⊢
      exact hn.2 h2
    · generalize e.2.1 = i at hi h1
      rw [h1] at h2 ⊢
      exact hn.1 i hi h2
theorem ab_hi_eq {h h' : ab_H} (e : h.1 = h'.1) (c i : Nat) : ab_hi h c i = ab_hi h' c i := by
  unfold ab_hi ab_hl
  rw [e]
theorem ab_hr_eq {h h' : ab_H} (e : h.2.1 = h'.2.1) (c i : Nat) : ab_hr h c i = ab_hr h' c i := by
  unfold ab_hr
  rw [e]
theorem hp0_ok {M : cm_M} (h : ab_ok hp hN M) : ab_ok hp0 hN0 M := ⟨fun c i => by rw [ab_hi_eq (h := hp0) (h' := hp) rfl]; exact h.1 c i, fun c i => by rw [ab_hr_eq (h := hp0) (h' := hp) rfl]; exact h.2.1 c i, trivial⟩
theorem hpl_ok {M : cm_M} (h : ab_ok hp0 hN0 M) (hn : hN M) : ab_ok hp hN M := ⟨fun c i => by rw [ab_hi_eq (h := hp) (h' := hp0) rfl]; exact h.1 c i, fun c i => by rw [ab_hr_eq (h := hp) (h' := hp0) rfl]; exact h.2.1 c i, hn⟩
/-- the reader's next token: a word has no more than eight letters -/
noncomputable def nx_ok (c0 : ab_Ct) : Bool := decide (c0.2.2.2.2.2.length ≤ 100) && c0.2.2.2.2.2.all (fun o => decide (o.1 = []) && (match o.2.2 with
  | [(124, 6, (0, t, [])), (124, 8, a)] => decide (-100 ≤ t ∧ t ≤ 100) && (decide (t ≠ 2) || (ab_isI a && (decide (0 ≤ (ab_bd o.2.1 a).1) && decide ((ab_bd o.2.1 a).2 ≤ 8))))
  | _ => false))
theorem nx_lift {d k : Nat} {md : ab_Md} {ex : List ab_Out} (h0 : ab_CT cm_ms hp0 hN0 d (k, [(1, 0, [124])], [], [], md, ex)) (hok : nx_ok (k, [(1, 0, [124])], [], [], md, ex) = true) (hmd : (List.range 16).all (fun i => !(ab_inM md 4 i) && !(ab_inM md 5 i)) = true) : ab_CT cm_ms hp hN d (k, [(1, 0, [124])], [], [], md, [([], [], [])]) := by
  intro ρ vs M h1 h2 h3 h4
  refine cm_Call_up (h0 ρ vs M h1 h2 (hp0_ok h3) h4) (Nat.le_refl _) (fun v M' hp1 => ?_)
  obtain ⟨o, ho, ext, p1, p2, p3⟩ := hp1
  unfold nx_ok at hok
  rw [Bool.and_eq_true] at hok
  have h5 := List.all_eq_true.mp hok.2 o ho
  rw [Bool.and_eq_true, decide_eq_true_eq] at h5
  obtain ⟨e1, h6⟩ := h5
  have hn : hN M' := by
    refine ⟨fun i hi hs => ?_, fun ht => ?_⟩
    · have h7 := List.all_eq_true.mp hmd i (List.mem_range.mpr hi)
      simp only [Bool.and_eq_true, Bool.not_eq_true'] at h7
      have f4 := (p3.2.1 4 i h7.1).1
      have f5 := (p3.2.1 5 i h7.2).1
      rw [f4] at hs
      rw [f5]
      exact h3.2.2.1 i hi hs
    · split at h6
      · rename_i t a e
        simp only [Bool.and_eq_true, Bool.or_eq_true, decide_eq_true_eq] at h6
        have c1 := p3.2.2 (124, 6, (0, t, [])) (by rw [e]; exact List.mem_cons_self)
        have c2 := p3.2.2 (124, 8, a) (by rw [e]; exact List.mem_cons_of_mem _ List.mem_cons_self)
        have c1 : some (Int32.ofInt t) = some (M'.1 124 6) := c1
        rw [ht] at c1
        have c1 := Option.some.inj c1
        have c3 := congrArg Int32.toInt c1
        rw [Int32.toInt_ofInt, ev_bm (by omega) (by omega)] at c3
        have c3 : t = 2 := c3
        rcases h6.2 with h8 | ⟨h8, h9, h10⟩
        · exact absurd c3 h8
        · unfold ab_ce at c2
          rw [if_pos h8] at c2
          obtain ⟨b1, b2⟩ := ab_bd_in p2 c2
          dsimp only at b1 b2
          omega
      · cases h6
  refine ⟨_, List.mem_singleton.mpr rfl, [], ?_, ?_, hpl_ok p3.1 hn, p3.2.1, fun q hq => nomatch hq⟩
  · rw [e1] at p1
    rw [ab_s_nil p1]
    exact trivial
  · rw [ab_nil]
    exact h2
/-- a new name: of a motion the number is less than five -/
noncomputable def tn_ok (q : Nat) (srt hi : Int) (md : ab_Md) (ex : List ab_Out) : Bool := ex.all (fun o => decide (o.1 = []) && (match o.2.2 with
  | [(4, i, a), (5, j, b)] => decide (i = q) && (decide (j = q) && ((ab_eqA a (0, srt, []) && (ab_eqA b (3, 0, []) && (decide (srt ≠ 2) || decide (hi ≤ 4)))) || (ab_eqA a (3, 1, []) && ab_eqA b (3, 2, []))))
  | [] => decide (q = 16) && (List.range 16).all (fun i => !(ab_inM md 4 i) && !(ab_inM md 5 i))
  | _ => false)) && ((List.range 16).all (fun i => decide (i = q) || (!(ab_inM md 4 i) && !(ab_inM md 5 i))) && (!(ab_inM md 124 6) && !(ab_inM md 124 8)))
noncomputable def tn_ca (q : Nat) : ab_Ca := if q < 16 then [(2, 0, (1, 0, [1])), (2, 10, (0, (q : Int), [])), (4, q, (3, 1, [])), (5, q, (3, 2, []))] else [(2, 0, (1, 0, [1])), (2, 10, (0, (q : Int), []))]
noncomputable def tn_k (q : Nat) (hi : Int) : ab_K := if q < 16 then [(0, hi, 0, (0, 0, []), (0, 0, [])), (-2147483648, 2147483647, 0, (0, 0, []), (0, 0, [])), (0, 5, 0, (0, 0, []), (0, 0, []))] else [(0, hi, 0, (0, 0, []), (0, 0, []))]
theorem tn_lift {d k : Nat} {srt hi : Int} {md : ab_Md} (h0 : ∀ q, q < 17 → ∃ mdq exq, ab_CT cm_ms hp0 hN0 d (k, [(1, 0, [2]), (0, srt, []), (3, 0, [])], tn_k q hi, tn_ca q, mdq, exq) ∧ tn_ok q srt hi mdq exq = true ∧ ab_mds mdq md = true) (hs : -100 ≤ srt ∧ srt ≤ 100) : ab_CT cm_ms hp hN d (k, [(1, 0, [2]), (0, srt, []), (3, 0, [])], [(0, hi, 0, (0, 0, []), (0, 0, []))], [(2, 0, (1, 0, [1]))], md, [([], [(0, hi, 0, (0, 0, []), (0, 0, []))], [])]) := by
  intro ρ vs M h1 h2 h3 h4
  have hnm := h3.1 2 10
  have hb : ab_hi hp 2 10 = (0, 16) := by decide
  rw [hb] at hnm
  obtain ⟨n1, n2⟩ := hnm
  dsimp only at n1 n2
  obtain ⟨q, hq, hqe⟩ : ∃ q : Nat, q < 17 ∧ (M.1 2 10).toInt = (q : Int) := ⟨(M.1 2 10).toInt.toNat, by omega, by omega⟩
  have hqi : Int32.ofInt (q : Int) = M.1 2 10 := by rw [← hqe, Int32.ofInt_toInt]
  obtain ⟨mdq, exq, hc, hok, hmd⟩ := h0 q hq
  have hlen : ρ.length = 1 := h2.1.symm
  obtain ⟨r0, rfl⟩ : ∃ r0, ρ = [r0] := by
    match ρ, hlen with
    | [r0], _ => exact ⟨r0, rfl⟩
  have ca0 := h4 _ (List.mem_singleton.mpr rfl)
  unfold tn_ok at hok
  simp only [Bool.and_eq_true, Bool.not_eq_true'] at hok
  obtain ⟨hok, hfr, hf6, hf8⟩ := hok
  -- what a run over the other table leaves
  have fin : ∀ (ρ1 : List Int32) (v : Option Value) (M' : cm_M), (q < 16 → ρ1 = [r0, M.1 4 q, M.1 5 q]) → (¬ q < 16 → ρ1 = [r0]) → ab_Post hp0 hN0 M mdq ρ1 exq v M' → ab_Post hp hN M md [r0] [([], [(0, hi, 0, (0, 0, []), (0, 0, []))], [])] v M' := by
    intro ρ1 v M' hr1 hr2 hp1
    obtain ⟨o, ho, ext, p1, p2, p3⟩ := hp1
    have h5 := List.all_eq_true.mp hok o ho
    rw [Bool.and_eq_true, decide_eq_true_eq] at h5
    obtain ⟨e1, h6⟩ := h5
    have hoth : ∀ i, i < 16 → i ≠ q → M'.1 4 i = M.1 4 i ∧ M'.1 5 i = M.1 5 i := by
      intro i hi hne
      have h7 := List.all_eq_true.mp hfr i (List.mem_range.mpr hi)
      simp only [Bool.or_eq_true, Bool.and_eq_true, Bool.not_eq_true', decide_eq_true_eq] at h7
      rcases h7 with h7 | h7
      · exact absurd h7 hne
      · exact ⟨(p3.2.1 4 i h7.1).1, (p3.2.1 5 i h7.2).1⟩
    have hn : hN M' := by
      refine ⟨fun i hi hs2 => ?_, fun ht => ?_⟩
      · by_cases hiq : i = q
        · subst hiq
          split at h6
          · rename_i i' a j' b e
            simp only [Bool.and_eq_true, Bool.or_eq_true, decide_eq_true_eq] at h6
            obtain ⟨rfl, rfl, h6⟩ := h6
            have c1 := p3.2.2 (4, j', a) (by rw [e]; exact List.mem_cons_self)
            have c2 := p3.2.2 (5, j', b) (by rw [e]; exact List.mem_cons_of_mem _ List.mem_cons_self)
            have hr := hr1 hi
            subst hr
            rcases h6 with ⟨ha, hb, hor⟩ | ⟨ha, hb⟩
            · rw [ab_eqA_ok ha] at c1
              rw [ab_eqA_ok hb] at c2
              have c1 : some (Int32.ofInt srt) = some (M'.1 4 j') := c1
              have c2 : some r0 = some (M'.1 5 j') := c2
              rw [hs2] at c1
              have c3 := congrArg Int32.toInt (Option.some.inj c1)
              rw [Int32.toInt_ofInt, ev_bm (by omega) (by omega)] at c3
              have c3 : srt = 2 := c3
              have hbd := (h2.2 0 _ r0 rfl rfl).1
              obtain ⟨b1, b2⟩ := hbd
              dsimp only at b1 b2
              rw [← Option.some.inj c2]
              rcases hor with hor | hor
              · exact absurd c3 hor
              · omega
            · rw [ab_eqA_ok ha] at c1
              rw [ab_eqA_ok hb] at c2
              have c1 : some (M.1 4 j') = some (M'.1 4 j') := c1
              have c2 : some (M.1 5 j') = some (M'.1 5 j') := c2
              rw [← Option.some.inj c1] at hs2
              rw [← Option.some.inj c2]
              exact h3.2.2.1 j' hi hs2
          · simp only [Bool.and_eq_true, decide_eq_true_eq] at h6
            omega
          · cases h6
        · obtain ⟨g1, g2⟩ := hoth i hi hiq
          rw [g1] at hs2
          rw [g2]
          exact h3.2.2.1 i hi hs2
      · have g6 := (p3.2.1 124 6 hf6).1
        have g8 := (p3.2.1 124 8 hf8).1
        rw [g6] at ht
        rw [g8]
        exact h3.2.2.2 ht
    refine ⟨_, List.mem_singleton.mpr rfl, [], ?_, ?_, hpl_ok p3.1 hn, fun c i hm => p3.2.1 c i (ab_mds_ok hmd hm), fun q hq => nomatch hq⟩
    · rw [e1] at p1
      rw [ab_s_nil p1]
      exact trivial
    · rw [ab_nil]
      exact h2
  by_cases h16 : q < 16
  · refine cm_Call_up (hc [r0, M.1 4 q, M.1 5 q] vs M (ab_s_ap (ext := [M.1 4 q, M.1 5 q]) h1) ?_ (hp0_ok h3) ?_) (Nat.le_refl _) (fun v M' hp1 => fin _ v M' (fun _ => rfl) (fun z => absurd h16 z) hp1)
    · show ab_k _ (tn_k q hi)
      unfold tn_k
      rw [if_pos h16]
      refine ⟨rfl, fun j r x g1 g2 => ?_⟩
      match j with
      | 0 => cases g1; cases g2; exact ⟨(h2.2 0 _ r0 rfl rfl).1, Or.inl rfl⟩
      | 1 => cases g1; cases g2; exact ⟨ev_ful_in _, Or.inl rfl⟩
      | 2 =>
        cases g1; cases g2
        have h5 := h3.1 5 q
        have hb5 : ∀ q, q < 16 → ab_hi hp 5 q = (0, 5) := by decide
        rw [hb5 q h16] at h5
        exact ⟨h5, Or.inl rfl⟩
      | j + 3 => cases g1
    · show ab_ca _ M (tn_ca q)
      unfold tn_ca
      rw [if_pos h16]
      intro z hz
      simp only [List.mem_cons, List.not_mem_nil, or_false] at hz
      rcases hz with rfl | rfl | rfl | rfl
      · exact ab_ce_ap (ext := [M.1 4 q, M.1 5 q]) ca0
      · exact congrArg some hqi
      · rfl
      · rfl
  · refine cm_Call_up (hc [r0] vs M h1 ?_ (hp0_ok h3) ?_) (Nat.le_refl _) (fun v M' hp1 => fin _ v M' (fun z => absurd z h16) (fun _ => rfl) hp1)
    · show ab_k _ (tn_k q hi)
      unfold tn_k
      rw [if_neg h16]
      exact h2
    · show ab_ca _ M (tn_ca q)
      unfold tn_ca
      rw [if_neg h16]
      intro z hz
      simp only [List.mem_cons, List.not_mem_nil, or_false] at hz
      rcases hz with rfl | rfl
      · exact ca0
      · exact congrArg some hqi
theorem hd_cmp0 {x y : Int64} (h : lg_cmp x y ≠ 0) : x ≠ y := by
  rintro rfl
  apply h
  unfold lg_cmp
  rw [if_neg (by simp), if_pos rfl]
theorem hd_inc {i : Int32} (h : i.toInt < 2147483647) : (i + 1).toInt = i.toInt + 1 := by
  have h1 : (1 : Int32).toInt = 1 := by decide
  have h2 := i.minValue_le_toInt
  have h3 : Int32.minValue.toInt = -2147483648 := by decide
  rw [Int32.toInt_add, h1, ev_bm (by omega) (by omega)]
theorem hd_wl_ok {M : cm_M} {c i : Nat} {x : Int64} (h : ab_ok hp hN M) : ab_ok hp hN (cm_wl M c i x) := ⟨fun a b => h.1 a b, fun a b => h.2.1 a b, h.2.2⟩
theorem hd_wl_fr {md : ab_Md} {M0 M : cm_M} {c i : Nat} {x : Int64} (hi : ab_inM md c i = true) (h : ab_fr md M0 M) : ab_fr md M0 (cm_wl M c i x) := by
  intro a b hm
  obtain ⟨h1, h2, h3⟩ := h a b hm
  refine ⟨h1, ?_, h3⟩
  show (if a = c ∧ b = i then x else M.2.1 a b) = _
  rw [if_neg ?_]
  · exact h2
  · rintro ⟨rfl, rfl⟩
    rw [hi] at hm
    cases hm
noncomputable def rd_S (a b x y : Int64) (i : Int32) (M : cm_M) : cm_S := (9, [(0, .ref 123), (1, .long a), (3, .long b), (5, .long x), (7, .long y), (9, .int i)], [], M)
noncomputable def rd_P (M : cm_M) : cm_K := ab_Post hp hN M [(123, [0, 1])] [] [([], [], [])]
theorem rd_end {M : cm_M} (hM : ab_ok hp hN M) (J : cm_S → Prop) (m : Nat) (a b x y : Int64) (i : Int32) (v : Int64) : cm_wp cm_ms (cm_Call cm_ms 0) none (cm_P mr_62) mr_62.2.2.2.2.2.2 [(9, [0, 1, 3, 5, 7, 9])] J (cm_ret mr_62.2.2.2.1 (rd_P M)) (m + 15) (64, [(0, .ref 123), (1, .long a), (3, .long b), (5, .long x), (7, .long y), (9, .int i)], [], cm_wl M 123 0 v) := by
  have fin : ∀ w : Int64, rd_P M none (cm_wl (cm_wl M 123 0 v) 123 1 w) := fun w => ⟨_, List.mem_singleton.mpr rfl, [], trivial, ⟨rfl, fun j r x h => nomatch h⟩, hd_wl_ok (hd_wl_ok hM), hd_wl_fr (by decide) (hd_wl_fr (by decide) (ab_fr_rf _ _)), fun q hq => nomatch hq⟩
  show 0 ≤ _ ∧ (ev_cmp 1 (lg_cmp x _) 0 = true → _) ∧ (_ → _)
  refine ⟨(by decide : (0 : Int) ≤ 76), fun hc => ?_, fun hc => ?_⟩
  · show ¬ x = 0 ∧ _ ∧ _ ∧ _ ∧ _ ∧ _
    refine ⟨hd_cmp0 (y := 0) (by simpa [ev_cmp] using hc), by decide, by decide, by decide, rfl, ?_⟩
    exact fin _
  · show 0 ≤ _ ∧ _ ∧ _ ∧ _ ∧ _ ∧ _
    refine ⟨(by decide : (0 : Int) ≤ 80), by decide, by decide, by decide, rfl, ?_⟩
    exact fin _
theorem rd_exit {M : cm_M} (hM : ab_ok hp hN M) (J : cm_S → Prop) (m : Nat) (a b x y : Int64) (i : Int32) : cm_wp cm_ms (cm_Call cm_ms 0) none (cm_P mr_62) mr_62.2.2.2.2.2.2 [(9, [0, 1, 3, 5, 7, 9])] J (cm_ret mr_62.2.2.2.1 (rd_P M)) (m + 30) (45, [(0, .ref 123), (1, .long a), (3, .long b), (5, .long x), (7, .long y), (9, .int i)], [], M) := by
  show 0 ≤ _ ∧ (ev_cmp 1 (lg_cmp x _) 0 = true → _) ∧ (_ → _)
  refine ⟨(by decide : (0 : Int) ≤ 57), fun hc => ?_, fun hc => ?_⟩
  · show ¬ x = 0 ∧ _ ∧ _ ∧ _ ∧ _ ∧ _
    refine ⟨hd_cmp0 (y := 0) (by simpa [ev_cmp] using hc), by decide, by decide, by decide, rfl, ?_⟩
    exact rd_end hM J (m + 6) a b x y i _
  · show 0 ≤ _ ∧ _ ∧ _ ∧ _ ∧ _ ∧ _
    refine ⟨(by decide : (0 : Int) ≤ 61), by decide, by decide, by decide, rfl, ?_⟩
    exact rd_end hM J (m + 7) a b x y i _
theorem rd_loop {M : cm_M} (hM : ab_ok hp hN M) (a b : Int64) : ∀ (j : Nat) (i : Int32) (x y : Int64), i.toInt = 128 - (j : Int) → 0 ≤ i.toInt → cm_At cm_ms 0 mr_62 (rd_P M) (rd_S a b x y i M) := by
  intro j
  induction j with
  | zero =>
    intro i x y hi h0
    refine cm_At_run cm_ms_ok (k := 62) rfl (stops := [(9, [0, 1, 3, 5, 7, 9])]) (J := fun _ => False) (fun S hS => hS.elim) (n := 60) ?_
    show 0 ≤ _ ∧ (ev_cmp 3 i _ = true → _) ∧ (ev_cmp 3 i _ = false → _)
    refine ⟨(by decide : (0 : Int) ≤ 45), fun _ => rd_exit hM _ 27 a b x y i, fun hc => ?_⟩
    exfalso
    have h1 : ¬ (128 : Int32) ≤ i := of_decide_eq_false hc
    apply h1
    rw [Int32.le_iff_toInt_le]
    have : (128 : Int32).toInt = 128 := by decide
    omega
  | succ j ih =>
    intro i x y hi h0
    refine cm_At_run cm_ms_ok (k := 62) rfl (stops := [(9, [0, 1, 3, 5, 7, 9])]) (J := fun S => ∃ i x y, i.toInt = 128 - (j : Int) ∧ 0 ≤ i.toInt ∧ S = rd_S a b x y i M) (fun S hS => by obtain ⟨i, x, y, e1, e2, rfl⟩ := hS; exact ih i x y e1 e2) (n := 60) ?_
    show 0 ≤ _ ∧ (ev_cmp 3 i _ = true → _) ∧ (ev_cmp 3 i _ = false → _)
    refine ⟨(by decide : (0 : Int) ≤ 45), fun _ => rd_exit hM _ 27 a b x y i, fun hc => ?_⟩
    show 0 ≤ _ ∧ (ev_cmp 0 (lg_cmp y _) 0 = true → _) ∧ (_ → _)
    refine ⟨(by decide : (0 : Int) ≤ 45), fun _ => rd_exit hM _ 23 a b x y i, fun hc2 => ?_⟩
    show ¬ y = 0 ∧ 10 + 1 < 12 ∧ 5 + 1 < 12 ∧ 7 + 1 < 12 ∧ 9 < 12 ∧ 0 ≤ _ ∧ _
    refine ⟨hd_cmp0 (y := 0) (by simpa [ev_cmp] using hc2), by decide, by decide, by decide, by decide, (by decide : (0 : Int) ≤ 9), ?_⟩
    refine ⟨i + 1, y, x - x / y * y, ?_, ?_, rfl⟩
    · have := hd_inc (i := i) (by omega)
      omega
    · have := hd_inc (i := i) (by omega)
      omega
theorem hd_reduce : ab_CT cm_ms hp hN 1 (62, [(1, 0, [123]), (6, 0, []), (6, 0, [])], [], [], [(123, [0, 1])], [([], [], [])]) := by
  intro ρ vs M h1 h2 h3 h4
  obtain ⟨a, b, rfl⟩ : ∃ a b, vs = [.ref 123, .long a, .long b] := by
    match vs, h1 with
    | [v0, v1, v2], ⟨⟨c, hc, hv⟩, ⟨a, ha⟩, ⟨b, hb⟩, _⟩ =>
      have : c = 123 := List.mem_singleton.mp hc
      subst this
      exact ⟨a, b, by rw [hv, ha, hb]⟩
  have hr : ρ = [] := List.length_eq_zero_iff.mp h2.1.symm
  subst hr
  refine cm_Call_of cm_ms_ok (k := 62) (mi := mr_62) rfl (by show 5 ≤ 12; decide) ?_
  refine cm_At_run cm_ms_ok (k := 62) rfl (stops := [(9, [0, 1, 3, 5, 7, 9])]) (J := fun S => S = rd_S a b b a 0 M) (fun S hS => by rw [hS]; exact rd_loop h3 a b 128 0 b a (by decide) (by decide)) (n := 10) ?_
  show 5 + 1 < 12 ∧ 7 + 1 < 12 ∧ 9 < 12 ∧ _
  refine ⟨by decide, by decide, by decide, ?_⟩
  exact rfl
theorem lo_rem {x y : Int64} (hy : y ≠ 0) : (x - x / y * y).toInt.natAbs < y.toInt.natAbs := by
  have h0 : y.toInt ≠ 0 := fun e => hy (Int64.toInt_inj.mp (e.trans (by decide)))
  have h1 : (x.toInt.tmod y.toInt).natAbs < y.toInt.natAbs := by
    rw [Int.natAbs_tmod]
    exact Nat.mod_lt _ (by omega)
  have h2 : -9223372036854775808 ≤ y.toInt := Int64.le_toInt y
  have h3 : y.toInt < 9223372036854775808 := Int64.toInt_lt y
  have e : (x - x / y * y).toInt = x.toInt.tmod y.toInt := by
    rw [Int64.toInt_sub, Int64.toInt_mul, Int64.toInt_div, Int.bmod_mul_bmod, Int.sub_bmod_bmod, Int.mul_comm, ← Int.tmod_def]
    exact Int.bmod_eq_of_le (by omega) (by omega)
  rw [e]
  exact h1
noncomputable def lo_S (up down x y : Int64) (lo : Int32) (M : cm_M) : cm_S := (6, [(0, .long up), (2, .long down), (4, .int lo), (5, .long x), (7, .long y)], [], M)
noncomputable def lo_P (M : cm_M) : cm_K := fun v M' => (∃ x, v = some (.long x)) ∧ M' = M
theorem lo_exit (J : cm_S → Prop) (m : Nat) (up down x y : Int64) (lo : Int32) (M : cm_M) (hx : x ≠ 0) : cm_wp cm_ms (cm_Call cm_ms 0) none (cm_P mr_171) mr_171.2.2.2.2.2.2 [(6, [0, 2, 4, 5, 7])] J (cm_ret mr_171.2.2.2.1 (lo_P M)) (m + 15) (31, [(0, .long up), (2, .long down), (4, .int lo), (5, .long x), (7, .long y)], [], M) := by
  show 0 ≤ _ ∧ (ev_cmp 0 lo 0 = true → _) ∧ (_ → _)
  refine ⟨(by decide : (0 : Int) ≤ 40), fun hc => ?_, fun hc => ?_⟩
  · show ¬ x = 0 ∧ _
    exact ⟨hx, ⟨_, rfl⟩, rfl⟩
  · show 0 ≤ _ ∧ ¬ x = 0 ∧ _
    exact ⟨(by decide : (0 : Int) ≤ 41), hx, ⟨_, rfl⟩, rfl⟩
theorem lo_loop (M : cm_M) (up down : Int64) (lo : Int32) : ∀ (j : Nat) (x y : Int64), y.toInt.natAbs < j → x ≠ 0 → cm_At cm_ms 0 mr_171 (lo_P M) (lo_S up down x y lo M) := by
  intro j
  induction j with
  | zero => intro x y h; exact absurd h (Nat.not_lt_zero _)
  | succ j ih =>
    intro x y hj hx
    refine cm_At_run cm_ms_ok (k := 171) rfl (stops := [(6, [0, 2, 4, 5, 7])]) (J := fun S => ∃ x y, y.toInt.natAbs < j ∧ x ≠ 0 ∧ S = lo_S up down x y lo M) (fun S hS => by obtain ⟨x, y, e1, e2, rfl⟩ := hS; exact ih x y e1 e2) (n := 60) ?_
    show 0 ≤ _ ∧ (ev_cmp 0 (lg_cmp y _) 0 = true → _) ∧ (_ → _)
    refine ⟨(by decide : (0 : Int) ≤ 31), fun _ => lo_exit _ 41 up down x y lo M hx, fun hc => ?_⟩
    have hy : y ≠ 0 := hd_cmp0 (y := 0) (by simpa [ev_cmp] using hc)
    show ¬ y = 0 ∧ 9 + 1 < 11 ∧ 5 + 1 < 11 ∧ 7 + 1 < 11 ∧ 0 ≤ _ ∧ _
    refine ⟨hy, by decide, by decide, by decide, (by decide : (0 : Int) ≤ 6), ?_⟩
    refine ⟨y, x - x / y * y, ?_, hy, rfl⟩
    have := lo_rem (x := x) hy
    omega
theorem hd_lowest (M : cm_M) (up down : Int64) (lo : Int32) (hd : down ≠ 0) : cm_Call cm_ms 1 171 [.long up, .long down, .int lo] M (lo_P M) := by
  refine cm_Call_of cm_ms_ok (k := 171) (mi := mr_171) rfl (by show 5 ≤ 11; decide) ?_
  refine cm_At_run cm_ms_ok (k := 171) rfl (stops := [(6, [0, 2, 4, 5, 7])]) (J := fun S => S = lo_S up down down up lo M) (fun S hS => by rw [hS]; exact lo_loop M up down lo _ down up (Nat.lt_succ_self _) hd) (n := 10) ?_
  show 5 + 1 < 11 ∧ 7 + 1 < 11 ∧ _
  refine ⟨by decide, by decide, ?_⟩
  exact rfl
/-- the memory with two references told -/
noncomputable def ts_f (M : cm_M) : cm_M := cm_wr (cm_wr M 124 15 (some 127)) 124 22 (some 132)
theorem ts_one {M : cm_M} {i c : Nat} (h : ab_ok hp hN M) (e : ab_hr hp 124 i = some (false, [c])) : M.2.2 124 i = some c := by
  have h1 := h.2.1 124 i
  rw [e] at h1
  cases hc : M.2.2 124 i with
  | none => rw [hc] at h1; cases h1
  | some q => rw [hc] at h1; rw [List.mem_singleton.mp h1]
theorem ts_f_eq {M : cm_M} (h : ab_ok hp hN M) : ts_f M = M := by
  have h15 : M.2.2 124 15 = some 127 := ts_one h (by decide +kernel)
  have h22 : M.2.2 124 22 = some 132 := ts_one h (by decide +kernel)
  refine Prod.ext rfl (Prod.ext rfl (funext fun c => funext fun i => ?_))
  show (if c = 124 ∧ i = 22 then some 132 else if c = 124 ∧ i = 15 then some 127 else M.2.2 c i) = M.2.2 c i
  split
  · rename_i e
    rw [e.1, e.2, h22]
  · split
    · rename_i e
      rw [e.1, e.2, h15]
    · rfl
theorem ts_bit (M : cm_M) (x m : Int32) : cm_Call cm_ms 1 168 [.int x, .int m] M (fun v M' => M' = M ∧ ∃ b : Int32, v = some (.int b) ∧ ((b = 1 ∧ (x >>> (m &&& 31)) &&& 1 = 1) ∨ (b = 0 ∧ (x >>> (m &&& 31)) &&& 1 ≠ 1))) := by
  refine cm_Call_of cm_ms_ok (k := 168) (mi := mr_168) rfl (by show 2 ≤ 2; decide) ?_
  refine cm_At_run cm_ms_ok (k := 168) rfl (stops := []) (J := fun _ => False) (fun S hS => hS.elim) (n := 20) ?_
  show 0 ≤ _ ∧ (ev_cmp 1 ((x >>> (m &&& 31)) &&& 1) 1 = true → _) ∧ (_ → _)
  refine ⟨(by decide : (0 : Int) ≤ 13), fun hc => ?_, fun hc => ?_⟩
  · show ((0 : Int32) = 0 ∨ (0 : Int32) = 1) ∧ _
    refine ⟨Or.inl rfl, rfl, 0, rfl, Or.inr ⟨rfl, ?_⟩⟩
    simpa [ev_cmp] using hc
  · show 0 ≤ _ ∧ ((1 : Int32) = 0 ∨ (1 : Int32) = 1) ∧ _
    refine ⟨(by decide : (0 : Int) ≤ 14), Or.inr rfl, rfl, 1, rfl, Or.inl ⟨rfl, ?_⟩⟩
    have hc : (!decide ((x >>> (m &&& 31)) &&& 1 = 1)) = false := hc
    simpa using hc
noncomputable def ts_a (M : cm_M) : Int32 := (1 <<< (M.1 127 3 &&& 31)) - 1
theorem ts_all0 (M : cm_M) : cm_Call cm_ms 1 208 [.ref 124] (ts_f M) (fun v M' => M' = ts_f M ∧ v = some (.int (ts_a M))) := by
  refine cm_Call_of cm_ms_ok (k := 208) (mi := mr_208) rfl (by show 1 ≤ 1; decide) ?_
  refine cm_At_run cm_ms_ok (k := 208) rfl (stops := []) (J := fun _ => False) (fun S hS => hS.elim) (n := 20) ?_
  show (cm_kind 124).1 = _ ∧ _ < _ ∧ (cm_kind 127).1 = _ ∧ 0 ≤ _ ∧ _ < _ ∧ _
  exact ⟨by decide, by decide, by decide, by decide, by decide, rfl, rfl⟩
theorem ts_all {M : cm_M} (h : ab_ok hp hN M) : cm_Call cm_ms 1 208 [.ref 124] M (fun v M' => M' = M ∧ v = some (.int (ts_a M))) := by
  have := ts_all0 M
  rw [ts_f_eq h] at this
  exact this
theorem ts_num : ∀ n, n < 7 → 0 ≤ ((1 <<< (Int32.ofNat n &&& 31)) - 1 : Int32).toInt ∧ ((1 <<< (Int32.ofNat n &&& 31)) - 1 : Int32).toInt ≤ 63 ∧ ∀ m, m < n → ((((1 <<< (Int32.ofNat n &&& 31)) - 1 : Int32) >>> (Int32.ofNat m &&& 31)) &&& 1) = 1 := by decide +kernel
theorem ts_small {x : Int32} {b : Nat} (h0 : 0 ≤ x.toInt) (h1 : x.toInt < b) : ∃ n : Nat, n < b ∧ x = Int32.ofNat n ∧ x.toInt = n := by
  refine ⟨x.toInt.toNat, by omega, ?_, by omega⟩
  apply Int32.toInt_inj.mp
  have h2 := x.toInt_lt
  rw [Int32.toInt_ofNat_of_lt (by omega)]
  omega
theorem ts_zero (m : Int32) : ((0 : Int32) >>> (m &&& 31)) &&& 1 ≠ 1 := by
  rw [Int32.zero_shiftRight, Int32.zero_and]
  decide
theorem ts_mul {w : Int64} {x : Int32} {m : Nat} (hm : m ≤ 5) (h0 : 0 ≤ w.toInt) (h1 : w.toInt ≤ 100 ^ m) (hx : 0 ≤ x.toInt) (hx2 : x.toInt ≤ 100) : (w * x.toInt64).toInt = w.toInt * x.toInt ∧ 0 ≤ w.toInt * x.toInt ∧ w.toInt * x.toInt ≤ 100 ^ (m + 1) ∧ (1 ≤ w.toInt → 1 ≤ x.toInt → 1 ≤ w.toInt * x.toInt) := by
  have e1 : 0 ≤ w.toInt * x.toInt := Int.mul_nonneg h0 hx
  have e2 : w.toInt * x.toInt ≤ 100 ^ m * 100 := Int.mul_le_mul h1 hx2 hx (by have := h1; omega)
  have e3 : (100 : Int) ^ (m + 1) = 100 ^ m * 100 := by rw [Int.pow_succ]
  have e4 : (100 : Int) ^ m ≤ 10000000000 := by
    have : ∀ m : Nat, m ≤ 5 → (100 : Int) ^ m ≤ 10000000000 := by decide
    exact this m hm
  refine ⟨?_, e1, by rw [e3]; exact e2, fun a b => ?_⟩
  · rw [Int64.toInt_mul, Int32.toInt_toInt64]
    exact Int.bmod_eq_of_le (by omega) (by omega)
  · have := Int.mul_le_mul a b (by omega) (by omega)
    omega
theorem ts_sub {d : Nat} {mi : ev_MI} {Post : cm_K} {pc : Nat} {L L' : List (Nat × Value)} {st : List Value} {M : cm_M} (h : cm_At cm_ms d mi Post (pc, L', st, M)) (hL : ∀ q ∈ L', cm_look L q.1 = some q.2) : cm_At cm_ms d mi Post (pc, L, st, M) := cm_At_sub h hL
theorem ts_any {α : Type} {o : Option α} {p : α → Bool} (h : o.any p = true) : ∃ a, o = some a ∧ p a = true := by
  cases o with
  | none => cases h
  | some a => exact ⟨a, rfl, h⟩
noncomputable def tc_yes : ab_Ct := (214, [(1, 0, [124]), (1, 0, [129, 132]), (3, 0, [])], [(0, 8, 0, (0, 0, []), (0, 0, []))], [], [], [([(3, 1, [])], [(0, 8, 0, (0, 0, []), (0, 0, [])), ((-2147483648), 2147483647, 0, (0, 0, []), (0, 0, []))], [])])
noncomputable def tc_en : ab_Ct := (215, [(1, 0, [124]), (1, 0, [129, 132]), (3, 0, [])], [(0, 8, 0, (0, 0, []), (0, 0, []))], [], [], [([(3, 1, [])], [(0, 8, 0, (0, 0, []), (0, 0, [])), (0, 1, 0, (0, 0, []), (0, 0, []))], [])])
noncomputable def tc_go : ab_Ct := (220, [(1, 0, [124]), (3, 0, [])], [((-2147483648), 2147483647, 0, (0, 0, []), (0, 0, []))], [], [(132, [])], [([], [((-2147483648), 2147483647, 0, (0, 0, []), (0, 0, []))], [])])
noncomputable def ts_S0 : ab_S := (111, [(0, (1, 0, [124])), (1, (3, 0, [])), (2, (3, 1, [])), (3, (6, 0, []))], [], [(0, 4, 0, (0, 0, []), (0, 0, [])), (0, 63, 0, (0, 0, []), (0, 0, []))], [])
noncomputable def ts_p (f : Bool × ab_S) : Bool := f.1 && (decide (f.2.1 = 17) && (decide (f.2.2.1 = [(0, (1, 0, [124])), (1, (3, 0, [])), (2, (3, 4, []))]) && (decide (f.2.2.2.1 = []) && decide ((f.2.2.2.2.1[4]?).map (fun r => r.2.2) = some (1, (3, 1, []), (0, 1, []))))))
set_option maxRecDepth 1000000 in
theorem ts_chk : (ab_run (ab_cl cm_ms hp [(124, [32, 33])] [tc_yes, tc_en] [] 0) hp [(124, [32, 33])] (cm_P mr_281) mr_281.2.2.2.2.2.2 [(17, [0, 1, 2])] 60 ts_S0).any (fun fs => fs.all ts_p) = true := by decide +kernel
theorem ts_k2 {k s : Int32} {a b c e : Int} (h1 : a ≤ k.toInt) (h2 : k.toInt ≤ b) (h3 : c ≤ s.toInt) (h4 : s.toInt ≤ e) : ab_k [k, s] [(a, b, 0, (0, 0, []), (0, 0, [])), (c, e, 0, (0, 0, []), (0, 0, []))] := by
  refine ⟨rfl, fun j r x g1 g2 => ?_⟩
  match j with
  | 0 => cases g1; cases g2; exact ⟨⟨h1, h2⟩, Or.inl rfl⟩
  | 1 => cases g1; cases g2; exact ⟨⟨h3, h4⟩, Or.inl rfl⟩
  | j + 2 => cases g1
theorem ts_D2 {d : Nat} (hY : ab_CT cm_ms hp hN d tc_yes) (hE : ab_CT cm_ms hp hN d tc_en) {Post : cm_K} {k s : Int32} {w : Int64} {M : cm_M} (hM : ab_ok hp hN M) (hk0 : 0 ≤ k.toInt) (hk1 : k.toInt ≤ 4) (hs0 : 0 ≤ s.toInt) (hs1 : s.toInt ≤ 63) (IH : ∀ M', ab_ok hp hN M' → ab_fr [(124, [32, 33])] M M' → cm_At cm_ms d mr_281 Post (17, [(0, .ref 124), (1, .int k), (2, .int (s + 1))], [], M')) : cm_At cm_ms d mr_281 Post (111, [(0, .ref 124), (1, .int k), (2, .int s), (3, .long w)], [], M) := by
  refine cm_At_run cm_ms_ok (k := 281) rfl (stops := [(17, [0, 1, 2])]) (J := cm_At cm_ms d mr_281 Post) (fun S hS => hS) (n := 60) ?_
  obtain ⟨fs, hfs, hall⟩ := ts_any ts_chk
  have hus : ∀ c ∈ [tc_yes, tc_en], ab_CT cm_ms hp hN d c := List.forall_mem_cons.mpr ⟨hY, List.forall_mem_cons.mpr ⟨hE, fun _ h => absurd h List.not_mem_nil⟩⟩
  refine ab_run_ok (M0 := M) hNP (ab_cl_ok cm_ms_ok cm_ms_rc (inl := []) (hin := fun _ h => nomatch h) hNP hus 0) (cm_ms_rc 281 mr_281 rfl) 60 _ fs _ [k, s] hfs ⟨rfl, ?_, trivial, ts_k2 hk0 hk1 hs0 hs1, hM, ab_fr_rf _ _, fun q hq => nomatch hq⟩ (fun f hf ext C' hG => ?_)
  · intro q hq
    simp only [ts_S0, List.mem_cons, List.not_mem_nil, or_false] at hq
    rcases hq with rfl | rfl | rfl | rfl
    · exact ⟨_, rfl, 124, List.mem_singleton.mpr rfl, rfl⟩
    · exact ⟨_, rfl, k, rfl, rfl⟩
    · exact ⟨_, rfl, s, rfl, rfl⟩
    · exact ⟨_, rfl, w, rfl⟩
  · have h1 := List.all_eq_true.mp hall f hf
    simp only [ts_p, Bool.and_eq_true, decide_eq_true_eq] at h1
    obtain ⟨h1, h2, h3, h4, h5⟩ := h1
    refine ⟨fun _ => ?_, fun h0 => by rw [h1] at h0; cases h0⟩
    obtain ⟨g1, g2, g3, g4, g5⟩ := hG
    obtain ⟨pc, CL, sc, M'⟩ := C'
    dsimp only at g1 g2 g3 g4 g5
    rw [h2] at g1
    subst g1
    rw [h4] at g3
    have hsc := ab_s_nil g3
    subst hsc
    rw [h3] at g2
    obtain ⟨v0, l0, c0, hc0, rfl⟩ := g2 (0, (1, 0, [124])) List.mem_cons_self
    obtain ⟨v1, l1, x1, hx1, rfl⟩ := g2 (1, (3, 0, [])) (List.mem_cons_of_mem _ List.mem_cons_self)
    obtain ⟨v2, l2, x2, hx2, rfl⟩ := g2 (2, (3, 4, [])) (List.mem_cons_of_mem _ (List.mem_cons_of_mem _ List.mem_cons_self))
    have hc0 := List.mem_singleton.mp hc0
    subst hc0
    have e1 : some k = some x1 := hx1
    cases e1
    have e2 : x2 = s + 1 := by
      cases hr : f.2.2.2.2.1[4]? with
      | none => rw [hr] at h5; cases h5
      | some r =>
        rw [hr] at h5
        have h5 : r.2.2 = (1, (3, 1, []), (0, 1, [])) := Option.some.inj h5
        have h6 := (g4.2 4 r x2 hr hx2).2
        rw [h5] at h6
        rcases h6 with h6 | ⟨y, z, a1, a2, a3⟩
        · cases h6
        · have a1 : some s = some y := a1
          have a2 : some (Int32.ofInt 1) = some z := a2
          cases a1
          cases a2
          exact a3
    subst e2
    refine ts_sub (IH M' g5.1 g5.2.1) (fun q hq => ?_)
    simp only [List.mem_cons, List.not_mem_nil, or_false] at hq
    rcases hq with rfl | rfl | rfl
    · exact l0
    · exact l1
    · exact l2
noncomputable abbrev ts_md : ab_Md := [(124, [31, 32, 33]), (132, [])]
noncomputable abbrev ts_st : List (Nat × List Nat) := [(17, [0, 1, 2]), (35, [0, 1, 2, 3, 5]), (101, [0, 1, 2, 3]), (111, [0, 1, 2, 3])]
noncomputable def ts_J1 (M0 M : cm_M) (s : Int32) : Prop := ab_ok hp hN M ∧ ab_fr ts_md M0 M ∧ 0 ≤ s.toInt ∧ s.toInt ≤ (ts_a M0).toInt + 1 ∧ 0 ≤ (M.2.1 124 31).toInt ∧ (M.2.1 124 31).toInt ≤ s.toInt * 1000000000000 ∧ (1 ≤ s.toInt → (M0.1 127 2).toInt < 100 → 1 ≤ (M.2.1 124 31).toInt) ∧ ((ts_a M0).toInt < s.toInt → (M0.1 127 2).toInt = 100 → 1 ≤ (M.2.1 124 31).toInt)
noncomputable def ts_J2 (M0 M : cm_M) (s m : Int32) (w : Int64) : Prop := ts_J1 M0 M s ∧ s.toInt ≤ (ts_a M0).toInt ∧ 0 ≤ m.toInt ∧ m.toInt ≤ (M0.1 127 3).toInt ∧ 0 ≤ w.toInt ∧ w.toInt ≤ 100 ^ m.toInt.toNat ∧ (s = 0 → (M0.1 127 2).toInt < 100 → 1 ≤ w.toInt) ∧ (s = ts_a M0 → (M0.1 127 2).toInt = 100 → 1 ≤ w.toInt)
theorem ts_fr2 {M0 M M' : cm_M} {md : ab_Md} (h1 : ab_fr ts_md M0 M) (hm : ab_mds md ts_md = true) (h2 : ab_fr md M M') : ab_fr ts_md M0 M' := fun c i hc => by
  obtain ⟨a1, a2, a3⟩ := h1 c i hc
  obtain ⟨b1, b2, b3⟩ := h2 c i (ab_mds_ok hm hc)
  exact ⟨b1.trans a1, b2.trans a2, b3.trans a3⟩
theorem ts_hi {M : cm_M} (h : ab_ok hp hN M) : (0 ≤ (M.1 127 2).toInt ∧ (M.1 127 2).toInt ≤ 100) ∧ 0 ≤ (M.1 127 3).toInt ∧ (M.1 127 3).toInt ≤ 6 := by
  have h2 := h.1 127 2
  have h3 := h.1 127 3
  rw [show ab_hi hp 127 2 = (0, 100) from by decide +kernel] at h2
  rw [show ab_hi hp 127 3 = (0, 6) from by decide +kernel] at h3
  exact ⟨h2, h3⟩
theorem ts_an {M : cm_M} (h : ab_ok hp hN M) : 0 ≤ (ts_a M).toInt ∧ (ts_a M).toInt ≤ 63 ∧ ∀ m : Int32, 0 ≤ m.toInt → m.toInt < (M.1 127 3).toInt → (ts_a M >>> (m &&& 31)) &&& 1 = 1 := by
  obtain ⟨-, h0, h1⟩ := ts_hi h
  obtain ⟨n, hn, en, en2⟩ := ts_small (b := 7) h0 (by omega)
  have hx := ts_num n hn
  unfold ts_a
  rw [en] at *
  refine ⟨hx.1, hx.2.1, fun m g0 g1 => ?_⟩
  obtain ⟨q, hq, eq, eq2⟩ := ts_small (b := 7) g0 (by omega)
  rw [eq]
  exact hx.2.2 q (by omega)
theorem ts_D {d : Nat} (hY : ab_CT cm_ms hp hN d tc_yes) (hE : ab_CT cm_ms hp hN d tc_en) {Post : cm_K} {M0 M : cm_M} (hM0 : ab_ok hp hN M0) {k s m : Int32} {w : Int64} (hk0 : 0 ≤ k.toInt) (hk1 : k.toInt ≤ 4) (hJ : ts_J2 M0 M s m w) (IH : ∀ M', ts_J1 M0 M' (s + 1) → cm_At cm_ms d mr_281 Post (17, [(0, .ref 124), (1, .int k), (2, .int (s + 1))], [], M')) : cm_At cm_ms d mr_281 Post (101, [(0, .ref 124), (1, .int k), (2, .int s), (3, .long w)], [], M) := by
  obtain ⟨⟨j1, j2, j3, j4, j5, j6, j7, j8⟩, i1, i2, i3, i4, i5, i6, i7⟩ := hJ
  obtain ⟨a1, a2, -⟩ := ts_an hM0
  obtain ⟨-, n1, n2⟩ := ts_hi hM0
  have hw : w.toInt ≤ 1000000000000 := by
    have : ∀ q : Nat, q < 7 → (100 : Int) ^ q ≤ 1000000000000 := by decide
    have := this m.toInt.toNat (by omega)
    omega
  have hsum : (M.2.1 124 31 + w).toInt = (M.2.1 124 31).toInt + w.toInt := by
    rw [Int64.toInt_add]
    exact Int.bmod_eq_of_le (by omega) (by omega)
  have hinc := hd_inc (i := s) (by omega)
  refine cm_At_run cm_ms_ok (k := 281) rfl (stops := ts_st) (J := cm_At cm_ms d mr_281 Post) (fun S hS => hS) (n := 20) ?_
  show _ = 1 ∧ (cm_kind 124).1 = _ ∧ _ < _ ∧ (cm_kind 124).1 = _ ∧ _ < _ ∧ _ = false ∧ _ ∧ _
  refine ⟨rfl, by decide, by decide, by decide, by decide, by decide, rfl, ?_⟩
  refine ts_D2 hY hE (M := cm_wl M 124 31 (M.2.1 124 31 + w)) (hd_wl_ok j1) hk0 hk1 j3 (by omega) (fun M' g1 g2 => IH M' ?_)
  have e31 : M'.2.1 124 31 = M.2.1 124 31 + w := (g2 124 31 (by decide)).2.1
  refine ⟨g1, ts_fr2 (hd_wl_fr (by decide) j2) (by decide) g2, by omega, by omega, ?_, ?_, fun _ hs => ?_, fun ha hs => ?_⟩
  · rw [e31]; omega
  · rw [e31]; omega
  · rw [e31]
    by_cases h0 : s = 0
    · have := i6 h0 hs
      omega
    · have : s.toInt ≠ 0 := fun e => h0 (Int32.toInt_inj.mp (e.trans (by decide)))
      have := j7 (by omega) hs
      omega
  · rw [e31]
    have : s = ts_a M0 := Int32.toInt_inj.mp (by omega)
    have := i7 this hs
    omega
theorem ts_tail {d : Nat} (hd : 1 ≤ d) {Post : cm_K} (J : cm_S → Prop) (f : Nat) {k s m : Int32} {w : Int64} {M : cm_M} (h0 : 0 ≤ m.toInt) (h1 : m.toInt < 11) (H1 : J (35, [(0, .ref 124), (1, .int k), (2, .int s), (3, .long w), (5, .int (m + 1))], [], ts_f M)) (H2 : J (35, [(0, .ref 124), (1, .int k), (2, .int s), (3, .long w), (5, .int (m + 1))], [], cm_wi (ts_f M) 132 m.toNatClampNeg 0)) : cm_wp cm_ms (cm_Call cm_ms d) none (cm_P mr_281) mr_281.2.2.2.2.2.2 ts_st J (cm_ret mr_281.2.2.2.1 Post) (f + 30) (78, [(3, .long w), (0, .ref 124), (1, .int k), (2, .int s), (5, .int m)], [], ts_f M) := by
  show cm_cs [] ≤ 8 ∧ ev_nar1 _ _ = true ∧ (_ → _) ∧ cm_Call cm_ms d 168 [.int s, .int m] (ts_f M) _
  refine ⟨by decide, by decide, fun h => absurd h (by decide), cm_Call_up (ts_bit _ s m) hd (fun v M' hv => ?_)⟩
  obtain ⟨rfl, b, rfl, hb⟩ := hv
  show 0 ≤ _ ∧ (ev_cmp 0 b 0 = true → _) ∧ (ev_cmp 0 b 0 = false → _)
  refine ⟨(by decide : (0 : Int) ≤ 95), fun _ => ?_, fun _ => ?_⟩
  · show 5 < 6 ∧ 0 ≤ _ ∧ _
    exact ⟨by decide, (by decide : (0 : Int) ≤ 35), H1⟩
  · show (cm_kind 124).1 = _ ∧ _ < _ ∧ (cm_kind 132).1 = _ ∧ 0 ≤ m.toInt ∧ m.toInt < _ ∧ 5 < 6 ∧ 0 ≤ _ ∧ _
    exact ⟨by decide, by decide, by decide, h0, h1, by decide, (by decide : (0 : Int) ≤ 35), H2⟩
theorem ts_wi {M : cm_M} {i : Nat} (h : ab_ok hp hN M) (hi : i < 11) : ab_ok hp hN (cm_wi M 132 i 0) := by
  have hb : ∀ i, i < 11 → (ab_hi hp 132 i).1 ≤ 0 ∧ 0 ≤ (ab_hi hp 132 i).2 := by decide +kernel
  refine ⟨fun a b => ?_, fun a b => h.2.1 a b, h.2.2⟩
  show ev_inb (ab_hi hp a b) (if a = 132 ∧ b = i then 0 else M.1 a b)
  split
  · rename_i e
    rw [e.1, e.2]
    exact hb i hi
  · exact h.1 a b
theorem ts_wf {M0 M : cm_M} {i : Nat} {x : Int32} (h : ab_fr ts_md M0 M) : ab_fr ts_md M0 (cm_wi M 132 i x) := by
  intro a b hm
  obtain ⟨h1, h2, h3⟩ := h a b hm
  refine ⟨?_, h2, h3⟩
  show (if a = 132 ∧ b = i then x else M.1 a b) = _
  rw [if_neg ?_]
  · exact h1
  · rintro ⟨rfl, rfl⟩
    cases hm
theorem ts_step {M0 M M' : cm_M} (hM0 : ab_ok hp hN M0) {s m x : Int32} {w : Int64} (hJ : ts_J2 M0 M s m w) (hJ' : ts_J1 M0 M' s) (hlt : m.toInt < (M0.1 127 3).toInt) (hx0 : 0 ≤ x.toInt) (hx1 : x.toInt ≤ 100) (f1 : s = 0 → (M0.1 127 2).toInt < 100 → 1 ≤ x.toInt) (f2 : s = ts_a M0 → (M0.1 127 2).toInt = 100 → 1 ≤ x.toInt) : ts_J2 M0 M' s (m + 1) (w * x.toInt64) := by
  obtain ⟨-, i1, i2, i3, i4, i5, i6, i7⟩ := hJ
  obtain ⟨-, n1, n2⟩ := ts_hi hM0
  have hinc := hd_inc (i := m) (by omega)
  obtain ⟨e1, e2, e3, e4⟩ := ts_mul (w := w) (x := x) (m := m.toInt.toNat) (by omega) i4 i5 hx0 hx1
  have em : (m + 1).toInt.toNat = m.toInt.toNat + 1 := by omega
  refine ⟨hJ', i1, by omega, by omega, by rw [e1]; exact e2, by rw [e1, em]; exact e3, fun a b => ?_, fun a b => ?_⟩
  · rw [e1]
    exact e4 (i6 a b) (f1 a b)
  · rw [e1]
    exact e4 (i7 a b) (f2 a b)
theorem ts_C {d : Nat} (hd : 1 ≤ d) {Post : cm_K} {M0 : cm_M} (hM0 : ab_ok hp hN M0) {k s : Int32} (HD : ∀ (M : cm_M) (m : Int32) (w : Int64), ts_J2 M0 M s m w → cm_At cm_ms d mr_281 Post (101, [(0, .ref 124), (1, .int k), (2, .int s), (3, .long w)], [], M)) : ∀ (j : Nat) (M : cm_M) (m : Int32) (w : Int64), ts_J2 M0 M s m w → (M0.1 127 3).toInt - m.toInt < (j : Int) → cm_At cm_ms d mr_281 Post (35, [(0, .ref 124), (1, .int k), (2, .int s), (3, .long w), (5, .int m)], [], M) := by
  intro j
  induction j with
  | zero =>
    intro M m w hJ hj
    exact absurd hJ.2.2.2.1 (by omega)
  | succ j ih =>
    intro M m w hJ hj
    have hok := hJ.1.1
    have e127 : ∀ i, M.1 127 i = M0.1 127 i := fun i => (hJ.1.2.1 127 i rfl).1
    obtain ⟨⟨s1, s2⟩, n1, n2⟩ := ts_hi hM0
    have i2 := hJ.2.2.1
    have IH' : ∀ (M' : cm_M) (x : Int32), m.toInt < (M0.1 127 3).toInt → ts_J1 M0 M' s → 0 ≤ x.toInt → x.toInt ≤ 100 → (s = 0 → (M0.1 127 2).toInt < 100 → 1 ≤ x.toInt) → (s = ts_a M0 → (M0.1 127 2).toInt = 100 → 1 ≤ x.toInt) → cm_At cm_ms d mr_281 Post (35, [(0, .ref 124), (1, .int k), (2, .int s), (3, .long (w * x.toInt64)), (5, .int (m + 1))], [], M') := fun M' x hlt hJ' g0 g1 f1 f2 => ih M' (m + 1) _ (ts_step hM0 hJ hJ' hlt g0 g1 f1 f2) (by have := hd_inc (i := m) (by omega); omega)
    have hJf : ts_J1 M0 (ts_f M) s := by rw [ts_f_eq hok]; exact hJ.1
    have h101 := HD M m w hJ
    rw [← ts_f_eq hok] at h101
    rw [← ts_f_eq hok]
    refine cm_At_run cm_ms_ok (k := 281) rfl (stops := ts_st) (J := cm_At cm_ms d mr_281 Post) (fun S hS => hS) (n := 80) ?_
    show (cm_kind 124).1 = _ ∧ _ < _ ∧ (cm_kind 127).1 = _ ∧ 0 ≤ _ ∧ _ < _ ∧ 0 ≤ _ ∧ (ev_cmp 3 m (M.1 127 3) = true → _) ∧ (ev_cmp 3 m (M.1 127 3) = false → _)
    refine ⟨by decide, by decide, by decide, by decide, by decide, (by decide : (0 : Int) ≤ 101), fun hc => h101, fun hc => ?_⟩
    have hlt : m.toInt < (M0.1 127 3).toInt := by
      have h1 : ¬ M.1 127 3 ≤ m := of_decide_eq_false hc
      rw [Int32.le_iff_toInt_le, e127 3] at h1
      omega
    have hJw : ts_J1 M0 (cm_wi (ts_f M) 132 m.toNatClampNeg 0) s := by
      obtain ⟨j1, j2, j3⟩ := hJf
      refine ⟨ts_wi j1 ?_, ts_wf j2, j3⟩
      have : (m.toNatClampNeg : Int) = m.toInt := by
        rw [Int32.toNatClampNeg]
        omega
      omega
    show cm_cs [.long w] ≤ 8 ∧ ev_nar1 _ _ = true ∧ (_ → _) ∧ cm_Call cm_ms d 168 [.int s, .int m] (ts_f M) _
    refine ⟨by show 2 ≤ 8; decide, by decide, fun h => absurd h (by decide), cm_Call_up (ts_bit _ s m) hd (fun v M' hv => ?_)⟩
    obtain ⟨rfl, b, rfl, hb⟩ := hv
    show 0 ≤ _ ∧ (ev_cmp 0 b 0 = true → _) ∧ (ev_cmp 0 b 0 = false → _)
    refine ⟨(by decide : (0 : Int) ≤ 66), fun hc2 => ?_, fun hc2 => ?_⟩
    · have hb0 : b = 0 := of_decide_eq_true hc2
      have hnb : (s >>> (m &&& 31)) &&& 1 ≠ 1 := by
        rcases hb with ⟨e, _⟩ | ⟨_, e⟩
        · rw [hb0] at e
          exact absurd e (by decide)
        · exact e
      have hx : (100 - M0.1 127 2).toInt = 100 - (M0.1 127 2).toInt := by
        have h1 : (100 : Int32).toInt = 100 := by decide
        rw [Int32.toInt_sub, h1, ev_bm (by omega) (by omega)]
      have f1 : s = 0 → (M0.1 127 2).toInt < 100 → 1 ≤ (100 - M0.1 127 2).toInt := fun _ h => by rw [hx]; omega
      have f2 : s = ts_a M0 → (M0.1 127 2).toInt = 100 → 1 ≤ (100 - M0.1 127 2).toInt := fun h _ => by
        rw [h] at hnb
        exact absurd ((ts_an hM0).2.2 m i2 hlt) hnb
      show (cm_kind 124).1 = _ ∧ _ < _ ∧ (cm_kind 127).1 = _ ∧ 0 ≤ _ ∧ _ < _ ∧ 3 + 1 < 6 ∧ _
      refine ⟨by decide, by decide, by decide, by decide, by decide, by decide, ?_⟩
      refine ts_tail hd (cm_At cm_ms d mr_281 Post) 30 (w := w * (100 - M.1 127 2).toInt64) i2 (by omega) ?_ ?_
      · rw [e127 2]
        exact IH' _ _ hlt hJf (by rw [hx]; omega) (by rw [hx]; omega) f1 f2
      · rw [e127 2]
        exact IH' _ _ hlt hJw (by rw [hx]; omega) (by rw [hx]; omega) f1 f2
    · have hb1 : (s >>> (m &&& 31)) &&& 1 = 1 := by
        rcases hb with ⟨_, e⟩ | ⟨e, _⟩
        · exact e
        · exact absurd e (of_decide_eq_false hc2)
      have f1 : s = 0 → (M0.1 127 2).toInt < 100 → 1 ≤ (M0.1 127 2).toInt := fun h _ => by
        rw [h] at hb1
        exact absurd hb1 (ts_zero m)
      have f2 : s = ts_a M0 → (M0.1 127 2).toInt = 100 → 1 ≤ (M0.1 127 2).toInt := fun _ h => by omega
      show (cm_kind 124).1 = _ ∧ _ < _ ∧ (cm_kind 127).1 = _ ∧ 0 ≤ _ ∧ _ < _ ∧ 0 ≤ _ ∧ 3 + 1 < 6 ∧ _
      refine ⟨by decide, by decide, by decide, by decide, by decide, (by decide : (0 : Int) ≤ 76), by decide, ?_⟩
      refine ts_tail hd (cm_At cm_ms d mr_281 Post) 31 (w := w * (M.1 127 2).toInt64) i2 (by omega) ?_ ?_
      · rw [e127 2]
        exact IH' _ _ hlt hJf s1 s2 f1 f2
      · rw [e127 2]
        exact IH' _ _ hlt hJw s1 s2 f1 f2
noncomputable def ts_P (M0 : cm_M) : cm_K := fun v M' => v = none ∧ ab_ok hp hN M' ∧ ab_fr ts_md M0 M' ∧ M'.2.1 124 31 ≠ 0
theorem ts_B {d : Nat} (hd : 1 ≤ d) (hG : ab_CT cm_ms hp hN d tc_go) (hY : ab_CT cm_ms hp hN d tc_yes) (hE : ab_CT cm_ms hp hN d tc_en) {M0 : cm_M} (hM0 : ab_ok hp hN M0) {k : Int32} (hk0 : 0 ≤ k.toInt) (hk1 : k.toInt ≤ 4) : ∀ (j : Nat) (M : cm_M) (s : Int32), ts_J1 M0 M s → (ts_a M0).toInt + 1 - s.toInt < (j : Int) → cm_At cm_ms d mr_281 (ts_P M0) (17, [(0, .ref 124), (1, .int k), (2, .int s)], [], M) := by
  intro j
  induction j with
  | zero =>
    intro M s hJ hj
    exact absurd hJ.2.2.2.1 (by omega)
  | succ j ih =>
    intro M s hJ hj
    have hJ0 := hJ
    obtain ⟨j1, j2, j3, j4, j5, j6, j7, j8⟩ := hJ
    obtain ⟨a1, a2, -⟩ := ts_an hM0
    obtain ⟨⟨s1, s2⟩, n1, n2⟩ := ts_hi hM0
    have ea : ts_a M = ts_a M0 := by
      unfold ts_a
      rw [(j2 127 3 rfl).1]
    refine cm_At_run cm_ms_ok (k := 281) rfl (stops := ts_st) (J := cm_At cm_ms d mr_281 (ts_P M0)) (fun S hS => hS) (n := 40) ?_
    show cm_cs [.int s] ≤ 8 ∧ ev_nar1 _ _ = true ∧ (_ → _) ∧ cm_Call cm_ms d 208 [.ref 124] M _
    refine ⟨by show 1 ≤ 8; decide, by decide, fun _ => Or.inr rfl, cm_Call_up (ts_all j1) hd (fun v M' hv => ?_)⟩
    obtain ⟨rfl, rfl⟩ := hv
    show 0 ≤ _ ∧ (ev_cmp 4 s (ts_a M') = true → _) ∧ (ev_cmp 4 s (ts_a M') = false → _)
    refine ⟨(by decide : (0 : Int) ≤ 164), fun hc => ?_, fun hc => ?_⟩
    · show ts_P M0 none M'
      have h1 : ts_a M' < s := of_decide_eq_true hc
      rw [ea, Int32.lt_iff_toInt_lt] at h1
      refine ⟨rfl, j1, j2, fun e => ?_⟩
      rw [e] at j7 j8
      have h0 : (0 : Int64).toInt = 0 := by decide
      rw [h0] at j7 j8
      by_cases h : (M0.1 127 2).toInt < 100
      · have := j7 (by omega) h
        omega
      · have := j8 (by omega) (by omega)
        omega
    · have h1 : ¬ ts_a M' < s := of_decide_eq_false hc
      rw [ea, Int32.lt_iff_toInt_lt] at h1
      have hk : ab_k [1] [((-2147483648), 2147483647, 0, (0, 0, []), (0, 0, []))] := by
        refine ⟨rfl, fun j r x g1 g2 => ?_⟩
        match j with
        | 0 => cases g1; cases g2; exact ⟨ev_ful_in _, Or.inl rfl⟩
        | j + 1 => cases g1
      show cm_cs [] ≤ 8 ∧ ev_nar1 _ _ = true ∧ (_ → _) ∧ cm_Call cm_ms d 220 [.ref 124, .int 1] M' _
      refine ⟨by decide, by decide, fun _ => Or.inr rfl, cm_Call_up (hG [1] [.ref 124, .int 1] M' ⟨⟨124, List.mem_singleton.mpr rfl, rfl⟩, ⟨1, rfl, rfl⟩, trivial⟩ hk j1 (fun q hq => nomatch hq)) (Nat.le_refl _) (fun v M'' hv => ?_)⟩
      obtain ⟨o, ho, ext, p1, p2, p3⟩ := hv
      have ho := List.mem_singleton.mp ho
      subst ho
      have hvn := ab_s_nil p1
      cases v with
      | some v => cases hvn
      | none =>
        have e31 : M''.2.1 124 31 = M'.2.1 124 31 := (p3.2.1 124 31 (by decide)).2.1
        show 3 + 1 < 6 ∧ 5 < 6 ∧ _
        refine ⟨by decide, by decide, ?_⟩
        refine ts_C hd hM0 (fun M2 m w hJ2 => ts_D hY hE hM0 hk0 hk1 hJ2 (fun M3 hJ3 => ih M3 (s + 1) hJ3 (by have := hd_inc (i := s) (by omega); omega))) 7 M'' 0 1 ⟨⟨p3.1, ts_fr2 j2 (by decide) p3.2.1, j3, j4, by rw [e31]; exact j5, by rw [e31]; exact j6, by rw [e31]; exact j7, by rw [e31]; exact j8⟩, by omega, by decide, n1, by decide, by decide, fun _ _ => by decide, fun _ _ => by decide⟩ ?_
        have h0 : (0 : Int32).toInt = 0 := by decide
        rw [h0]
        omega
theorem hd_shaves {d : Nat} (hd : 1 ≤ d) (hG : ab_CT cm_ms hp hN d tc_go) (hY : ab_CT cm_ms hp hN d tc_yes) (hE : ab_CT cm_ms hp hN d tc_en) {M0 : cm_M} (hM0 : ab_ok hp hN M0) {k : Int32} (hk0 : 0 ≤ k.toInt) (hk1 : k.toInt ≤ 4) : cm_Call cm_ms (d + 1) 281 [.ref 124, .int k] M0 (ts_P M0) := by
  obtain ⟨a1, a2, -⟩ := ts_an hM0
  refine cm_Call_of cm_ms_ok (k := 281) (mi := mr_281) rfl (by show 2 ≤ 6; decide) ?_
  refine cm_At_run cm_ms_ok (k := 281) rfl (stops := ts_st) (J := cm_At cm_ms d mr_281 (ts_P M0)) (fun S hS => hS) (n := 30) ?_
  show (cm_kind 124).1 = _ ∧ _ < _ ∧ _ = false ∧ _ ∧ (cm_kind 124).1 = _ ∧ _ < _ ∧ _ = false ∧ _ ∧ (cm_kind 124).1 = _ ∧ _ < _ ∧ _ = false ∧ _ ∧ 2 < 6 ∧ _
  refine ⟨by decide, by decide, by decide, rfl, by decide, by decide, by decide, rfl, by decide, by decide, by decide, rfl, by decide, ?_⟩
  have h0 : (0 : Int32).toInt = 0 := by decide
  have h1 : (0 : Int64).toInt = 0 := by decide
  have e : (cm_wl (cm_wl (cm_wl M0 124 31 0) 124 32 0) 124 33 0).2.1 124 31 = 0 := rfl
  refine ts_B hd hG hY hE hM0 hk0 hk1 66 (cm_wl (cm_wl (cm_wl M0 124 31 0) 124 32 0) 124 33 0) 0 ⟨hd_wl_ok (hd_wl_ok (hd_wl_ok hM0)), hd_wl_fr (by decide) (hd_wl_fr (by decide) (hd_wl_fr (by decide) (ab_fr_rf _ _))), by decide, by rw [h0]; omega, by rw [e]; decide, by rw [e]; decide, fun h => by rw [h0] at h; omega, fun h => by rw [h0] at h; omega⟩ ?_
  rw [h0]
  omega
