/-! AB: calls by their bodies, loops, methods -/
def ab_outs (ret : Option FieldType) (rows : List (Nat × ev_Row)) : List (Bool × ab_S) → Option (List ab_Out)
  | [] => some []
  | f :: r => if f.1 = false ∧ ab_ret ret rows f.2 = true then (match ab_outs ret rows r with
      | some o => some ((f.2.2.2.1, f.2.2.2.2.1, f.2.2.2.2.2) :: o)
      | none => none) else none
theorem ab_outs_ok {ret : Option FieldType} {rows : List (Nat × ev_Row)} : ∀ {fs : List (Bool × ab_S)} {o : List ab_Out}, ab_outs ret rows fs = some o → ∀ f ∈ fs, f.1 = false ∧ ab_ret ret rows f.2 = true ∧ (f.2.2.2.1, f.2.2.2.2.1, f.2.2.2.2.2) ∈ o
  | [], o, h => fun f hf => nomatch hf
  | g :: r, o, h => by
    unfold ab_outs at h
    split at h
    · rename_i hc
      split at h
      · rename_i o' ho
        cases h
        intro f hf
        rcases List.mem_cons.mp hf with rfl | hf
        · exact ⟨hc.1, hc.2, List.mem_cons_self⟩
        · obtain ⟨a, b, c⟩ := ab_outs_ok ho f hf
          exact ⟨a, b, List.mem_cons_of_mem _ c⟩
      · cases h
    · cases h
/-- a call: by its body where its number stands in inl, else by a contract -/
def ab_cl (ms : List ev_MI) (h : ab_H) (md : ab_Md) (us : List ab_Ct) (inl : List (Nat × ev_MI)) : Nat → ab_Cl
  | 0 => ab_uses h md us
  | n + 1 => fun k as K Ca => (match ev_at inl k with
      | some mi => if ab_cs as ≤ mi.2.2.1 then (match ab_run (ab_cl ms h md us inl n) h md (cm_P mi) mi.2.2.2.2.2.2 [] 2000 (0, ab_args 0 as, [], K, Ca) with
          | some fs => ab_outs mi.2.2.2.1 mi.2.2.2.2.2.2 fs
          | none => none) else none
      | none => ab_uses h md us k as K Ca)
section ABC
variable {ms : List ev_MI} {h : ab_H} {N : cm_M → Prop}
theorem ab_CT_up {c : ab_Ct} {d e : Nat} (hc : ab_CT ms h N d c) (hd : d ≤ e) : ab_CT ms h N e c := fun ρ vs M h1 h2 h3 h4 => cm_Call_up (hc ρ vs M h1 h2 h3 h4) hd (fun _ _ q => q)
theorem ab_cl_ok (hMS : ∀ (k : Nat) (mi : ev_MI), ms[k]? = some mi → cm_MOK ms mi) (hRC : ∀ (k : Nat) (mi : ev_MI), ms[k]? = some mi → ∀ q ∈ mi.2.2.2.2.2.2, ab_RC ms q) {inl : List (Nat × ev_MI)} (hin : ∀ q ∈ inl, ms[q.1]? = some q.2) (hN : ab_NP h N) {M0 : cm_M} {md : ab_Md} {us : List ab_Ct} {d : Nat} (hus : ∀ c ∈ us, ab_CT ms h N d c) : ∀ n : Nat, ab_ClOk ms h N M0 md (d + n) (ab_cl ms h md us inl n)
  | 0 => ab_uses_ok hN hus
  | n + 1 => fun k as K Ca outs ρ vs M hu gs gk gm => by
    unfold ab_cl at hu
    split at hu
    · rename_i mi hmi0
      have hmi := hin _ (ev_at_mem hmi0)
      dsimp only at hmi
      · split at hu
        · rename_i hcs
          split at hu
          · rename_i fs hfs
            refine cm_Call_of hMS hmi (by rw [ab_cs_ok gs]; exact hcs) ?_
            refine cm_At_run hMS hmi (stops := []) (J := fun _ => False) (fun S hS => hS.elim) (n := 2000) ?_
            refine ab_run_ok hN (ab_cl_ok hMS hRC hin hN hus n) (hRC k mi hmi) 2000 _ fs _ ρ hfs ⟨rfl, ab_args_ok 0 gs, trivial, gk, gm⟩ (fun f hf ext C' hG => ⟨fun ht => ?_, fun _ r hr _ => ?_⟩)
            · have := (ab_outs_ok hu f hf).1
              rw [this] at ht
              cases ht
            · obtain ⟨-, o2, o3⟩ := ab_outs_ok hu f hf
              exact ab_ret_ok o2 hG hr (fun v hv => ⟨_, o3, ext, hv, hG.2.2.2.1, hG.2.2.2.2⟩)
          · cases hu
        · cases hu
    · exact cm_Call_up (ab_uses_ok hN hus k as K Ca outs ρ vs M hu gs gk gm) (by omega) (fun _ _ q => q)
end ABC
/-! measures: terms c + s x, compared one behind the other -/
abbrev ab_Mu : Type := List (Int × Int × ab_A)
def ab_tm (ρ : List Int32) (m : Int × Int × ab_A) : Int := m.2.1 + m.1 * ((ab_i ρ m.2.2).getD 0).toInt
def ab_tb (K : ab_K) (m : Int × Int × ab_A) : Int × Int := if m.1 = 1 then (m.2.1 + (ab_bd K m.2.2).1, m.2.1 + (ab_bd K m.2.2).2) else if m.1 = -1 then (m.2.1 - (ab_bd K m.2.2).2, m.2.1 - (ab_bd K m.2.2).1) else (m.2.1, m.2.1)
def ab_tok (K : ab_K) (m : Int × Int × ab_A) : Bool := ab_def K m.2.2 && (decide (m.1 = 1 ∨ m.1 = -1 ∨ m.1 = 0) && (decide (0 ≤ (ab_tb K m).1) && decide ((ab_tb K m).2 < 17179869184)))
theorem ab_tb_in {ρ : List Int32} {K : ab_K} {m : Int × Int × ab_A} (hk : ab_k ρ K) (h : ab_tok K m = true) : (ab_tb K m).1 ≤ ab_tm ρ m ∧ ab_tm ρ m ≤ (ab_tb K m).2 ∧ 0 ≤ ab_tm ρ m ∧ ab_tm ρ m < 17179869184 := by
  simp only [ab_tok, Bool.and_eq_true, decide_eq_true_eq] at h
  obtain ⟨h1, h2, h3, h4⟩ := h
  obtain ⟨x, hx⟩ := ab_def_ok h1 hk
  obtain ⟨b1, b2⟩ := ab_bd_in hk hx
  unfold ab_tm
  rw [hx]
  unfold ab_tb at h3 h4 ⊢
  simp only [Option.getD_some]
  rcases h2 with h2 | h2 | h2
  · rw [if_pos h2] at h3 h4 ⊢
    rw [h2]
    dsimp only at h3 h4 ⊢
    omega
  · rw [if_neg (by omega), if_pos h2] at h3 h4 ⊢
    rw [h2]
    dsimp only at h3 h4 ⊢
    omega
  · rw [if_neg (by omega), if_neg (by omega)] at h3 h4 ⊢
    rw [h2]
    dsimp only at h3 h4 ⊢
    omega
def ab_mu (ρ : List Int32) : ab_Mu → Nat
  | [] => 0
  | m :: ms => (ab_tm ρ m).toNat * 17179869184 ^ ms.length + ab_mu ρ ms
theorem ab_mu_lt {ρ : List Int32} {K : ab_K} (hk : ab_k ρ K) : ∀ {l : ab_Mu}, l.all (ab_tok K) = true → ab_mu ρ l < 17179869184 ^ l.length
  | [], _ => by show 0 < 17179869184 ^ 0; decide
  | m :: l, h => by
    rw [List.all_cons, Bool.and_eq_true] at h
    have ih := ab_mu_lt hk h.2
    obtain ⟨-, -, t1, t2⟩ := ab_tb_in hk h.1
    unfold ab_mu
    rw [List.length_cons, Nat.pow_succ]
    have h1 : (ab_tm ρ m).toNat + 1 ≤ 17179869184 := by omega
    have h2 := Nat.mul_le_mul_right (17179869184 ^ l.length) h1
    rw [Nat.add_mul, Nat.one_mul, Nat.mul_comm 17179869184] at h2
    omega
theorem ab_mu_ap {ρ ext : List Int32} : ∀ {m : ab_Mu}, (∀ q ∈ m, ∃ x, ab_i ρ q.2.2 = some x) → ab_mu (ρ ++ ext) m = ab_mu ρ m
  | [], _ => rfl
  | a :: m, hq => by
    unfold ab_mu
    rw [ab_mu_ap (fun q h => hq q (List.mem_cons_of_mem _ h))]
    obtain ⟨x, hx⟩ := hq a List.mem_cons_self
    unfold ab_tm
    rw [ab_i_ap hx, hx]
/-- the new term is less: by bounds, or one is a sum of the other -/
def ab_tlt (K : ab_K) (o n : Int × Int × ab_A) : Bool := decide ((ab_tb K n).2 < (ab_tb K o).1) || (decide (n.1 = o.1) && (decide (n.2.1 = o.2.1) && (decide (n.2.2.1 = 3) && (match K[n.2.2.2.1.toNat]? with
  | some r => (decide (r.2.2.1 = 1) || decide (r.2.2.1 = 2)) && (ab_eqA r.2.2.2.1 o.2.2 && (decide (r.2.2.2.2.1 = 0) &&
      (let c := if r.2.2.1 = 1 then (Int32.ofInt r.2.2.2.2.2.1).toInt else - (Int32.ofInt r.2.2.2.2.2.1).toInt
       decide (o.1 * c < 0) && (decide (-2147483648 ≤ (ab_bd K o.2.2).1 + c) && decide ((ab_bd K o.2.2).2 + c ≤ 2147483647)))))
  | none => false))))
theorem ab_tlt_ok {ρ : List Int32} {K : ab_K} {o n : Int × Int × ab_A} (hk : ab_k ρ K) (ho : ab_tok K o = true) (hn : ab_tok K n = true) (h : ab_tlt K o n = true) : ab_tm ρ n < ab_tm ρ o := by
  have o1 := ab_tb_in hk ho
  have n1 := ab_tb_in hk hn
  unfold ab_tlt at h
  rw [Bool.or_eq_true] at h
  rcases h with h | h
  · have h := of_decide_eq_true h
    omega
  · simp only [Bool.and_eq_true, decide_eq_true_eq] at h
    obtain ⟨e1, e2, e3, h⟩ := h
    split at h
    · rename_i r hr
      simp only [Bool.and_eq_true, Bool.or_eq_true, decide_eq_true_eq] at h
      obtain ⟨f1, f2, f3, f4, f5, f6⟩ := h
      simp only [ab_tok, Bool.and_eq_true] at ho hn
      obtain ⟨x, hx⟩ := ab_def_ok ho.1 hk
      obtain ⟨y, hy⟩ := ab_def_ok hn.1 hk
      have hy2 : ρ[n.2.2.2.1.toNat]? = some y := by
        unfold ab_i at hy
        rw [e3] at hy
        exact hy
      have hc : ab_i ρ r.2.2.2.2 = some (Int32.ofInt r.2.2.2.2.2.1) := by
        unfold ab_i
        rw [f3]
        rfl
      obtain ⟨b1, b2⟩ := ab_bd_in hk hx
      rcases (hk.2 _ r y hr hy2).2 with hz | ⟨u, z, hu, hz, e⟩
      · omega
      · rw [hc] at hz
        cases hz
        rw [ab_eqA_ok f2, hx] at hu
        cases hu
        unfold ab_tm
        rw [hx, hy, e1, e2]
        simp only [Option.getD_some]
        have hyx : y.toInt = x.toInt + (if r.2.2.1 = 1 then (Int32.ofInt r.2.2.2.2.2.1).toInt else - (Int32.ofInt r.2.2.2.2.2.1).toInt) := by
          rcases f1 with f1 | f1
          · rw [if_pos f1] at f5 f6 ⊢
            rw [f1] at e
            have e : y = x + Int32.ofInt r.2.2.2.2.2.1 := e
            rw [e, Int32.toInt_add]
            exact ev_bm (by omega) (by omega)
          · rw [if_neg (by omega)] at f5 f6 ⊢
            rw [f1] at e
            have e : y = x - Int32.ofInt r.2.2.2.2.2.1 := e
            rw [e, Int32.toInt_sub]
            rw [show x.toInt - (Int32.ofInt r.2.2.2.2.2.1).toInt = x.toInt + - (Int32.ofInt r.2.2.2.2.2.1).toInt by omega]
            exact ev_bm (by omega) (by omega)
        rw [hyx, Int.mul_add]
        omega
    · cases h
def ab_teq (o n : Int × Int × ab_A) : Bool := decide (n.1 = o.1) && (decide (n.2.1 = o.2.1) && ab_eqA n.2.2 o.2.2)
def ab_lex (K : ab_K) : ab_Mu → ab_Mu → Bool
  | o :: os, n :: ns => if ab_teq o n = true then ab_lex K os ns else ab_tlt K o n
  | _, _ => false
theorem ab_lex_ok {ρ : List Int32} {K : ab_K} (hk : ab_k ρ K) : ∀ {os ns : ab_Mu}, os.length = ns.length → os.all (ab_tok K) = true → ns.all (ab_tok K) = true → ab_lex K os ns = true → ab_mu ρ ns < ab_mu ρ os
  | [], _, _, _, _, h => by cases h
  | _ :: _, [], _, _, _, h => by cases h
  | o :: os, n :: ns, hl, ho, hn, h => by
    rw [List.all_cons, Bool.and_eq_true] at ho hn
    have hl : os.length = ns.length := Nat.succ.inj hl
    unfold ab_lex at h
    unfold ab_mu
    rw [hl]
    split at h
    · rename_i he
      simp only [ab_teq, Bool.and_eq_true, decide_eq_true_eq] at he
      obtain ⟨a1, a2, a3⟩ := he
      have : n = o := Prod.ext a1 (Prod.ext a2 (ab_eqA_ok a3))
      rw [this]
      have := ab_lex_ok hk hl ho.2 hn.2 h
      omega
    · have h1 := ab_tlt_ok hk ho.1 hn.1 h
      have h2 := ab_tb_in hk ho.1
      have h3 := ab_tb_in hk hn.1
      have h4 := ab_mu_lt hk hn.2
      have h5 : (ab_tm ρ n).toNat + 1 ≤ (ab_tm ρ o).toNat := by omega
      have h6 := Nat.mul_le_mul_right (17179869184 ^ ns.length) h5
      rw [Nat.add_mul, Nat.one_mul] at h6
      omega
/-- a template at a loop's head, with its measure -/
abbrev ab_Tm : Type := ab_S × ab_Mu
def ab_sbm (sg : List ab_A) (mu : ab_Mu) : ab_Mu := mu.map (fun m => (m.1, m.2.1, ab_sb sg m.2.2))
theorem ab_sbm_ok {ρ : List Int32} {sg : List ab_A} {K : ab_K} (hk : ab_k ρ K) : ∀ {mu : ab_Mu}, (ab_sbm sg mu).all (ab_tok K) = true → ab_mu (ab_rT ρ sg) mu = ab_mu ρ (ab_sbm sg mu)
  | [], _ => rfl
  | m :: mu, h => by
    unfold ab_sbm at h ⊢
    rw [List.map_cons] at h ⊢
    rw [List.all_cons, Bool.and_eq_true] at h
    have ih := ab_sbm_ok hk (mu := mu) h.2
    unfold ab_sbm at ih
    unfold ab_mu
    rw [List.length_map, ih]
    congr 2
    have h1 := h.1
    simp only [ab_tok, Bool.and_eq_true] at h1
    obtain ⟨x, hx⟩ := ab_def_ok h1.1 hk
    unfold ab_tm
    dsimp only at hx ⊢
    rw [hx, ab_sb_ok hx]
/-- an end of a run: at a head, where the measure is less (if one is given), or at one of the method's ends -/
def ab_end (h : ab_H) (nE : Nat) (ret : Option FieldType) (rows : List (Nat × ev_Row)) (tms : List ab_Tm) (ex : List ab_Out) (mu : Option ab_Mu) (f : Bool × ab_S) : Bool :=
  if f.1 = true then tms.any (fun T => decide (T.1.1 = f.2.1) && (match ab_in h nE T.1 f.2 with
    | some (K1, _, sg) => (match mu with
      | none => true
      | some m => decide (m.length = T.2.length) && (m.all (ab_tok K1) && ((ab_sbm sg T.2).all (ab_tok K1) && ab_lex K1 m (ab_sbm sg T.2))))
    | none => false))
  else ab_ret ret rows f.2 && ex.any (fun e => (ab_in h nE (f.2.1, [], e.1, e.2.1, e.2.2) (f.2.1, [], f.2.2.2)).isSome)
def ab_chk1 (ms : List ev_MI) (h : ab_H) (us : List ab_Ct) (inl : List (Nat × ev_MI)) (dd n : Nat) (c : ab_Ct) (mi : ev_MI) (tms : List ab_Tm) (mu : Option ab_Mu) (S : ab_S) : Bool := match ab_run (ab_cl ms h c.2.2.2.2.1 us inl dd) h c.2.2.2.2.1 (cm_P mi) mi.2.2.2.2.2.2 (tms.map (fun T => (T.1.1, T.1.2.1.map (fun q => q.1)))) n S with
  | some fs => fs.all (ab_end h c.2.2.1.length mi.2.2.2.1 mi.2.2.2.2.2.2 tms c.2.2.2.2.2 mu)
  | none => false
def ab_chk (ms : List ev_MI) (h : ab_H) (us : List ab_Ct) (inl : List (Nat × ev_MI)) (dd n : Nat) (c : ab_Ct) (tms : List ab_Tm) : Bool := match ms[c.1]? with
  | some mi => decide (ab_cs c.2.1 ≤ mi.2.2.1) && (ab_chk1 ms h us inl dd n c mi tms none (0, ab_args 0 c.2.1, [], c.2.2.1, c.2.2.2.1) && tms.all (fun T => ab_chk1 ms h us inl dd n c mi tms (some T.2) T.1))
  | none => false
section ABD
variable {ms : List ev_MI} {h : ab_H} {N : cm_M → Prop}
theorem ab_chk1_ok (hMS : ∀ (k : Nat) (mi : ev_MI), ms[k]? = some mi → cm_MOK ms mi) (hRC : ∀ (k : Nat) (mi : ev_MI), ms[k]? = some mi → ∀ q ∈ mi.2.2.2.2.2.2, ab_RC ms q) {inl : List (Nat × ev_MI)} (hin : ∀ q ∈ inl, ms[q.1]? = some q.2) (hN : ab_NP h N) {us : List ab_Ct} {d dd n : Nat} (hus : ∀ c ∈ us, ab_CT ms h N d c) {c : ab_Ct} {mi : ev_MI} (hmi : ms[c.1]? = some mi) {tms : List ab_Tm} {mu : Option ab_Mu} {S : ab_S} {C : cm_S} {M0 : cm_M} {ρ0 e : List Int32} (h0 : ρ0.length = c.2.2.1.length) (hk : ab_chk1 ms h us inl dd n c mi tms mu S = true) (hG : ab_G h N M0 c.2.2.2.2.1 (ρ0 ++ e) S C)
    (IH : ∀ T ∈ tms, ∀ (eT : List Int32) (C' : cm_S), ab_G h N M0 c.2.2.2.2.1 (ρ0 ++ eT) T.1 C' → (∀ m, mu = some m → ab_mu (ρ0 ++ eT) T.2 < ab_mu (ρ0 ++ e) m) → cm_At ms (d + dd) mi (ab_Post h N M0 c.2.2.2.2.1 ρ0 c.2.2.2.2.2) C') (hmu : ∀ m, mu = some m → ∀ q ∈ m, ∃ x, ab_i (ρ0 ++ e) q.2.2 = some x) : cm_At ms (d + dd) mi (ab_Post h N M0 c.2.2.2.2.1 ρ0 c.2.2.2.2.2) C := by
  unfold ab_chk1 at hk
  split at hk
  · rename_i fs hfs
    refine cm_At_run hMS hmi (stops := tms.map (fun T => (T.1.1, T.1.2.1.map (fun q => q.1)))) (J := cm_At ms (d + dd) mi (ab_Post h N M0 c.2.2.2.2.1 ρ0 c.2.2.2.2.2)) (fun S hS => hS) (n := n) ?_
    refine ab_run_ok hN (ab_cl_ok hMS hRC hin hN hus dd) (hRC _ mi hmi) n S fs C (ρ0 ++ e) hfs hG (fun f hf ext C' hG' => ?_)
    have h1 := List.all_eq_true.mp hk f hf
    unfold ab_end at h1
    rw [List.append_assoc] at hG'
    obtain ⟨g0, g1, g2, g3, g4⟩ := hG'
    refine ⟨fun ht => ?_, fun hfl r hr _ => ?_⟩
    · rw [if_pos ht] at h1
      obtain ⟨T, hT, h2⟩ := List.any_eq_true.mp h1
      simp only [Bool.and_eq_true, decide_eq_true_eq] at h2
      obtain ⟨hpc, h3⟩ := h2
      split at h3
      · rename_i K1 Ca1 sg hin
        obtain ⟨e1, eT, k1, -, k3, k4, k5, k6, k7, k8⟩ := ab_in_ok hN hin h0 g1 g2 g3 g4
        refine IH T hT eT C' ⟨by rw [g0, hpc], k5, k6, k7, k8⟩ (fun m hm => ?_)
        subst hm
        dsimp only at h3
        simp only [Bool.and_eq_true, decide_eq_true_eq] at h3
        obtain ⟨l1, l2, l3, l4⟩ := h3
        have h5 := ab_lex_ok k1 (by unfold ab_sbm; rw [List.length_map]; exact l1) l2 l3 l4
        rw [← ab_sbm_ok k1 l3, k3] at h5
        have h6 : ab_mu (ρ0 ++ (e ++ ext) ++ e1) m = ab_mu (ρ0 ++ e) m := by
          rw [← List.append_assoc, List.append_assoc (ρ0 ++ e)]
          exact ab_mu_ap (hmu m rfl)
        rw [h6] at h5
        exact h5
      · cases h3
    · rw [if_neg (by rw [hfl]; decide), Bool.and_eq_true] at h1
      obtain ⟨h2, h3⟩ := h1
      obtain ⟨o, ho, h4⟩ := List.any_eq_true.mp h3
      refine ab_ret_ok h2 ⟨g0, g1, g2, g3, g4⟩ hr (fun v hv => ?_)
      obtain ⟨w, hw⟩ := Option.isSome_iff_exists.mp h4
      obtain ⟨K1, Ca1, sg⟩ := w
      obtain ⟨e1, eT, -, -, -, -, -, k6, k7, k8⟩ := ab_in_ok (C := (C'.1, [], v.toList, C'.2.2.2)) hN hw h0 (fun q hq => nomatch hq) hv g3 g4
      exact ⟨o, ho, eT, k6, k7, k8⟩
  · cases hk
/-- a method keeps its contract -/
theorem ab_chk_ok (hMS : ∀ (k : Nat) (mi : ev_MI), ms[k]? = some mi → cm_MOK ms mi) (hRC : ∀ (k : Nat) (mi : ev_MI), ms[k]? = some mi → ∀ q ∈ mi.2.2.2.2.2.2, ab_RC ms q) {inl : List (Nat × ev_MI)} (hin : ∀ q ∈ inl, ms[q.1]? = some q.2) (hN : ab_NP h N) {us : List ab_Ct} {d dd n : Nat} (hus : ∀ c ∈ us, ab_CT ms h N d c) {c : ab_Ct} {tms : List ab_Tm} (hk : ab_chk ms h us inl dd n c tms = true) (hmu : ∀ T ∈ tms, T.2.all (ab_tok T.1.2.2.2.1) = true) : ab_CT ms h N (d + dd + 1) c := by
  intro ρ vs M gs gk gok gca
  unfold ab_chk at hk
  split at hk
  · rename_i mi hmi
    simp only [Bool.and_eq_true, decide_eq_true_eq] at hk
    obtain ⟨h1, h2, h3⟩ := hk
    refine cm_Call_of hMS hmi (by rw [ab_cs_ok gs]; exact h1) ?_
    have hlen : ρ.length = c.2.2.1.length := gk.1.symm
    have loops : ∀ (k : Nat) (T : ab_Tm), T ∈ tms → ∀ (eT : List Int32) (C' : cm_S), ab_G h N M c.2.2.2.2.1 (ρ ++ eT) T.1 C' → ab_mu (ρ ++ eT) T.2 < k → cm_At ms (d + dd) mi (ab_Post h N M c.2.2.2.2.1 ρ c.2.2.2.2.2) C' := by
      intro k
      induction k with
      | zero => intro T hT eT C' hG hlt; exact absurd hlt (Nat.not_lt_zero _)
      | succ k ih =>
        intro T hT eT C' hG hlt
        refine ab_chk1_ok hMS hRC hin hN hus hmi hlen (List.all_eq_true.mp h3 T hT) hG (fun T' hT' e' C2 hG2 hm => ih T' hT' e' C2 hG2 ?_) (fun m hm q hq => ?_)
        · have := hm T.2 rfl
          omega
        · cases hm
          have h4 := List.all_eq_true.mp (hmu T hT) q hq
          simp only [ab_tok, Bool.and_eq_true] at h4
          exact ab_def_ok h4.1 hG.2.2.2.1
    refine ab_chk1_ok (e := []) hMS hRC hin hN hus hmi hlen h2 ⟨rfl, by rw [ab_nil]; exact ab_args_ok 0 gs, trivial, by rw [ab_nil]; exact gk, gok, ab_fr_rf _ _, by rw [ab_nil]; exact gca⟩ (fun T hT eT C' hG _ => loops _ T hT eT C' hG (Nat.lt_succ_self _)) (fun m hm => by cases hm)
  · cases hk
end ABD
