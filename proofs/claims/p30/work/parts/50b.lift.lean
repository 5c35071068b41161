/-! AB: contracts over the table without protected places, lifted -/
theorem ab_hi_eq {h h' : ab_H} (e : h.1 = h'.1) (c i : Nat) : ab_hi h c i = ab_hi h' c i := by
  unfold ab_hi ab_hl
  rw [e]
theorem ab_hr_eq {h h' : ab_H} (e : h.2.1 = h'.2.1) (c i : Nat) : ab_hr h c i = ab_hr h' c i := by
  unfold ab_hr
  rw [e]
theorem hp0_ok {M : cm_M} (h : ab_ok hp hN M) : ab_ok hp0 hN0 M := ⟨fun c i => by rw [ab_hi_eq (h := hp0) (h' := hp) rfl]; exact h.1 c i, fun c i => by rw [ab_hr_eq (h := hp0) (h' := hp) rfl]; exact h.2.1 c i, trivial⟩
theorem hpl_ok {M : cm_M} (h : ab_ok hp0 hN0 M) (hn : hN M) : ab_ok hp hN M := ⟨fun c i => by rw [ab_hi_eq (h := hp) (h' := hp0) rfl]; exact h.1 c i, fun c i => by rw [ab_hr_eq (h := hp) (h' := hp0) rfl]; exact h.2.1 c i, hn⟩
/-- the reader's next token: a word has no more than eight letters -/
def nx_ok (c0 : ab_Ct) : Bool := decide (c0.2.2.2.2.2.length ≤ 100) && c0.2.2.2.2.2.all (fun o => decide (o.1 = []) && (match o.2.2 with
  | [(124, 6, (0, t, [])), (124, 8, a)] => decide (-100 ≤ t ∧ t ≤ 100) && (decide (t ≠ 2) || (ab_isI a && (decide (0 ≤ (ab_bd o.2.1 a).1) && decide ((ab_bd o.2.1 a).2 ≤ 8))))
  | _ => false))
theorem nx_lift {d k : Nat} {md : ab_Md} {ex : List ab_Out} (h0 : ab_CT cm_ms hp0 hN0 d (k, [(1, 0, [124])], [], [], md, ex)) (hok : nx_ok (k, [(1, 0, [124])], [], [], md, ex) = true) (hmd : (List.range 16).all (fun i => !(ab_inM md 4 i) && !(ab_inM md 5 i)) = true) : ab_CT cm_ms hp hN d (k, [(1, 0, [124])], [], [], md, [([], [], [])]) := by
  intro ρ vs M h1 h2 h3 h4
  refine cm_Call_up (h0 ρ vs M h1 h2 (hp0_ok h3) h4) (Nat.le_refl _) (fun v M' hp1 => ?_)
  obtain ⟨o, ho, ext, p1, p2, p3⟩ := hp1
  unfold nx_ok at hok
  rw [Bool.and_eq_true] at hok
  have h5 := List.all_eq_true.mp hok.2 o ho
  rw [Bool.and_eq_true, decide_eq_true_eq] at h5
  obtain ⟨e1, h6⟩ := h5
  have hn : hN M' := by
    refine ⟨fun i hi hs => ?_, fun ht => ?_⟩
    · have h7 := List.all_eq_true.mp hmd i (List.mem_range.mpr hi)
      simp only [Bool.and_eq_true, Bool.not_eq_true'] at h7
      have f4 := (p3.2.1 4 i h7.1).1
      have f5 := (p3.2.1 5 i h7.2).1
      rw [f4] at hs
      rw [f5]
      exact h3.2.2.1 i hi hs
    · split at h6
      · rename_i t a e
        simp only [Bool.and_eq_true, Bool.or_eq_true, decide_eq_true_eq] at h6
        have c1 := p3.2.2 (124, 6, (0, t, [])) (by rw [e]; exact List.mem_cons_self)
        have c2 := p3.2.2 (124, 8, a) (by rw [e]; exact List.mem_cons_of_mem _ List.mem_cons_self)
        have c1 : some (Int32.ofInt t) = some (M'.1 124 6) := c1
        rw [ht] at c1
        have c1 := Option.some.inj c1
        have c3 := congrArg Int32.toInt c1
        rw [Int32.toInt_ofInt, ev_bm (by omega) (by omega)] at c3
        have c3 : t = 2 := c3
        rcases h6.2 with h8 | ⟨h8, h9, h10⟩
        · exact absurd c3 h8
        · unfold ab_ce at c2
          rw [if_pos h8] at c2
          obtain ⟨b1, b2⟩ := ab_bd_in p2 c2
          dsimp only at b1 b2
          omega
      · cases h6
  refine ⟨_, List.mem_singleton.mpr rfl, [], ?_, ?_, hpl_ok p3.1 hn, p3.2.1, fun q hq => nomatch hq⟩
  · rw [e1] at p1
    rw [ab_s_nil p1]
    exact trivial
  · rw [ab_nil]
    exact h2
/-- a new name: of a motion the number is less than five -/
def tn_ok (q : Nat) (srt hi : Int) (md : ab_Md) (ex : List ab_Out) : Bool := ex.all (fun o => decide (o.1 = []) && (match o.2.2 with
  | [(4, i, a), (5, j, b)] => decide (i = q) && (decide (j = q) && ((ab_eqA a (0, srt, []) && (ab_eqA b (3, 0, []) && (decide (srt ≠ 2) || decide (hi ≤ 4)))) || (ab_eqA a (3, 1, []) && ab_eqA b (3, 2, []))))
  | [] => decide (q = 16) && (List.range 16).all (fun i => !(ab_inM md 4 i) && !(ab_inM md 5 i))
  | _ => false)) && ((List.range 16).all (fun i => decide (i = q) || (!(ab_inM md 4 i) && !(ab_inM md 5 i))) && (!(ab_inM md 124 6) && !(ab_inM md 124 8)))
def tn_ca (q : Nat) : ab_Ca := if q < 16 then [(2, 0, (1, 0, [1])), (2, 10, (0, (q : Int), [])), (4, q, (3, 1, [])), (5, q, (3, 2, []))] else [(2, 0, (1, 0, [1])), (2, 10, (0, (q : Int), []))]
def tn_k (q : Nat) (hi : Int) : ab_K := if q < 16 then [(0, hi, 0, (0, 0, []), (0, 0, [])), (-2147483648, 2147483647, 0, (0, 0, []), (0, 0, [])), (0, 5, 0, (0, 0, []), (0, 0, []))] else [(0, hi, 0, (0, 0, []), (0, 0, []))]
theorem tn_lift {d k : Nat} {srt hi : Int} {md : ab_Md} (h0 : ∀ q, q < 17 → ∃ mdq exq, ab_CT cm_ms hp0 hN0 d (k, [(1, 0, [2]), (0, srt, []), (3, 0, [])], tn_k q hi, tn_ca q, mdq, exq) ∧ tn_ok q srt hi mdq exq = true ∧ ab_mds mdq md = true) (hs : -100 ≤ srt ∧ srt ≤ 100) : ab_CT cm_ms hp hN d (k, [(1, 0, [2]), (0, srt, []), (3, 0, [])], [(0, hi, 0, (0, 0, []), (0, 0, []))], [(2, 0, (1, 0, [1]))], md, [([], [(0, hi, 0, (0, 0, []), (0, 0, []))], [])]) := by
  intro ρ vs M h1 h2 h3 h4
  have hnm := h3.1 2 10
  have hb : ab_hi hp 2 10 = (0, 16) := by decide
  rw [hb] at hnm
  obtain ⟨n1, n2⟩ := hnm
  dsimp only at n1 n2
  obtain ⟨q, hq, hqe⟩ : ∃ q : Nat, q < 17 ∧ (M.1 2 10).toInt = (q : Int) := ⟨(M.1 2 10).toInt.toNat, by omega, by omega⟩
  have hqi : Int32.ofInt (q : Int) = M.1 2 10 := by rw [← hqe, Int32.ofInt_toInt]
  obtain ⟨mdq, exq, hc, hok, hmd⟩ := h0 q hq
  have hlen : ρ.length = 1 := h2.1.symm
  obtain ⟨r0, rfl⟩ : ∃ r0, ρ = [r0] := by
    match ρ, hlen with
    | [r0], _ => exact ⟨r0, rfl⟩
  have ca0 := h4 _ (List.mem_singleton.mpr rfl)
  unfold tn_ok at hok
  simp only [Bool.and_eq_true, Bool.not_eq_true'] at hok
  obtain ⟨hok, hfr, hf6, hf8⟩ := hok
  -- what a run over the other table leaves
  have fin : ∀ (ρ1 : List Int32) (v : Option Value) (M' : cm_M), (q < 16 → ρ1 = [r0, M.1 4 q, M.1 5 q]) → (¬ q < 16 → ρ1 = [r0]) → ab_Post hp0 hN0 M mdq ρ1 exq v M' → ab_Post hp hN M md [r0] [([], [(0, hi, 0, (0, 0, []), (0, 0, []))], [])] v M' := by
    intro ρ1 v M' hr1 hr2 hp1
    obtain ⟨o, ho, ext, p1, p2, p3⟩ := hp1
    have h5 := List.all_eq_true.mp hok o ho
    rw [Bool.and_eq_true, decide_eq_true_eq] at h5
    obtain ⟨e1, h6⟩ := h5
    have hoth : ∀ i, i < 16 → i ≠ q → M'.1 4 i = M.1 4 i ∧ M'.1 5 i = M.1 5 i := by
      intro i hi hne
      have h7 := List.all_eq_true.mp hfr i (List.mem_range.mpr hi)
      simp only [Bool.or_eq_true, Bool.and_eq_true, Bool.not_eq_true', decide_eq_true_eq] at h7
      rcases h7 with h7 | h7
      · exact absurd h7 hne
      · exact ⟨(p3.2.1 4 i h7.1).1, (p3.2.1 5 i h7.2).1⟩
    have hn : hN M' := by
      refine ⟨fun i hi hs2 => ?_, fun ht => ?_⟩
      · by_cases hiq : i = q
        · subst hiq
          split at h6
          · rename_i i' a j' b e
            simp only [Bool.and_eq_true, Bool.or_eq_true, decide_eq_true_eq] at h6
            obtain ⟨rfl, rfl, h6⟩ := h6
            have c1 := p3.2.2 (4, j', a) (by rw [e]; exact List.mem_cons_self)
            have c2 := p3.2.2 (5, j', b) (by rw [e]; exact List.mem_cons_of_mem _ List.mem_cons_self)
            have hr := hr1 hi
            subst hr
            rcases h6 with ⟨ha, hb, hor⟩ | ⟨ha, hb⟩
            · rw [ab_eqA_ok ha] at c1
              rw [ab_eqA_ok hb] at c2
              have c1 : some (Int32.ofInt srt) = some (M'.1 4 j') := c1
              have c2 : some r0 = some (M'.1 5 j') := c2
              rw [hs2] at c1
              have c3 := congrArg Int32.toInt (Option.some.inj c1)
              rw [Int32.toInt_ofInt, ev_bm (by omega) (by omega)] at c3
              have c3 : srt = 2 := c3
              have hbd := (h2.2 0 _ r0 rfl rfl).1
              obtain ⟨b1, b2⟩ := hbd
              dsimp only at b1 b2
              rw [← Option.some.inj c2]
              rcases hor with hor | hor
              · exact absurd c3 hor
              · omega
            · rw [ab_eqA_ok ha] at c1
              rw [ab_eqA_ok hb] at c2
              have c1 : some (M.1 4 j') = some (M'.1 4 j') := c1
              have c2 : some (M.1 5 j') = some (M'.1 5 j') := c2
              rw [← Option.some.inj c1] at hs2
              rw [← Option.some.inj c2]
              exact h3.2.2.1 j' hi hs2
          · simp only [Bool.and_eq_true, decide_eq_true_eq] at h6
            omega
          · cases h6
        · obtain ⟨g1, g2⟩ := hoth i hi hiq
          rw [g1] at hs2
          rw [g2]
          exact h3.2.2.1 i hi hs2
      · have g6 := (p3.2.1 124 6 hf6).1
        have g8 := (p3.2.1 124 8 hf8).1
        rw [g6] at ht
        rw [g8]
        exact h3.2.2.2 ht
    refine ⟨_, List.mem_singleton.mpr rfl, [], ?_, ?_, hpl_ok p3.1 hn, fun c i hm => p3.2.1 c i (ab_mds_ok hmd hm), fun q hq => nomatch hq⟩
    · rw [e1] at p1
      rw [ab_s_nil p1]
      exact trivial
    · rw [ab_nil]
      exact h2
  by_cases h16 : q < 16
  · refine cm_Call_up (hc [r0, M.1 4 q, M.1 5 q] vs M (ab_s_ap (ext := [M.1 4 q, M.1 5 q]) h1) ?_ (hp0_ok h3) ?_) (Nat.le_refl _) (fun v M' hp1 => fin _ v M' (fun _ => rfl) (fun z => absurd h16 z) hp1)
    · show ab_k _ (tn_k q hi)
      unfold tn_k
      rw [if_pos h16]
      refine ⟨rfl, fun j r x g1 g2 => ?_⟩
      match j with
      | 0 => cases g1; cases g2; exact ⟨(h2.2 0 _ r0 rfl rfl).1, Or.inl rfl⟩
      | 1 => cases g1; cases g2; exact ⟨ev_ful_in _, Or.inl rfl⟩
      | 2 =>
        cases g1; cases g2
        have h5 := h3.1 5 q
        have hb5 : ∀ q, q < 16 → ab_hi hp 5 q = (0, 5) := by decide
        rw [hb5 q h16] at h5
        exact ⟨h5, Or.inl rfl⟩
      | j + 3 => cases g1
    · show ab_ca _ M (tn_ca q)
      unfold tn_ca
      rw [if_pos h16]
      intro z hz
      simp only [List.mem_cons, List.not_mem_nil, or_false] at hz
      rcases hz with rfl | rfl | rfl | rfl
      · exact ab_ce_ap (ext := [M.1 4 q, M.1 5 q]) ca0
      · exact congrArg some hqi
      · rfl
      · rfl
  · refine cm_Call_up (hc [r0] vs M h1 ?_ (hp0_ok h3) ?_) (Nat.le_refl _) (fun v M' hp1 => fin _ v M' (fun z => absurd z h16) (fun _ => rfl) hp1)
    · show ab_k _ (tn_k q hi)
      unfold tn_k
      rw [if_neg h16]
      exact h2
    · show ab_ca _ M (tn_ca q)
      unfold tn_ca
      rw [if_neg h16]
      intro z hz
      simp only [List.mem_cons, List.not_mem_nil, or_false] at hz
      rcases hz with rfl | rfl
      · exact ca0
      · exact congrArg some hqi
