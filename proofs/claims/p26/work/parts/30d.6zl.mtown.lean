theorem Rq_next0 {N : Nat} {C D D' : cm_M} (a1 : ∀ j, j < N → tb (C.1 1 j) (D.1 125 j)) (a2 : rs_ok N C) (a3 : D.1 124 3 = Int32.ofNat N) (a4 : D.1 124 5 = C.1 2 2) (hb : D.1 124 13 = 0) (hb9 : D.1 124 9 = 0) (bc : D.1 124 0 = 0 ∧ D.1 124 2 = 0 ∧ D.1 124 11 = 0) (bf : ∀ c j, prC c j → D.1 c j = C.1 c j) (h0 : C.1 2 9 = 0) (hn : ∃ k : Nat, k ≤ N ∧ C.1 2 2 = Int32.ofNat k ∧ ∃ s e tok wh ns, tk_e ch_s (D.1 125) N k s ∧ mk_k (D.1 125) N s e tok wh ns ∧ D' = nx_m D s e tok wh ns) : Rq N (cF_step N C) D' := by
  obtain ⟨k, hk, hk2, s, e, tok, wh, ns, t1, t2, rfl⟩ := hn
  have hN9 := a2.2.2.1
  have r2 := rs_step a2
  have ht : tk_Q (C.1 1) N k (cF_tok N C) := by
    unfold cF_tok
    rw [hk2, fn_nat (by omega)]
    exact tk_of_ok hk
  obtain ⟨e1, e2, e3⟩ := tk_two a1 ht.1 ht.2 t1 t2
  have es : cF_step N C = tk_m C (cF_tok N C).1 (cF_tok N C).2.1 (cF_tok N C).2.2.1 (cF_tok N C).2.2.2.1 (cF_tok N C).2.2.2.2 := by
    unfold cF_step
    rw [if_pos h0]
  rw [es] at r2 ⊢
  generalize cF_tok N C = t at ht e1 e2 e3 r2
  obtain ⟨s0, e0, kd, va, wd⟩ := t
  dsimp only at e1 e2 e3 r2 ht ⊢
  subst e1
  subst e2
  refine ⟨⟨a1, r2, a3, rfl, rfl, ?_⟩, Or.inl ⟨h0, hb, hb9⟩, bc, fun c j q => ?_⟩
  rotate_left
  · unfold prC at q
    have e1 : (nx_m D s e tok wh ns).1 c j = D.1 c j := by
      unfold nx_m
      rw [wi_n2 (by omega), wi_n2 (by omega), wi_n2 (by omega), wi_n2 (by omega), wi_n2 (by omega)]
      show (if c = 126 ∧ j < min ns 8 then _ else _) = _
      rw [if_neg (by omega)]
    have e2 : (tk_m C s e kd va wd).1 c j = C.1 c j := by
      show (cm_wi (cm_wi (cm_wi (cm_wi C 2 4 _) 2 5 _) 2 2 _) 2 3 _).1 c j = _
      rw [wi_n2 (by omega), wi_n2 (by omega), wi_n2 (by omega), wi_n2 (by omega)]
    rw [e1, e2]
    exact bf c j q
  rcases e3 with ⟨q1, q2⟩ | ⟨q1, q2, q3, q4, q5, q6, q7⟩ | ⟨q1, q2, q3⟩ | ⟨q1, q2⟩ | ⟨q1, q2⟩
  · exact Or.inl ⟨q1, q2⟩
  · refine Or.inr (Or.inl ⟨q1, q2, ns, q5, rfl, q4, ?_, ?_⟩)
    · intro j hj
      have hjs : s + j < e := by omega
      have h1 := q7 (s + j) (by omega) hjs
      have eN : e ≤ N := tk_k_e ht.1.2.1 ht.2
      have hL : (nx_m D s e tok wh ns).1 126 j = D.1 125 (s + j) := by
        show (if 126 = 126 ∧ j < min ns 8 then D.1 125 (s + j) else _) = _
        rw [if_pos ⟨rfl, by omega⟩]
      rw [hL]
      have := tb_l (a1 (s + j) (by omega))
      rw [this]
      exact h1
    · show wd = _
      rw [q6, tk_w_sh]
      refine tk_w_cg ns (fun j hj => ?_)
      have hjs : s + j < e := by omega
      have h1 := q7 (s + j) (by omega) hjs
      have eN : e ≤ N := tk_k_e ht.1.2.1 ht.2
      have hL : (nx_m D s e tok wh ns).1 126 j = D.1 125 (s + j) := by
        show (if 126 = 126 ∧ j < min ns 8 then D.1 125 (s + j) else _) = _
        rw [if_pos ⟨rfl, by omega⟩]
      rw [hL]
      exact (tb_eq (a1 (s + j) (by omega)) (Or.inl h1)).symm
  · exact Or.inr (Or.inr (Or.inl ⟨q1, q2, q3.symm⟩))
  · exact Or.inr (Or.inr (Or.inr (Or.inl ⟨q1, q2⟩)))
  · exact Or.inr (Or.inr (Or.inr (Or.inr ⟨q1, q2⟩)))
theorem m_next0 {N : Nat} {C D : cm_M} (a1 : ∀ j, j < N → tb (C.1 1 j) (D.1 125 j)) (a2 : rs_ok N C) (a3 : D.1 124 3 = Int32.ofNat N) (a4 : D.1 124 5 = C.1 2 2) (hb : D.1 124 13 = 0) (hb9 : D.1 124 9 = 0) (bc : D.1 124 0 = 0 ∧ D.1 124 2 = 0 ∧ D.1 124 11 = 0) (bf : ∀ c j, prC c j → D.1 c j = C.1 c j) (h0 : C.1 2 9 = 0) : cm_Lc cm_ms 176 [.ref 124] (fm D) (mq N (cF_step N C) D) := by
  obtain ⟨k, hk, hk2⟩ := a2.2.2.2
  have hN9 := a2.2.2.1
  refine cm_Lc_im (fn_next (M := fm D) (N := N) (k := k) rfl rfl a3 hN9 (fun j hj => (a1 j hj).1) (a4.trans hk2) hk) (fun v M' q => ?_)
  obtain ⟨q1, s, e, tok, wh, ns, q2, q3, q4⟩ := q
  exact ⟨q1, nx_m D s e tok wh ns, q4, Rq_next0 a1 a2 a3 a4 hb hb9 bc bf h0 ⟨k, hk, hk2, s, e, tok, wh, ns, q2, q3, rfl⟩, rfl⟩
theorem m_good (D : cm_M) : cm_Lc cm_ms 164 [.ref 124] (fm D) (fun v M' => v = none ∧ M' = fm (cm_wi (cm_wi D 124 0 0) 124 11 0)) := by
  refine lb_st0 (mi := mr_164) rfl 20 ?_
  exact ⟨rfl, rfl⟩
theorem m_no (x : Int32) (D : cm_M) : cm_Lc cm_ms 165 [.ref 124, .int x] (fm D) (fun v M' => v = some (.int (-1)) ∧ M' = fm (cm_wi D 124 11 x)) := by
  refine lb_st0 (mi := mr_165) rfl 20 ?_
  exact ⟨rfl, rfl⟩
/-- copy, of ints -/
noncomputable def cpy (D : cm_M) (a b k : Nat) : cm_M := (fun c j => if c = b ∧ j < k then D.1 a j else D.1 c j, D.2)
theorem cpy_0 (D : cm_M) (a b : Nat) : cpy D a b 0 = D := by
  refine Prod.ext (funext fun c => funext fun j => ?_) rfl
  show (if c = b ∧ j < 0 then _ else _) = _
  rw [if_neg (by omega)]
theorem cpy_s (D : cm_M) (a b k : Nat) : cm_wi (cpy D a b k) b k (D.1 a k) = cpy D a b (k + 1) := by
  refine Prod.ext (funext fun c => funext fun j => ?_) rfl
  show (if c = b ∧ j = k then D.1 a k else if c = b ∧ j < k then D.1 a j else D.1 c j) = if c = b ∧ j < k + 1 then D.1 a j else D.1 c j
  by_cases h : c = b ∧ j = k
  · rw [if_pos h, if_pos ⟨h.1, by omega⟩, h.2]
  · rw [if_neg h]
    by_cases h2 : c = b ∧ j < k
    · rw [if_pos h2, if_pos ⟨h2.1, by omega⟩]
    · rw [if_neg h2, if_neg (fun q => by
        rcases (by omega : j < k ∨ j = k) with z | z
        · exact h2 ⟨q.1, z⟩
        · exact h ⟨q.1, z⟩)]
theorem cpy_a {D : cm_M} {a b k j : Nat} (h : a ≠ b) : (cpy D a b k).1 a j = D.1 a j := by
  show (if a = b ∧ j < k then _ else _) = _
  rw [if_neg (fun q => h q.1)]
noncomputable def cp_J (D : cm_M) (S : cm_S) : Prop := ∃ k, k ≤ 213 ∧ S = (3, [(0, .ref 128), (1, .int 0), (2, .ref 127), (3, .int 0), (4, .int 213), (5, .int (Int32.ofNat k))], [], fm (cpy D 128 127 k))
set_option maxRecDepth 100000 in
theorem m_copy (D : cm_M) : cm_Lc cm_ms 170 [.ref 128, .int 0, .ref 127, .int 0, .int 213] (fm D) (fun v M' => v = none ∧ M' = fm (cpy D 128 127 213)) := by
  refine lb_of (mi := mr_170) rfl [(3, [0, 1, 2, 3, 4, 5])] (cp_J D) 40 (fun S hS => ?_) 10 ?_
  · obtain ⟨k, hk, rfl⟩ := hS
    show (ev_cmp 3 (Int32.ofNat k) 213 = true → _) ∧ (ev_cmp 3 (Int32.ofNat k) 213 = false → cp_J D (3, [(0, .ref 128), (1, .int 0), (2, .ref 127), (3, .int 0), (4, .int 213), (5, .int (Int32.ofNat k + 1))], [], cm_wi (fm (cpy D 128 127 k)) 127 (0 + Int32.ofNat k).toNatClampNeg ((cpy D 128 127 k).1 128 (0 + Int32.ofNat k).toNatClampNeg)))
    have e2 : (213 : Int32).toInt = 213 := by decide
    refine ⟨fun h1 => ?_, fun h1 => ?_⟩
    · have g := fn_ge h1
      rw [fn_toInt (by omega)] at g
      have : k = 213 := by omega
      subst this
      exact ⟨rfl, rfl⟩
    · have g := fn_nge h1
      rw [fn_toInt (by omega)] at g
      have e0 : (0 : Int32) + Int32.ofNat k = Int32.ofNat k := by rw [Int32.zero_add]
      rw [e0, fn_nat (by omega), fn_succ, cpy_a (by decide)]
      refine ⟨k + 1, by omega, ?_⟩
      rw [← cpy_s]
      try rfl
  · show cp_J D (3, [(0, .ref 128), (1, .int 0), (2, .ref 127), (3, .int 0), (4, .int 213), (5, .int (Int32.ofNat 0))], [], fm D)
    exact ⟨0, Nat.zero_le _, by rw [cpy_0]⟩
/-- asTold, exactly -/
noncomputable def az (D : cm_M) (k : Nat) : cm_M := (fun c j => if c = 129 ∧ j < k then 0 else D.1 c j, D.2)
noncomputable def aw (D : cm_M) (m : Nat) : cm_M := (fun c j => if c = 129 ∧ j < 11 then (if j < m then D.1 127 (12 + 3 * j) else 0) else D.1 c j, D.2)
theorem az_0 (D : cm_M) : az D 0 = D := by
  refine Prod.ext (funext fun c => funext fun j => ?_) rfl
  show (if c = 129 ∧ j < 0 then _ else _) = _
  rw [if_neg (by omega)]
theorem az_s (D : cm_M) (k : Nat) : cm_wi (az D k) 129 k 0 = az D (k + 1) := by
  refine Prod.ext (funext fun c => funext fun j => ?_) rfl
  show (if c = 129 ∧ j = k then 0 else if c = 129 ∧ j < k then 0 else D.1 c j) = if c = 129 ∧ j < k + 1 then 0 else D.1 c j
  by_cases h : c = 129 ∧ j = k
  · rw [if_pos h, if_pos ⟨h.1, by omega⟩]
  · rw [if_neg h]
    by_cases h2 : c = 129 ∧ j < k
    · rw [if_pos h2, if_pos ⟨h2.1, by omega⟩]
    · rw [if_neg h2, if_neg (by omega)]
theorem az_aw (D : cm_M) : az D 11 = aw D 0 := by
  refine Prod.ext (funext fun c => funext fun j => ?_) rfl
  show (if c = 129 ∧ j < 11 then 0 else D.1 c j) = if c = 129 ∧ j < 11 then (if j < 0 then _ else 0) else D.1 c j
  rw [if_neg (c := j < 0) (by omega)]
theorem aw_s (D : cm_M) {m : Nat} (hm : m < 11) : cm_wi (aw D m) 129 m (D.1 127 (12 + 3 * m)) = aw D (m + 1) := by
  refine Prod.ext (funext fun c => funext fun j => ?_) rfl
  show (if c = 129 ∧ j = m then D.1 127 (12 + 3 * m) else if c = 129 ∧ j < 11 then (if j < m then D.1 127 (12 + 3 * j) else 0) else D.1 c j) = if c = 129 ∧ j < 11 then (if j < m + 1 then D.1 127 (12 + 3 * j) else 0) else D.1 c j
  by_cases h : c = 129 ∧ j = m
  · rw [if_pos h, if_pos ⟨h.1, by omega⟩, if_pos (by omega), h.2]
  · rw [if_neg h]
    by_cases h2 : c = 129 ∧ j < 11
    · rw [if_pos h2, if_pos h2]
      by_cases h3 : j < m
      · rw [if_pos h3, if_pos (by omega)]
      · rw [if_neg h3, if_neg (by omega)]
    · rw [if_neg h2, if_neg h2]
noncomputable def at_J (D : cm_M) (me : Nat) (S : cm_S) : Prop := (∃ k, k ≤ 11 ∧ S = (2, [(0, .ref 124), (1, .ref 129), (2, .int (Int32.ofNat k))], [], fm (az D k))) ∨ (∃ m, m ≤ me ∧ S = (20, [(0, .ref 124), (1, .ref 129), (2, .int (Int32.ofNat m))], [], fm (aw D m)))
set_option maxRecDepth 100000 in
theorem m_asTold {me : Nat} {D : cm_M} (h6 : me ≤ 6) (h3 : D.1 127 3 = Int32.ofNat me) : cm_Lc cm_ms 192 [.ref 124, .ref 129] (fm D) (fun v M' => v = none ∧ M' = fm (aw D me)) := by
  refine lb_of (mi := mr_192) rfl [(2, [0, 1, 2]), (20, [0, 1, 2])] (at_J D me) 40 (fun S hS => ?_) 10 ?_
  · rcases hS with ⟨k, hk, rfl⟩ | ⟨m, hm, rfl⟩
    · show (ev_cmp 3 (Int32.ofNat k) 11 = true → at_J D me (20, [(0, .ref 124), (1, .ref 129), (2, .int (Int32.ofNat 0))], [], fm (az D k))) ∧ (ev_cmp 3 (Int32.ofNat k) 11 = false → at_J D me (2, [(0, .ref 124), (1, .ref 129), (2, .int (Int32.ofNat k + 1))], [], cm_wi (fm (az D k)) 129 (Int32.ofNat k).toNatClampNeg 0))
      have e2 : (11 : Int32).toInt = 11 := by decide
      refine ⟨fun h1 => ?_, fun h1 => ?_⟩
      · have g := fn_ge h1
        rw [fn_toInt (by omega)] at g
        have : k = 11 := by omega
        subst this
        exact Or.inr ⟨0, Nat.zero_le _, by rw [az_aw]⟩
      · have g := fn_nge h1
        rw [fn_toInt (by omega)] at g
        rw [fn_nat (by omega), fn_succ]
        refine Or.inl ⟨k + 1, by omega, ?_⟩
        rw [← az_s]
        try rfl
    · show (ev_cmp 3 (Int32.ofNat m) (D.1 127 3) = true → _) ∧ (ev_cmp 3 (Int32.ofNat m) (D.1 127 3) = false → at_J D me (20, [(0, .ref 124), (1, .ref 129), (2, .int (Int32.ofNat m + 1))], [], cm_wi (fm (aw D m)) 129 (Int32.ofNat m).toNatClampNeg (D.1 127 (11 + 3 * Int32.ofNat m + 1).toNatClampNeg)))
      refine ⟨fun h1 => ?_, fun h1 => ?_⟩
      · have g := fn_ge h1
        rw [h3, fn_toInt (by omega), fn_toInt (by omega)] at g
        have : m = me := by omega
        subst this
        exact ⟨rfl, rfl⟩
      · have g := fn_nge h1
        rw [h3, fn_toInt (by omega), fn_toInt (by omega)] at g
        rw [fn_nat (by omega), fn_succ, (i11 (m := m) (by omega)).2.1]
        refine Or.inr ⟨m + 1, by omega, ?_⟩
        rw [← aw_s D (by omega)]
        try rfl
  · show at_J D me (2, [(0, .ref 124), (1, .ref 129), (2, .int (Int32.ofNat 0))], [], fm D)
    exact Or.inl ⟨0, Nat.zero_le _, by rw [az_0]⟩
theorem DT_F {T me mo ch : Nat} {C : cm_M} {F F' : Nat → Int32} (h : DT T me mo ch C F) (hF : ∀ j, j < 213 → F' j = F j) : DT T me mo ch C F' := by
  obtain ⟨-, -, c3, c4, c5, -⟩ := id h.1
  exact ⟨NC_cg h.1 KN_rfl (fun j _ h2 => hF j h2), DR_cg c3 c4 c5 rfl (fun j hj _ _ _ => hF j (by omega)) h.2⟩
/-- at the start nothing is told -/
theorem DT_0 {T : Nat} {C : cm_M} {F : Nat → Int32} (h10 : C.1 2 10 = 0) (h8 : C.1 2 8 = 0) (h3 : C.1 T 3 = 0) (h9 : C.1 T 9 = 0) (h15 : C.1 T 15 = 0) (h18 : C.1 T 18 = 0) (hF : ∀ j, j < 213 → F j = 0) : DT T 0 0 0 C F := by
  refine ⟨⟨h10, by omega, by omega, by omega, by omega, ⟨fun i hi => by omega, fun n hn hz => absurd (hF _ (by omega)) hz, fun i j hi => by omega⟩⟩, ?_⟩
  refine ⟨⟨Or.inl h8, by rw [h8]; exact hF 10 (by omega), fun q => by rw [h8] at q; exact absurd q (by decide)⟩, ⟨h3, hF 3 (by omega), h9, hF 4 (by omega), h15, hF 8 (by omega)⟩, fun m hm => by omega, fun k hk => by omega, fun c hc => by omega, ⟨fun _ => 0, fun _ => 0, fun _ => 0, fun m hm => ⟨(by decide : (0 : Nat) < 32), hF _ (by omega), (by decide : (0 : Nat) < 64), hF _ (by omega)⟩, fun _ _ => ⟨rfl, rfl⟩, fun k hk => ⟨Nat.pow_pos (by omega), hF _ (by omega)⟩, fun _ _ => rfl, hF 5 (by omega), hF 6 (by omega), 0, hF 7 (by omega), rfl, fun m _ o _ => ⟨by rw [Nat.zero_div, Nat.zero_div], fun _ => by rw [Nat.zero_div]⟩⟩, 0, by omega, h18, hF 9 (by omega), fun c hc => ⟨fun _ => hF _ (by omega), fun q => absurd (by rw [Nat.zero_div]) q⟩⟩
/-- the reader's start on both sides -/
noncomputable def clr (D : cm_M) (k : Nat) : cm_M := (fun c j => if c = 128 ∧ j < k then 0 else D.1 c j, D.2)
theorem clr_0 (D : cm_M) : clr D 0 = D := by
  refine Prod.ext (funext fun c => funext fun j => ?_) rfl
  show (if c = 128 ∧ j < 0 then _ else _) = _
  rw [if_neg (by omega)]
theorem clr_s (D : cm_M) (k : Nat) : cm_wi (clr D k) 128 k 0 = clr D (k + 1) := by
  refine Prod.ext (funext fun c => funext fun j => ?_) rfl
  show (if c = 128 ∧ j = k then 0 else if c = 128 ∧ j < k then 0 else D.1 c j) = if c = 128 ∧ j < k + 1 then 0 else D.1 c j
  by_cases h : c = 128 ∧ j = k
  · rw [if_pos h, if_pos ⟨h.1, by omega⟩]
  · rw [if_neg h]
    by_cases h2 : c = 128 ∧ j < k
    · rw [if_pos h2, if_pos ⟨h2.1, by omega⟩]
    · rw [if_neg h2, if_neg (fun q => by
        rcases (by omega : j < k ∨ j = k) with z | z
        · exact h2 ⟨q.1, z⟩
        · exact h ⟨q.1, z⟩)]
theorem clr_n {D : cm_M} {k c j : Nat} (h : c ≠ 128) : (clr D k).1 c j = D.1 c j := by
  show (if c = 128 ∧ j < k then _ else _) = _
  rw [if_neg (fun q => h q.1)]
theorem clr_F {D : cm_M} {j : Nat} (h : j < 213) : (clr D 213).1 128 j = 0 := by
  show (if 128 = 128 ∧ j < 213 then _ else _) = _
  rw [if_pos ⟨rfl, h⟩]
/-- both readers, and what they have told, while nothing failed -/
noncomputable def RB (T N : Nat) (X D : cm_M) : Prop := Rq N X D ∧ (X.1 2 9 = 0 → X.1 2 8 = 1 ∧ ∃ me mo ch, DT T me mo ch X (D.1 128))
noncomputable abbrev m5 (D : cm_M) (N : Nat) : cm_M := cm_wi (cm_wi (cm_wi (cm_wi (cm_wi D 124 0 0) 124 11 0) 124 2 0) 124 9 0) 124 13 0
noncomputable def mt_J (T N : Nat) (C0 D : cm_M) (S : cm_S) : Prop :=
  (∃ k, k ≤ 213 ∧ S = (39, [(0, .ref 124), (1, .int (Int32.ofNat N)), (2, .int (Int32.ofNat k))], [], fm (clr (m5 D N) k))) ∨
  (∃ k D', (∀ i, i < k → lc (itr T N C0 (i + 1))) ∧ RB T N (itr T N C0 (k + 1)) D' ∧ S = (77, [(0, .ref 124)], [], fm D')) ∨
  (∃ X D', Ex T N C0 X ∧ RB T N X D' ∧ S = (104, [(0, .ref 124)], [], fm D')) ∨
  (∃ X Y D', Ex T N C0 X ∧ (if X.1 2 3 = 0 then X else cF_fail 1 X) = Y ∧ RB T N Y D' ∧ S = (127, [(0, .ref 124)], [], fm D')) ∨
  (∃ X D', Ex T N C0 X ∧ RB T N (fin T X) D' ∧ S = (163, [(0, .ref 124)], [], fm D'))
/-- the reference's end with a fault, and without one -/
noncomputable def mt_B (T : Nat) (C0 X D' : cm_M) : Prop := D'.1 124 9 = (fin T X).1 2 9 ∧ D'.1 124 10 = (fin T X).1 2 4 ∧ D'.1 124 11 = 4 ∧ ∀ c j, prC c j → D'.1 c j = C0.1 c j
noncomputable def mt_G (T : Nat) (X D' : cm_M) : Prop := D'.1 124 9 = 0 ∧ D'.1 124 11 = 0 ∧ D'.1 124 14 = 1 ∧ D'.1 124 20 = 0 ∧ D'.1 124 21 = 0 ∧ (fin T X).1 2 8 = 1 ∧ ∃ me mo ch, DT T me mo ch (fin T X) (D'.1 127) ∧ ∀ j, j < 11 → D'.1 129 j = if j < me then D'.1 127 (12 + 3 * j) else 0
noncomputable abbrev mt_K (T N : Nat) (C0 : cm_M) : cm_K := fun v M' => ∃ X D', Ex T N C0 X ∧ M' = fm D' ∧ ((fin T X).1 2 9 ≠ 0 → v = some (.int (-1)) ∧ mt_B T C0 X D') ∧ ((fin T X).1 2 9 = 0 → v = some (.int ((fin T X).1 T 3)) ∧ mt_G T X D')
noncomputable abbrev mt_st : List (Nat × List Nat) := [(39, [0, 1, 2]), (77, [0]), (104, [0]), (127, [0]), (163, [0])]
theorem RB_next {T N : Nat} {X D : cm_M} (hT : 6 ≤ T) (hR : RC N X) (h : RB T N X D) (h0 : X.1 2 9 = 0) {D' : cm_M} (r : Rq N (cF_step N X) D') (f : D'.1 128 = D.1 128) : (cF_step N X).1 2 9 = 0 ∧ ∃ me mo ch, DT T me mo ch (cF_step N X) (D'.1 128) ∧ ((cF_step N X).1 2 8 = 0 → me = 0 ∧ mo = 0 ∧ ch = 0) := by
  obtain ⟨h8, me, mo, ch, hd⟩ := h.2 h0
  refine ⟨cF_step_9.trans h0, me, mo, ch, by rw [f]; exact DT_cg hT hd (K_step N X), fun q => ?_⟩
  rw [(K_step N X).1.2, h8] at q
  exact absurd q (by decide)
set_option maxRecDepth 100000 in
set_option maxHeartbeats 1000000 in
theorem m_town {T N : Nat} {C0 D : cm_M} (hT : 6 ≤ T) (hT2 : T ≤ 19) (hN : N ≤ 900) (hR : RC N C0) (h0 : C0.1 2 9 = 0) (h2 : C0.1 2 2 = 0) (h10 : C0.1 2 10 = 0) (h8 : C0.1 2 8 = 0) (h3 : C0.1 T 3 = 0) (h9 : C0.1 T 9 = 0) (h15 : C0.1 T 15 = 0) (h18 : C0.1 T 18 = 0) (ht : (N : Int) ≤ (D.1 124 2).toInt) (htb : ∀ j, j < N → tb (C0.1 1 j) (D.1 125 j)) (hfr : ∀ c j, prC c j → D.1 c j = C0.1 c j) : cm_Lc cm_ms 191 [.ref 124, .int (Int32.ofNat N)] (fm D) (mt_K T N C0) := by
  refine lb_of (mi := mr_191) rfl mt_st (mt_J T N C0 D) 60 (fun S hS => ?_) 40 ?_
  · rcases hS with ⟨k, hk, rfl⟩ | ⟨k, D', ha, hb, rfl⟩ | ⟨X, D', hX, hb, rfl⟩ | ⟨X, Y, D', hX, hY, hb, rfl⟩ | ⟨X, D', hX, hb, rfl⟩
    · show (ev_cmp 3 (Int32.ofNat k) 213 = true → ∃ R, cm_Lc cm_ms 176 [.ref 124] (fm (cm_wi (cm_wi (clr (m5 D N) k) 124 3 (Int32.ofNat N)) 124 5 0)) R ∧ ∀ v M', R v M' → _) ∧ (ev_cmp 3 (Int32.ofNat k) 213 = false → mt_J T N C0 D (39, [(0, .ref 124), (1, .int (Int32.ofNat N)), (2, .int (Int32.ofNat k + 1))], [], cm_wi (fm (clr (m5 D N) k)) 128 (Int32.ofNat k).toNatClampNeg 0))
      have e2 : (213 : Int32).toInt = 213 := by decide
      refine ⟨fun h1 => ?_, fun h1 => ?_⟩
      · have g := fn_ge h1
        rw [fn_toInt (by omega)] at g
        have : k = 213 := by omega
        subst this
        refine ⟨_, m_next0 (C := C0) (D := cm_wi (cm_wi (clr (m5 D N) 213) 124 3 (Int32.ofNat N)) 124 5 0) htb hR.1 rfl h2.symm rfl rfl ⟨rfl, rfl, rfl⟩ (fun c j q => by
          have q2 := q
          unfold prC at q2
          rw [wi_n2 (by omega), wi_n2 (by omega), clr_n (by omega), wi_n2 (by omega), wi_n2 (by omega), wi_n2 (by omega), wi_n2 (by omega), wi_n2 (by omega)]
          exact hfr c j q) h0, ?_⟩
        rintro v M' ⟨rfl, D1, rfl, r1, f1⟩
        have hd : DT T 0 0 0 (cF_step N C0) (D1.1 128) := by
          rw [f1]
          exact DT_cg hT (DT_0 h10 h8 h3 h9 h15 h18 (fun j hj => clr_F hj)) (K_step N C0)
        show ∃ R, cm_Lc cm_ms 194 [.ref 124] (fm D1) R ∧ ∀ v M', R v M' → _
        refine ⟨_, m_readLine hT hT2 r1 (cF_step_9.trans h0) hd (fun _ => ⟨rfl, rfl, rfl⟩), ?_⟩
        rintro v M' ⟨rfl, D2, rfl, r2, f2⟩
        show mt_J T N C0 D (77, [(0, .ref 124)], [], fm D2)
        exact Or.inr (Or.inl ⟨0, D2, fun i hi => by omega, ⟨r2, f2⟩, rfl⟩)
      · have g := fn_nge h1
        rw [fn_toInt (by omega)] at g
        rw [fn_nat (by omega), fn_succ]
        refine Or.inl ⟨k + 1, by omega, ?_⟩
        rw [← clr_s]
        try rfl
    · have hRk := itr_rs hT hR (k + 1)
      generalize hg : itr T N C0 (k + 1) = X at hb hRk
      show (ev_cmp 1 (D'.1 124 13) 0 = true → mt_J T N C0 D (104, [(0, .ref 124)], [], fm D')) ∧ (ev_cmp 1 (D'.1 124 13) 0 = false → (ev_cmp 1 (D'.1 124 6) 59 = true → mt_J T N C0 D (104, [(0, .ref 124)], [], fm D')) ∧ (ev_cmp 1 (D'.1 124 6) 59 = false → ∃ R, cm_Lc cm_ms 176 [.ref 124] (fm D') R ∧ ∀ v M', R v M' → _))
      refine ⟨fun q1 => ?_, fun q1 => ⟨fun q2 => ?_, fun q2 => ?_⟩⟩
      · exact Or.inr (Or.inr (Or.inl ⟨X, D', ⟨k, hg.symm, ha, fun q => fl_1 hb.1.2 (fn_ne q1) q.1⟩, hb, rfl⟩))
      · exact Or.inr (Or.inr (Or.inl ⟨X, D', ⟨k, hg.symm, ha, fun q => fn_ne q2 ((tw_3 hb.1).mpr q.2)⟩, hb, rfl⟩))
      · have z := fl_0 hb.1.2 (fn_eq q1)
        have z3 := (tw_3 hb.1).mp (fn_eq q2)
        refine ⟨_, m_next hb.1 z, ?_⟩
        rintro v M' ⟨rfl, D1, rfl, r1, f1⟩
        obtain ⟨y1, me, mo, ch, hd, hz⟩ := RB_next hT hRk hb z r1 f1
        show ∃ R, cm_Lc cm_ms 194 [.ref 124] (fm D1) R ∧ ∀ v M', R v M' → _
        refine ⟨_, m_readLine hT hT2 r1 y1 hd hz, ?_⟩
        rintro v M' ⟨rfl, D2, rfl, r2, f2⟩
        show mt_J T N C0 D (77, [(0, .ref 124)], [], fm D2)
        refine Or.inr (Or.inl ⟨k + 1, D2, fun i hi => ?_, ?_, rfl⟩)
        · rcases (by omega : i < k ∨ i = k) with q | q
          · exact ha i q
          · rw [q, hg]
            exact ⟨z, z3⟩
        · have e : itr T N C0 (k + 1 + 1) = rl_F T N (cF_step N X) := by
            rw [← hg]
            try rfl
          rw [e]
          exact ⟨r2, f2⟩
    · show (ev_cmp 1 (D'.1 124 13) 0 = true → mt_J T N C0 D (127, [(0, .ref 124)], [], fm D')) ∧ (ev_cmp 1 (D'.1 124 13) 0 = false → (ev_cmp 0 (D'.1 124 6) 0 = true → mt_J T N C0 D (127, [(0, .ref 124)], [], fm D')) ∧ (ev_cmp 0 (D'.1 124 6) 0 = false → ∃ R, cm_Lc cm_ms 177 [.ref 124, .int 1, .int (D'.1 124 4)] (fm D') R ∧ ∀ v M', R v M' → _))
      refine ⟨fun q1 => ?_, fun q1 => ⟨fun q2 => ?_, fun q2 => ?_⟩⟩
      · have z := fl_1 hb.1.2 (fn_ne q1)
        refine Or.inr (Or.inr (Or.inr (Or.inl ⟨X, X, D', hX, ?_, hb, rfl⟩)))
        rw [cF_fail_id z]
        split <;> rfl
      · exact Or.inr (Or.inr (Or.inr (Or.inl ⟨X, X, D', hX, if_pos ((tw_0 hb.1).mp (fn_eq0 q2)), hb, rfl⟩)))
      · refine ⟨_, m_wrong hb.1 (x := 1) (by decide), ?_⟩
        rintro v M' ⟨rfl, D1, rfl, r1, f1⟩
        show mt_J T N C0 D (127, [(0, .ref 124)], [], fm D1)
        exact Or.inr (Or.inr (Or.inr (Or.inl ⟨X, cF_fail 1 X, D1, hX, if_neg (fun q => fn_ne0 q2 ((tw_0 hb.1).mpr q)), ⟨r1, fun q => absurd q (cF_fail_9n (by decide))⟩, rfl⟩)))
    · have e3 : Y.1 2 9 = 0 → D'.1 128 3 = Y.1 T 3 ∧ D'.1 128 10 = 1 := fun z => by
        obtain ⟨g8, me, mo, ch, hd⟩ := hb.2 z
        obtain ⟨⟨-, a2, -⟩, ⟨b1, b2, -⟩, -⟩ := hd.2
        exact ⟨b2.trans b1.symm, a2.trans g8⟩
      show (ev_cmp 1 (D'.1 124 13) 0 = true → mt_J T N C0 D (163, [(0, .ref 124)], [], fm D')) ∧ (ev_cmp 1 (D'.1 124 13) 0 = false → (ev_cmp 0 (D'.1 128 10) 0 = true → _) ∧ (ev_cmp 0 (D'.1 128 10) 0 = false → (ev_cmp 1 (D'.1 128 3) 0 = true → mt_J T N C0 D (163, [(0, .ref 124)], [], fm D')) ∧ (ev_cmp 1 (D'.1 128 3) 0 = false → ∃ R, cm_Lc cm_ms 177 [.ref 124, .int 6, .int (D'.1 124 4)] (fm D') R ∧ ∀ v M', R v M' → _)))
      refine ⟨fun q1 => ?_, fun q1 => ⟨fun q2 => ?_, fun q2 => ⟨fun q3 => ?_, fun q3 => ?_⟩⟩⟩
      · have z := fl_1 hb.1.2 (fn_ne q1)
        have ef : fin T X = Y := by
          unfold fin
          rw [hY, cF_fail_id z]
          split <;> rfl
        exact Or.inr (Or.inr (Or.inr (Or.inr ⟨X, D', hX, by rw [ef]; exact hb, rfl⟩)))
      · have z := fl_0 hb.1.2 (fn_eq q1)
        have := fn_eq0 q2
        rw [(e3 z).2] at this
        exact absurd this (by decide)
      · have z := fl_0 hb.1.2 (fn_eq q1)
        have ef : fin T X = Y := by
          unfold fin
          rw [hY, if_neg (fun q => fn_ne q3 ((e3 z).1.trans q))]
        exact Or.inr (Or.inr (Or.inr (Or.inr ⟨X, D', hX, by rw [ef]; exact hb, rfl⟩)))
      · have z := fl_0 hb.1.2 (fn_eq q1)
        have ef : fin T X = cF_fail 6 Y := by
          unfold fin
          rw [hY, if_pos ((e3 z).1.symm.trans (fn_eq q3))]
        refine ⟨_, m_wrong hb.1 (x := 6) (by decide), ?_⟩
        rintro v M' ⟨rfl, D1, rfl, r1, f1⟩
        show mt_J T N C0 D (163, [(0, .ref 124)], [], fm D1)
        exact Or.inr (Or.inr (Or.inr (Or.inr ⟨X, D1, hX, by rw [ef]; exact ⟨r1, fun q => absurd q (cF_fail_9n (by decide))⟩, rfl⟩)))
    · show (ev_cmp 0 (D'.1 124 13) 0 = true → ∃ R, cm_Lc cm_ms 170 [.ref 128, .int 0, .ref 127, .int 0, .int 213] (fm D') R ∧ ∀ v M', R v M' → _) ∧ (ev_cmp 0 (D'.1 124 13) 0 = false → ∃ R, cm_Lc cm_ms 165 [.ref 124, .int 4] (fm D') R ∧ ∀ v M', R v M' → _)
      refine ⟨fun q1 => ?_, fun q1 => ?_⟩
      · have z := fl_0 hb.1.2 (fn_eq0 q1)
        obtain ⟨g8, me, mo, ch, hd⟩ := hb.2 z
        obtain ⟨-, ⟨b1, b2, -⟩, -⟩ := hd.2
        refine ⟨_, m_copy D', ?_⟩
        rintro v M' ⟨rfl, rfl⟩
        show ∃ R, cm_Lc cm_ms 192 [.ref 124, .ref 129] (fm (cpy D' 128 127 213)) R ∧ ∀ v M', R v M' → _
        have c3 : me ≤ 6 := hd.1.2.2.1
        refine ⟨_, m_asTold (me := me) c3 (show D'.1 128 3 = _ from b2), ?_⟩
        rintro v M' ⟨rfl, rfl⟩
        have hF : ∀ j, j < 213 → (aw (cpy D' 128 127 213) me).1 127 j = D'.1 128 j := fun j hj => by
          show (if 127 = 127 ∧ j < 213 then D'.1 128 j else D'.1 127 j) = _
          rw [if_pos ⟨rfl, hj⟩]
        show mt_K T N C0 (some (.int ((aw (cpy D' 128 127 213) me).1 127 3))) (cm_wi (cm_wi (cm_wi (fm (aw (cpy D' 128 127 213) me)) 124 14 1) 124 20 0) 124 21 0)
        refine ⟨X, cm_wi (cm_wi (cm_wi (aw (cpy D' 128 127 213) me) 124 14 1) 124 20 0) 124 21 0, hX, rfl, fun q => absurd z q, fun _ => ⟨?_, (show D'.1 124 9 = 0 from fl_9 hb.1.2 z), hb.1.2.2.1.2.2, rfl, rfl, rfl, g8, me, mo, ch, DT_F hd hF, fun j hj => ?_⟩⟩
        · rw [hF 3 (by omega)]
          exact congrArg some (congrArg Value.int (b2.trans b1.symm))
        · show (if 129 = 129 ∧ j < 11 then (if j < me then (cpy D' 128 127 213).1 127 (12 + 3 * j) else 0) else _) = _
          rw [if_pos ⟨rfl, hj⟩]
          try rfl
      · have z := fl_1 hb.1.2 (fn_ne0 q1)
        refine ⟨_, m_no 4 D', ?_⟩
        rintro v M' ⟨rfl, rfl⟩
        show mt_K T N C0 (some (.int (-1))) _
        refine ⟨X, cm_wi D' 124 11 4, hX, rfl, fun _ => ⟨rfl, (fl_b hb.1.2 z).1, (fl_b hb.1.2 z).2, rfl, fun c j q => ?_⟩, fun q => absurd q z⟩
        have q2 := q
        unfold prC at q2
        rw [wi_n2 (by omega), hb.1.2.2.2 c j q]
        exact ((PG_fin (T := T) (N := N)).2.2 c j (by omega) (by omega)).trans ((PG_Ex hT hX).2.2 c j (by omega) (by omega))
  · show ∃ R, cm_Lc cm_ms 164 [.ref 124] (fm D) R ∧ ∀ v M', R v M' → _
    refine ⟨_, m_good D, ?_⟩
    rintro v M' ⟨rfl, rfl⟩
    show ∃ R, cm_Lc cm_ms 167 [.int (Int32.ofNat N), .int 0, .int (D.1 124 2)] (fm (cm_wi (cm_wi D 124 0 0) 124 11 0)) R ∧ ∀ v M', R v M' → _
    refine ⟨_, m_in _ _ _ _, ?_⟩
    rintro v M' ⟨rfl, rfl⟩
    have ei : (decide ((0 : Int32) ≤ Int32.ofNat N) && decide (Int32.ofNat N ≤ D.1 124 2)) = true := by
      have z0 : (0 : Int32).toInt = 0 := by decide
      rw [decide_eq_true (Int32.le_iff_toInt_le.mpr (by rw [fn_toInt (by omega)]; omega)), decide_eq_true (Int32.le_iff_toInt_le.mpr (by rw [fn_toInt (by omega)]; exact ht))]
      try rfl
    show (ev_cmp 1 (bi (decide ((0 : Int32) ≤ Int32.ofNat N) && decide (Int32.ofNat N ≤ D.1 124 2))) 0 = true → mt_J T N C0 D (39, [(0, .ref 124), (1, .int (Int32.ofNat N)), (2, .int (Int32.ofNat 0))], [], fm (m5 D N))) ∧ (ev_cmp 1 (bi (decide ((0 : Int32) ≤ Int32.ofNat N) && decide (Int32.ofNat N ≤ D.1 124 2))) 0 = false → _)
    refine ⟨fun _ => ?_, fun q => ?_⟩
    · exact Or.inl ⟨0, Nat.zero_le _, by rw [clr_0]⟩
    · have := bi_n0 q
      rw [ei] at this
      cases this
theorem m_town2 {n : Int32} {D : cm_M} (hn : ¬ (0 ≤ n.toInt ∧ n.toInt ≤ (D.1 124 2).toInt)) : cm_Lc cm_ms 191 [.ref 124, .int n] (fm D) (fun v M' => v = some (.int (-1)) ∧ M' = fm (cm_wi (cm_wi (cm_wi D 124 0 0) 124 11 0) 124 11 2)) := by
  refine lb_st0 (mi := mr_191) rfl 40 ?_
  show ∃ R, cm_Lc cm_ms 164 [.ref 124] (fm D) R ∧ ∀ v M', R v M' → _
  refine ⟨_, m_good D, ?_⟩
  rintro v M' ⟨rfl, rfl⟩
  show ∃ R, cm_Lc cm_ms 167 [.int n, .int 0, .int (D.1 124 2)] (fm (cm_wi (cm_wi D 124 0 0) 124 11 0)) R ∧ ∀ v M', R v M' → _
  refine ⟨_, m_in _ _ _ _, ?_⟩
  rintro v M' ⟨rfl, rfl⟩
  show (ev_cmp 1 (bi (decide ((0 : Int32) ≤ n) && decide (n ≤ D.1 124 2))) 0 = true → _) ∧ (ev_cmp 1 (bi (decide ((0 : Int32) ≤ n) && decide (n ≤ D.1 124 2))) 0 = false → ∃ R, cm_Lc cm_ms 165 [.ref 124, .int 2] (fm (cm_wi (cm_wi D 124 0 0) 124 11 0)) R ∧ ∀ v M', R v M' → _)
  refine ⟨fun q => ?_, fun q => ⟨_, m_no 2 _, ?_⟩⟩
  · have q := bi_n1 q
    have z0 : (0 : Int32).toInt = 0 := by decide
    have h1 := Int32.le_iff_toInt_le.mp (of_decide_eq_true (and_l q))
    have h2 := Int32.le_iff_toInt_le.mp (of_decide_eq_true (and_r q))
    exact absurd ⟨by omega, h2⟩ hn
  · rintro v M' ⟨rfl, rfl⟩
    exact ⟨rfl, rfl⟩
/-- the class's object and its minutes, told -/
noncomputable def gb (T T' : Nat) (C : cm_M) : cm_M := (C.1, C.2.1, fun c i => if c = 0 then (if i = 0 then some 1 else if i = 2 then some 2 else if i = 3 then some T' else if i = 4 then some T else if i = 5 then some 32 else if i = 7 then some 38 else C.2.2 0 i) else if c = 32 then (if i = 0 then some 33 else if i = 1 then some 34 else C.2.2 32 i) else C.2.2 c i)
noncomputable abbrev rg_K (T T' N : Nat) (C : cm_M) : cm_K := fun v M' => ∃ X E, Ex T N (rd0 T (Int32.ofNat N) (gb T T' C)) X ∧ E.1 = (fin T X).1 ∧ M' = fr T (gb T T' E) ∧ v = some (.int (E.1 2 9))
theorem rg_of {T T' N : Nat} {C : cm_M} (hT : 6 ≤ T) {v : Option Value} {M' : cm_M} (h : rd_K T N (rd0 T (Int32.ofNat N) (gb T T' C)) v M') : rg_K T T' N C v M' := by
  obtain ⟨X, hX, hR, hM, hv⟩ := h
  have hr : (fin T X).2.2 = (fr T (gb T T' C)).2.2 := (PG_fin (T := T) (N := N)).2.1.trans (PG_Ex hT hX).2.1
  have eZ : fin T X = fr T (gb T T' ((fin T X).1, (fin T X).2.1, C.2.2)) := Prod.ext rfl (Prod.ext rfl hr)
  refine ⟨X, ((fin T X).1, (fin T X).2.1, C.2.2), hX, rfl, ?_, hv⟩
  rw [hM]
  exact (congrArg (fr T) eZ).trans (fr_fr T _)
noncomputable def bs (T h : Nat) (M : cm_M) : cm_M := (M.1, M.2.1, fun c i => if c = T ∧ i = 5 then some h else if c = 32 ∧ i = 0 then some 33 else if c = 32 ∧ i = 1 then some 34 else M.2.2 c i)
theorem bs_eq {T h : Nat} {M : cm_M} (h1 : M.2.2 T 5 = some h) (h2 : M.2.2 32 0 = some 33) (h3 : M.2.2 32 1 = some 34) : bs T h M = M := by
  refine Prod.ext rfl (Prod.ext rfl (funext fun c => funext fun i => ?_))
  show (if c = T ∧ i = 5 then some h else if c = 32 ∧ i = 0 then some 33 else if c = 32 ∧ i = 1 then some 34 else M.2.2 c i) = M.2.2 c i
  by_cases q1 : c = T ∧ i = 5
  · rw [if_pos q1, q1.1, q1.2, h1]
  · rw [if_neg q1]
    by_cases q2 : c = 32 ∧ i = 0
    · rw [if_pos q2, q2.1, q2.2, h2]
    · rw [if_neg q2]
      by_cases q3 : c = 32 ∧ i = 1
      · rw [if_pos q3, q3.1, q3.2, h3]
      · rw [if_neg q3]
noncomputable def bgF (h : Nat) (M : cm_M) : cm_M := cm_wi (cm_wi (cm_wi (cm_wi (cm_wi (cm_cp M h 0 33 0 6) 34 0 0) 34 1 0) 34 2 0) 32 2 0) 32 3 0
theorem f_forget (M : cm_M) : cm_Lc cm_ms 38 [.ref 38] M (fun v M' => v = none ∧ M' = cm_wi (cm_wi M 38 3 0) 38 4 0) := by
  refine lb_st0 (mi := mr_38) rfl 20 ?_
  exact ⟨rfl, rfl⟩
theorem f_granted (x : Int32) (M : cm_M) : cm_Lc cm_ms 159 [.ref 0, .int x] M (fun v M' => v = some (.int x) ∧ M' = cm_wi M 0 14 0) := by
  refine lb_st0 (mi := mr_159) rfl 20 ?_
  exact ⟨rfl, rfl⟩
theorem f_refused (x : Int32) (M : cm_M) : cm_Lc cm_ms 157 [.ref 0, .int x] M (fun v M' => v = some (.int (-1)) ∧ M' = cm_wi M 0 14 x) := by
  refine lb_st0 (mi := mr_157) rfl 20 ?_
  exact ⟨rfl, rfl⟩
theorem f_place (M : cm_M) : cm_Lc cm_ms 65 [.ref 2] M (fun v M' => v = some (.int (M.1 2 4)) ∧ M' = M) := by
  refine lb_st0 (mi := mr_65) rfl 20 ?_
  exact ⟨rfl, rfl⟩
set_option maxRecDepth 100000 in
set_option maxHeartbeats 4000000 in
theorem f_begin60 (M : cm_M) : cm_Lc cm_ms 22 [.ref 32, .ref 6] (bs 6 8 M) (fun v M' => v = none ∧ M' = bgF 8 (bs 6 8 M)) := by
  refine lb_st0 (mi := mr_22) rfl 120 ?_
  show (ev_cmp 3 (0 : Int32) 3 = true → _) ∧ (ev_cmp 3 (0 : Int32) 3 = false → _)
  refine ⟨fun q => absurd q (by decide), fun _ => ?_⟩
  show (ev_cmp 3 (1 : Int32) 3 = true → _) ∧ (ev_cmp 3 (1 : Int32) 3 = false → _)
  refine ⟨fun q => absurd q (by decide), fun _ => ?_⟩
  show (ev_cmp 3 (2 : Int32) 3 = true → _) ∧ (ev_cmp 3 (2 : Int32) 3 = false → _)
  refine ⟨fun q => absurd q (by decide), fun _ => ?_⟩
  show (ev_cmp 3 (3 : Int32) 3 = true → _) ∧ (ev_cmp 3 (3 : Int32) 3 = false → _)
  refine ⟨fun _ => ?_, fun q => absurd q (by decide)⟩
  exact ⟨rfl, rfl⟩
theorem f_begin6 {M : cm_M} (h1 : M.2.2 6 5 = some 8) (h2 : M.2.2 32 0 = some 33) (h3 : M.2.2 32 1 = some 34) : cm_Lc cm_ms 22 [.ref 32, .ref 6] M (fun v M' => v = none ∧ M' = bgF 8 M) := by
  have q := f_begin60 M
  rw [bs_eq h1 h2 h3] at q
  exact q
noncomputable def ct_B6 (T' : Nat) (E M' : cm_M) : Prop := M' = cm_wi (cm_wi (cm_wi (fr 6 (gb 6 T' E)) 0 12 (E.1 2 9)) 0 13 (E.1 2 4)) 0 14 4
noncomputable def ct_G6 (T' : Nat) (E M' : cm_M) : Prop := M' = cm_wi (cm_wi (cm_wi (bgF 8 (cm_wr (cm_wr (cm_wi (fr 6 (gb 6 T' E)) 0 12 (E.1 2 9)) 0 4 (some T')) 0 3 (some 6))) 38 3 0) 38 4 0) 0 14 0
noncomputable abbrev ct_K6 (T' N : Nat) (C : cm_M) : cm_K := fun v M' => ∃ X E, Ex 6 N (rd0 6 (Int32.ofNat N) (gb 6 T' (cm_wi C 0 1 0))) X ∧ E.1 = (fin 6 X).1 ∧ ((fin 6 X).1 2 9 ≠ 0 → v = some (.int (-1)) ∧ ct_B6 T' E M') ∧ ((fin 6 X).1 2 9 = 0 → v = some (.int ((fin 6 X).1 6 3)) ∧ ct_G6 T' E M')
set_option maxRecDepth 100000 in
set_option maxHeartbeats 4000000 in
theorem c_town6 {T' N : Nat} {C : cm_M} (hN : N ≤ 900) (ht : (N : Int) ≤ (C.1 0 1).toInt) : cm_Lc cm_ms 95 [.ref 0, .int (Int32.ofNat N)] (fb (gb 6 T' C)) (ct_K6 T' N C) := by
  refine lb_st0 (mi := mr_95) rfl 120 ?_
  show (ev_cmp 2 (Int32.ofNat N) 0 = true → _) ∧ (ev_cmp 2 (Int32.ofNat N) 0 = false → _)
  refine ⟨fun h1 => ?_, fun h1 => ?_⟩
  · have g := fn_lt h1
    rw [fn_toInt (by omega), show (0 : Int32).toInt = 0 from by decide] at g
    omega
  · show (ev_cmp 5 (Int32.ofNat N) (C.1 0 1) = true → _) ∧ (ev_cmp 5 (Int32.ofNat N) (C.1 0 1) = false → _)
    refine ⟨fun h2 => ?_, fun h2 => ?_⟩
    · show ∃ R, cm_Lc cm_ms 64 [.ref 2, .ref 1, .int (Int32.ofNat N), .ref 6] (cm_wi (fb (gb 6 T' C)) 0 1 0) R ∧ ∀ v M', R v M' → _
      refine ⟨_, cm_Lc_im (f_read6 (N := N) (C := gb 6 T' (cm_wi C 0 1 0)) hN) (fun v M' q => rg_of (by decide) q), ?_⟩
      rintro v M' ⟨X, E, hX, hE, rfl, rfl⟩
      show (ev_cmp 0 (E.1 2 9) 0 = true → _) ∧ (ev_cmp 0 (E.1 2 9) 0 = false → _)
      refine ⟨fun h3 => ?_, fun h3 => ?_⟩
      · have z := fn_eq0 h3
        show ∃ R, cm_Lc cm_ms 22 [.ref 32, .ref 6] (cm_wr (cm_wr (cm_wi (fr 6 (gb 6 T' E)) 0 12 (E.1 2 9)) 0 4 (some T')) 0 3 (some 6)) R ∧ ∀ v M', R v M' → _
        refine ⟨_, f_begin6 rfl rfl rfl, ?_⟩
        rintro v M' ⟨rfl, rfl⟩
        show ∃ R, cm_Lc cm_ms 38 [.ref 38] (bgF 8 (cm_wr (cm_wr (cm_wi (fr 6 (gb 6 T' E)) 0 12 (E.1 2 9)) 0 4 (some T')) 0 3 (some 6))) R ∧ ∀ v M', R v M' → _
        refine ⟨_, f_forget _, ?_⟩
        rintro v M' ⟨rfl, rfl⟩
        show ∃ R, cm_Lc cm_ms 159 [.ref 0, .int ((cm_wi (cm_wi (bgF 8 (cm_wr (cm_wr (cm_wi (fr 6 (gb 6 T' E)) 0 12 (E.1 2 9)) 0 4 (some T')) 0 3 (some 6))) 38 3 0) 38 4 0).1 6 3)] (cm_wi (cm_wi (bgF 8 (cm_wr (cm_wr (cm_wi (fr 6 (gb 6 T' E)) 0 12 (E.1 2 9)) 0 4 (some T')) 0 3 (some 6))) 38 3 0) 38 4 0) R ∧ ∀ v M', R v M' → _
        refine ⟨_, f_granted _ _, ?_⟩
        rintro v M' ⟨rfl, rfl⟩
        show ct_K6 T' N C (some (.int ((cm_wi (cm_wi (bgF 8 (cm_wr (cm_wr (cm_wi (fr 6 (gb 6 T' E)) 0 12 (E.1 2 9)) 0 4 (some T')) 0 3 (some 6))) 38 3 0) 38 4 0).1 6 3))) (cm_wi (cm_wi (cm_wi (bgF 8 (cm_wr (cm_wr (cm_wi (fr 6 (gb 6 T' E)) 0 12 (E.1 2 9)) 0 4 (some T')) 0 3 (some 6))) 38 3 0) 38 4 0) 0 14 0)
        exact ⟨X, E, hX, hE, fun q => absurd (by rw [← hE]; exact z) q, fun _ => ⟨by rw [← hE]; try rfl, rfl⟩⟩
      · have z := fn_ne0 h3
        show ∃ R, cm_Lc cm_ms 65 [.ref 2] (cm_wi (fr 6 (gb 6 T' E)) 0 12 (E.1 2 9)) R ∧ ∀ v M', R v M' → _
        refine ⟨_, f_place _, ?_⟩
        rintro v M' ⟨rfl, rfl⟩
        show ∃ R, cm_Lc cm_ms 157 [.ref 0, .int 4] (cm_wi (cm_wi (fr 6 (gb 6 T' E)) 0 12 (E.1 2 9)) 0 13 (E.1 2 4)) R ∧ ∀ v M', R v M' → _
        refine ⟨_, f_refused 4 _, ?_⟩
        rintro v M' ⟨rfl, rfl⟩
        show ct_K6 T' N C (some (.int (-1))) (cm_wi (cm_wi (cm_wi (fr 6 (gb 6 T' E)) 0 12 (E.1 2 9)) 0 13 (E.1 2 4)) 0 14 4)
        exact ⟨X, E, hX, hE, fun _ => ⟨rfl, rfl⟩, fun q => absurd (by rw [hE]; exact q) z⟩
    · have g := fn_nle h2
      rw [fn_toInt (by omega)] at g
      omega
set_option maxRecDepth 100000 in
set_option maxHeartbeats 4000000 in
theorem f_begin190 (M : cm_M) : cm_Lc cm_ms 22 [.ref 32, .ref 19] (bs 19 21 M) (fun v M' => v = none ∧ M' = bgF 21 (bs 19 21 M)) := by
  refine lb_st0 (mi := mr_22) rfl 120 ?_
  show (ev_cmp 3 (0 : Int32) 3 = true → _) ∧ (ev_cmp 3 (0 : Int32) 3 = false → _)
  refine ⟨fun q => absurd q (by decide), fun _ => ?_⟩
  show (ev_cmp 3 (1 : Int32) 3 = true → _) ∧ (ev_cmp 3 (1 : Int32) 3 = false → _)
  refine ⟨fun q => absurd q (by decide), fun _ => ?_⟩
  show (ev_cmp 3 (2 : Int32) 3 = true → _) ∧ (ev_cmp 3 (2 : Int32) 3 = false → _)
  refine ⟨fun q => absurd q (by decide), fun _ => ?_⟩
  show (ev_cmp 3 (3 : Int32) 3 = true → _) ∧ (ev_cmp 3 (3 : Int32) 3 = false → _)
  refine ⟨fun _ => ?_, fun q => absurd q (by decide)⟩
  exact ⟨rfl, rfl⟩
theorem f_begin19 {M : cm_M} (h1 : M.2.2 19 5 = some 21) (h2 : M.2.2 32 0 = some 33) (h3 : M.2.2 32 1 = some 34) : cm_Lc cm_ms 22 [.ref 32, .ref 19] M (fun v M' => v = none ∧ M' = bgF 21 M) := by
  have q := f_begin190 M
  rw [bs_eq h1 h2 h3] at q
  exact q
noncomputable def ct_B19 (T' : Nat) (E M' : cm_M) : Prop := M' = cm_wi (cm_wi (cm_wi (fr 19 (gb 19 T' E)) 0 12 (E.1 2 9)) 0 13 (E.1 2 4)) 0 14 4
noncomputable def ct_G19 (T' : Nat) (E M' : cm_M) : Prop := M' = cm_wi (cm_wi (cm_wi (bgF 21 (cm_wr (cm_wr (cm_wi (fr 19 (gb 19 T' E)) 0 12 (E.1 2 9)) 0 4 (some T')) 0 3 (some 19))) 38 3 0) 38 4 0) 0 14 0
noncomputable abbrev ct_K19 (T' N : Nat) (C : cm_M) : cm_K := fun v M' => ∃ X E, Ex 19 N (rd0 19 (Int32.ofNat N) (gb 19 T' (cm_wi C 0 1 0))) X ∧ E.1 = (fin 19 X).1 ∧ ((fin 19 X).1 2 9 ≠ 0 → v = some (.int (-1)) ∧ ct_B19 T' E M') ∧ ((fin 19 X).1 2 9 = 0 → v = some (.int ((fin 19 X).1 19 3)) ∧ ct_G19 T' E M')
set_option maxRecDepth 100000 in
set_option maxHeartbeats 4000000 in
theorem c_town19 {T' N : Nat} {C : cm_M} (hN : N ≤ 900) (ht : (N : Int) ≤ (C.1 0 1).toInt) : cm_Lc cm_ms 95 [.ref 0, .int (Int32.ofNat N)] (fb (gb 19 T' C)) (ct_K19 T' N C) := by
  refine lb_st0 (mi := mr_95) rfl 120 ?_
  show (ev_cmp 2 (Int32.ofNat N) 0 = true → _) ∧ (ev_cmp 2 (Int32.ofNat N) 0 = false → _)
  refine ⟨fun h1 => ?_, fun h1 => ?_⟩
  · have g := fn_lt h1
    rw [fn_toInt (by omega), show (0 : Int32).toInt = 0 from by decide] at g
    omega
  · show (ev_cmp 5 (Int32.ofNat N) (C.1 0 1) = true → _) ∧ (ev_cmp 5 (Int32.ofNat N) (C.1 0 1) = false → _)
    refine ⟨fun h2 => ?_, fun h2 => ?_⟩
    · show ∃ R, cm_Lc cm_ms 64 [.ref 2, .ref 1, .int (Int32.ofNat N), .ref 19] (cm_wi (fb (gb 19 T' C)) 0 1 0) R ∧ ∀ v M', R v M' → _
      refine ⟨_, cm_Lc_im (f_read19 (N := N) (C := gb 19 T' (cm_wi C 0 1 0)) hN) (fun v M' q => rg_of (by decide) q), ?_⟩
      rintro v M' ⟨X, E, hX, hE, rfl, rfl⟩
      show (ev_cmp 0 (E.1 2 9) 0 = true → _) ∧ (ev_cmp 0 (E.1 2 9) 0 = false → _)
      refine ⟨fun h3 => ?_, fun h3 => ?_⟩
      · have z := fn_eq0 h3
        show ∃ R, cm_Lc cm_ms 22 [.ref 32, .ref 19] (cm_wr (cm_wr (cm_wi (fr 19 (gb 19 T' E)) 0 12 (E.1 2 9)) 0 4 (some T')) 0 3 (some 19)) R ∧ ∀ v M', R v M' → _
        refine ⟨_, f_begin19 rfl rfl rfl, ?_⟩
        rintro v M' ⟨rfl, rfl⟩
        show ∃ R, cm_Lc cm_ms 38 [.ref 38] (bgF 21 (cm_wr (cm_wr (cm_wi (fr 19 (gb 19 T' E)) 0 12 (E.1 2 9)) 0 4 (some T')) 0 3 (some 19))) R ∧ ∀ v M', R v M' → _
        refine ⟨_, f_forget _, ?_⟩
        rintro v M' ⟨rfl, rfl⟩
        show ∃ R, cm_Lc cm_ms 159 [.ref 0, .int ((cm_wi (cm_wi (bgF 21 (cm_wr (cm_wr (cm_wi (fr 19 (gb 19 T' E)) 0 12 (E.1 2 9)) 0 4 (some T')) 0 3 (some 19))) 38 3 0) 38 4 0).1 19 3)] (cm_wi (cm_wi (bgF 21 (cm_wr (cm_wr (cm_wi (fr 19 (gb 19 T' E)) 0 12 (E.1 2 9)) 0 4 (some T')) 0 3 (some 19))) 38 3 0) 38 4 0) R ∧ ∀ v M', R v M' → _
        refine ⟨_, f_granted _ _, ?_⟩
        rintro v M' ⟨rfl, rfl⟩
        show ct_K19 T' N C (some (.int ((cm_wi (cm_wi (bgF 21 (cm_wr (cm_wr (cm_wi (fr 19 (gb 19 T' E)) 0 12 (E.1 2 9)) 0 4 (some T')) 0 3 (some 19))) 38 3 0) 38 4 0).1 19 3))) (cm_wi (cm_wi (cm_wi (bgF 21 (cm_wr (cm_wr (cm_wi (fr 19 (gb 19 T' E)) 0 12 (E.1 2 9)) 0 4 (some T')) 0 3 (some 19))) 38 3 0) 38 4 0) 0 14 0)
        exact ⟨X, E, hX, hE, fun q => absurd (by rw [← hE]; exact z) q, fun _ => ⟨by rw [← hE]; try rfl, rfl⟩⟩
      · have z := fn_ne0 h3
        show ∃ R, cm_Lc cm_ms 65 [.ref 2] (cm_wi (fr 19 (gb 19 T' E)) 0 12 (E.1 2 9)) R ∧ ∀ v M', R v M' → _
        refine ⟨_, f_place _, ?_⟩
        rintro v M' ⟨rfl, rfl⟩
        show ∃ R, cm_Lc cm_ms 157 [.ref 0, .int 4] (cm_wi (cm_wi (fr 19 (gb 19 T' E)) 0 12 (E.1 2 9)) 0 13 (E.1 2 4)) R ∧ ∀ v M', R v M' → _
        refine ⟨_, f_refused 4 _, ?_⟩
        rintro v M' ⟨rfl, rfl⟩
        show ct_K19 T' N C (some (.int (-1))) (cm_wi (cm_wi (cm_wi (fr 19 (gb 19 T' E)) 0 12 (E.1 2 9)) 0 13 (E.1 2 4)) 0 14 4)
        exact ⟨X, E, hX, hE, fun _ => ⟨rfl, rfl⟩, fun q => absurd (by rw [hE]; exact q) z⟩
    · have g := fn_nle h2
      rw [fn_toInt (by omega)] at g
      omega
theorem c_town2 {n : Int32} {M : cm_M} (hn : ¬ (0 ≤ n.toInt ∧ n.toInt ≤ (M.1 0 1).toInt)) : cm_Lc cm_ms 95 [.ref 0, .int n] M (fun v M' => v = some (.int (-1)) ∧ M' = cm_wi M 0 14 2) := by
  refine lb_of (mi := mr_95) rfl [(12, [0])] (fun S => S = (12, [(0, .ref 0)], [], M)) 20 (fun S hS => ?_) 20 ?_
  · subst hS
    show ∃ R, cm_Lc cm_ms 157 [.ref 0, .int 2] M R ∧ ∀ v M', R v M' → _
    refine ⟨_, f_refused 2 M, ?_⟩
    rintro v M' ⟨rfl, rfl⟩
    exact ⟨rfl, rfl⟩
  · show (ev_cmp 2 n 0 = true → _) ∧ (ev_cmp 2 n 0 = false → (ev_cmp 5 n (M.1 0 1) = true → _) ∧ (ev_cmp 5 n (M.1 0 1) = false → _))
    refine ⟨fun _ => rfl, fun q1 => ⟨fun q2 => ?_, fun _ => rfl⟩⟩
    have g1 := fn_nlt q1
    have g2 := fn_le q2
    have z0 : (0 : Int32).toInt = 0 := by decide
    exact absurd ⟨by omega, g2⟩ hn
