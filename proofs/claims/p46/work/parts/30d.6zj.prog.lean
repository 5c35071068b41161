/-- the place grows; what stays -/
noncomputable def PG (T N : Nat) (C C' : cm_M) : Prop := (RC N C → RC N C' ∧ (C.1 2 2).toNatClampNeg ≤ (C'.1 2 2).toNatClampNeg) ∧ C'.2.2 = C.2.2 ∧ ∀ c j, ¬ (2 ≤ c ∧ c ≤ 5) → ¬ (T ≤ c ∧ c ≤ T + 12) → C'.1 c j = C.1 c j
theorem PG_rfl {T N : Nat} {C : cm_M} : PG T N C C := ⟨fun h => ⟨h, Nat.le_refl _⟩, rfl, fun _ _ _ _ => rfl⟩
theorem PG_tr {T N : Nat} {A B C : cm_M} (h : PG T N A B) (h2 : PG T N B C) : PG T N A C := ⟨fun q => ⟨(h2.1 (h.1 q).1).1, Nat.le_trans (h.1 q).2 (h2.1 (h.1 q).1).2⟩, h2.2.1.trans h.2.1, fun c j a b => (h2.2.2 c j a b).trans (h.2.2 c j a b)⟩
theorem wi_ne {C : cm_M} {c i x y : Nat} {v : Int32} (h : x ≠ c) : (cm_wi C c i v).1 x y = C.1 x y := by
  show (if x = c ∧ y = i then _ else _) = _
  rw [if_neg (fun q => h q.1)]
theorem PG_fail {T N : Nat} {x : Int32} {C : cm_M} : PG T N C (cF_fail x C) := by
  refine ⟨fun h => ⟨RC_fail x h, ?_⟩, ?_, fun c j a b => ?_⟩
  · unfold cF_fail
    split <;> exact Nat.le_refl _
  · unfold cF_fail
    split <;> rfl
  · unfold cF_fail
    split
    · exact wi_ne (by omega)
    · rfl
/-- a token: where it ends -/
theorem step_nx {N : Nat} {C : cm_M} (h : rs_ok N C) (h0 : C.1 2 9 = 0) : (C.1 2 2).toNatClampNeg ≤ ((cF_step N C).1 2 2).toNatClampNeg ∧ ((cF_step N C).1 2 3 ≠ 0 → (C.1 2 2).toNatClampNeg < ((cF_step N C).1 2 2).toNatClampNeg) := by
  obtain ⟨h1, h2, h3, k, h4, h5⟩ := h
  have ht : tk_Q (C.1 1) N k (cF_tok N C) := by
    unfold cF_tok
    rw [h5, fn_nat (by omega)]
    exact tk_of_ok h4
  have es : cF_step N C = tk_m C (cF_tok N C).1 (cF_tok N C).2.1 (cF_tok N C).2.2.1 (cF_tok N C).2.2.2.1 (cF_tok N C).2.2.2.2 := by
    unfold cF_step
    rw [if_pos h0]
  rw [es, h5, fn_nat (by omega)]
  generalize cF_tok N C = t at ht
  obtain ⟨s, e, kd, va, wd⟩ := t
  obtain ⟨q1, q2⟩ := ht
  dsimp only at q1 q2 ⊢
  have eN : e ≤ N := tk_k_e q1.2.1 q2
  show k ≤ (Int32.ofNat e).toNatClampNeg ∧ (kd ≠ 0 → k < (Int32.ofNat e).toNatClampNeg)
  rw [fn_nat (by omega)]
  have ks := q1.1
  rcases q2 with ⟨a1, rfl, a3, -⟩ | ⟨a1, a2, a3, -⟩ | ⟨a1, a2, a3, a4, -⟩ | ⟨a1, a2, a3, rfl, -⟩
  · exact ⟨ks, fun q => absurd a3 q⟩
  · have hse : s < e := by
      rcases Nat.lt_or_ge s e with q | q
      · exact q
      · have e1 : s = e := Nat.le_antisymm a3.1 q
        have h6 := a3.2.2.2 (by omega)
        rw [← e1, a2] at h6
        cases h6
    exact ⟨by omega, fun _ => by omega⟩
  · have hse : s < e := by
      rcases Nat.lt_or_ge s e with q | q
      · exact q
      · have e1 : s = e := Nat.le_antisymm a4.1 q
        have h6 := a4.2.2.2 (by omega)
        rw [← e1, a3] at h6
        cases h6
    exact ⟨by omega, fun _ => by omega⟩
  · exact ⟨by omega, fun _ => by omega⟩
theorem PG_step {T N : Nat} {C : cm_M} : PG T N C (cF_step N C) := by
  refine ⟨fun h => ⟨RC_step h, ?_⟩, ?_, fun c j a b => ?_⟩
  · by_cases h0 : C.1 2 9 = 0
    · exact (step_nx h.1 h0).1
    · rw [cF_step_id h0]
      exact Nat.le_refl _
  · unfold cF_step
    split <;> rfl
  · unfold cF_step
    split
    · show (cm_wi (cm_wi (cm_wi (cm_wi C 2 4 _) 2 5 _) 2 2 _) 2 3 _).1 c j = _
      rw [wi_ne (by omega), wi_ne (by omega), wi_ne (by omega), wi_ne (by omega)]
    · rfl
theorem PG_w {T N c i : Nat} {v : Int32} {C : cm_M} (hc : 6 ≤ T ∧ T ≤ c ∧ c ≤ T + 12) : PG T N C (cm_wi C c i v) := by
  have e : ∀ j, (cm_wi C c i v).1 2 j = C.1 2 j := fun j => wi_ne (by omega)
  refine ⟨fun h => ?_, rfl, fun x j a b => wi_ne (by omega)⟩
  obtain ⟨⟨h1, h2, h3, k, h4, h5⟩, nn, h6, h7⟩ := h
  exact ⟨⟨⟨h1, (e 1).trans h2, h3, k, h4, (e 2).trans h5⟩, nn, h6, (e 10).trans h7⟩, by rw [e]; exact Nat.le_refl _⟩
theorem PG_8 {T N : Nat} {v : Int32} {C : cm_M} : PG T N C (cm_wi C 2 8 v) := ⟨fun h => ⟨h, Nat.le_refl _⟩, rfl, fun c j a b => wi_ne (by omega)⟩
theorem PG_takeWord {T N t : Nat} {C : cm_M} : PG T N C (cF_takeWord N t C) := by
  unfold cF_takeWord cF_due
  split
  · exact PG_step
  · exact PG_tr PG_fail PG_step
theorem PG_takeWhole {T N : Nat} {lo hi : Int32} {C : cm_M} : PG T N C (cF_takeWhole N lo hi C) := by
  unfold cF_takeWhole cF_whole
  split
  · split
    · exact PG_tr PG_fail PG_step
    · exact PG_step
  · exact PG_tr PG_fail PG_step
theorem PG_colour {T N : Nat} {C : cm_M} : PG T N C (cF_colour C) := by
  rcases col_cs C with q | q
  · rw [q.1]
    exact PG_rfl
  · rw [q.1]
    exact PG_fail
theorem PG_told {T N : Nat} {so : Int32} {C : cm_M} : PG T N C (cF_told so C) := by
  unfold cF_told
  split
  · split
    · exact PG_fail
    · exact PG_rfl
  · exact PG_fail
theorem PG_chk {T N : Nat} {C : cm_M} : PG T N C (cF_newChk C) := by
  unfold cF_newChk
  split
  · split
    · exact PG_rfl
    · exact PG_fail
  · exact PG_fail
theorem PG_newName {T N : Nat} {so nu : Int32} {C : cm_M} : PG T N C (cF_newName N so nu C) := by
  have h2 : (cF_put so nu (cF_newChk C)).1 2 2 = (cF_newChk C).1 2 2 := by
    unfold cF_put
    split <;> rfl
  have h3 : (cF_newChk C).1 2 2 = C.1 2 2 := by
    unfold cF_newChk cF_fail
    repeat' split
    all_goals rfl
  refine ⟨fun h => ⟨RC_newName h, ?_⟩, ?_, fun c j a b => ?_⟩
  · have r1 : rs_ok N (cF_newChk C) := ((PG_chk (T := T) (N := N) (C := C)).1 h).1.1
    unfold cF_newName
    rw [← h3, ← h2]
    by_cases h0 : (cF_put so nu (cF_newChk C)).1 2 9 = 0
    · exact (step_nx (rs_put so nu r1) h0).1
    · rw [cF_step_id h0]
      exact Nat.le_refl _
  · unfold cF_newName
    rw [(PG_step (T := T)).2.1]
    refine Eq.trans ?_ (PG_chk (T := T) (N := N)).2.1
    unfold cF_put
    split <;> rfl
  · unfold cF_newName
    rw [(PG_step (T := T)).2.2 c j a b]
    refine Eq.trans ?_ ((PG_chk (T := T) (N := N)).2.2 c j a b)
    unfold cF_put
    split
    · show (cm_wi (cm_wi (cm_wi (cm_wl (cF_newChk C) 3 _ _) 4 _ _) 5 _ _) 2 10 _).1 c j = _
      rw [wi_ne (by omega), wi_ne (by omega), wi_ne (by omega)]
      try rfl
    · rfl
theorem PG_man {T N : Nat} {C : cm_M} (hT : 6 ≤ T) : PG T N C (cF_man T N C) := by
  have k : PG T N C (cF_takeWhole N 0 9 (cF_takeWord N 15 (cF_takeWhole N 0 99 (cF_takeWord N 14 (cF_step N (cF_colour (cF_newName N 1 (C.1 T 3) C))))))) := PG_tr PG_newName (PG_tr PG_colour (PG_tr PG_step (PG_tr PG_takeWord (PG_tr PG_takeWhole (PG_tr PG_takeWord PG_takeWhole)))))
  unfold cF_man
  dsimp only
  split
  · refine PG_tr k ?_
    unfold cF_addMan
    split
    · exact PG_rfl
    · exact PG_tr (PG_tr (PG_tr (PG_tr (PG_tr (PG_w (by omega)) (PG_w (by omega))) (PG_w (by omega))) (PG_w (by omega))) (PG_w (by omega))) (PG_w (by omega))
  · exact k
theorem PG_motion {T N : Nat} {C : cm_M} (hT : 6 ≤ T) : PG T N C (cF_motion T N C) := by
  have k : PG T N C (cF_takeWhole N 0 99 (cF_takeWord N 18 (cF_takeWhole N 0 54 (cF_takeWord N 17 (cF_takeWhole N 1 30 (cF_takeWord N 16 (cF_newName N 2 (C.1 T 9) C))))))) := PG_tr PG_newName (PG_tr PG_takeWord (PG_tr PG_takeWhole (PG_tr PG_takeWord (PG_tr PG_takeWhole (PG_tr PG_takeWord PG_takeWhole)))))
  unfold cF_motion
  dsimp only
  split
  · refine PG_tr k ?_
    unfold cF_addMotion
    split
    · exact PG_rfl
    · exact PG_tr (PG_tr (PG_tr (PG_tr (PG_w (by omega)) (PG_w (by omega))) (PG_w (by omega))) (PG_w (by omega))) (PG_w (by omega))
  · exact k
theorem PG_chair {T N : Nat} {C : cm_M} (hT : 6 ≤ T) : PG T N C (cF_chair T N C) := by
  have k : PG T N C (cF_takeWhole N 0 99 (cF_takeWord N 19 (cF_newName N 6 (C.1 T 15) C))) := PG_tr PG_newName (PG_tr PG_takeWord PG_takeWhole)
  unfold cF_chair
  dsimp only
  split
  · refine PG_tr k ?_
    unfold cF_addChair
    split
    · exact PG_rfl
    · exact PG_tr (PG_w (by omega)) (PG_w (by omega))
  · exact k
theorem PG_town {T N : Nat} {C : cm_M} (hT : 6 ≤ T) : PG T N C (cF_town T N C) := by
  unfold cF_town
  dsimp only
  exact PG_tr (PG_tr (PG_tr (PG_tr PG_takeWord PG_takeWhole) (PG_tr (PG_w (by omega)) (PG_tr PG_takeWord PG_takeWhole))) (PG_tr (PG_w (by omega)) (PG_tr PG_takeWord PG_takeWhole))) (PG_tr (PG_w (by omega)) PG_8)
theorem PG_against {T N : Nat} {C : cm_M} (hT : 6 ≤ T) : PG T N C (cF_against T N C) := by
  have k : PG T N C (cF_told 2 (cF_step N (cF_told 1 C))) := PG_tr PG_told (PG_tr PG_step PG_told)
  unfold cF_against
  dsimp only
  split
  · exact k
  · split
    · exact k
    · split
      · exact PG_tr k (PG_tr (PG_w (by omega)) PG_step)
      · exact PG_tr k PG_fail
theorem PG_amends {T N : Nat} {C : cm_M} (hT : 6 ≤ T) : PG T N C (cF_amends T N C) := by
  have k : PG T N C (cF_told 2 (cF_step N (cF_told 2 C))) := PG_tr PG_told (PG_tr PG_step PG_told)
  unfold cF_amends
  dsimp only
  split
  · exact k
  · split
    · exact k
    · split
      · split
        · exact PG_tr k PG_fail
        · exact PG_tr k (PG_tr (PG_w (by omega)) PG_step)
      · exact PG_tr k PG_fail
theorem PG_quarrel {T N : Nat} {C : cm_M} (hT : 6 ≤ T) : PG T N C (cF_quarrel T N C) := by
  have k : PG T N C (cF_told 1 (cF_step N (cF_told 1 C))) := PG_tr PG_told (PG_tr PG_step PG_told)
  unfold cF_quarrel
  dsimp only
  split
  · exact k
  · split
    · exact k
    · split
      · exact PG_tr k PG_fail
      · split
        · refine PG_tr k (PG_tr ?_ PG_step)
          unfold cF_qput
          exact PG_tr (PG_w (by omega)) (PG_w (by omega))
        · exact PG_tr k PG_fail
theorem PG_heap {T N : Nat} {C : cm_M} (hT : 6 ≤ T) : PG T N C (cF_heap T N C) := by
  have k2 : PG T N C (cF_takeWhole N 0 999 (cF_step N (cF_colour C))) := PG_tr PG_colour (PG_tr PG_step PG_takeWhole)
  unfold cF_heap
  dsimp only
  split
  · exact PG_colour
  · split
    · split
      · split
        · exact k2
        · refine PG_tr k2 ?_
          unfold cF_hput
          exact PG_tr (PG_w (by omega)) (PG_w (by omega))
      · exact k2
    · exact PG_tr PG_colour PG_fail
theorem PG_G {T N : Nat} {b : Bool} {g : Nat → cm_M → cm_M} {C : cm_M} (h : ∀ X, PG T N X (g N X)) : PG T N C (rl_G g N b C) := by
  unfold rl_G
  split
  · exact PG_fail
  · split
    · exact PG_fail
    · exact PG_tr PG_step (h _)
theorem PG_rl {T N : Nat} {C : cm_M} (hT : 6 ≤ T) : PG T N C (rl_F T N C) := by
  unfold rl_F
  split
  · exact PG_fail
  · split
    · unfold tl_F
      split
      · exact PG_tr PG_step (PG_town hT)
      · exact PG_fail
    · split
      · exact PG_G (fun _ => PG_man hT)
      · split
        · exact PG_G (fun _ => PG_motion hT)
        · split
          · exact PG_G (fun _ => PG_against hT)
          · split
            · exact PG_G (fun _ => PG_amends hT)
            · split
              · exact PG_G (fun _ => PG_quarrel hT)
              · split
                · exact PG_G (fun _ => PG_chair hT)
                · exact PG_G (fun _ => PG_heap hT)
noncomputable def rB (T N : Nat) (C : cm_M) : cm_M := rl_F T N (cF_step N C)
noncomputable def itr (T N : Nat) (C : cm_M) : Nat → cm_M
  | 0 => C
  | k + 1 => rB T N (itr T N C k)
theorem wt_k {t : Nat} {C : cm_M} (h : wt t C = true) : C.1 2 3 = 1 := of_decide_eq_true (and_l h)
theorem ln_k {C : cm_M} (h : C.1 2 3 ≠ 1) : cF_line C = -1 := ln_none 8 0 (fun i _ _ => Bool.eq_false_iff.mpr (fun q => h (wt_k q)))
theorem rB_nx {T N : Nat} {C : cm_M} (hT : 6 ≤ T) (h : RC N C) (h0 : C.1 2 9 = 0) (h1 : (rB T N C).1 2 9 = 0) : (C.1 2 2).toNatClampNeg < ((rB T N C).1 2 2).toNatClampNeg := by
  have hk : (cF_step N C).1 2 3 ≠ 0 := fun q => by
    unfold rB at h1
    rw [rl_atn (ln_k (by rw [q]; decide))] at h1
    exact absurd h1 (cF_fail_9n (by decide))
  exact Nat.lt_of_lt_of_le ((step_nx h.1 h0).2 hk) ((PG_rl hT).1 (RC_step h)).2
theorem itr_rs {T N : Nat} {C : cm_M} (hT : 6 ≤ T) (h : RC N C) : ∀ k, RC N (itr T N C k)
  | 0 => h
  | k + 1 => ((PG_rl hT).1 (RC_step (itr_rs hT h k))).1
theorem itr_nx {T N : Nat} {C : cm_M} (hT : 6 ≤ T) (h : RC N C) : ∀ k, (∀ i, i ≤ k → (itr T N C i).1 2 9 = 0) → k ≤ ((itr T N C k).1 2 2).toNatClampNeg
  | 0, _ => Nat.zero_le _
  | k + 1, ha => by
    have h1 := itr_nx hT h k (fun i hi => ha i (by omega))
    have h2 := rB_nx hT (itr_rs hT h k) (ha k (by omega)) (ha (k + 1) (Nat.le_refl _))
    have h3 : itr T N C (k + 1) = rB T N (itr T N C k) := rfl
    rw [h3]
    omega
theorem rs_nx {N : Nat} {C : cm_M} (h : rs_ok N C) : (C.1 2 2).toNatClampNeg ≤ N ∧ N ≤ 900 := by
  obtain ⟨h1, h2, h3, k, h4, h5⟩ := h
  rw [h5, fn_nat (by omega)]
  exact ⟨h4, h3⟩
noncomputable def lc (C : cm_M) : Prop := C.1 2 9 = 0 ∧ C.1 2 3 = 3
/-- where the lines end -/
noncomputable def Ex (T N : Nat) (C X : cm_M) : Prop := ∃ k, X = itr T N C (k + 1) ∧ (∀ i, i < k → lc (itr T N C (i + 1))) ∧ ¬ lc X
theorem Ex_uni {T N : Nat} {C X Y : cm_M} (h : Ex T N C X) (h2 : Ex T N C Y) : X = Y := by
  obtain ⟨k, rfl, a2, a3⟩ := h
  obtain ⟨j, rfl, b2, b3⟩ := h2
  rcases Nat.lt_trichotomy k j with q | q | q
  · exact absurd (b2 k q) a3
  · rw [q]
  · exact absurd (a2 j q) b3
theorem itr_900 {T N : Nat} {C : cm_M} (hT : 6 ≤ T) (h : RC N C) (h0 : C.1 2 9 = 0) {k : Nat} (ha : ∀ i, i < k → lc (itr T N C (i + 1))) (hk : (itr T N C (k + 1)).1 2 9 = 0) : k < 900 := by
  have h1 := itr_nx hT h (k + 1) (fun i hi => by
    rcases (by omega : i = 0 ∨ i = k + 1 ∨ (0 < i ∧ i ≤ k)) with q | q | q
    · rw [q]; exact h0
    · rw [q]; exact hk
    · have := ha (i - 1) (by omega)
      rw [show i - 1 + 1 = i from by omega] at this
      exact this.1)
  have h2 := rs_nx (itr_rs hT h (k + 1)).1
  omega
theorem PG_itr {T N : Nat} {C : cm_M} (hT : 6 ≤ T) : ∀ k, PG T N C (itr T N C k)
  | 0 => PG_rfl
  | k + 1 => PG_tr (PG_itr hT k) (PG_tr PG_step (PG_rl hT))
theorem PG_Ex {T N : Nat} {C X : cm_M} (hT : 6 ≤ T) (h : Ex T N C X) : PG T N C X := by
  obtain ⟨k, rfl, -⟩ := h
  exact PG_itr hT _
noncomputable def fb (C : cm_M) : cm_M := (C.1, C.2.1, fun c i => if c = 2 then (if i = 11 then some 3 else if i = 12 then some 4 else if i = 13 then some 5 else C.2.2 2 i) else if c = 6 then (if i = 4 then some 7 else if i = 5 then some 8 else if i = 6 then some 9 else if i = 7 then some 10 else if i = 8 then some 11 else if i = 10 then some 12 else if i = 11 then some 13 else if i = 12 then some 14 else if i = 13 then some 15 else if i = 14 then some 16 else if i = 16 then some 17 else if i = 17 then some 18 else C.2.2 6 i) else if c = 19 then (if i = 4 then some 20 else if i = 5 then some 21 else if i = 6 then some 22 else if i = 7 then some 23 else if i = 8 then some 24 else if i = 10 then some 25 else if i = 11 then some 26 else if i = 12 then some 27 else if i = 13 then some 28 else if i = 14 then some 29 else if i = 16 then some 30 else if i = 17 then some 31 else C.2.2 19 i) else C.2.2 c i)
set_option maxRecDepth 100000 in
theorem fb_fr (T : Nat) (C : cm_M) (x y : Int32) : cm_wr (cm_wi (cm_wi (cm_wr (fb C) 2 0 (some 1)) 2 1 x) 2 2 y) 2 7 (some T) = fr T (cm_wi (cm_wi C 2 1 x) 2 2 y) := by
  refine Prod.ext rfl (Prod.ext rfl (funext fun c => funext fun i => ?_))
  by_cases hc : c = 2
  · subst hc
    by_cases h7 : i = 7
    · subst h7
      rfl
    · by_cases h0 : i = 0
      · subst h0
        rfl
      · show (if 2 = 2 ∧ i = 7 then some T else if 2 = 2 ∧ i = 0 then some 1 else (if i = 11 then some 3 else if i = 12 then some 4 else if i = 13 then some 5 else C.2.2 2 i)) = (if i = 7 then some T else if i = 0 then some 1 else if i = 11 then some 3 else if i = 12 then some 4 else if i = 13 then some 5 else C.2.2 2 i)
        rw [if_neg (fun q => h7 q.2), if_neg (fun q => h0 q.2), if_neg h7, if_neg h0]
  · show (if c = 2 ∧ i = 7 then some T else if c = 2 ∧ i = 0 then some 1 else (fb C).2.2 c i) = (fr T C).2.2 c i
    rw [if_neg (fun q => hc q.1), if_neg (fun q => hc q.1)]
    show (if c = 2 then _ else _) = (if c = 2 then _ else _)
    rw [if_neg hc, if_neg hc]
set_option maxRecDepth 100000 in
theorem fr_fr (T : Nat) (C : cm_M) : fr T (fr T C) = fr T C := by
  refine Prod.ext rfl (Prod.ext rfl (funext fun c => funext fun i => ?_))
  by_cases h2 : c = 2
  · subst h2
    show (if i = 7 then some T else if i = 0 then some 1 else if i = 11 then some 3 else if i = 12 then some 4 else if i = 13 then some 5 else (if i = 7 then some T else if i = 0 then some 1 else if i = 11 then some 3 else if i = 12 then some 4 else if i = 13 then some 5 else C.2.2 2 i)) = (if i = 7 then some T else if i = 0 then some 1 else if i = 11 then some 3 else if i = 12 then some 4 else if i = 13 then some 5 else C.2.2 2 i)
    repeat' split
    all_goals rfl
  · by_cases h6 : c = 6
    · subst h6
      show (if i = 4 then some 7 else if i = 5 then some 8 else if i = 6 then some 9 else if i = 7 then some 10 else if i = 8 then some 11 else if i = 10 then some 12 else if i = 11 then some 13 else if i = 12 then some 14 else if i = 13 then some 15 else if i = 14 then some 16 else if i = 16 then some 17 else if i = 17 then some 18 else  (if i = 4 then some 7 else if i = 5 then some 8 else if i = 6 then some 9 else if i = 7 then some 10 else if i = 8 then some 11 else if i = 10 then some 12 else if i = 11 then some 13 else if i = 12 then some 14 else if i = 13 then some 15 else if i = 14 then some 16 else if i = 16 then some 17 else if i = 17 then some 18 else  C.2.2 6 i)) = (if i = 4 then some 7 else if i = 5 then some 8 else if i = 6 then some 9 else if i = 7 then some 10 else if i = 8 then some 11 else if i = 10 then some 12 else if i = 11 then some 13 else if i = 12 then some 14 else if i = 13 then some 15 else if i = 14 then some 16 else if i = 16 then some 17 else if i = 17 then some 18 else  C.2.2 6 i)
      by_cases q4 : i = 4
      · rw [if_pos q4, if_pos q4]
      rw [if_neg q4, if_neg q4]
      by_cases q5 : i = 5
      · rw [if_pos q5, if_pos q5]
      rw [if_neg q5, if_neg q5]
      by_cases q6 : i = 6
      · rw [if_pos q6, if_pos q6]
      rw [if_neg q6, if_neg q6]
      by_cases q7 : i = 7
      · rw [if_pos q7, if_pos q7]
      rw [if_neg q7, if_neg q7]
      by_cases q8 : i = 8
      · rw [if_pos q8, if_pos q8]
      rw [if_neg q8, if_neg q8]
      by_cases q10 : i = 10
      · rw [if_pos q10, if_pos q10]
      rw [if_neg q10, if_neg q10]
      by_cases q11 : i = 11
      · rw [if_pos q11, if_pos q11]
      rw [if_neg q11, if_neg q11]
      by_cases q12 : i = 12
      · rw [if_pos q12, if_pos q12]
      rw [if_neg q12, if_neg q12]
      by_cases q13 : i = 13
      · rw [if_pos q13, if_pos q13]
      rw [if_neg q13, if_neg q13]
      by_cases q14 : i = 14
      · rw [if_pos q14, if_pos q14]
      rw [if_neg q14, if_neg q14]
      by_cases q16 : i = 16
      · rw [if_pos q16, if_pos q16]
      rw [if_neg q16, if_neg q16]
      by_cases q17 : i = 17
      · rw [if_pos q17, if_pos q17]
      rw [if_neg q17, if_neg q17]
    · by_cases h19 : c = 19
      · subst h19
        show (if i = 4 then some 20 else if i = 5 then some 21 else if i = 6 then some 22 else if i = 7 then some 23 else if i = 8 then some 24 else if i = 10 then some 25 else if i = 11 then some 26 else if i = 12 then some 27 else if i = 13 then some 28 else if i = 14 then some 29 else if i = 16 then some 30 else if i = 17 then some 31 else  (if i = 4 then some 20 else if i = 5 then some 21 else if i = 6 then some 22 else if i = 7 then some 23 else if i = 8 then some 24 else if i = 10 then some 25 else if i = 11 then some 26 else if i = 12 then some 27 else if i = 13 then some 28 else if i = 14 then some 29 else if i = 16 then some 30 else if i = 17 then some 31 else  C.2.2 19 i)) = (if i = 4 then some 20 else if i = 5 then some 21 else if i = 6 then some 22 else if i = 7 then some 23 else if i = 8 then some 24 else if i = 10 then some 25 else if i = 11 then some 26 else if i = 12 then some 27 else if i = 13 then some 28 else if i = 14 then some 29 else if i = 16 then some 30 else if i = 17 then some 31 else  C.2.2 19 i)
        by_cases q4 : i = 4
        · rw [if_pos q4, if_pos q4]
        rw [if_neg q4, if_neg q4]
        by_cases q5 : i = 5
        · rw [if_pos q5, if_pos q5]
        rw [if_neg q5, if_neg q5]
        by_cases q6 : i = 6
        · rw [if_pos q6, if_pos q6]
        rw [if_neg q6, if_neg q6]
        by_cases q7 : i = 7
        · rw [if_pos q7, if_pos q7]
        rw [if_neg q7, if_neg q7]
        by_cases q8 : i = 8
        · rw [if_pos q8, if_pos q8]
        rw [if_neg q8, if_neg q8]
        by_cases q10 : i = 10
        · rw [if_pos q10, if_pos q10]
        rw [if_neg q10, if_neg q10]
        by_cases q11 : i = 11
        · rw [if_pos q11, if_pos q11]
        rw [if_neg q11, if_neg q11]
        by_cases q12 : i = 12
        · rw [if_pos q12, if_pos q12]
        rw [if_neg q12, if_neg q12]
        by_cases q13 : i = 13
        · rw [if_pos q13, if_pos q13]
        rw [if_neg q13, if_neg q13]
        by_cases q14 : i = 14
        · rw [if_pos q14, if_pos q14]
        rw [if_neg q14, if_neg q14]
        by_cases q16 : i = 16
        · rw [if_pos q16, if_pos q16]
        rw [if_neg q16, if_neg q16]
        by_cases q17 : i = 17
        · rw [if_pos q17, if_pos q17]
        rw [if_neg q17, if_neg q17]
      · show (if c = 2 then _ else if c = 6 then _ else if c = 19 then _ else (if c = 2 then _ else if c = 6 then _ else if c = 19 then _ else C.2.2 c i)) = (if c = 2 then _ else if c = 6 then _ else if c = 19 then _ else C.2.2 c i)
        rw [if_neg h2, if_neg h6, if_neg h19, if_neg h2, if_neg h6, if_neg h19]
noncomputable def cF_clear (T : Nat) (C : cm_M) : cm_M := cm_wi (cm_wi (cm_wi (cm_wi (cm_wi (cm_wi (cm_wi (cm_wi (cm_wi (cm_wi (C) (T) 0 0) (T) 1 0) (T) 2 0) (T) 3 0) (T) 9 0) (T) 15 0) (T) 18 0) (T + 12) 0 0) (T + 12) 1 0) (T + 12) 2 0
set_option maxRecDepth 100000 in
set_option maxHeartbeats 4000000 in
theorem f_clear6 {U : Nat} (C : cm_M) : cm_Lc cm_ms 8 [.ref 6] (fr U C) (fq U none (cF_clear 6 C)) := by
  refine lb_st0 (mi := mr_8) rfl 120 ?_
  show (ev_cmp 3 (0 : Int32) 3 = true → _) ∧ (ev_cmp 3 (0 : Int32) 3 = false → _)
  refine ⟨fun q => absurd q (by decide), fun _ => ?_⟩
  show (ev_cmp 3 (1 : Int32) 3 = true → _) ∧ (ev_cmp 3 (1 : Int32) 3 = false → _)
  refine ⟨fun q => absurd q (by decide), fun _ => ?_⟩
  show (ev_cmp 3 (2 : Int32) 3 = true → _) ∧ (ev_cmp 3 (2 : Int32) 3 = false → _)
  refine ⟨fun q => absurd q (by decide), fun _ => ?_⟩
  show (ev_cmp 3 (3 : Int32) 3 = true → _) ∧ (ev_cmp 3 (3 : Int32) 3 = false → _)
  refine ⟨fun _ => ?_, fun q => absurd q (by decide)⟩
  show fq U none (cF_clear 6 C) none (cm_wi (cm_wi (cm_wi (cm_wi (cm_wi (cm_wi (cm_wi (cm_wi (cm_wi (cm_wi (fr U C) 6 0 0) 6 1 0) 6 2 0) 6 3 0) 6 9 0) 6 15 0) 6 18 0) 18 0 0) 18 1 0) 18 2 0)
  exact ⟨rfl, _, rfl, rfl⟩
set_option maxRecDepth 100000 in
set_option maxHeartbeats 4000000 in
theorem f_clear19 {U : Nat} (C : cm_M) : cm_Lc cm_ms 8 [.ref 19] (fr U C) (fq U none (cF_clear 19 C)) := by
  refine lb_st0 (mi := mr_8) rfl 120 ?_
  show (ev_cmp 3 (0 : Int32) 3 = true → _) ∧ (ev_cmp 3 (0 : Int32) 3 = false → _)
  refine ⟨fun q => absurd q (by decide), fun _ => ?_⟩
  show (ev_cmp 3 (1 : Int32) 3 = true → _) ∧ (ev_cmp 3 (1 : Int32) 3 = false → _)
  refine ⟨fun q => absurd q (by decide), fun _ => ?_⟩
  show (ev_cmp 3 (2 : Int32) 3 = true → _) ∧ (ev_cmp 3 (2 : Int32) 3 = false → _)
  refine ⟨fun q => absurd q (by decide), fun _ => ?_⟩
  show (ev_cmp 3 (3 : Int32) 3 = true → _) ∧ (ev_cmp 3 (3 : Int32) 3 = false → _)
  refine ⟨fun _ => ?_, fun q => absurd q (by decide)⟩
  show fq U none (cF_clear 19 C) none (cm_wi (cm_wi (cm_wi (cm_wi (cm_wi (cm_wi (cm_wi (cm_wi (cm_wi (cm_wi (fr U C) 19 0 0) 19 1 0) 19 2 0) 19 3 0) 19 9 0) 19 15 0) 19 18 0) 31 0 0) 31 1 0) 31 2 0)
  exact ⟨rfl, _, rfl, rfl⟩
noncomputable def rd0 (T : Nat) (n : Int32) (C : cm_M) : cm_M := cm_wi (cm_wi (cm_wi (fr T (cF_clear T (cm_wi (cm_wi C 2 1 n) 2 2 0))) 2 8 0) 2 9 0) 2 10 0
theorem clr_2 {T i : Nat} {C : cm_M} (hT : 6 ≤ T) : (cF_clear T C).1 2 i = C.1 2 i := by
  unfold cF_clear
  have e : ∀ (X : cm_M) (c j : Nat) (v : Int32), 6 ≤ c → (cm_wi X c j v).1 2 i = X.1 2 i := fun X c j v hc => by
    show (if 2 = c ∧ i = j then _ else _) = _
    rw [if_neg (by omega)]
  rw [e _ _ _ _ (by omega), e _ _ _ _ (by omega), e _ _ _ _ (by omega), e _ _ _ _ (by omega), e _ _ _ _ (by omega), e _ _ _ _ (by omega), e _ _ _ _ (by omega), e _ _ _ _ (by omega), e _ _ _ _ (by omega), e _ _ _ _ (by omega)]
theorem rd0_RC {T N : Nat} {C : cm_M} (hT : 6 ≤ T) (hN : N ≤ 900) : RC N (rd0 T (Int32.ofNat N) C) :=
  ⟨⟨rfl, (clr_2 hT : (cF_clear T (cm_wi (cm_wi C 2 1 (Int32.ofNat N)) 2 2 0)).1 2 1 = _), hN, 0, Nat.zero_le _, (clr_2 hT : (cF_clear T (cm_wi (cm_wi C 2 1 (Int32.ofNat N)) 2 2 0)).1 2 2 = _)⟩, 0, Nat.zero_le _, rfl⟩
noncomputable def fin (T : Nat) (X : cm_M) : cm_M := if (if X.1 2 3 = 0 then X else cF_fail 1 X).1 T 3 = 0 then cF_fail 6 (if X.1 2 3 = 0 then X else cF_fail 1 X) else (if X.1 2 3 = 0 then X else cF_fail 1 X)
theorem PG_fin {T N : Nat} {X : cm_M} : PG T N X (fin T X) := by
  have h : PG T N X (if X.1 2 3 = 0 then X else cF_fail 1 X) := by
    split
    · exact PG_rfl
    · exact PG_fail
  unfold fin
  generalize (if X.1 2 3 = 0 then X else cF_fail 1 X) = Y at h ⊢
  split
  · exact PG_tr h PG_fail
  · exact h
noncomputable abbrev rd_K (T N : Nat) (C0 : cm_M) : cm_K := fun v M' => ∃ X, Ex T N C0 X ∧ RC N X ∧ M' = fr T (fin T X) ∧ v = some (.int ((fin T X).1 2 9))
noncomputable def rd_J (T N : Nat) (C0 : cm_M) (S : cm_S) : Prop := (∃ k, k ≤ 900 ∧ S = (58, [(0, .ref 2), (4, .int (Int32.ofNat k))], [], fr T (itr T N C0 (k + 1))) ∧ ∀ i, i < k → lc (itr T N C0 (i + 1))) ∨ (∃ X, Ex T N C0 X ∧ RC N X ∧ S = (95, [(0, .ref 2)], [], fr T X)) ∨ (∃ X Y, Ex T N C0 X ∧ RC N X ∧ (if X.1 2 3 = 0 then X else cF_fail 1 X) = Y ∧ S = (107, [(0, .ref 2)], [], fr T Y))
noncomputable abbrev rd_st : List (Nat × List Nat) := [(58, [0, 4]), (95, [0]), (107, [0])]
theorem min9 {N : Nat} (hN : N ≤ 900) : (if (Int32.ofNat 900) < (Int32.ofNat N) then (Int32.ofNat 900) else (Int32.ofNat N)) = Int32.ofNat N := by
  rw [if_neg (fun q => ?_)]
  have := Int32.lt_iff_toInt_lt.mp q
  rw [fn_toInt (by omega), fn_toInt (by omega)] at this
  omega
set_option maxRecDepth 100000 in
set_option maxHeartbeats 4000000 in
theorem f_read6 {N : Nat} {C : cm_M} (hN : N ≤ 900) : cm_Lc cm_ms 64 [.ref 2, .ref 1, .int (Int32.ofNat N), .ref 6] (fb C) (rd_K 6 N (rd0 6 (Int32.ofNat N) C)) := by
  have hC0 : RC N (rd0 6 (Int32.ofNat N) C) := rd0_RC (by decide) hN
  have h00 : (rd0 6 (Int32.ofNat N) C).1 2 9 = 0 := rfl
  refine lb_of (mi := mr_64) rfl rd_st (rd_J 6 N (rd0 6 (Int32.ofNat N) C)) 60 (fun S hS => ?_) 60 ?_
  · generalize hg : rd0 6 (Int32.ofNat N) C = C0 at hC0 h00 hS ⊢
    rcases hS with ⟨k, hk, rfl, ha⟩ | ⟨X, hX, hR, rfl⟩ | ⟨X, Y, hX, hR, hY, rfl⟩
    · have hRk := itr_rs (T := 6) (by decide) hC0 (k + 1)
      have hlt := itr_900 (T := 6) (by decide) hC0 h00 ha
      generalize hgX : itr 6 N C0 (k + 1) = X at hRk hlt
      show (ev_cmp 3 (Int32.ofNat k) 900 = true → _) ∧ (ev_cmp 3 (Int32.ofNat k) 900 = false → (ev_cmp 1 (X.1 2 9) 0 = true → _) ∧ (ev_cmp 1 (X.1 2 9) 0 = false → (ev_cmp 1 (X.1 2 3) 3 = true → _) ∧ (ev_cmp 1 (X.1 2 3) 3 = false → ∃ R, cm_Lc cm_ms 88 [.ref 2] (fr 6 X) R ∧ ∀ v M', R v M' → _)))
      refine ⟨fun h1 => ?_, fun h1 => ⟨fun h2 => ?_, fun h2 => ⟨fun h3 => ?_, fun h3 => ⟨_, f_step hRk, ?_⟩⟩⟩⟩
      · have g := fn_ge h1
        rw [fn_toInt (by omega)] at g
        have e9 : (900 : Int32).toInt = 900 := by decide
        show rd_J 6 N C0 (95, [(0, .ref 2)], [], fr 6 X)
        exact Or.inr (Or.inl ⟨X, ⟨k, hgX.symm, ha, fun q => by have := hlt q.1; omega⟩, hRk, rfl⟩)
      · show rd_J 6 N C0 (95, [(0, .ref 2)], [], fr 6 X)
        exact Or.inr (Or.inl ⟨X, ⟨k, hgX.symm, ha, fun q => fn_ne h2 q.1⟩, hRk, rfl⟩)
      · show rd_J 6 N C0 (95, [(0, .ref 2)], [], fr 6 X)
        exact Or.inr (Or.inl ⟨X, ⟨k, hgX.symm, ha, fun q => fn_ne h3 q.2⟩, hRk, rfl⟩)
      · rintro v M' ⟨rfl, A, eA, rfl⟩
        have kA : RC N A := by rw [eA]; exact RC_step hRk
        have zA : A.1 2 9 = 0 := by rw [eA, cF_step_9]; exact fn_eq h2
        show ∃ R, cm_Lc cm_ms 67 [.ref 2] (fr 6 A) R ∧ ∀ v M', R v M' → _
        refine ⟨_, f_readLine6 kA zA, ?_⟩
        rintro v M' ⟨rfl, B, eB, rfl⟩
        show rd_J 6 N C0 (58, [(0, .ref 2), (4, .int (Int32.ofNat k + 1))], [], fr 6 B)
        have hk9 := hlt (fn_eq h2)
        have e2 : B = itr 6 N C0 (k + 1 + 1) := by
          rw [eB, eA, ← hgX]
          try rfl
        rw [fn_succ, e2]
        refine Or.inl ⟨k + 1, by omega, rfl, fun i hi => ?_⟩
        rcases (by omega : i < k ∨ i = k) with q | q
        · exact ha i q
        · rw [q, hgX]
          exact ⟨fn_eq h2, fn_eq h3⟩
    · show (ev_cmp 0 (X.1 2 3) 0 = true → _) ∧ (ev_cmp 0 (X.1 2 3) 0 = false → ∃ R, cm_Lc cm_ms 66 [.ref 2, .int 1] (fr 6 X) R ∧ ∀ v M', R v M' → _)
      refine ⟨fun h1 => ?_, fun h1 => ⟨_, f_fail 1 _, ?_⟩⟩
      · show rd_J 6 N C0 (107, [(0, .ref 2)], [], fr 6 X)
        exact Or.inr (Or.inr ⟨X, X, hX, hR, if_pos (fn_eq0 h1), rfl⟩)
      · rintro v M' ⟨rfl, Y, eY, rfl⟩
        show rd_J 6 N C0 (107, [(0, .ref 2)], [], fr 6 Y)
        exact Or.inr (Or.inr ⟨X, Y, hX, hR, by rw [if_neg (fn_ne0 h1), eY], rfl⟩)
    · show (ev_cmp 1 (Y.1 6 3) 0 = true → _) ∧ (ev_cmp 1 (Y.1 6 3) 0 = false → ∃ R, cm_Lc cm_ms 66 [.ref 2, .int 6] (fr 6 Y) R ∧ ∀ v M', R v M' → _)
      refine ⟨fun h1 => ?_, fun h1 => ⟨_, f_fail 6 _, ?_⟩⟩
      · have e : fin 6 X = Y := by
          unfold fin
          rw [hY, if_neg (fn_ne h1)]
        show rd_K 6 N C0 (some (.int (Y.1 2 9))) (fr 6 Y)
        exact ⟨X, hX, hR, by rw [e], by rw [e]⟩
      · rintro v M' ⟨rfl, Z, eZ, rfl⟩
        have e : fin 6 X = Z := by
          unfold fin
          rw [hY, if_pos (fn_eq h1), eZ]
        show rd_K 6 N C0 (some (.int (Z.1 2 9))) (fr 6 Z)
        exact ⟨X, hX, hR, by rw [e], by rw [e]⟩
  · show ∃ R, cm_Lc cm_ms 8 [.ref 6] (cm_wr (cm_wi (cm_wi (cm_wr (fb C) 2 0 (some 1)) 2 1 (if (Int32.ofNat 900) < (Int32.ofNat N) then (Int32.ofNat 900) else (Int32.ofNat N))) 2 2 0) 2 7 (some 6)) R ∧ ∀ v M', R v M' → _
    refine ⟨fun v M' => v = none ∧ ∃ A, A = fr 6 (cF_clear 6 (cm_wi (cm_wi C 2 1 (Int32.ofNat N)) 2 2 0)) ∧ M' = fr 6 A, ?_, ?_⟩
    · rw [min9 hN, fb_fr]
      refine cm_Lc_im (f_clear6 _) (fun v M' q => ?_)
      obtain ⟨q1, A, q2, q3⟩ := q
      exact ⟨q1, fr 6 A, by rw [q2], by rw [fr_fr, q3]⟩
    rintro v M' ⟨rfl, A, eA, rfl⟩
    have e0 : cm_wi (cm_wi (cm_wi A 2 8 0) 2 9 0) 2 10 0 = rd0 6 (Int32.ofNat N) C := by rw [eA]; try rfl
    show ∃ R, cm_Lc cm_ms 88 [.ref 2] (fr 6 (cm_wi (cm_wi (cm_wi A 2 8 0) 2 9 0) 2 10 0)) R ∧ ∀ v M', R v M' → _
    refine ⟨_, f_step (T := 6) (by rw [e0]; exact hC0), ?_⟩
    rintro v M' ⟨rfl, B, eB, rfl⟩
    rw [e0] at eB
    have kB : RC N B := by rw [eB]; exact RC_step hC0
    have zB : B.1 2 9 = 0 := by rw [eB, cF_step_9]; exact h00
    show ∃ R, cm_Lc cm_ms 67 [.ref 2] (fr 6 B) R ∧ ∀ v M', R v M' → _
    refine ⟨_, f_readLine6 kB zB, ?_⟩
    rintro v M' ⟨rfl, E, eE, rfl⟩
    show rd_J 6 N (rd0 6 (Int32.ofNat N) C) (58, [(0, .ref 2), (4, .int (Int32.ofNat 0))], [], fr 6 E)
    have e2 : E = itr 6 N (rd0 6 (Int32.ofNat N) C) (0 + 1) := by
      rw [eE, eB]
      try rfl
    rw [e2]
    exact Or.inl ⟨0, Nat.zero_le _, rfl, fun i hi => by omega⟩
set_option maxRecDepth 100000 in
set_option maxHeartbeats 4000000 in
theorem f_read19 {N : Nat} {C : cm_M} (hN : N ≤ 900) : cm_Lc cm_ms 64 [.ref 2, .ref 1, .int (Int32.ofNat N), .ref 19] (fb C) (rd_K 19 N (rd0 19 (Int32.ofNat N) C)) := by
  have hC0 : RC N (rd0 19 (Int32.ofNat N) C) := rd0_RC (by decide) hN
  have h00 : (rd0 19 (Int32.ofNat N) C).1 2 9 = 0 := rfl
  refine lb_of (mi := mr_64) rfl rd_st (rd_J 19 N (rd0 19 (Int32.ofNat N) C)) 60 (fun S hS => ?_) 60 ?_
  · generalize hg : rd0 19 (Int32.ofNat N) C = C0 at hC0 h00 hS ⊢
    rcases hS with ⟨k, hk, rfl, ha⟩ | ⟨X, hX, hR, rfl⟩ | ⟨X, Y, hX, hR, hY, rfl⟩
    · have hRk := itr_rs (T := 19) (by decide) hC0 (k + 1)
      have hlt := itr_900 (T := 19) (by decide) hC0 h00 ha
      generalize hgX : itr 19 N C0 (k + 1) = X at hRk hlt
      show (ev_cmp 3 (Int32.ofNat k) 900 = true → _) ∧ (ev_cmp 3 (Int32.ofNat k) 900 = false → (ev_cmp 1 (X.1 2 9) 0 = true → _) ∧ (ev_cmp 1 (X.1 2 9) 0 = false → (ev_cmp 1 (X.1 2 3) 3 = true → _) ∧ (ev_cmp 1 (X.1 2 3) 3 = false → ∃ R, cm_Lc cm_ms 88 [.ref 2] (fr 19 X) R ∧ ∀ v M', R v M' → _)))
      refine ⟨fun h1 => ?_, fun h1 => ⟨fun h2 => ?_, fun h2 => ⟨fun h3 => ?_, fun h3 => ⟨_, f_step hRk, ?_⟩⟩⟩⟩
      · have g := fn_ge h1
        rw [fn_toInt (by omega)] at g
        have e9 : (900 : Int32).toInt = 900 := by decide
        show rd_J 19 N C0 (95, [(0, .ref 2)], [], fr 19 X)
        exact Or.inr (Or.inl ⟨X, ⟨k, hgX.symm, ha, fun q => by have := hlt q.1; omega⟩, hRk, rfl⟩)
      · show rd_J 19 N C0 (95, [(0, .ref 2)], [], fr 19 X)
        exact Or.inr (Or.inl ⟨X, ⟨k, hgX.symm, ha, fun q => fn_ne h2 q.1⟩, hRk, rfl⟩)
      · show rd_J 19 N C0 (95, [(0, .ref 2)], [], fr 19 X)
        exact Or.inr (Or.inl ⟨X, ⟨k, hgX.symm, ha, fun q => fn_ne h3 q.2⟩, hRk, rfl⟩)
      · rintro v M' ⟨rfl, A, eA, rfl⟩
        have kA : RC N A := by rw [eA]; exact RC_step hRk
        have zA : A.1 2 9 = 0 := by rw [eA, cF_step_9]; exact fn_eq h2
        show ∃ R, cm_Lc cm_ms 67 [.ref 2] (fr 19 A) R ∧ ∀ v M', R v M' → _
        refine ⟨_, f_readLine19 kA zA, ?_⟩
        rintro v M' ⟨rfl, B, eB, rfl⟩
        show rd_J 19 N C0 (58, [(0, .ref 2), (4, .int (Int32.ofNat k + 1))], [], fr 19 B)
        have hk9 := hlt (fn_eq h2)
        have e2 : B = itr 19 N C0 (k + 1 + 1) := by
          rw [eB, eA, ← hgX]
          try rfl
        rw [fn_succ, e2]
        refine Or.inl ⟨k + 1, by omega, rfl, fun i hi => ?_⟩
        rcases (by omega : i < k ∨ i = k) with q | q
        · exact ha i q
        · rw [q, hgX]
          exact ⟨fn_eq h2, fn_eq h3⟩
    · show (ev_cmp 0 (X.1 2 3) 0 = true → _) ∧ (ev_cmp 0 (X.1 2 3) 0 = false → ∃ R, cm_Lc cm_ms 66 [.ref 2, .int 1] (fr 19 X) R ∧ ∀ v M', R v M' → _)
      refine ⟨fun h1 => ?_, fun h1 => ⟨_, f_fail 1 _, ?_⟩⟩
      · show rd_J 19 N C0 (107, [(0, .ref 2)], [], fr 19 X)
        exact Or.inr (Or.inr ⟨X, X, hX, hR, if_pos (fn_eq0 h1), rfl⟩)
      · rintro v M' ⟨rfl, Y, eY, rfl⟩
        show rd_J 19 N C0 (107, [(0, .ref 2)], [], fr 19 Y)
        exact Or.inr (Or.inr ⟨X, Y, hX, hR, by rw [if_neg (fn_ne0 h1), eY], rfl⟩)
    · show (ev_cmp 1 (Y.1 19 3) 0 = true → _) ∧ (ev_cmp 1 (Y.1 19 3) 0 = false → ∃ R, cm_Lc cm_ms 66 [.ref 2, .int 6] (fr 19 Y) R ∧ ∀ v M', R v M' → _)
      refine ⟨fun h1 => ?_, fun h1 => ⟨_, f_fail 6 _, ?_⟩⟩
      · have e : fin 19 X = Y := by
          unfold fin
          rw [hY, if_neg (fn_ne h1)]
        show rd_K 19 N C0 (some (.int (Y.1 2 9))) (fr 19 Y)
        exact ⟨X, hX, hR, by rw [e], by rw [e]⟩
      · rintro v M' ⟨rfl, Z, eZ, rfl⟩
        have e : fin 19 X = Z := by
          unfold fin
          rw [hY, if_pos (fn_eq h1), eZ]
        show rd_K 19 N C0 (some (.int (Z.1 2 9))) (fr 19 Z)
        exact ⟨X, hX, hR, by rw [e], by rw [e]⟩
  · show ∃ R, cm_Lc cm_ms 8 [.ref 19] (cm_wr (cm_wi (cm_wi (cm_wr (fb C) 2 0 (some 1)) 2 1 (if (Int32.ofNat 900) < (Int32.ofNat N) then (Int32.ofNat 900) else (Int32.ofNat N))) 2 2 0) 2 7 (some 19)) R ∧ ∀ v M', R v M' → _
    refine ⟨fun v M' => v = none ∧ ∃ A, A = fr 19 (cF_clear 19 (cm_wi (cm_wi C 2 1 (Int32.ofNat N)) 2 2 0)) ∧ M' = fr 19 A, ?_, ?_⟩
    · rw [min9 hN, fb_fr]
      refine cm_Lc_im (f_clear19 _) (fun v M' q => ?_)
      obtain ⟨q1, A, q2, q3⟩ := q
      exact ⟨q1, fr 19 A, by rw [q2], by rw [fr_fr, q3]⟩
    rintro v M' ⟨rfl, A, eA, rfl⟩
    have e0 : cm_wi (cm_wi (cm_wi A 2 8 0) 2 9 0) 2 10 0 = rd0 19 (Int32.ofNat N) C := by rw [eA]; try rfl
    show ∃ R, cm_Lc cm_ms 88 [.ref 2] (fr 19 (cm_wi (cm_wi (cm_wi A 2 8 0) 2 9 0) 2 10 0)) R ∧ ∀ v M', R v M' → _
    refine ⟨_, f_step (T := 19) (by rw [e0]; exact hC0), ?_⟩
    rintro v M' ⟨rfl, B, eB, rfl⟩
    rw [e0] at eB
    have kB : RC N B := by rw [eB]; exact RC_step hC0
    have zB : B.1 2 9 = 0 := by rw [eB, cF_step_9]; exact h00
    show ∃ R, cm_Lc cm_ms 67 [.ref 2] (fr 19 B) R ∧ ∀ v M', R v M' → _
    refine ⟨_, f_readLine19 kB zB, ?_⟩
    rintro v M' ⟨rfl, E, eE, rfl⟩
    show rd_J 19 N (rd0 19 (Int32.ofNat N) C) (58, [(0, .ref 2), (4, .int (Int32.ofNat 0))], [], fr 19 E)
    have e2 : E = itr 19 N (rd0 19 (Int32.ofNat N) C) (0 + 1) := by
      rw [eE, eB]
      try rfl
    rw [e2]
    exact Or.inl ⟨0, Nat.zero_le _, rfl, fun i hi => by omega⟩
theorem Rq_next0 {N : Nat} {C D D' : cm_M} (a1 : ∀ j, j < N → tb (C.1 1 j) (D.1 125 j)) (a2 : rs_ok N C) (a3 : D.1 124 3 = Int32.ofNat N) (a4 : D.1 124 5 = C.1 2 2) (hb : D.1 124 13 = 0) (hb9 : D.1 124 9 = 0) (bc : D.1 124 0 = 0 ∧ D.1 124 2 = 0 ∧ D.1 124 11 = 0) (bf : ∀ c j, prC c j → D.1 c j = C.1 c j) (h0 : C.1 2 9 = 0) (hn : ∃ k : Nat, k ≤ N ∧ C.1 2 2 = Int32.ofNat k ∧ ∃ s e tok wh ns, tk_e ch_s (D.1 125) N k s ∧ mk_k (D.1 125) N s e tok wh ns ∧ D' = nx_m D s e tok wh ns) : Rq N (cF_step N C) D' := by
  obtain ⟨k, hk, hk2, s, e, tok, wh, ns, t1, t2, rfl⟩ := hn
  have hN9 := a2.2.2.1
  have r2 := rs_step a2
  have ht : tk_Q (C.1 1) N k (cF_tok N C) := by
    unfold cF_tok
    rw [hk2, fn_nat (by omega)]
    exact tk_of_ok hk
  obtain ⟨e1, e2, e3⟩ := tk_two a1 ht.1 ht.2 t1 t2
  have es : cF_step N C = tk_m C (cF_tok N C).1 (cF_tok N C).2.1 (cF_tok N C).2.2.1 (cF_tok N C).2.2.2.1 (cF_tok N C).2.2.2.2 := by
    unfold cF_step
    rw [if_pos h0]
  rw [es] at r2 ⊢
  generalize cF_tok N C = t at ht e1 e2 e3 r2
  obtain ⟨s0, e0, kd, va, wd⟩ := t
  dsimp only at e1 e2 e3 r2 ht ⊢
  subst e1
  subst e2
  refine ⟨⟨a1, r2, a3, rfl, rfl, ?_⟩, Or.inl ⟨h0, hb, hb9⟩, bc, fun c j q => ?_⟩
  rotate_left
  · unfold prC at q
    have e1 : (nx_m D s e tok wh ns).1 c j = D.1 c j := by
      unfold nx_m
      rw [wi_n2 (by omega), wi_n2 (by omega), wi_n2 (by omega), wi_n2 (by omega), wi_n2 (by omega)]
      show (if c = 126 ∧ j < min ns 8 then _ else _) = _
      rw [if_neg (by omega)]
    have e2 : (tk_m C s e kd va wd).1 c j = C.1 c j := by
      show (cm_wi (cm_wi (cm_wi (cm_wi C 2 4 _) 2 5 _) 2 2 _) 2 3 _).1 c j = _
      rw [wi_n2 (by omega), wi_n2 (by omega), wi_n2 (by omega), wi_n2 (by omega)]
    rw [e1, e2]
    exact bf c j q
  rcases e3 with ⟨q1, q2⟩ | ⟨q1, q2, q3, q4, q5, q6, q7⟩ | ⟨q1, q2, q3⟩ | ⟨q1, q2⟩ | ⟨q1, q2⟩
  · exact Or.inl ⟨q1, q2⟩
  · refine Or.inr (Or.inl ⟨q1, q2, ns, q5, rfl, q4, ?_, ?_⟩)
    · intro j hj
      have hjs : s + j < e := by omega
      have h1 := q7 (s + j) (by omega) hjs
      have eN : e ≤ N := tk_k_e ht.1.2.1 ht.2
      have hL : (nx_m D s e tok wh ns).1 126 j = D.1 125 (s + j) := by
        show (if 126 = 126 ∧ j < min ns 8 then D.1 125 (s + j) else _) = _
        rw [if_pos ⟨rfl, by omega⟩]
      rw [hL]
      have := tb_l (a1 (s + j) (by omega))
      rw [this]
      exact h1
    · show wd = _
      rw [q6, tk_w_sh]
      refine tk_w_cg ns (fun j hj => ?_)
      have hjs : s + j < e := by omega
      have h1 := q7 (s + j) (by omega) hjs
      have eN : e ≤ N := tk_k_e ht.1.2.1 ht.2
      have hL : (nx_m D s e tok wh ns).1 126 j = D.1 125 (s + j) := by
        show (if 126 = 126 ∧ j < min ns 8 then D.1 125 (s + j) else _) = _
        rw [if_pos ⟨rfl, by omega⟩]
      rw [hL]
      exact (tb_eq (a1 (s + j) (by omega)) (Or.inl h1)).symm
  · exact Or.inr (Or.inr (Or.inl ⟨q1, q2, q3.symm⟩))
  · exact Or.inr (Or.inr (Or.inr (Or.inl ⟨q1, q2⟩)))
  · exact Or.inr (Or.inr (Or.inr (Or.inr ⟨q1, q2⟩)))
theorem m_next0 {N : Nat} {C D : cm_M} (a1 : ∀ j, j < N → tb (C.1 1 j) (D.1 125 j)) (a2 : rs_ok N C) (a3 : D.1 124 3 = Int32.ofNat N) (a4 : D.1 124 5 = C.1 2 2) (hb : D.1 124 13 = 0) (hb9 : D.1 124 9 = 0) (bc : D.1 124 0 = 0 ∧ D.1 124 2 = 0 ∧ D.1 124 11 = 0) (bf : ∀ c j, prC c j → D.1 c j = C.1 c j) (h0 : C.1 2 9 = 0) : cm_Lc cm_ms 176 [.ref 124] (fm D) (mq N (cF_step N C) D) := by
  obtain ⟨k, hk, hk2⟩ := a2.2.2.2
  have hN9 := a2.2.2.1
  refine cm_Lc_im (fn_next (M := fm D) (N := N) (k := k) rfl rfl a3 hN9 (fun j hj => (a1 j hj).1) (a4.trans hk2) hk) (fun v M' q => ?_)
  obtain ⟨q1, s, e, tok, wh, ns, q2, q3, q4⟩ := q
  exact ⟨q1, nx_m D s e tok wh ns, q4, Rq_next0 a1 a2 a3 a4 hb hb9 bc bf h0 ⟨k, hk, hk2, s, e, tok, wh, ns, q2, q3, rfl⟩, rfl⟩
theorem m_good (D : cm_M) : cm_Lc cm_ms 164 [.ref 124] (fm D) (fun v M' => v = none ∧ M' = fm (cm_wi (cm_wi D 124 0 0) 124 11 0)) := by
  refine lb_st0 (mi := mr_164) rfl 20 ?_
  exact ⟨rfl, rfl⟩
theorem m_no (x : Int32) (D : cm_M) : cm_Lc cm_ms 165 [.ref 124, .int x] (fm D) (fun v M' => v = some (.int (-1)) ∧ M' = fm (cm_wi D 124 11 x)) := by
  refine lb_st0 (mi := mr_165) rfl 20 ?_
  exact ⟨rfl, rfl⟩
/-- copy, of ints -/
noncomputable def cpy (D : cm_M) (a b k : Nat) : cm_M := (fun c j => if c = b ∧ j < k then D.1 a j else D.1 c j, D.2)
theorem cpy_0 (D : cm_M) (a b : Nat) : cpy D a b 0 = D := by
  refine Prod.ext (funext fun c => funext fun j => ?_) rfl
  show (if c = b ∧ j < 0 then _ else _) = _
  rw [if_neg (by omega)]
theorem cpy_s (D : cm_M) (a b k : Nat) : cm_wi (cpy D a b k) b k (D.1 a k) = cpy D a b (k + 1) := by
  refine Prod.ext (funext fun c => funext fun j => ?_) rfl
  show (if c = b ∧ j = k then D.1 a k else if c = b ∧ j < k then D.1 a j else D.1 c j) = if c = b ∧ j < k + 1 then D.1 a j else D.1 c j
  by_cases h : c = b ∧ j = k
  · rw [if_pos h, if_pos ⟨h.1, by omega⟩, h.2]
  · rw [if_neg h]
    by_cases h2 : c = b ∧ j < k
    · rw [if_pos h2, if_pos ⟨h2.1, by omega⟩]
    · rw [if_neg h2, if_neg (fun q => by
        rcases (by omega : j < k ∨ j = k) with z | z
        · exact h2 ⟨q.1, z⟩
        · exact h ⟨q.1, z⟩)]
theorem cpy_a {D : cm_M} {a b k j : Nat} (h : a ≠ b) : (cpy D a b k).1 a j = D.1 a j := by
  show (if a = b ∧ j < k then _ else _) = _
  rw [if_neg (fun q => h q.1)]
noncomputable def cp_J (D : cm_M) (S : cm_S) : Prop := ∃ k, k ≤ 213 ∧ S = (3, [(0, .ref 128), (1, .int 0), (2, .ref 127), (3, .int 0), (4, .int 213), (5, .int (Int32.ofNat k))], [], fm (cpy D 128 127 k))
set_option maxRecDepth 100000 in
theorem m_copy (D : cm_M) : cm_Lc cm_ms 170 [.ref 128, .int 0, .ref 127, .int 0, .int 213] (fm D) (fun v M' => v = none ∧ M' = fm (cpy D 128 127 213)) := by
  refine lb_of (mi := mr_170) rfl [(3, [0, 1, 2, 3, 4, 5])] (cp_J D) 40 (fun S hS => ?_) 10 ?_
  · obtain ⟨k, hk, rfl⟩ := hS
    show (ev_cmp 3 (Int32.ofNat k) 213 = true → _) ∧ (ev_cmp 3 (Int32.ofNat k) 213 = false → cp_J D (3, [(0, .ref 128), (1, .int 0), (2, .ref 127), (3, .int 0), (4, .int 213), (5, .int (Int32.ofNat k + 1))], [], cm_wi (fm (cpy D 128 127 k)) 127 (0 + Int32.ofNat k).toNatClampNeg ((cpy D 128 127 k).1 128 (0 + Int32.ofNat k).toNatClampNeg)))
    have e2 : (213 : Int32).toInt = 213 := by decide
    refine ⟨fun h1 => ?_, fun h1 => ?_⟩
    · have g := fn_ge h1
      rw [fn_toInt (by omega)] at g
      have : k = 213 := by omega
      subst this
      exact ⟨rfl, rfl⟩
    · have g := fn_nge h1
      rw [fn_toInt (by omega)] at g
      have e0 : (0 : Int32) + Int32.ofNat k = Int32.ofNat k := by rw [Int32.zero_add]
      rw [e0, fn_nat (by omega), fn_succ, cpy_a (by decide)]
      refine ⟨k + 1, by omega, ?_⟩
      rw [← cpy_s]
      try rfl
  · show cp_J D (3, [(0, .ref 128), (1, .int 0), (2, .ref 127), (3, .int 0), (4, .int 213), (5, .int (Int32.ofNat 0))], [], fm D)
    exact ⟨0, Nat.zero_le _, by rw [cpy_0]⟩
/-- asTold, exactly -/
noncomputable def az (D : cm_M) (k : Nat) : cm_M := (fun c j => if c = 129 ∧ j < k then 0 else D.1 c j, D.2)
noncomputable def aw (D : cm_M) (m : Nat) : cm_M := (fun c j => if c = 129 ∧ j < 11 then (if j < m then D.1 127 (12 + 3 * j) else 0) else D.1 c j, D.2)
theorem az_0 (D : cm_M) : az D 0 = D := by
  refine Prod.ext (funext fun c => funext fun j => ?_) rfl
  show (if c = 129 ∧ j < 0 then _ else _) = _
  rw [if_neg (by omega)]
theorem az_s (D : cm_M) (k : Nat) : cm_wi (az D k) 129 k 0 = az D (k + 1) := by
  refine Prod.ext (funext fun c => funext fun j => ?_) rfl
  show (if c = 129 ∧ j = k then 0 else if c = 129 ∧ j < k then 0 else D.1 c j) = if c = 129 ∧ j < k + 1 then 0 else D.1 c j
  by_cases h : c = 129 ∧ j = k
  · rw [if_pos h, if_pos ⟨h.1, by omega⟩]
  · rw [if_neg h]
    by_cases h2 : c = 129 ∧ j < k
    · rw [if_pos h2, if_pos ⟨h2.1, by omega⟩]
    · rw [if_neg h2, if_neg (by omega)]
theorem az_aw (D : cm_M) : az D 11 = aw D 0 := by
  refine Prod.ext (funext fun c => funext fun j => ?_) rfl
  show (if c = 129 ∧ j < 11 then 0 else D.1 c j) = if c = 129 ∧ j < 11 then (if j < 0 then _ else 0) else D.1 c j
  rw [if_neg (c := j < 0) (by omega)]
theorem aw_s (D : cm_M) {m : Nat} (hm : m < 11) : cm_wi (aw D m) 129 m (D.1 127 (12 + 3 * m)) = aw D (m + 1) := by
  refine Prod.ext (funext fun c => funext fun j => ?_) rfl
  show (if c = 129 ∧ j = m then D.1 127 (12 + 3 * m) else if c = 129 ∧ j < 11 then (if j < m then D.1 127 (12 + 3 * j) else 0) else D.1 c j) = if c = 129 ∧ j < 11 then (if j < m + 1 then D.1 127 (12 + 3 * j) else 0) else D.1 c j
  by_cases h : c = 129 ∧ j = m
  · rw [if_pos h, if_pos ⟨h.1, by omega⟩, if_pos (by omega), h.2]
  · rw [if_neg h]
    by_cases h2 : c = 129 ∧ j < 11
    · rw [if_pos h2, if_pos h2]
      by_cases h3 : j < m
      · rw [if_pos h3, if_pos (by omega)]
      · rw [if_neg h3, if_neg (by omega)]
    · rw [if_neg h2, if_neg h2]
noncomputable def at_J (D : cm_M) (me : Nat) (S : cm_S) : Prop := (∃ k, k ≤ 11 ∧ S = (2, [(0, .ref 124), (1, .ref 129), (2, .int (Int32.ofNat k))], [], fm (az D k))) ∨ (∃ m, m ≤ me ∧ S = (20, [(0, .ref 124), (1, .ref 129), (2, .int (Int32.ofNat m))], [], fm (aw D m)))
set_option maxRecDepth 100000 in
theorem m_asTold {me : Nat} {D : cm_M} (h6 : me ≤ 6) (h3 : D.1 127 3 = Int32.ofNat me) : cm_Lc cm_ms 192 [.ref 124, .ref 129] (fm D) (fun v M' => v = none ∧ M' = fm (aw D me)) := by
  refine lb_of (mi := mr_192) rfl [(2, [0, 1, 2]), (20, [0, 1, 2])] (at_J D me) 40 (fun S hS => ?_) 10 ?_
  · rcases hS with ⟨k, hk, rfl⟩ | ⟨m, hm, rfl⟩
    · show (ev_cmp 3 (Int32.ofNat k) 11 = true → at_J D me (20, [(0, .ref 124), (1, .ref 129), (2, .int (Int32.ofNat 0))], [], fm (az D k))) ∧ (ev_cmp 3 (Int32.ofNat k) 11 = false → at_J D me (2, [(0, .ref 124), (1, .ref 129), (2, .int (Int32.ofNat k + 1))], [], cm_wi (fm (az D k)) 129 (Int32.ofNat k).toNatClampNeg 0))
      have e2 : (11 : Int32).toInt = 11 := by decide
      refine ⟨fun h1 => ?_, fun h1 => ?_⟩
      · have g := fn_ge h1
        rw [fn_toInt (by omega)] at g
        have : k = 11 := by omega
        subst this
        exact Or.inr ⟨0, Nat.zero_le _, by rw [az_aw]⟩
      · have g := fn_nge h1
        rw [fn_toInt (by omega)] at g
        rw [fn_nat (by omega), fn_succ]
        refine Or.inl ⟨k + 1, by omega, ?_⟩
        rw [← az_s]
        try rfl
    · show (ev_cmp 3 (Int32.ofNat m) (D.1 127 3) = true → _) ∧ (ev_cmp 3 (Int32.ofNat m) (D.1 127 3) = false → at_J D me (20, [(0, .ref 124), (1, .ref 129), (2, .int (Int32.ofNat m + 1))], [], cm_wi (fm (aw D m)) 129 (Int32.ofNat m).toNatClampNeg (D.1 127 (11 + 3 * Int32.ofNat m + 1).toNatClampNeg)))
      refine ⟨fun h1 => ?_, fun h1 => ?_⟩
      · have g := fn_ge h1
        rw [h3, fn_toInt (by omega), fn_toInt (by omega)] at g
        have : m = me := by omega
        subst this
        exact ⟨rfl, rfl⟩
      · have g := fn_nge h1
        rw [h3, fn_toInt (by omega), fn_toInt (by omega)] at g
        rw [fn_nat (by omega), fn_succ, (i11 (m := m) (by omega)).2.1]
        refine Or.inr ⟨m + 1, by omega, ?_⟩
        rw [← aw_s D (by omega)]
        try rfl
  · show at_J D me (2, [(0, .ref 124), (1, .ref 129), (2, .int (Int32.ofNat 0))], [], fm D)
    exact Or.inl ⟨0, Nat.zero_le _, by rw [az_0]⟩
theorem DT_F {T me mo ch : Nat} {C : cm_M} {F F' : Nat → Int32} (h : DT T me mo ch C F) (hF : ∀ j, j < 213 → F' j = F j) : DT T me mo ch C F' := by
  obtain ⟨-, -, c3, c4, c5, -⟩ := id h.1
  exact ⟨NC_cg h.1 KN_rfl (fun j _ h2 => hF j h2), DR_cg c3 c4 c5 rfl (fun j hj _ _ _ => hF j (by omega)) h.2⟩
/-- at the start nothing is told -/
theorem DT_0 {T : Nat} {C : cm_M} {F : Nat → Int32} (h10 : C.1 2 10 = 0) (h8 : C.1 2 8 = 0) (h3 : C.1 T 3 = 0) (h9 : C.1 T 9 = 0) (h15 : C.1 T 15 = 0) (h18 : C.1 T 18 = 0) (hF : ∀ j, j < 213 → F j = 0) : DT T 0 0 0 C F := by
  refine ⟨⟨h10, by omega, by omega, by omega, by omega, ⟨fun i hi => by omega, fun n hn hz => absurd (hF _ (by omega)) hz, fun i j hi => by omega⟩⟩, ?_⟩
  refine ⟨⟨Or.inl h8, by rw [h8]; exact hF 10 (by omega), fun q => by rw [h8] at q; exact absurd q (by decide)⟩, ⟨h3, hF 3 (by omega), h9, hF 4 (by omega), h15, hF 8 (by omega)⟩, fun m hm => by omega, fun k hk => by omega, fun c hc => by omega, ⟨fun _ => 0, fun _ => 0, fun _ => 0, fun m hm => ⟨(by decide : (0 : Nat) < 32), hF _ (by omega), (by decide : (0 : Nat) < 64), hF _ (by omega)⟩, fun _ _ => ⟨rfl, rfl⟩, fun k hk => ⟨Nat.pow_pos (by omega), hF _ (by omega)⟩, fun _ _ => rfl, hF 5 (by omega), hF 6 (by omega), 0, hF 7 (by omega), rfl, fun m _ o _ => ⟨by rw [Nat.zero_div, Nat.zero_div], fun _ => by rw [Nat.zero_div]⟩⟩, 0, by omega, h18, hF 9 (by omega), fun c hc => ⟨fun _ => hF _ (by omega), fun q => absurd (by rw [Nat.zero_div]) q⟩⟩
/-- the reader's start on both sides -/
noncomputable def clr (D : cm_M) (k : Nat) : cm_M := (fun c j => if c = 128 ∧ j < k then 0 else D.1 c j, D.2)
theorem clr_0 (D : cm_M) : clr D 0 = D := by
  refine Prod.ext (funext fun c => funext fun j => ?_) rfl
  show (if c = 128 ∧ j < 0 then _ else _) = _
  rw [if_neg (by omega)]
theorem clr_s (D : cm_M) (k : Nat) : cm_wi (clr D k) 128 k 0 = clr D (k + 1) := by
  refine Prod.ext (funext fun c => funext fun j => ?_) rfl
  show (if c = 128 ∧ j = k then 0 else if c = 128 ∧ j < k then 0 else D.1 c j) = if c = 128 ∧ j < k + 1 then 0 else D.1 c j
  by_cases h : c = 128 ∧ j = k
  · rw [if_pos h, if_pos ⟨h.1, by omega⟩]
  · rw [if_neg h]
    by_cases h2 : c = 128 ∧ j < k
    · rw [if_pos h2, if_pos ⟨h2.1, by omega⟩]
    · rw [if_neg h2, if_neg (fun q => by
        rcases (by omega : j < k ∨ j = k) with z | z
        · exact h2 ⟨q.1, z⟩
        · exact h ⟨q.1, z⟩)]
theorem clr_n {D : cm_M} {k c j : Nat} (h : c ≠ 128) : (clr D k).1 c j = D.1 c j := by
  show (if c = 128 ∧ j < k then _ else _) = _
  rw [if_neg (fun q => h q.1)]
theorem clr_F {D : cm_M} {j : Nat} (h : j < 213) : (clr D 213).1 128 j = 0 := by
  show (if 128 = 128 ∧ j < 213 then _ else _) = _
  rw [if_pos ⟨rfl, h⟩]
/-- both readers, and what they have told, while nothing failed -/
noncomputable def RB (T N : Nat) (X D : cm_M) : Prop := Rq N X D ∧ (X.1 2 9 = 0 → X.1 2 8 = 1 ∧ ∃ me mo ch, DT T me mo ch X (D.1 128))
noncomputable abbrev m5 (D : cm_M) (N : Nat) : cm_M := cm_wi (cm_wi (cm_wi (cm_wi (cm_wi D 124 0 0) 124 11 0) 124 2 0) 124 9 0) 124 13 0
noncomputable def mt_J (T N : Nat) (C0 D : cm_M) (S : cm_S) : Prop :=
  (∃ k, k ≤ 213 ∧ S = (39, [(0, .ref 124), (1, .int (Int32.ofNat N)), (2, .int (Int32.ofNat k))], [], fm (clr (m5 D N) k))) ∨
  (∃ k D', (∀ i, i < k → lc (itr T N C0 (i + 1))) ∧ RB T N (itr T N C0 (k + 1)) D' ∧ S = (77, [(0, .ref 124)], [], fm D')) ∨
  (∃ X D', Ex T N C0 X ∧ RB T N X D' ∧ S = (104, [(0, .ref 124)], [], fm D')) ∨
  (∃ X Y D', Ex T N C0 X ∧ (if X.1 2 3 = 0 then X else cF_fail 1 X) = Y ∧ RB T N Y D' ∧ S = (127, [(0, .ref 124)], [], fm D')) ∨
  (∃ X D', Ex T N C0 X ∧ RB T N (fin T X) D' ∧ S = (163, [(0, .ref 124)], [], fm D'))
/-- the reference's end with a fault, and without one -/
noncomputable def mt_B (T : Nat) (C0 X D' : cm_M) : Prop := D'.1 124 9 = (fin T X).1 2 9 ∧ D'.1 124 10 = (fin T X).1 2 4 ∧ D'.1 124 11 = 4 ∧ ∀ c j, prC c j → D'.1 c j = C0.1 c j
noncomputable def mt_G (T : Nat) (X D' : cm_M) : Prop := D'.1 124 9 = 0 ∧ D'.1 124 11 = 0 ∧ D'.1 124 14 = 1 ∧ D'.1 124 20 = 0 ∧ D'.1 124 21 = 0 ∧ (fin T X).1 2 8 = 1 ∧ ∃ me mo ch, DT T me mo ch (fin T X) (D'.1 127) ∧ ∀ j, j < 11 → D'.1 129 j = if j < me then D'.1 127 (12 + 3 * j) else 0
noncomputable abbrev mt_K (T N : Nat) (C0 : cm_M) : cm_K := fun v M' => ∃ X D', Ex T N C0 X ∧ M' = fm D' ∧ ((fin T X).1 2 9 ≠ 0 → v = some (.int (-1)) ∧ mt_B T C0 X D') ∧ ((fin T X).1 2 9 = 0 → v = some (.int ((fin T X).1 T 3)) ∧ mt_G T X D')
noncomputable abbrev mt_st : List (Nat × List Nat) := [(39, [0, 1, 2]), (77, [0]), (104, [0]), (127, [0]), (163, [0])]
theorem RB_next {T N : Nat} {X D : cm_M} (hT : 6 ≤ T) (hR : RC N X) (h : RB T N X D) (h0 : X.1 2 9 = 0) {D' : cm_M} (r : Rq N (cF_step N X) D') (f : D'.1 128 = D.1 128) : (cF_step N X).1 2 9 = 0 ∧ ∃ me mo ch, DT T me mo ch (cF_step N X) (D'.1 128) ∧ ((cF_step N X).1 2 8 = 0 → me = 0 ∧ mo = 0 ∧ ch = 0) := by
  obtain ⟨h8, me, mo, ch, hd⟩ := h.2 h0
  refine ⟨cF_step_9.trans h0, me, mo, ch, by rw [f]; exact DT_cg hT hd (K_step N X), fun q => ?_⟩
  rw [(K_step N X).1.2, h8] at q
  exact absurd q (by decide)
set_option maxRecDepth 100000 in
set_option maxHeartbeats 1000000 in
theorem m_town {T N : Nat} {C0 D : cm_M} (hT : 6 ≤ T) (hT2 : T ≤ 19) (hN : N ≤ 900) (hR : RC N C0) (h0 : C0.1 2 9 = 0) (h2 : C0.1 2 2 = 0) (h10 : C0.1 2 10 = 0) (h8 : C0.1 2 8 = 0) (h3 : C0.1 T 3 = 0) (h9 : C0.1 T 9 = 0) (h15 : C0.1 T 15 = 0) (h18 : C0.1 T 18 = 0) (ht : (N : Int) ≤ (D.1 124 2).toInt) (htb : ∀ j, j < N → tb (C0.1 1 j) (D.1 125 j)) (hfr : ∀ c j, prC c j → D.1 c j = C0.1 c j) : cm_Lc cm_ms 191 [.ref 124, .int (Int32.ofNat N)] (fm D) (mt_K T N C0) := by
  refine lb_of (mi := mr_191) rfl mt_st (mt_J T N C0 D) 60 (fun S hS => ?_) 40 ?_
  · rcases hS with ⟨k, hk, rfl⟩ | ⟨k, D', ha, hb, rfl⟩ | ⟨X, D', hX, hb, rfl⟩ | ⟨X, Y, D', hX, hY, hb, rfl⟩ | ⟨X, D', hX, hb, rfl⟩
    · show (ev_cmp 3 (Int32.ofNat k) 213 = true → ∃ R, cm_Lc cm_ms 176 [.ref 124] (fm (cm_wi (cm_wi (clr (m5 D N) k) 124 3 (Int32.ofNat N)) 124 5 0)) R ∧ ∀ v M', R v M' → _) ∧ (ev_cmp 3 (Int32.ofNat k) 213 = false → mt_J T N C0 D (39, [(0, .ref 124), (1, .int (Int32.ofNat N)), (2, .int (Int32.ofNat k + 1))], [], cm_wi (fm (clr (m5 D N) k)) 128 (Int32.ofNat k).toNatClampNeg 0))
      have e2 : (213 : Int32).toInt = 213 := by decide
      refine ⟨fun h1 => ?_, fun h1 => ?_⟩
      · have g := fn_ge h1
        rw [fn_toInt (by omega)] at g
        have : k = 213 := by omega
        subst this
        refine ⟨_, m_next0 (C := C0) (D := cm_wi (cm_wi (clr (m5 D N) 213) 124 3 (Int32.ofNat N)) 124 5 0) htb hR.1 rfl h2.symm rfl rfl ⟨rfl, rfl, rfl⟩ (fun c j q => by
          have q2 := q
          unfold prC at q2
          rw [wi_n2 (by omega), wi_n2 (by omega), clr_n (by omega), wi_n2 (by omega), wi_n2 (by omega), wi_n2 (by omega), wi_n2 (by omega), wi_n2 (by omega)]
          exact hfr c j q) h0, ?_⟩
        rintro v M' ⟨rfl, D1, rfl, r1, f1⟩
        have hd : DT T 0 0 0 (cF_step N C0) (D1.1 128) := by
          rw [f1]
          exact DT_cg hT (DT_0 h10 h8 h3 h9 h15 h18 (fun j hj => clr_F hj)) (K_step N C0)
        show ∃ R, cm_Lc cm_ms 194 [.ref 124] (fm D1) R ∧ ∀ v M', R v M' → _
        refine ⟨_, m_readLine hT hT2 r1 (cF_step_9.trans h0) hd (fun _ => ⟨rfl, rfl, rfl⟩), ?_⟩
        rintro v M' ⟨rfl, D2, rfl, r2, f2⟩
        show mt_J T N C0 D (77, [(0, .ref 124)], [], fm D2)
        exact Or.inr (Or.inl ⟨0, D2, fun i hi => by omega, ⟨r2, f2⟩, rfl⟩)
      · have g := fn_nge h1
        rw [fn_toInt (by omega)] at g
        rw [fn_nat (by omega), fn_succ]
        refine Or.inl ⟨k + 1, by omega, ?_⟩
        rw [← clr_s]
        try rfl
    · have hRk := itr_rs hT hR (k + 1)
      generalize hg : itr T N C0 (k + 1) = X at hb hRk
      show (ev_cmp 1 (D'.1 124 13) 0 = true → mt_J T N C0 D (104, [(0, .ref 124)], [], fm D')) ∧ (ev_cmp 1 (D'.1 124 13) 0 = false → (ev_cmp 1 (D'.1 124 6) 59 = true → mt_J T N C0 D (104, [(0, .ref 124)], [], fm D')) ∧ (ev_cmp 1 (D'.1 124 6) 59 = false → ∃ R, cm_Lc cm_ms 176 [.ref 124] (fm D') R ∧ ∀ v M', R v M' → _))
      refine ⟨fun q1 => ?_, fun q1 => ⟨fun q2 => ?_, fun q2 => ?_⟩⟩
      · exact Or.inr (Or.inr (Or.inl ⟨X, D', ⟨k, hg.symm, ha, fun q => fl_1 hb.1.2 (fn_ne q1) q.1⟩, hb, rfl⟩))
      · exact Or.inr (Or.inr (Or.inl ⟨X, D', ⟨k, hg.symm, ha, fun q => fn_ne q2 ((tw_3 hb.1).mpr q.2)⟩, hb, rfl⟩))
      · have z := fl_0 hb.1.2 (fn_eq q1)
        have z3 := (tw_3 hb.1).mp (fn_eq q2)
        refine ⟨_, m_next hb.1 z, ?_⟩
        rintro v M' ⟨rfl, D1, rfl, r1, f1⟩
        obtain ⟨y1, me, mo, ch, hd, hz⟩ := RB_next hT hRk hb z r1 f1
        show ∃ R, cm_Lc cm_ms 194 [.ref 124] (fm D1) R ∧ ∀ v M', R v M' → _
        refine ⟨_, m_readLine hT hT2 r1 y1 hd hz, ?_⟩
        rintro v M' ⟨rfl, D2, rfl, r2, f2⟩
        show mt_J T N C0 D (77, [(0, .ref 124)], [], fm D2)
        refine Or.inr (Or.inl ⟨k + 1, D2, fun i hi => ?_, ?_, rfl⟩)
        · rcases (by omega : i < k ∨ i = k) with q | q
          · exact ha i q
          · rw [q, hg]
            exact ⟨z, z3⟩
        · have e : itr T N C0 (k + 1 + 1) = rl_F T N (cF_step N X) := by
            rw [← hg]
            try rfl
          rw [e]
          exact ⟨r2, f2⟩
    · show (ev_cmp 1 (D'.1 124 13) 0 = true → mt_J T N C0 D (127, [(0, .ref 124)], [], fm D')) ∧ (ev_cmp 1 (D'.1 124 13) 0 = false → (ev_cmp 0 (D'.1 124 6) 0 = true → mt_J T N C0 D (127, [(0, .ref 124)], [], fm D')) ∧ (ev_cmp 0 (D'.1 124 6) 0 = false → ∃ R, cm_Lc cm_ms 177 [.ref 124, .int 1, .int (D'.1 124 4)] (fm D') R ∧ ∀ v M', R v M' → _))
      refine ⟨fun q1 => ?_, fun q1 => ⟨fun q2 => ?_, fun q2 => ?_⟩⟩
      · have z := fl_1 hb.1.2 (fn_ne q1)
        refine Or.inr (Or.inr (Or.inr (Or.inl ⟨X, X, D', hX, ?_, hb, rfl⟩)))
        rw [cF_fail_id z]
        split <;> rfl
      · exact Or.inr (Or.inr (Or.inr (Or.inl ⟨X, X, D', hX, if_pos ((tw_0 hb.1).mp (fn_eq0 q2)), hb, rfl⟩)))
      · refine ⟨_, m_wrong hb.1 (x := 1) (by decide), ?_⟩
        rintro v M' ⟨rfl, D1, rfl, r1, f1⟩
        show mt_J T N C0 D (127, [(0, .ref 124)], [], fm D1)
        exact Or.inr (Or.inr (Or.inr (Or.inl ⟨X, cF_fail 1 X, D1, hX, if_neg (fun q => fn_ne0 q2 ((tw_0 hb.1).mpr q)), ⟨r1, fun q => absurd q (cF_fail_9n (by decide))⟩, rfl⟩)))
    · have e3 : Y.1 2 9 = 0 → D'.1 128 3 = Y.1 T 3 ∧ D'.1 128 10 = 1 := fun z => by
        obtain ⟨g8, me, mo, ch, hd⟩ := hb.2 z
        obtain ⟨⟨-, a2, -⟩, ⟨b1, b2, -⟩, -⟩ := hd.2
        exact ⟨b2.trans b1.symm, a2.trans g8⟩
      show (ev_cmp 1 (D'.1 124 13) 0 = true → mt_J T N C0 D (163, [(0, .ref 124)], [], fm D')) ∧ (ev_cmp 1 (D'.1 124 13) 0 = false → (ev_cmp 0 (D'.1 128 10) 0 = true → _) ∧ (ev_cmp 0 (D'.1 128 10) 0 = false → (ev_cmp 1 (D'.1 128 3) 0 = true → mt_J T N C0 D (163, [(0, .ref 124)], [], fm D')) ∧ (ev_cmp 1 (D'.1 128 3) 0 = false → ∃ R, cm_Lc cm_ms 177 [.ref 124, .int 6, .int (D'.1 124 4)] (fm D') R ∧ ∀ v M', R v M' → _)))
      refine ⟨fun q1 => ?_, fun q1 => ⟨fun q2 => ?_, fun q2 => ⟨fun q3 => ?_, fun q3 => ?_⟩⟩⟩
      · have z := fl_1 hb.1.2 (fn_ne q1)
        have ef : fin T X = Y := by
          unfold fin
          rw [hY, cF_fail_id z]
          split <;> rfl
        exact Or.inr (Or.inr (Or.inr (Or.inr ⟨X, D', hX, by rw [ef]; exact hb, rfl⟩)))
      · have z := fl_0 hb.1.2 (fn_eq q1)
        have := fn_eq0 q2
        rw [(e3 z).2] at this
        exact absurd this (by decide)
      · have z := fl_0 hb.1.2 (fn_eq q1)
        have ef : fin T X = Y := by
          unfold fin
          rw [hY, if_neg (fun q => fn_ne q3 ((e3 z).1.trans q))]
        exact Or.inr (Or.inr (Or.inr (Or.inr ⟨X, D', hX, by rw [ef]; exact hb, rfl⟩)))
      · have z := fl_0 hb.1.2 (fn_eq q1)
        have ef : fin T X = cF_fail 6 Y := by
          unfold fin
          rw [hY, if_pos ((e3 z).1.symm.trans (fn_eq q3))]
        refine ⟨_, m_wrong hb.1 (x := 6) (by decide), ?_⟩
        rintro v M' ⟨rfl, D1, rfl, r1, f1⟩
        show mt_J T N C0 D (163, [(0, .ref 124)], [], fm D1)
        exact Or.inr (Or.inr (Or.inr (Or.inr ⟨X, D1, hX, by rw [ef]; exact ⟨r1, fun q => absurd q (cF_fail_9n (by decide))⟩, rfl⟩)))
    · show (ev_cmp 0 (D'.1 124 13) 0 = true → ∃ R, cm_Lc cm_ms 170 [.ref 128, .int 0, .ref 127, .int 0, .int 213] (fm D') R ∧ ∀ v M', R v M' → _) ∧ (ev_cmp 0 (D'.1 124 13) 0 = false → ∃ R, cm_Lc cm_ms 165 [.ref 124, .int 4] (fm D') R ∧ ∀ v M', R v M' → _)
      refine ⟨fun q1 => ?_, fun q1 => ?_⟩
      · have z := fl_0 hb.1.2 (fn_eq0 q1)
        obtain ⟨g8, me, mo, ch, hd⟩ := hb.2 z
        obtain ⟨-, ⟨b1, b2, -⟩, -⟩ := hd.2
        refine ⟨_, m_copy D', ?_⟩
        rintro v M' ⟨rfl, rfl⟩
        show ∃ R, cm_Lc cm_ms 192 [.ref 124, .ref 129] (fm (cpy D' 128 127 213)) R ∧ ∀ v M', R v M' → _
        have c3 : me ≤ 6 := hd.1.2.2.1
        refine ⟨_, m_asTold (me := me) c3 (show D'.1 128 3 = _ from b2), ?_⟩
        rintro v M' ⟨rfl, rfl⟩
        have hF : ∀ j, j < 213 → (aw (cpy D' 128 127 213) me).1 127 j = D'.1 128 j := fun j hj => by
          show (if 127 = 127 ∧ j < 213 then D'.1 128 j else D'.1 127 j) = _
          rw [if_pos ⟨rfl, hj⟩]
        show mt_K T N C0 (some (.int ((aw (cpy D' 128 127 213) me).1 127 3))) (cm_wi (cm_wi (cm_wi (fm (aw (cpy D' 128 127 213) me)) 124 14 1) 124 20 0) 124 21 0)
        refine ⟨X, cm_wi (cm_wi (cm_wi (aw (cpy D' 128 127 213) me) 124 14 1) 124 20 0) 124 21 0, hX, rfl, fun q => absurd z q, fun _ => ⟨?_, (show D'.1 124 9 = 0 from fl_9 hb.1.2 z), hb.1.2.2.1.2.2, rfl, rfl, rfl, g8, me, mo, ch, DT_F hd hF, fun j hj => ?_⟩⟩
        · rw [hF 3 (by omega)]
          exact congrArg some (congrArg Value.int (b2.trans b1.symm))
        · show (if 129 = 129 ∧ j < 11 then (if j < me then (cpy D' 128 127 213).1 127 (12 + 3 * j) else 0) else _) = _
          rw [if_pos ⟨rfl, hj⟩]
          try rfl
      · have z := fl_1 hb.1.2 (fn_ne0 q1)
        refine ⟨_, m_no 4 D', ?_⟩
        rintro v M' ⟨rfl, rfl⟩
        show mt_K T N C0 (some (.int (-1))) _
        refine ⟨X, cm_wi D' 124 11 4, hX, rfl, fun _ => ⟨rfl, (fl_b hb.1.2 z).1, (fl_b hb.1.2 z).2, rfl, fun c j q => ?_⟩, fun q => absurd q z⟩
        have q2 := q
        unfold prC at q2
        rw [wi_n2 (by omega), hb.1.2.2.2 c j q]
        exact ((PG_fin (T := T) (N := N)).2.2 c j (by omega) (by omega)).trans ((PG_Ex hT hX).2.2 c j (by omega) (by omega))
  · show ∃ R, cm_Lc cm_ms 164 [.ref 124] (fm D) R ∧ ∀ v M', R v M' → _
    refine ⟨_, m_good D, ?_⟩
    rintro v M' ⟨rfl, rfl⟩
    show ∃ R, cm_Lc cm_ms 167 [.int (Int32.ofNat N), .int 0, .int (D.1 124 2)] (fm (cm_wi (cm_wi D 124 0 0) 124 11 0)) R ∧ ∀ v M', R v M' → _
    refine ⟨_, m_in _ _ _ _, ?_⟩
    rintro v M' ⟨rfl, rfl⟩
    have ei : (decide ((0 : Int32) ≤ Int32.ofNat N) && decide (Int32.ofNat N ≤ D.1 124 2)) = true := by
      have z0 : (0 : Int32).toInt = 0 := by decide
      rw [decide_eq_true (Int32.le_iff_toInt_le.mpr (by rw [fn_toInt (by omega)]; omega)), decide_eq_true (Int32.le_iff_toInt_le.mpr (by rw [fn_toInt (by omega)]; exact ht))]
      try rfl
    show (ev_cmp 1 (bi (decide ((0 : Int32) ≤ Int32.ofNat N) && decide (Int32.ofNat N ≤ D.1 124 2))) 0 = true → mt_J T N C0 D (39, [(0, .ref 124), (1, .int (Int32.ofNat N)), (2, .int (Int32.ofNat 0))], [], fm (m5 D N))) ∧ (ev_cmp 1 (bi (decide ((0 : Int32) ≤ Int32.ofNat N) && decide (Int32.ofNat N ≤ D.1 124 2))) 0 = false → _)
    refine ⟨fun _ => ?_, fun q => ?_⟩
    · exact Or.inl ⟨0, Nat.zero_le _, by rw [clr_0]⟩
    · have := bi_n0 q
      rw [ei] at this
      cases this
theorem m_town2 {n : Int32} {D : cm_M} (hn : ¬ (0 ≤ n.toInt ∧ n.toInt ≤ (D.1 124 2).toInt)) : cm_Lc cm_ms 191 [.ref 124, .int n] (fm D) (fun v M' => v = some (.int (-1)) ∧ M' = fm (cm_wi (cm_wi (cm_wi D 124 0 0) 124 11 0) 124 11 2)) := by
  refine lb_st0 (mi := mr_191) rfl 40 ?_
  show ∃ R, cm_Lc cm_ms 164 [.ref 124] (fm D) R ∧ ∀ v M', R v M' → _
  refine ⟨_, m_good D, ?_⟩
  rintro v M' ⟨rfl, rfl⟩
  show ∃ R, cm_Lc cm_ms 167 [.int n, .int 0, .int (D.1 124 2)] (fm (cm_wi (cm_wi D 124 0 0) 124 11 0)) R ∧ ∀ v M', R v M' → _
  refine ⟨_, m_in _ _ _ _, ?_⟩
  rintro v M' ⟨rfl, rfl⟩
  show (ev_cmp 1 (bi (decide ((0 : Int32) ≤ n) && decide (n ≤ D.1 124 2))) 0 = true → _) ∧ (ev_cmp 1 (bi (decide ((0 : Int32) ≤ n) && decide (n ≤ D.1 124 2))) 0 = false → ∃ R, cm_Lc cm_ms 165 [.ref 124, .int 2] (fm (cm_wi (cm_wi D 124 0 0) 124 11 0)) R ∧ ∀ v M', R v M' → _)
  refine ⟨fun q => ?_, fun q => ⟨_, m_no 2 _, ?_⟩⟩
  · have q := bi_n1 q
    have z0 : (0 : Int32).toInt = 0 := by decide
    have h1 := Int32.le_iff_toInt_le.mp (of_decide_eq_true (and_l q))
    have h2 := Int32.le_iff_toInt_le.mp (of_decide_eq_true (and_r q))
    exact absurd ⟨by omega, h2⟩ hn
  · rintro v M' ⟨rfl, rfl⟩
    exact ⟨rfl, rfl⟩
