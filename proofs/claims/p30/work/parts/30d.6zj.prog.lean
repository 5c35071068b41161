/-! THE CLASS'S READER goes on, its lines one behind the other -/
/-- the place grows; what stays -/
def PG (T N : Nat) (C C' : cm_M) : Prop := (RC N C → RC N C' ∧ (C.1 2 2).toNatClampNeg ≤ (C'.1 2 2).toNatClampNeg) ∧ C'.2.2 = C.2.2 ∧ ∀ c j, ¬ (2 ≤ c ∧ c ≤ 5) → ¬ (T ≤ c ∧ c ≤ T + 12) → C'.1 c j = C.1 c j
theorem PG_rfl {T N : Nat} {C : cm_M} : PG T N C C := ⟨fun h => ⟨h, Nat.le_refl _⟩, rfl, fun _ _ _ _ => rfl⟩
theorem PG_tr {T N : Nat} {A B C : cm_M} (h : PG T N A B) (h2 : PG T N B C) : PG T N A C := ⟨fun q => ⟨(h2.1 (h.1 q).1).1, Nat.le_trans (h.1 q).2 (h2.1 (h.1 q).1).2⟩, h2.2.1.trans h.2.1, fun c j a b => (h2.2.2 c j a b).trans (h.2.2 c j a b)⟩
theorem wi_ne {C : cm_M} {c i x y : Nat} {v : Int32} (h : x ≠ c) : (cm_wi C c i v).1 x y = C.1 x y := by
  show (if x = c ∧ y = i then _ else _) = _
  rw [if_neg (fun q => h q.1)]
theorem PG_fail {T N : Nat} {x : Int32} {C : cm_M} : PG T N C (cF_fail x C) := by
  refine ⟨fun h => ⟨RC_fail x h, ?_⟩, ?_, fun c j a b => ?_⟩
  · unfold cF_fail
    split <;> exact Nat.le_refl _
  · unfold cF_fail
    split <;> rfl
  · unfold cF_fail
    split
    · exact wi_ne (by omega)
    · rfl
/-- a token: where it ends -/
theorem step_nx {N : Nat} {C : cm_M} (h : rs_ok N C) (h0 : C.1 2 9 = 0) : (C.1 2 2).toNatClampNeg ≤ ((cF_step N C).1 2 2).toNatClampNeg ∧ ((cF_step N C).1 2 3 ≠ 0 → (C.1 2 2).toNatClampNeg < ((cF_step N C).1 2 2).toNatClampNeg) := by
  obtain ⟨h1, h2, h3, k, h4, h5⟩ := h
  have ht : tk_Q (C.1 1) N k (cF_tok N C) := by
    unfold cF_tok
    rw [h5, fn_nat (by omega)]
    exact tk_of_ok h4
  have es : cF_step N C = tk_m C (cF_tok N C).1 (cF_tok N C).2.1 (cF_tok N C).2.2.1 (cF_tok N C).2.2.2.1 (cF_tok N C).2.2.2.2 := by
    unfold cF_step
    rw [if_pos h0]
  rw [es, h5, fn_nat (by omega)]
  generalize cF_tok N C = t at ht
  obtain ⟨s, e, kd, va, wd⟩ := t
  obtain ⟨q1, q2⟩ := ht
  dsimp only at q1 q2 ⊢
  have eN : e ≤ N := tk_k_e q1.2.1 q2
  show k ≤ (Int32.ofNat e).toNatClampNeg ∧ (kd ≠ 0 → k < (Int32.ofNat e).toNatClampNeg)
  rw [fn_nat (by omega)]
  have ks := q1.1
  rcases q2 with ⟨a1, rfl, a3, -⟩ | ⟨a1, a2, a3, -⟩ | ⟨a1, a2, a3, a4, -⟩ | ⟨a1, a2, a3, rfl, -⟩
  · exact ⟨ks, fun q => absurd a3 q⟩
  · have hse : s < e := by
      rcases Nat.lt_or_ge s e with q | q
      · exact q
      · have e1 : s = e := Nat.le_antisymm a3.1 q
        have h6 := a3.2.2.2 (by omega)
        rw [← e1, a2] at h6
        cases h6
    exact ⟨by omega, fun _ => by omega⟩
  · have hse : s < e := by
      rcases Nat.lt_or_ge s e with q | q
      · exact q
      · have e1 : s = e := Nat.le_antisymm a4.1 q
        have h6 := a4.2.2.2 (by omega)
        rw [← e1, a3] at h6
        cases h6
    exact ⟨by omega, fun _ => by omega⟩
  · exact ⟨by omega, fun _ => by omega⟩
theorem PG_step {T N : Nat} {C : cm_M} : PG T N C (cF_step N C) := by
  refine ⟨fun h => ⟨RC_step h, ?_⟩, ?_, fun c j a b => ?_⟩
  · by_cases h0 : C.1 2 9 = 0
    · exact (step_nx h.1 h0).1
    · rw [cF_step_id h0]
      exact Nat.le_refl _
  · unfold cF_step
    split <;> rfl
  · unfold cF_step
    split
    · show (cm_wi (cm_wi (cm_wi (cm_wi C 2 4 _) 2 5 _) 2 2 _) 2 3 _).1 c j = _
      rw [wi_ne (by omega), wi_ne (by omega), wi_ne (by omega), wi_ne (by omega)]
    · rfl
theorem PG_w {T N c i : Nat} {v : Int32} {C : cm_M} (hc : 6 ≤ T ∧ T ≤ c ∧ c ≤ T + 12) : PG T N C (cm_wi C c i v) := by
  have e : ∀ j, (cm_wi C c i v).1 2 j = C.1 2 j := fun j => wi_ne (by omega)
  refine ⟨fun h => ?_, rfl, fun x j a b => wi_ne (by omega)⟩
  obtain ⟨⟨h1, h2, h3, k, h4, h5⟩, nn, h6, h7⟩ := h
  exact ⟨⟨⟨h1, (e 1).trans h2, h3, k, h4, (e 2).trans h5⟩, nn, h6, (e 10).trans h7⟩, by rw [e]; exact Nat.le_refl _⟩
theorem PG_8 {T N : Nat} {v : Int32} {C : cm_M} : PG T N C (cm_wi C 2 8 v) := ⟨fun h => ⟨h, Nat.le_refl _⟩, rfl, fun c j a b => wi_ne (by omega)⟩
theorem PG_takeWord {T N t : Nat} {C : cm_M} : PG T N C (cF_takeWord N t C) := by
  unfold cF_takeWord cF_due
  split
  · exact PG_step
  · exact PG_tr PG_fail PG_step
theorem PG_takeWhole {T N : Nat} {lo hi : Int32} {C : cm_M} : PG T N C (cF_takeWhole N lo hi C) := by
  unfold cF_takeWhole cF_whole
  split
  · split
    · exact PG_tr PG_fail PG_step
    · exact PG_step
  · exact PG_tr PG_fail PG_step
theorem PG_colour {T N : Nat} {C : cm_M} : PG T N C (cF_colour C) := by
  rcases col_cs C with q | q
  · rw [q.1]
    exact PG_rfl
  · rw [q.1]
    exact PG_fail
theorem PG_told {T N : Nat} {so : Int32} {C : cm_M} : PG T N C (cF_told so C) := by
  unfold cF_told
  split
  · split
    · exact PG_fail
    · exact PG_rfl
  · exact PG_fail
theorem PG_chk {T N : Nat} {C : cm_M} : PG T N C (cF_newChk C) := by
  unfold cF_newChk
  split
  · split
    · exact PG_rfl
    · exact PG_fail
  · exact PG_fail
theorem PG_newName {T N : Nat} {so nu : Int32} {C : cm_M} : PG T N C (cF_newName N so nu C) := by
  have h2 : (cF_put so nu (cF_newChk C)).1 2 2 = (cF_newChk C).1 2 2 := by
    unfold cF_put
    split <;> rfl
  have h3 : (cF_newChk C).1 2 2 = C.1 2 2 := by
    unfold cF_newChk cF_fail
    repeat' split
    all_goals rfl
  refine ⟨fun h => ⟨RC_newName h, ?_⟩, ?_, fun c j a b => ?_⟩
  · have r1 : rs_ok N (cF_newChk C) := ((PG_chk (T := T) (N := N) (C := C)).1 h).1.1
    unfold cF_newName
    rw [← h3, ← h2]
    by_cases h0 : (cF_put so nu (cF_newChk C)).1 2 9 = 0
    · exact (step_nx (rs_put so nu r1) h0).1
    · rw [cF_step_id h0]
      exact Nat.le_refl _
  · unfold cF_newName
    rw [(PG_step (T := T)).2.1]
    refine Eq.trans ?_ (PG_chk (T := T) (N := N)).2.1
    unfold cF_put
    split <;> rfl
  · unfold cF_newName
    rw [(PG_step (T := T)).2.2 c j a b]
    refine Eq.trans ?_ ((PG_chk (T := T) (N := N)).2.2 c j a b)
    unfold cF_put
    split
    · show (cm_wi (cm_wi (cm_wi (cm_wl (cF_newChk C) 3 _ _) 4 _ _) 5 _ _) 2 10 _).1 c j = _
      rw [wi_ne (by omega), wi_ne (by omega), wi_ne (by omega)]
      rfl
    · rfl
theorem PG_man {T N : Nat} {C : cm_M} (hT : 6 ≤ T) : PG T N C (cF_man T N C) := by
  have k : PG T N C (cF_takeWhole N 0 9 (cF_takeWord N 15 (cF_takeWhole N 0 99 (cF_takeWord N 14 (cF_step N (cF_colour (cF_newName N 1 (C.1 T 3) C))))))) := PG_tr PG_newName (PG_tr PG_colour (PG_tr PG_step (PG_tr PG_takeWord (PG_tr PG_takeWhole (PG_tr PG_takeWord PG_takeWhole)))))
  unfold cF_man
  dsimp only
  split
  · refine PG_tr k ?_
    unfold cF_addMan
    split
    · exact PG_rfl
    · exact PG_tr (PG_tr (PG_tr (PG_tr (PG_tr (PG_w (by omega)) (PG_w (by omega))) (PG_w (by omega))) (PG_w (by omega))) (PG_w (by omega))) (PG_w (by omega))
  · exact k
theorem PG_motion {T N : Nat} {C : cm_M} (hT : 6 ≤ T) : PG T N C (cF_motion T N C) := by
  have k : PG T N C (cF_takeWhole N 0 99 (cF_takeWord N 18 (cF_takeWhole N 0 54 (cF_takeWord N 17 (cF_takeWhole N 1 30 (cF_takeWord N 16 (cF_newName N 2 (C.1 T 9) C))))))) := PG_tr PG_newName (PG_tr PG_takeWord (PG_tr PG_takeWhole (PG_tr PG_takeWord (PG_tr PG_takeWhole (PG_tr PG_takeWord PG_takeWhole)))))
  unfold cF_motion
  dsimp only
  split
  · refine PG_tr k ?_
    unfold cF_addMotion
    split
    · exact PG_rfl
    · exact PG_tr (PG_tr (PG_tr (PG_tr (PG_w (by omega)) (PG_w (by omega))) (PG_w (by omega))) (PG_w (by omega))) (PG_w (by omega))
  · exact k
theorem PG_chair {T N : Nat} {C : cm_M} (hT : 6 ≤ T) : PG T N C (cF_chair T N C) := by
  have k : PG T N C (cF_takeWhole N 0 99 (cF_takeWord N 19 (cF_newName N 6 (C.1 T 15) C))) := PG_tr PG_newName (PG_tr PG_takeWord PG_takeWhole)
  unfold cF_chair
  dsimp only
  split
  · refine PG_tr k ?_
    unfold cF_addChair
    split
    · exact PG_rfl
    · exact PG_tr (PG_w (by omega)) (PG_w (by omega))
  · exact k
theorem PG_town {T N : Nat} {C : cm_M} (hT : 6 ≤ T) : PG T N C (cF_town T N C) := by
  unfold cF_town
  dsimp only
  exact PG_tr (PG_tr (PG_tr (PG_tr PG_takeWord PG_takeWhole) (PG_tr (PG_w (by omega)) (PG_tr PG_takeWord PG_takeWhole))) (PG_tr (PG_w (by omega)) (PG_tr PG_takeWord PG_takeWhole))) (PG_tr (PG_w (by omega)) PG_8)
theorem PG_against {T N : Nat} {C : cm_M} (hT : 6 ≤ T) : PG T N C (cF_against T N C) := by
  have k : PG T N C (cF_told 2 (cF_step N (cF_told 1 C))) := PG_tr PG_told (PG_tr PG_step PG_told)
  unfold cF_against
  dsimp only
  split
  · exact k
  · split
    · exact k
    · split
      · exact PG_tr k (PG_tr (PG_w (by omega)) PG_step)
      · exact PG_tr k PG_fail
theorem PG_amends {T N : Nat} {C : cm_M} (hT : 6 ≤ T) : PG T N C (cF_amends T N C) := by
  have k : PG T N C (cF_told 2 (cF_step N (cF_told 2 C))) := PG_tr PG_told (PG_tr PG_step PG_told)
  unfold cF_amends
  dsimp only
  split
  · exact k
  · split
    · exact k
    · split
      · split
        · exact PG_tr k PG_fail
        · exact PG_tr k (PG_tr (PG_w (by omega)) PG_step)
      · exact PG_tr k PG_fail
theorem PG_quarrel {T N : Nat} {C : cm_M} (hT : 6 ≤ T) : PG T N C (cF_quarrel T N C) := by
  have k : PG T N C (cF_told 1 (cF_step N (cF_told 1 C))) := PG_tr PG_told (PG_tr PG_step PG_told)
  unfold cF_quarrel
  dsimp only
  split
  · exact k
  · split
    · exact k
    · split
      · exact PG_tr k PG_fail
      · split
        · refine PG_tr k (PG_tr ?_ PG_step)
          unfold cF_qput
          exact PG_tr (PG_w (by omega)) (PG_w (by omega))
        · exact PG_tr k PG_fail
theorem PG_heap {T N : Nat} {C : cm_M} (hT : 6 ≤ T) : PG T N C (cF_heap T N C) := by
  have k2 : PG T N C (cF_takeWhole N 0 999 (cF_step N (cF_colour C))) := PG_tr PG_colour (PG_tr PG_step PG_takeWhole)
  unfold cF_heap
  dsimp only
  split
  · exact PG_colour
  · split
    · split
      · split
        · exact k2
        · refine PG_tr k2 ?_
          unfold cF_hput
          exact PG_tr (PG_w (by omega)) (PG_w (by omega))
      · exact k2
    · exact PG_tr PG_colour PG_fail
theorem PG_G {T N : Nat} {b : Bool} {g : Nat → cm_M → cm_M} {C : cm_M} (h : ∀ X, PG T N X (g N X)) : PG T N C (rl_G g N b C) := by
  unfold rl_G
  split
  · exact PG_fail
  · split
    · exact PG_fail
    · exact PG_tr PG_step (h _)
theorem PG_rl {T N : Nat} {C : cm_M} (hT : 6 ≤ T) : PG T N C (rl_F T N C) := by
  unfold rl_F
  split
  · exact PG_fail
  · split
    · unfold tl_F
      split
      · exact PG_tr PG_step (PG_town hT)
      · exact PG_fail
    · split
      · exact PG_G (fun _ => PG_man hT)
      · split
        · exact PG_G (fun _ => PG_motion hT)
        · split
          · exact PG_G (fun _ => PG_against hT)
          · split
            · exact PG_G (fun _ => PG_amends hT)
            · split
              · exact PG_G (fun _ => PG_quarrel hT)
              · split
                · exact PG_G (fun _ => PG_chair hT)
                · exact PG_G (fun _ => PG_heap hT)
/-! the lines, one behind the other -/
noncomputable def rB (T N : Nat) (C : cm_M) : cm_M := rl_F T N (cF_step N C)
noncomputable def itr (T N : Nat) (C : cm_M) : Nat → cm_M
  | 0 => C
  | k + 1 => rB T N (itr T N C k)
theorem wt_k {t : Nat} {C : cm_M} (h : wt t C = true) : C.1 2 3 = 1 := of_decide_eq_true (and_l h)
theorem ln_k {C : cm_M} (h : C.1 2 3 ≠ 1) : cF_line C = -1 := ln_none 8 0 (fun i _ _ => Bool.eq_false_iff.mpr (fun q => h (wt_k q)))
theorem rB_nx {T N : Nat} {C : cm_M} (hT : 6 ≤ T) (h : RC N C) (h0 : C.1 2 9 = 0) (h1 : (rB T N C).1 2 9 = 0) : (C.1 2 2).toNatClampNeg < ((rB T N C).1 2 2).toNatClampNeg := by
  have hk : (cF_step N C).1 2 3 ≠ 0 := fun q => by
    unfold rB at h1
    rw [rl_atn (ln_k (by rw [q]; decide))] at h1
    exact absurd h1 (cF_fail_9n (by decide))
  exact Nat.lt_of_lt_of_le ((step_nx h.1 h0).2 hk) ((PG_rl hT).1 (RC_step h)).2
theorem itr_rs {T N : Nat} {C : cm_M} (hT : 6 ≤ T) (h : RC N C) : ∀ k, RC N (itr T N C k)
  | 0 => h
  | k + 1 => ((PG_rl hT).1 (RC_step (itr_rs hT h k))).1
theorem itr_nx {T N : Nat} {C : cm_M} (hT : 6 ≤ T) (h : RC N C) : ∀ k, (∀ i, i ≤ k → (itr T N C i).1 2 9 = 0) → k ≤ ((itr T N C k).1 2 2).toNatClampNeg
  | 0, _ => Nat.zero_le _
  | k + 1, ha => by
    have h1 := itr_nx hT h k (fun i hi => ha i (by omega))
    have h2 := rB_nx hT (itr_rs hT h k) (ha k (by omega)) (ha (k + 1) (Nat.le_refl _))
    have h3 : itr T N C (k + 1) = rB T N (itr T N C k) := rfl
    rw [h3]
    omega
theorem rs_nx {N : Nat} {C : cm_M} (h : rs_ok N C) : (C.1 2 2).toNatClampNeg ≤ N ∧ N ≤ 900 := by
  obtain ⟨h1, h2, h3, k, h4, h5⟩ := h
  rw [h5, fn_nat (by omega)]
  exact ⟨h4, h3⟩
def lc (C : cm_M) : Prop := C.1 2 9 = 0 ∧ C.1 2 3 = 3
/-- where the lines end -/
def Ex (T N : Nat) (C X : cm_M) : Prop := ∃ k, X = itr T N C (k + 1) ∧ (∀ i, i < k → lc (itr T N C (i + 1))) ∧ ¬ lc X
theorem Ex_uni {T N : Nat} {C X Y : cm_M} (h : Ex T N C X) (h2 : Ex T N C Y) : X = Y := by
  obtain ⟨k, rfl, a2, a3⟩ := h
  obtain ⟨j, rfl, b2, b3⟩ := h2
  rcases Nat.lt_trichotomy k j with q | q | q
  · exact absurd (b2 k q) a3
  · rw [q]
  · exact absurd (a2 j q) b3
theorem itr_900 {T N : Nat} {C : cm_M} (hT : 6 ≤ T) (h : RC N C) (h0 : C.1 2 9 = 0) {k : Nat} (ha : ∀ i, i < k → lc (itr T N C (i + 1))) (hk : (itr T N C (k + 1)).1 2 9 = 0) : k < 900 := by
  have h1 := itr_nx hT h (k + 1) (fun i hi => by
    rcases (by omega : i = 0 ∨ i = k + 1 ∨ (0 < i ∧ i ≤ k)) with q | q | q
    · rw [q]; exact h0
    · rw [q]; exact hk
    · have := ha (i - 1) (by omega)
      rw [show i - 1 + 1 = i from by omega] at this
      exact this.1)
  have h2 := rs_nx (itr_rs hT h (k + 1)).1
  omega
theorem PG_itr {T N : Nat} {C : cm_M} (hT : 6 ≤ T) : ∀ k, PG T N C (itr T N C k)
  | 0 => PG_rfl
  | k + 1 => PG_tr (PG_itr hT k) (PG_tr PG_step (PG_rl hT))
theorem PG_Ex {T N : Nat} {C X : cm_M} (hT : 6 ≤ T) (h : Ex T N C X) : PG T N C X := by
  obtain ⟨k, rfl, -⟩ := h
  exact PG_itr hT _
