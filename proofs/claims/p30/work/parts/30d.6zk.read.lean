/-! THE CLASS'S READER: read -/
def fb (C : cm_M) : cm_M := (C.1, C.2.1, fun c i => if c = 2 then (if i = 11 then some 3 else if i = 12 then some 4 else if i = 13 then some 5 else C.2.2 2 i) else if c = 6 then (if i = 4 then some 7 else if i = 5 then some 8 else if i = 6 then some 9 else if i = 7 then some 10 else if i = 8 then some 11 else if i = 10 then some 12 else if i = 11 then some 13 else if i = 12 then some 14 else if i = 13 then some 15 else if i = 14 then some 16 else if i = 16 then some 17 else if i = 17 then some 18 else C.2.2 6 i) else if c = 19 then (if i = 4 then some 20 else if i = 5 then some 21 else if i = 6 then some 22 else if i = 7 then some 23 else if i = 8 then some 24 else if i = 10 then some 25 else if i = 11 then some 26 else if i = 12 then some 27 else if i = 13 then some 28 else if i = 14 then some 29 else if i = 16 then some 30 else if i = 17 then some 31 else C.2.2 19 i) else C.2.2 c i)
theorem ite_ne {a b : Nat} {x y : Option Nat} (h : a ≠ b) : (if a = b then x else y) = y := if_neg h
set_option maxRecDepth 100000 in
theorem fb_fr (T : Nat) (C : cm_M) (x y : Int32) : cm_wr (cm_wi (cm_wi (cm_wr (fb C) 2 0 (some 1)) 2 1 x) 2 2 y) 2 7 (some T) = fr T (cm_wi (cm_wi C 2 1 x) 2 2 y) := by
  refine Prod.ext rfl (Prod.ext rfl (funext fun c => funext fun i => ?_))
  by_cases hc : c = 2
  · subst hc
    by_cases h7 : i = 7
    · subst h7
      rfl
    · by_cases h0 : i = 0
      · subst h0
        rfl
      · show (if 2 = 2 ∧ i = 7 then some T else if 2 = 2 ∧ i = 0 then some 1 else (if i = 11 then some 3 else if i = 12 then some 4 else if i = 13 then some 5 else C.2.2 2 i)) = (if i = 7 then some T else if i = 0 then some 1 else if i = 11 then some 3 else if i = 12 then some 4 else if i = 13 then some 5 else C.2.2 2 i)
        rw [if_neg (fun q => h7 q.2), if_neg (fun q => h0 q.2), if_neg h7, if_neg h0]
  · show (if c = 2 ∧ i = 7 then some T else if c = 2 ∧ i = 0 then some 1 else (fb C).2.2 c i) = (fr T C).2.2 c i
    rw [if_neg (fun q => hc q.1), if_neg (fun q => hc q.1)]
    show (if c = 2 then _ else _) = (if c = 2 then _ else _)
    rw [if_neg hc, if_neg hc]
set_option maxRecDepth 100000 in
theorem fr_fr (T : Nat) (C : cm_M) : fr T (fr T C) = fr T C := by
  refine Prod.ext rfl (Prod.ext rfl (funext fun c => funext fun i => ?_))
  by_cases h2 : c = 2
  · subst h2
    show (if i = 7 then some T else if i = 0 then some 1 else if i = 11 then some 3 else if i = 12 then some 4 else if i = 13 then some 5 else (if i = 7 then some T else if i = 0 then some 1 else if i = 11 then some 3 else if i = 12 then some 4 else if i = 13 then some 5 else C.2.2 2 i)) = (if i = 7 then some T else if i = 0 then some 1 else if i = 11 then some 3 else if i = 12 then some 4 else if i = 13 then some 5 else C.2.2 2 i)
    repeat' split
    all_goals rfl
  · by_cases h6 : c = 6
    · subst h6
      show (if i = 4 then some 7 else if i = 5 then some 8 else if i = 6 then some 9 else if i = 7 then some 10 else if i = 8 then some 11 else if i = 10 then some 12 else if i = 11 then some 13 else if i = 12 then some 14 else if i = 13 then some 15 else if i = 14 then some 16 else if i = 16 then some 17 else if i = 17 then some 18 else  (if i = 4 then some 7 else if i = 5 then some 8 else if i = 6 then some 9 else if i = 7 then some 10 else if i = 8 then some 11 else if i = 10 then some 12 else if i = 11 then some 13 else if i = 12 then some 14 else if i = 13 then some 15 else if i = 14 then some 16 else if i = 16 then some 17 else if i = 17 then some 18 else  C.2.2 6 i)) = (if i = 4 then some 7 else if i = 5 then some 8 else if i = 6 then some 9 else if i = 7 then some 10 else if i = 8 then some 11 else if i = 10 then some 12 else if i = 11 then some 13 else if i = 12 then some 14 else if i = 13 then some 15 else if i = 14 then some 16 else if i = 16 then some 17 else if i = 17 then some 18 else  C.2.2 6 i)
      by_cases q4 : i = 4
      · rw [if_pos q4, if_pos q4]
      rw [if_neg q4, if_neg q4]
      by_cases q5 : i = 5
      · rw [if_pos q5, if_pos q5]
      rw [if_neg q5, if_neg q5]
      by_cases q6 : i = 6
      · rw [if_pos q6, if_pos q6]
      rw [if_neg q6, if_neg q6]
      by_cases q7 : i = 7
      · rw [if_pos q7, if_pos q7]
      rw [if_neg q7, if_neg q7]
      by_cases q8 : i = 8
      · rw [if_pos q8, if_pos q8]
      rw [if_neg q8, if_neg q8]
      by_cases q10 : i = 10
      · rw [if_pos q10, if_pos q10]
      rw [if_neg q10, if_neg q10]
      by_cases q11 : i = 11
      · rw [if_pos q11, if_pos q11]
      rw [if_neg q11, if_neg q11]
      by_cases q12 : i = 12
      · rw [if_pos q12, if_pos q12]
      rw [if_neg q12, if_neg q12]
      by_cases q13 : i = 13
      · rw [if_pos q13, if_pos q13]
      rw [if_neg q13, if_neg q13]
      by_cases q14 : i = 14
      · rw [if_pos q14, if_pos q14]
      rw [if_neg q14, if_neg q14]
      by_cases q16 : i = 16
      · rw [if_pos q16, if_pos q16]
      rw [if_neg q16, if_neg q16]
      by_cases q17 : i = 17
      · rw [if_pos q17, if_pos q17]
      rw [if_neg q17, if_neg q17]
    · by_cases h19 : c = 19
      · subst h19
        show (if i = 4 then some 20 else if i = 5 then some 21 else if i = 6 then some 22 else if i = 7 then some 23 else if i = 8 then some 24 else if i = 10 then some 25 else if i = 11 then some 26 else if i = 12 then some 27 else if i = 13 then some 28 else if i = 14 then some 29 else if i = 16 then some 30 else if i = 17 then some 31 else  (if i = 4 then some 20 else if i = 5 then some 21 else if i = 6 then some 22 else if i = 7 then some 23 else if i = 8 then some 24 else if i = 10 then some 25 else if i = 11 then some 26 else if i = 12 then some 27 else if i = 13 then some 28 else if i = 14 then some 29 else if i = 16 then some 30 else if i = 17 then some 31 else  C.2.2 19 i)) = (if i = 4 then some 20 else if i = 5 then some 21 else if i = 6 then some 22 else if i = 7 then some 23 else if i = 8 then some 24 else if i = 10 then some 25 else if i = 11 then some 26 else if i = 12 then some 27 else if i = 13 then some 28 else if i = 14 then some 29 else if i = 16 then some 30 else if i = 17 then some 31 else  C.2.2 19 i)
        by_cases q4 : i = 4
        · rw [if_pos q4, if_pos q4]
        rw [if_neg q4, if_neg q4]
        by_cases q5 : i = 5
        · rw [if_pos q5, if_pos q5]
        rw [if_neg q5, if_neg q5]
        by_cases q6 : i = 6
        · rw [if_pos q6, if_pos q6]
        rw [if_neg q6, if_neg q6]
        by_cases q7 : i = 7
        · rw [if_pos q7, if_pos q7]
        rw [if_neg q7, if_neg q7]
        by_cases q8 : i = 8
        · rw [if_pos q8, if_pos q8]
        rw [if_neg q8, if_neg q8]
        by_cases q10 : i = 10
        · rw [if_pos q10, if_pos q10]
        rw [if_neg q10, if_neg q10]
        by_cases q11 : i = 11
        · rw [if_pos q11, if_pos q11]
        rw [if_neg q11, if_neg q11]
        by_cases q12 : i = 12
        · rw [if_pos q12, if_pos q12]
        rw [if_neg q12, if_neg q12]
        by_cases q13 : i = 13
        · rw [if_pos q13, if_pos q13]
        rw [if_neg q13, if_neg q13]
        by_cases q14 : i = 14
        · rw [if_pos q14, if_pos q14]
        rw [if_neg q14, if_neg q14]
        by_cases q16 : i = 16
        · rw [if_pos q16, if_pos q16]
        rw [if_neg q16, if_neg q16]
        by_cases q17 : i = 17
        · rw [if_pos q17, if_pos q17]
        rw [if_neg q17, if_neg q17]
      · show (if c = 2 then _ else if c = 6 then _ else if c = 19 then _ else (if c = 2 then _ else if c = 6 then _ else if c = 19 then _ else C.2.2 c i)) = (if c = 2 then _ else if c = 6 then _ else if c = 19 then _ else C.2.2 c i)
        rw [if_neg h2, if_neg h6, if_neg h19, if_neg h2, if_neg h6, if_neg h19]
def cF_clear (T : Nat) (C : cm_M) : cm_M := cm_wi (cm_wi (cm_wi (cm_wi (cm_wi (cm_wi (cm_wi (cm_wi (cm_wi (cm_wi (C) (T) 0 0) (T) 1 0) (T) 2 0) (T) 3 0) (T) 9 0) (T) 15 0) (T) 18 0) (T + 12) 0 0) (T + 12) 1 0) (T + 12) 2 0
set_option maxRecDepth 100000 in
set_option maxHeartbeats 4000000 in
theorem f_clear6 {U : Nat} (C : cm_M) : cm_Lc cm_ms 8 [.ref 6] (fr U C) (fq U none (cF_clear 6 C)) := by
  refine lb_st0 (mi := mr_8) rfl 120 ?_
  show (ev_cmp 3 (0 : Int32) 3 = true → _) ∧ (ev_cmp 3 (0 : Int32) 3 = false → _)
  refine ⟨fun q => absurd q (by decide), fun _ => ?_⟩
  show (ev_cmp 3 (1 : Int32) 3 = true → _) ∧ (ev_cmp 3 (1 : Int32) 3 = false → _)
  refine ⟨fun q => absurd q (by decide), fun _ => ?_⟩
  show (ev_cmp 3 (2 : Int32) 3 = true → _) ∧ (ev_cmp 3 (2 : Int32) 3 = false → _)
  refine ⟨fun q => absurd q (by decide), fun _ => ?_⟩
  show (ev_cmp 3 (3 : Int32) 3 = true → _) ∧ (ev_cmp 3 (3 : Int32) 3 = false → _)
  refine ⟨fun _ => ?_, fun q => absurd q (by decide)⟩
  show fq U none (cF_clear 6 C) none (cm_wi (cm_wi (cm_wi (cm_wi (cm_wi (cm_wi (cm_wi (cm_wi (cm_wi (cm_wi (fr U C) 6 0 0) 6 1 0) 6 2 0) 6 3 0) 6 9 0) 6 15 0) 6 18 0) 18 0 0) 18 1 0) 18 2 0)
  exact ⟨rfl, _, rfl, rfl⟩
set_option maxRecDepth 100000 in
set_option maxHeartbeats 4000000 in
theorem f_clear19 {U : Nat} (C : cm_M) : cm_Lc cm_ms 8 [.ref 19] (fr U C) (fq U none (cF_clear 19 C)) := by
  refine lb_st0 (mi := mr_8) rfl 120 ?_
  show (ev_cmp 3 (0 : Int32) 3 = true → _) ∧ (ev_cmp 3 (0 : Int32) 3 = false → _)
  refine ⟨fun q => absurd q (by decide), fun _ => ?_⟩
  show (ev_cmp 3 (1 : Int32) 3 = true → _) ∧ (ev_cmp 3 (1 : Int32) 3 = false → _)
  refine ⟨fun q => absurd q (by decide), fun _ => ?_⟩
  show (ev_cmp 3 (2 : Int32) 3 = true → _) ∧ (ev_cmp 3 (2 : Int32) 3 = false → _)
  refine ⟨fun q => absurd q (by decide), fun _ => ?_⟩
  show (ev_cmp 3 (3 : Int32) 3 = true → _) ∧ (ev_cmp 3 (3 : Int32) 3 = false → _)
  refine ⟨fun _ => ?_, fun q => absurd q (by decide)⟩
  show fq U none (cF_clear 19 C) none (cm_wi (cm_wi (cm_wi (cm_wi (cm_wi (cm_wi (cm_wi (cm_wi (cm_wi (cm_wi (fr U C) 19 0 0) 19 1 0) 19 2 0) 19 3 0) 19 9 0) 19 15 0) 19 18 0) 31 0 0) 31 1 0) 31 2 0)
  exact ⟨rfl, _, rfl, rfl⟩
def rd0 (T : Nat) (n : Int32) (C : cm_M) : cm_M := cm_wi (cm_wi (cm_wi (fr T (cF_clear T (cm_wi (cm_wi C 2 1 n) 2 2 0))) 2 8 0) 2 9 0) 2 10 0
theorem clr_2 {T i : Nat} {C : cm_M} (hT : 6 ≤ T) : (cF_clear T C).1 2 i = C.1 2 i := by
  unfold cF_clear
  have e : ∀ (X : cm_M) (c j : Nat) (v : Int32), 6 ≤ c → (cm_wi X c j v).1 2 i = X.1 2 i := fun X c j v hc => by
    show (if 2 = c ∧ i = j then _ else _) = _
    rw [if_neg (by omega)]
  rw [e _ _ _ _ (by omega), e _ _ _ _ (by omega), e _ _ _ _ (by omega), e _ _ _ _ (by omega), e _ _ _ _ (by omega), e _ _ _ _ (by omega), e _ _ _ _ (by omega), e _ _ _ _ (by omega), e _ _ _ _ (by omega), e _ _ _ _ (by omega)]
theorem rd0_RC {T N : Nat} {C : cm_M} (hT : 6 ≤ T) (hN : N ≤ 900) : RC N (rd0 T (Int32.ofNat N) C) :=
  ⟨⟨rfl, (clr_2 hT : (cF_clear T (cm_wi (cm_wi C 2 1 (Int32.ofNat N)) 2 2 0)).1 2 1 = _), hN, 0, Nat.zero_le _, (clr_2 hT : (cF_clear T (cm_wi (cm_wi C 2 1 (Int32.ofNat N)) 2 2 0)).1 2 2 = _)⟩, 0, Nat.zero_le _, rfl⟩
def fin (T : Nat) (X : cm_M) : cm_M := if (if X.1 2 3 = 0 then X else cF_fail 1 X).1 T 3 = 0 then cF_fail 6 (if X.1 2 3 = 0 then X else cF_fail 1 X) else (if X.1 2 3 = 0 then X else cF_fail 1 X)
theorem PG_fin {T N : Nat} {X : cm_M} : PG T N X (fin T X) := by
  have h : PG T N X (if X.1 2 3 = 0 then X else cF_fail 1 X) := by
    split
    · exact PG_rfl
    · exact PG_fail
  unfold fin
  generalize (if X.1 2 3 = 0 then X else cF_fail 1 X) = Y at h ⊢
  split
  · exact PG_tr h PG_fail
  · exact h
abbrev rd_K (T N : Nat) (C0 : cm_M) : cm_K := fun v M' => ∃ X, Ex T N C0 X ∧ RC N X ∧ M' = fr T (fin T X) ∧ v = some (.int ((fin T X).1 2 9))
def rd_J (T N : Nat) (C0 : cm_M) (S : cm_S) : Prop := (∃ k, k ≤ 900 ∧ S = (58, [(0, .ref 2), (4, .int (Int32.ofNat k))], [], fr T (itr T N C0 (k + 1))) ∧ ∀ i, i < k → lc (itr T N C0 (i + 1))) ∨ (∃ X, Ex T N C0 X ∧ RC N X ∧ S = (95, [(0, .ref 2)], [], fr T X)) ∨ (∃ X Y, Ex T N C0 X ∧ RC N X ∧ (if X.1 2 3 = 0 then X else cF_fail 1 X) = Y ∧ S = (107, [(0, .ref 2)], [], fr T Y))
abbrev rd_st : List (Nat × List Nat) := [(58, [0, 4]), (95, [0]), (107, [0])]
theorem min9 {N : Nat} (hN : N ≤ 900) : (if (Int32.ofNat 900) < (Int32.ofNat N) then (Int32.ofNat 900) else (Int32.ofNat N)) = Int32.ofNat N := by
  rw [if_neg (fun q => ?_)]
  have := Int32.lt_iff_toInt_lt.mp q
  rw [fn_toInt (by omega), fn_toInt (by omega)] at this
  omega
set_option maxRecDepth 100000 in
set_option maxHeartbeats 4000000 in
theorem f_read6 {N : Nat} {C : cm_M} (hN : N ≤ 900) : cm_Lc cm_ms 64 [.ref 2, .ref 1, .int (Int32.ofNat N), .ref 6] (fb C) (rd_K 6 N (rd0 6 (Int32.ofNat N) C)) := by
  have hC0 : RC N (rd0 6 (Int32.ofNat N) C) := rd0_RC (by decide) hN
  have h00 : (rd0 6 (Int32.ofNat N) C).1 2 9 = 0 := rfl
  refine lb_of (mi := mr_64) rfl rd_st (rd_J 6 N (rd0 6 (Int32.ofNat N) C)) 60 (fun S hS => ?_) 60 ?_
  · generalize hg : rd0 6 (Int32.ofNat N) C = C0 at hC0 h00 hS ⊢
    rcases hS with ⟨k, hk, rfl, ha⟩ | ⟨X, hX, hR, rfl⟩ | ⟨X, Y, hX, hR, hY, rfl⟩
    · have hRk := itr_rs (T := 6) (by decide) hC0 (k + 1)
      have hlt := itr_900 (T := 6) (by decide) hC0 h00 ha
      generalize hgX : itr 6 N C0 (k + 1) = X at hRk hlt
      show (ev_cmp 3 (Int32.ofNat k) 900 = true → _) ∧ (ev_cmp 3 (Int32.ofNat k) 900 = false → (ev_cmp 1 (X.1 2 9) 0 = true → _) ∧ (ev_cmp 1 (X.1 2 9) 0 = false → (ev_cmp 1 (X.1 2 3) 3 = true → _) ∧ (ev_cmp 1 (X.1 2 3) 3 = false → ∃ R, cm_Lc cm_ms 88 [.ref 2] (fr 6 X) R ∧ ∀ v M', R v M' → _)))
      refine ⟨fun h1 => ?_, fun h1 => ⟨fun h2 => ?_, fun h2 => ⟨fun h3 => ?_, fun h3 => ⟨_, f_step hRk, ?_⟩⟩⟩⟩
      · have g := fn_ge h1
        rw [fn_toInt (by omega)] at g
        have e9 : (900 : Int32).toInt = 900 := by decide
        show rd_J 6 N C0 (95, [(0, .ref 2)], [], fr 6 X)
        exact Or.inr (Or.inl ⟨X, ⟨k, hgX.symm, ha, fun q => by have := hlt q.1; omega⟩, hRk, rfl⟩)
      · show rd_J 6 N C0 (95, [(0, .ref 2)], [], fr 6 X)
        exact Or.inr (Or.inl ⟨X, ⟨k, hgX.symm, ha, fun q => fn_ne h2 q.1⟩, hRk, rfl⟩)
      · show rd_J 6 N C0 (95, [(0, .ref 2)], [], fr 6 X)
        exact Or.inr (Or.inl ⟨X, ⟨k, hgX.symm, ha, fun q => fn_ne h3 q.2⟩, hRk, rfl⟩)
      · rintro v M' ⟨rfl, A, eA, rfl⟩
        have kA : RC N A := by rw [eA]; exact RC_step hRk
        have zA : A.1 2 9 = 0 := by rw [eA, cF_step_9]; exact fn_eq h2
        show ∃ R, cm_Lc cm_ms 67 [.ref 2] (fr 6 A) R ∧ ∀ v M', R v M' → _
        refine ⟨_, f_readLine6 kA zA, ?_⟩
        rintro v M' ⟨rfl, B, eB, rfl⟩
        show rd_J 6 N C0 (58, [(0, .ref 2), (4, .int (Int32.ofNat k + 1))], [], fr 6 B)
        have hk9 := hlt (fn_eq h2)
        have e2 : B = itr 6 N C0 (k + 1 + 1) := by
          rw [eB, eA, ← hgX]
          rfl
        rw [fn_succ, e2]
        refine Or.inl ⟨k + 1, by omega, rfl, fun i hi => ?_⟩
        rcases (by omega : i < k ∨ i = k) with q | q
        · exact ha i q
        · rw [q, hgX]
          exact ⟨fn_eq h2, fn_eq h3⟩
    · show (ev_cmp 0 (X.1 2 3) 0 = true → _) ∧ (ev_cmp 0 (X.1 2 3) 0 = false → ∃ R, cm_Lc cm_ms 66 [.ref 2, .int 1] (fr 6 X) R ∧ ∀ v M', R v M' → _)
      refine ⟨fun h1 => ?_, fun h1 => ⟨_, f_fail 1 _, ?_⟩⟩
      · show rd_J 6 N C0 (107, [(0, .ref 2)], [], fr 6 X)
        exact Or.inr (Or.inr ⟨X, X, hX, hR, if_pos (fn_eq0 h1), rfl⟩)
      · rintro v M' ⟨rfl, Y, eY, rfl⟩
        show rd_J 6 N C0 (107, [(0, .ref 2)], [], fr 6 Y)
        exact Or.inr (Or.inr ⟨X, Y, hX, hR, by rw [if_neg (fn_ne0 h1), eY], rfl⟩)
    · show (ev_cmp 1 (Y.1 6 3) 0 = true → _) ∧ (ev_cmp 1 (Y.1 6 3) 0 = false → ∃ R, cm_Lc cm_ms 66 [.ref 2, .int 6] (fr 6 Y) R ∧ ∀ v M', R v M' → _)
      refine ⟨fun h1 => ?_, fun h1 => ⟨_, f_fail 6 _, ?_⟩⟩
      · have e : fin 6 X = Y := by
          unfold fin
          rw [hY, if_neg (fn_ne h1)]
        show rd_K 6 N C0 (some (.int (Y.1 2 9))) (fr 6 Y)
        exact ⟨X, hX, hR, by rw [e], by rw [e]⟩
      · rintro v M' ⟨rfl, Z, eZ, rfl⟩
        have e : fin 6 X = Z := by
          unfold fin
          rw [hY, if_pos (fn_eq h1), eZ]
        show rd_K 6 N C0 (some (.int (Z.1 2 9))) (fr 6 Z)
        exact ⟨X, hX, hR, by rw [e], by rw [e]⟩
  · show ∃ R, cm_Lc cm_ms 8 [.ref 6] (cm_wr (cm_wi (cm_wi (cm_wr (fb C) 2 0 (some 1)) 2 1 (if (Int32.ofNat 900) < (Int32.ofNat N) then (Int32.ofNat 900) else (Int32.ofNat N))) 2 2 0) 2 7 (some 6)) R ∧ ∀ v M', R v M' → _
    refine ⟨fun v M' => v = none ∧ ∃ A, A = fr 6 (cF_clear 6 (cm_wi (cm_wi C 2 1 (Int32.ofNat N)) 2 2 0)) ∧ M' = fr 6 A, ?_, ?_⟩
    · rw [min9 hN, fb_fr]
      refine cm_Lc_im (f_clear6 _) (fun v M' q => ?_)
      obtain ⟨q1, A, q2, q3⟩ := q
      exact ⟨q1, fr 6 A, by rw [q2], by rw [fr_fr, q3]⟩
    rintro v M' ⟨rfl, A, eA, rfl⟩
    have e0 : cm_wi (cm_wi (cm_wi A 2 8 0) 2 9 0) 2 10 0 = rd0 6 (Int32.ofNat N) C := by rw [eA]; rfl
    show ∃ R, cm_Lc cm_ms 88 [.ref 2] (fr 6 (cm_wi (cm_wi (cm_wi A 2 8 0) 2 9 0) 2 10 0)) R ∧ ∀ v M', R v M' → _
    refine ⟨_, f_step (T := 6) (by rw [e0]; exact hC0), ?_⟩
    rintro v M' ⟨rfl, B, eB, rfl⟩
    rw [e0] at eB
    have kB : RC N B := by rw [eB]; exact RC_step hC0
    have zB : B.1 2 9 = 0 := by rw [eB, cF_step_9]; exact h00
    show ∃ R, cm_Lc cm_ms 67 [.ref 2] (fr 6 B) R ∧ ∀ v M', R v M' → _
    refine ⟨_, f_readLine6 kB zB, ?_⟩
    rintro v M' ⟨rfl, E, eE, rfl⟩
    show rd_J 6 N (rd0 6 (Int32.ofNat N) C) (58, [(0, .ref 2), (4, .int (Int32.ofNat 0))], [], fr 6 E)
    have e2 : E = itr 6 N (rd0 6 (Int32.ofNat N) C) (0 + 1) := by
      rw [eE, eB]
      rfl
    rw [e2]
    exact Or.inl ⟨0, Nat.zero_le _, rfl, fun i hi => by omega⟩
set_option maxRecDepth 100000 in
set_option maxHeartbeats 4000000 in
theorem f_read19 {N : Nat} {C : cm_M} (hN : N ≤ 900) : cm_Lc cm_ms 64 [.ref 2, .ref 1, .int (Int32.ofNat N), .ref 19] (fb C) (rd_K 19 N (rd0 19 (Int32.ofNat N) C)) := by
  have hC0 : RC N (rd0 19 (Int32.ofNat N) C) := rd0_RC (by decide) hN
  have h00 : (rd0 19 (Int32.ofNat N) C).1 2 9 = 0 := rfl
  refine lb_of (mi := mr_64) rfl rd_st (rd_J 19 N (rd0 19 (Int32.ofNat N) C)) 60 (fun S hS => ?_) 60 ?_
  · generalize hg : rd0 19 (Int32.ofNat N) C = C0 at hC0 h00 hS ⊢
    rcases hS with ⟨k, hk, rfl, ha⟩ | ⟨X, hX, hR, rfl⟩ | ⟨X, Y, hX, hR, hY, rfl⟩
    · have hRk := itr_rs (T := 19) (by decide) hC0 (k + 1)
      have hlt := itr_900 (T := 19) (by decide) hC0 h00 ha
      generalize hgX : itr 19 N C0 (k + 1) = X at hRk hlt
      show (ev_cmp 3 (Int32.ofNat k) 900 = true → _) ∧ (ev_cmp 3 (Int32.ofNat k) 900 = false → (ev_cmp 1 (X.1 2 9) 0 = true → _) ∧ (ev_cmp 1 (X.1 2 9) 0 = false → (ev_cmp 1 (X.1 2 3) 3 = true → _) ∧ (ev_cmp 1 (X.1 2 3) 3 = false → ∃ R, cm_Lc cm_ms 88 [.ref 2] (fr 19 X) R ∧ ∀ v M', R v M' → _)))
      refine ⟨fun h1 => ?_, fun h1 => ⟨fun h2 => ?_, fun h2 => ⟨fun h3 => ?_, fun h3 => ⟨_, f_step hRk, ?_⟩⟩⟩⟩
      · have g := fn_ge h1
        rw [fn_toInt (by omega)] at g
        have e9 : (900 : Int32).toInt = 900 := by decide
        show rd_J 19 N C0 (95, [(0, .ref 2)], [], fr 19 X)
        exact Or.inr (Or.inl ⟨X, ⟨k, hgX.symm, ha, fun q => by have := hlt q.1; omega⟩, hRk, rfl⟩)
      · show rd_J 19 N C0 (95, [(0, .ref 2)], [], fr 19 X)
        exact Or.inr (Or.inl ⟨X, ⟨k, hgX.symm, ha, fun q => fn_ne h2 q.1⟩, hRk, rfl⟩)
      · show rd_J 19 N C0 (95, [(0, .ref 2)], [], fr 19 X)
        exact Or.inr (Or.inl ⟨X, ⟨k, hgX.symm, ha, fun q => fn_ne h3 q.2⟩, hRk, rfl⟩)
      · rintro v M' ⟨rfl, A, eA, rfl⟩
        have kA : RC N A := by rw [eA]; exact RC_step hRk
        have zA : A.1 2 9 = 0 := by rw [eA, cF_step_9]; exact fn_eq h2
        show ∃ R, cm_Lc cm_ms 67 [.ref 2] (fr 19 A) R ∧ ∀ v M', R v M' → _
        refine ⟨_, f_readLine19 kA zA, ?_⟩
        rintro v M' ⟨rfl, B, eB, rfl⟩
        show rd_J 19 N C0 (58, [(0, .ref 2), (4, .int (Int32.ofNat k + 1))], [], fr 19 B)
        have hk9 := hlt (fn_eq h2)
        have e2 : B = itr 19 N C0 (k + 1 + 1) := by
          rw [eB, eA, ← hgX]
          rfl
        rw [fn_succ, e2]
        refine Or.inl ⟨k + 1, by omega, rfl, fun i hi => ?_⟩
        rcases (by omega : i < k ∨ i = k) with q | q
        · exact ha i q
        · rw [q, hgX]
          exact ⟨fn_eq h2, fn_eq h3⟩
    · show (ev_cmp 0 (X.1 2 3) 0 = true → _) ∧ (ev_cmp 0 (X.1 2 3) 0 = false → ∃ R, cm_Lc cm_ms 66 [.ref 2, .int 1] (fr 19 X) R ∧ ∀ v M', R v M' → _)
      refine ⟨fun h1 => ?_, fun h1 => ⟨_, f_fail 1 _, ?_⟩⟩
      · show rd_J 19 N C0 (107, [(0, .ref 2)], [], fr 19 X)
        exact Or.inr (Or.inr ⟨X, X, hX, hR, if_pos (fn_eq0 h1), rfl⟩)
      · rintro v M' ⟨rfl, Y, eY, rfl⟩
        show rd_J 19 N C0 (107, [(0, .ref 2)], [], fr 19 Y)
        exact Or.inr (Or.inr ⟨X, Y, hX, hR, by rw [if_neg (fn_ne0 h1), eY], rfl⟩)
    · show (ev_cmp 1 (Y.1 19 3) 0 = true → _) ∧ (ev_cmp 1 (Y.1 19 3) 0 = false → ∃ R, cm_Lc cm_ms 66 [.ref 2, .int 6] (fr 19 Y) R ∧ ∀ v M', R v M' → _)
      refine ⟨fun h1 => ?_, fun h1 => ⟨_, f_fail 6 _, ?_⟩⟩
      · have e : fin 19 X = Y := by
          unfold fin
          rw [hY, if_neg (fn_ne h1)]
        show rd_K 19 N C0 (some (.int (Y.1 2 9))) (fr 19 Y)
        exact ⟨X, hX, hR, by rw [e], by rw [e]⟩
      · rintro v M' ⟨rfl, Z, eZ, rfl⟩
        have e : fin 19 X = Z := by
          unfold fin
          rw [hY, if_pos (fn_eq h1), eZ]
        show rd_K 19 N C0 (some (.int (Z.1 2 9))) (fr 19 Z)
        exact ⟨X, hX, hR, by rw [e], by rw [e]⟩
  · show ∃ R, cm_Lc cm_ms 8 [.ref 19] (cm_wr (cm_wi (cm_wi (cm_wr (fb C) 2 0 (some 1)) 2 1 (if (Int32.ofNat 900) < (Int32.ofNat N) then (Int32.ofNat 900) else (Int32.ofNat N))) 2 2 0) 2 7 (some 19)) R ∧ ∀ v M', R v M' → _
    refine ⟨fun v M' => v = none ∧ ∃ A, A = fr 19 (cF_clear 19 (cm_wi (cm_wi C 2 1 (Int32.ofNat N)) 2 2 0)) ∧ M' = fr 19 A, ?_, ?_⟩
    · rw [min9 hN, fb_fr]
      refine cm_Lc_im (f_clear19 _) (fun v M' q => ?_)
      obtain ⟨q1, A, q2, q3⟩ := q
      exact ⟨q1, fr 19 A, by rw [q2], by rw [fr_fr, q3]⟩
    rintro v M' ⟨rfl, A, eA, rfl⟩
    have e0 : cm_wi (cm_wi (cm_wi A 2 8 0) 2 9 0) 2 10 0 = rd0 19 (Int32.ofNat N) C := by rw [eA]; rfl
    show ∃ R, cm_Lc cm_ms 88 [.ref 2] (fr 19 (cm_wi (cm_wi (cm_wi A 2 8 0) 2 9 0) 2 10 0)) R ∧ ∀ v M', R v M' → _
    refine ⟨_, f_step (T := 19) (by rw [e0]; exact hC0), ?_⟩
    rintro v M' ⟨rfl, B, eB, rfl⟩
    rw [e0] at eB
    have kB : RC N B := by rw [eB]; exact RC_step hC0
    have zB : B.1 2 9 = 0 := by rw [eB, cF_step_9]; exact h00
    show ∃ R, cm_Lc cm_ms 67 [.ref 2] (fr 19 B) R ∧ ∀ v M', R v M' → _
    refine ⟨_, f_readLine19 kB zB, ?_⟩
    rintro v M' ⟨rfl, E, eE, rfl⟩
    show rd_J 19 N (rd0 19 (Int32.ofNat N) C) (58, [(0, .ref 2), (4, .int (Int32.ofNat 0))], [], fr 19 E)
    have e2 : E = itr 19 N (rd0 19 (Int32.ofNat N) C) (0 + 1) := by
      rw [eE, eB]
      rfl
    rw [e2]
    exact Or.inl ⟨0, Nat.zero_le _, rfl, fun i hi => by omega⟩
