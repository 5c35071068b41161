noncomputable def cF_addMan (T : Nat) (c h0 v0 : Int32) (C : cm_M) : cm_M := if 6 ≤ (C.1 T 3).toInt then C else cm_wi (cm_wi (cm_wi (cm_wi (cm_wi (cm_wi C (T + 1) (C.1 T 3).toNatClampNeg c) (T + 2) (C.1 T 3).toNatClampNeg h0) (T + 3) (C.1 T 3).toNatClampNeg v0) (T + 4) (C.1 T 3).toNatClampNeg 0) (T + 5) (C.1 T 3).toNatClampNeg 0) T 3 (C.1 T 3 + 1)
noncomputable def cF_addMotion (T : Nat) (c n0 w0 : Int32) (C : cm_M) : cm_M := if 5 ≤ (C.1 T 9).toInt then C else cm_wi (cm_wi (cm_wi (cm_wi (cm_wi C (T + 6) (C.1 T 9).toNatClampNeg c) (T + 7) (C.1 T 9).toNatClampNeg n0) (T + 8) (C.1 T 9).toNatClampNeg w0) (T + 9) (C.1 T 9).toNatClampNeg 0) T 9 (C.1 T 9 + 1)
noncomputable def cF_addChair (T : Nat) (c : Int32) (C : cm_M) : cm_M := if 5 ≤ (C.1 T 15).toInt then C else cm_wi (cm_wi C (T + 11) (C.1 T 15).toNatClampNeg c) T 15 (C.1 T 15 + 1)
theorem tn_fr6 (U : Nat) (C : cm_M) : tn_ok6 (fr U C) := ⟨rfl, rfl, rfl, rfl, rfl, rfl, rfl, rfl, rfl, rfl, rfl, rfl⟩
theorem f_addMan6 {U : Nat} (c h0 v0 : Int32) (C : cm_M) : cm_Lc cm_ms 9 [.ref 6, .int c, .int h0, .int v0] (fr U C) (fq U none (cF_addMan 6 c h0 v0 C)) := by
  refine cm_Lc_im (cs_addMan6 c h0 v0 (tn_fr6 U C)) (fun v M' q => ⟨q.1, _, rfl, q.2.trans ?_⟩)
  unfold cF_addMan6 cF_addMan
  show (if 6 ≤ (C.1 6 3).toInt then _ else _) = _
  split <;> rfl
theorem f_addMotion6 {U : Nat} (c n0 w0 : Int32) (C : cm_M) : cm_Lc cm_ms 10 [.ref 6, .int c, .int n0, .int w0] (fr U C) (fq U none (cF_addMotion 6 c n0 w0 C)) := by
  refine cm_Lc_im (cs_addMotion6 c n0 w0 (tn_fr6 U C)) (fun v M' q => ⟨q.1, _, rfl, q.2.trans ?_⟩)
  unfold cF_addMotion6 cF_addMotion
  show (if 5 ≤ (C.1 6 9).toInt then _ else _) = _
  split <;> rfl
theorem f_addChair6 {U : Nat} (c : Int32) (C : cm_M) : cm_Lc cm_ms 11 [.ref 6, .int c] (fr U C) (fq U none (cF_addChair 6 c C)) := by
  refine cm_Lc_im (cs_addChair6 c (tn_fr6 U C)) (fun v M' q => ⟨q.1, _, rfl, q.2.trans ?_⟩)
  unfold cF_addChair6 cF_addChair
  show (if 5 ≤ (C.1 6 15).toInt then _ else _) = _
  split <;> rfl
theorem tn_fr19 (U : Nat) (C : cm_M) : tn_ok19 (fr U C) := ⟨rfl, rfl, rfl, rfl, rfl, rfl, rfl, rfl, rfl, rfl, rfl, rfl⟩
theorem f_addMan19 {U : Nat} (c h0 v0 : Int32) (C : cm_M) : cm_Lc cm_ms 9 [.ref 19, .int c, .int h0, .int v0] (fr U C) (fq U none (cF_addMan 19 c h0 v0 C)) := by
  refine cm_Lc_im (cs_addMan19 c h0 v0 (tn_fr19 U C)) (fun v M' q => ⟨q.1, _, rfl, q.2.trans ?_⟩)
  unfold cF_addMan19 cF_addMan
  show (if 6 ≤ (C.1 19 3).toInt then _ else _) = _
  split <;> rfl
theorem f_addMotion19 {U : Nat} (c n0 w0 : Int32) (C : cm_M) : cm_Lc cm_ms 10 [.ref 19, .int c, .int n0, .int w0] (fr U C) (fq U none (cF_addMotion 19 c n0 w0 C)) := by
  refine cm_Lc_im (cs_addMotion19 c n0 w0 (tn_fr19 U C)) (fun v M' q => ⟨q.1, _, rfl, q.2.trans ?_⟩)
  unfold cF_addMotion19 cF_addMotion
  show (if 5 ≤ (C.1 19 9).toInt then _ else _) = _
  split <;> rfl
theorem f_addChair19 {U : Nat} (c : Int32) (C : cm_M) : cm_Lc cm_ms 11 [.ref 19, .int c] (fr U C) (fq U none (cF_addChair 19 c C)) := by
  refine cm_Lc_im (cs_addChair19 c (tn_fr19 U C)) (fun v M' q => ⟨q.1, _, rfl, q.2.trans ?_⟩)
  unfold cF_addChair19 cF_addChair
  show (if 5 ≤ (C.1 19 15).toInt then _ else _) = _
  split <;> rfl
noncomputable def cF_man (T N : Nat) (C : cm_M) : cm_M :=
  let A1 := cF_newName N 1 (C.1 T 3) C
  let A2 := cF_colour A1
  let A3 := cF_step N A2
  let A4 := cF_takeWord N 14 A3
  let A5 := cF_takeWhole N 0 99 A4
  let A6 := cF_takeWord N 15 A5
  let A7 := cF_takeWhole N 0 9 A6
  if A7.1 2 9 = 0 then cF_addMan T (cF_col A1) (A4.1 2 5) (A6.1 2 5) A7 else A7
noncomputable def cF_motion (T N : Nat) (C : cm_M) : cm_M :=
  let A1 := cF_newName N 2 (C.1 T 9) C
  let A2 := cF_takeWord N 16 A1
  let A3 := cF_takeWhole N 1 30 A2
  let A4 := cF_takeWord N 17 A3
  let A5 := cF_takeWhole N 0 54 A4
  let A6 := cF_takeWord N 18 A5
  let A7 := cF_takeWhole N 0 99 A6
  if A7.1 2 9 = 0 then cF_addMotion T (A2.1 2 5) (A4.1 2 5) (A6.1 2 5) A7 else A7
noncomputable def cF_chair (T N : Nat) (C : cm_M) : cm_M :=
  let A1 := cF_newName N 6 (C.1 T 15) C
  let A2 := cF_takeWord N 19 A1
  let A3 := cF_takeWhole N 0 99 A2
  if A3.1 2 9 = 0 then cF_addChair T (A2.1 2 5) A3 else A3
noncomputable def cF_town (T N : Nat) (C : cm_M) : cm_M :=
  let A1 := cF_takeWord N 8 C
  let A2 := cF_takeWhole N 0 9 A1
  let A3 := cF_takeWord N 9 (cm_wi A2 T 0 (A1.1 2 5))
  let A4 := cF_takeWhole N 0 20 A3
  let A5 := cF_takeWord N 10 (cm_wi A4 T 1 (A3.1 2 5))
  let A6 := cF_takeWhole N 0 100 A5
  cm_wi (cm_wi A6 T 2 (A5.1 2 5)) 2 8 1
noncomputable def cF_against (T N : Nat) (C : cm_M) : cm_M :=
  let A1 := cF_told 1 C
  let A2 := cF_step N A1
  let A3 := cF_told 2 A2
  let m := cF_toldV 1 C
  let k := cF_toldV 2 A2
  if m = -1 then A3 else if k = -1 then A3 else if (A3.1 (T + 4) m.toNatClampNeg >>> (k &&& 31)) &&& 1 = 0 then cF_step N (cm_wi A3 (T + 4) m.toNatClampNeg (A3.1 (T + 4) m.toNatClampNeg ||| (1 <<< (k &&& 31)))) else cF_fail 3 A3
noncomputable def cF_amends (T N : Nat) (C : cm_M) : cm_M :=
  let A1 := cF_told 2 C
  let A2 := cF_step N A1
  let A3 := cF_told 2 A2
  let m := cF_toldV 2 C
  let k := cF_toldV 2 A2
  if m = -1 then A3 else if k = -1 then A3 else if (A3.1 (T + 9) m.toNatClampNeg >>> (k &&& 31)) &&& 1 = 0 then (if m.toInt ≤ k.toInt then cF_fail 7 A3 else cF_step N (cm_wi A3 (T + 9) m.toNatClampNeg (A3.1 (T + 9) m.toNatClampNeg ||| (1 <<< (k &&& 31))))) else cF_fail 3 A3
noncomputable def cF_qput (T : Nat) (m k : Int32) (X : cm_M) : cm_M := cm_wi (cm_wi X (T + 5) m.toNatClampNeg (X.1 (T + 5) m.toNatClampNeg ||| (1 <<< (k &&& 31)))) (T + 5) k.toNatClampNeg ((cm_wi X (T + 5) m.toNatClampNeg (X.1 (T + 5) m.toNatClampNeg ||| (1 <<< (k &&& 31)))).1 (T + 5) k.toNatClampNeg ||| (1 <<< (m &&& 31)))
noncomputable def cF_quarrel (T N : Nat) (C : cm_M) : cm_M :=
  let A1 := cF_told 1 C
  let A2 := cF_step N A1
  let A3 := cF_told 1 A2
  let m := cF_toldV 1 C
  let k := cF_toldV 1 A2
  if m = -1 then A3 else if k = -1 then A3 else if m = k then cF_fail 3 A3 else if (A3.1 (T + 5) m.toNatClampNeg >>> (k &&& 31)) &&& 1 = 0 then cF_step N (cF_qput T m k A3) else cF_fail 3 A3
noncomputable def cF_hput (T : Nat) (c a : Int32) (X : cm_M) : cm_M := cm_wi (cm_wi X (T + 12) c.toNatClampNeg a) T 18 (X.1 T 18 ||| (1 <<< (c &&& 31)))
noncomputable def cF_heap (T N : Nat) (C : cm_M) : cm_M :=
  let A1 := cF_colour C
  let c := cF_col C
  if c = -1 then A1 else if (A1.1 T 18 >>> (c &&& 31)) &&& 1 = 0 then
    (let A2 := cF_step N A1
    let A3 := cF_takeWhole N 0 999 A2
    if A3.1 2 9 = 0 then (if 3 ≤ c.toInt then A3 else cF_hput T c (A2.1 2 5) A3) else A3) else cF_fail 3 A1
set_option maxRecDepth 100000 in
set_option maxHeartbeats 4000000 in
theorem f_man6 {N : Nat} {C : cm_M} (h : RC N C) : cm_Lc cm_ms 71 [.ref 2] (fr 6 C) (fq 6 none (cF_man 6 N C)) := by
  have z3 : (3 : Int32).toInt = 3 := by decide
  refine lb_st0 (mi := mr_71) rfl 120 ?_
  show ∃ R, cm_Lc cm_ms 80 [.ref 2, .int 1, .int (C.1 6 3)] (fr 6 C) R ∧ ∀ v M', R v M' → _
  refine ⟨_, f_newName 1 (C.1 6 3) h, ?_⟩
  rintro v M' ⟨rfl, A1, e1, rfl⟩
  have k1 : RC N A1 := by rw [e1]; exact RC_newName h
  show ∃ R, cm_Lc cm_ms 83 [.ref 2] (fr 6 A1) R ∧ ∀ v M', R v M' → _
  refine ⟨_, f_colour _, ?_⟩
  rintro v M' ⟨rfl, A2, e2, rfl⟩
  have k2 : RC N A2 := by rw [e2]; exact RC_colour k1
  show ∃ R, cm_Lc cm_ms 88 [.ref 2] (fr 6 A2) R ∧ ∀ v M', R v M' → _
  refine ⟨_, f_step k2, ?_⟩
  rintro v M' ⟨rfl, A3, e3, rfl⟩
  have k3 : RC N A3 := by rw [e3]; exact RC_step k2
  show ∃ R, cm_Lc cm_ms 78 [.ref 2, .ref (1001 + 2 * 14)] (fr 6 A3) R ∧ ∀ v M', R v M' → _
  refine ⟨_, f_takeWord (t := 14) (by decide) k3, ?_⟩
  rintro v M' ⟨rfl, A4, e4, rfl⟩
  have k4 : RC N A4 := by rw [e4]; exact RC_takeWord k3
  show ∃ R, cm_Lc cm_ms 79 [.ref 2, .int 0, .int 99] (fr 6 A4) R ∧ ∀ v M', R v M' → _
  refine ⟨_, f_takeWhole 0 99 k4, ?_⟩
  rintro v M' ⟨rfl, A5, e5, rfl⟩
  have k5 : RC N A5 := by rw [e5]; exact RC_takeWhole k4
  show ∃ R, cm_Lc cm_ms 78 [.ref 2, .ref (1001 + 2 * 15)] (fr 6 A5) R ∧ ∀ v M', R v M' → _
  refine ⟨_, f_takeWord (t := 15) (by decide) k5, ?_⟩
  rintro v M' ⟨rfl, A6, e6, rfl⟩
  have k6 : RC N A6 := by rw [e6]; exact RC_takeWord k5
  show ∃ R, cm_Lc cm_ms 79 [.ref 2, .int 0, .int 9] (fr 6 A6) R ∧ ∀ v M', R v M' → _
  refine ⟨_, f_takeWhole 0 9 k6, ?_⟩
  rintro v M' ⟨rfl, A7, e7, rfl⟩
  have k7 : RC N A7 := by rw [e7]; exact RC_takeWhole k6
  show (ev_cmp 1 (A7.1 2 9) 0 = true → _) ∧ (ev_cmp 1 (A7.1 2 9) 0 = false → _)
  refine ⟨fun h1 => ?_, fun h1 => ?_⟩
  · have g1 := fn_ne h1
    show fq 6 none (cF_man 6 N C) none (fr 6 A7)
    refine ⟨rfl, A7, ?_, rfl⟩
    unfold cF_man
    dsimp only
    subst e7 e6 e5 e4 e3 e2 e1
    rw [if_neg g1]
  · have g1 := fn_eq h1
    show ∃ R, cm_Lc cm_ms 9 [.ref 6, .int (cF_col A1), .int (A4.1 2 5), .int (A6.1 2 5)] (fr 6 A7) R ∧ ∀ v M', R v M' → _
    refine ⟨_, f_addMan6 (cF_col A1) (A4.1 2 5) (A6.1 2 5) _, ?_⟩
    rintro v M' ⟨rfl, A8, e8, rfl⟩
    show fq 6 none (cF_man 6 N C) none (fr 6 A8)
    refine ⟨rfl, A8, ?_, rfl⟩
    unfold cF_man
    dsimp only
    subst e8 e7 e6 e5 e4 e3 e2 e1
    rw [if_pos g1]
set_option maxRecDepth 100000 in
set_option maxHeartbeats 4000000 in
theorem f_man19 {N : Nat} {C : cm_M} (h : RC N C) : cm_Lc cm_ms 71 [.ref 2] (fr 19 C) (fq 19 none (cF_man 19 N C)) := by
  have z3 : (3 : Int32).toInt = 3 := by decide
  refine lb_st0 (mi := mr_71) rfl 120 ?_
  show ∃ R, cm_Lc cm_ms 80 [.ref 2, .int 1, .int (C.1 19 3)] (fr 19 C) R ∧ ∀ v M', R v M' → _
  refine ⟨_, f_newName 1 (C.1 19 3) h, ?_⟩
  rintro v M' ⟨rfl, A1, e1, rfl⟩
  have k1 : RC N A1 := by rw [e1]; exact RC_newName h
  show ∃ R, cm_Lc cm_ms 83 [.ref 2] (fr 19 A1) R ∧ ∀ v M', R v M' → _
  refine ⟨_, f_colour _, ?_⟩
  rintro v M' ⟨rfl, A2, e2, rfl⟩
  have k2 : RC N A2 := by rw [e2]; exact RC_colour k1
  show ∃ R, cm_Lc cm_ms 88 [.ref 2] (fr 19 A2) R ∧ ∀ v M', R v M' → _
  refine ⟨_, f_step k2, ?_⟩
  rintro v M' ⟨rfl, A3, e3, rfl⟩
  have k3 : RC N A3 := by rw [e3]; exact RC_step k2
  show ∃ R, cm_Lc cm_ms 78 [.ref 2, .ref (1001 + 2 * 14)] (fr 19 A3) R ∧ ∀ v M', R v M' → _
  refine ⟨_, f_takeWord (t := 14) (by decide) k3, ?_⟩
  rintro v M' ⟨rfl, A4, e4, rfl⟩
  have k4 : RC N A4 := by rw [e4]; exact RC_takeWord k3
  show ∃ R, cm_Lc cm_ms 79 [.ref 2, .int 0, .int 99] (fr 19 A4) R ∧ ∀ v M', R v M' → _
  refine ⟨_, f_takeWhole 0 99 k4, ?_⟩
  rintro v M' ⟨rfl, A5, e5, rfl⟩
  have k5 : RC N A5 := by rw [e5]; exact RC_takeWhole k4
  show ∃ R, cm_Lc cm_ms 78 [.ref 2, .ref (1001 + 2 * 15)] (fr 19 A5) R ∧ ∀ v M', R v M' → _
  refine ⟨_, f_takeWord (t := 15) (by decide) k5, ?_⟩
  rintro v M' ⟨rfl, A6, e6, rfl⟩
  have k6 : RC N A6 := by rw [e6]; exact RC_takeWord k5
  show ∃ R, cm_Lc cm_ms 79 [.ref 2, .int 0, .int 9] (fr 19 A6) R ∧ ∀ v M', R v M' → _
  refine ⟨_, f_takeWhole 0 9 k6, ?_⟩
  rintro v M' ⟨rfl, A7, e7, rfl⟩
  have k7 : RC N A7 := by rw [e7]; exact RC_takeWhole k6
  show (ev_cmp 1 (A7.1 2 9) 0 = true → _) ∧ (ev_cmp 1 (A7.1 2 9) 0 = false → _)
  refine ⟨fun h1 => ?_, fun h1 => ?_⟩
  · have g1 := fn_ne h1
    show fq 19 none (cF_man 19 N C) none (fr 19 A7)
    refine ⟨rfl, A7, ?_, rfl⟩
    unfold cF_man
    dsimp only
    subst e7 e6 e5 e4 e3 e2 e1
    rw [if_neg g1]
  · have g1 := fn_eq h1
    show ∃ R, cm_Lc cm_ms 9 [.ref 19, .int (cF_col A1), .int (A4.1 2 5), .int (A6.1 2 5)] (fr 19 A7) R ∧ ∀ v M', R v M' → _
    refine ⟨_, f_addMan19 (cF_col A1) (A4.1 2 5) (A6.1 2 5) _, ?_⟩
    rintro v M' ⟨rfl, A8, e8, rfl⟩
    show fq 19 none (cF_man 19 N C) none (fr 19 A8)
    refine ⟨rfl, A8, ?_, rfl⟩
    unfold cF_man
    dsimp only
    subst e8 e7 e6 e5 e4 e3 e2 e1
    rw [if_pos g1]
set_option maxRecDepth 100000 in
set_option maxHeartbeats 4000000 in
theorem f_motion6 {N : Nat} {C : cm_M} (h : RC N C) : cm_Lc cm_ms 72 [.ref 2] (fr 6 C) (fq 6 none (cF_motion 6 N C)) := by
  have z3 : (3 : Int32).toInt = 3 := by decide
  refine lb_st0 (mi := mr_72) rfl 120 ?_
  show ∃ R, cm_Lc cm_ms 80 [.ref 2, .int 2, .int (C.1 6 9)] (fr 6 C) R ∧ ∀ v M', R v M' → _
  refine ⟨_, f_newName 2 (C.1 6 9) h, ?_⟩
  rintro v M' ⟨rfl, A1, e1, rfl⟩
  have k1 : RC N A1 := by rw [e1]; exact RC_newName h
  show ∃ R, cm_Lc cm_ms 78 [.ref 2, .ref (1001 + 2 * 16)] (fr 6 A1) R ∧ ∀ v M', R v M' → _
  refine ⟨_, f_takeWord (t := 16) (by decide) k1, ?_⟩
  rintro v M' ⟨rfl, A2, e2, rfl⟩
  have k2 : RC N A2 := by rw [e2]; exact RC_takeWord k1
  show ∃ R, cm_Lc cm_ms 79 [.ref 2, .int 1, .int 30] (fr 6 A2) R ∧ ∀ v M', R v M' → _
  refine ⟨_, f_takeWhole 1 30 k2, ?_⟩
  rintro v M' ⟨rfl, A3, e3, rfl⟩
  have k3 : RC N A3 := by rw [e3]; exact RC_takeWhole k2
  show ∃ R, cm_Lc cm_ms 78 [.ref 2, .ref (1001 + 2 * 17)] (fr 6 A3) R ∧ ∀ v M', R v M' → _
  refine ⟨_, f_takeWord (t := 17) (by decide) k3, ?_⟩
  rintro v M' ⟨rfl, A4, e4, rfl⟩
  have k4 : RC N A4 := by rw [e4]; exact RC_takeWord k3
  show ∃ R, cm_Lc cm_ms 79 [.ref 2, .int 0, .int 54] (fr 6 A4) R ∧ ∀ v M', R v M' → _
  refine ⟨_, f_takeWhole 0 54 k4, ?_⟩
  rintro v M' ⟨rfl, A5, e5, rfl⟩
  have k5 : RC N A5 := by rw [e5]; exact RC_takeWhole k4
  show ∃ R, cm_Lc cm_ms 78 [.ref 2, .ref (1001 + 2 * 18)] (fr 6 A5) R ∧ ∀ v M', R v M' → _
  refine ⟨_, f_takeWord (t := 18) (by decide) k5, ?_⟩
  rintro v M' ⟨rfl, A6, e6, rfl⟩
  have k6 : RC N A6 := by rw [e6]; exact RC_takeWord k5
  show ∃ R, cm_Lc cm_ms 79 [.ref 2, .int 0, .int 99] (fr 6 A6) R ∧ ∀ v M', R v M' → _
  refine ⟨_, f_takeWhole 0 99 k6, ?_⟩
  rintro v M' ⟨rfl, A7, e7, rfl⟩
  have k7 : RC N A7 := by rw [e7]; exact RC_takeWhole k6
  show (ev_cmp 1 (A7.1 2 9) 0 = true → _) ∧ (ev_cmp 1 (A7.1 2 9) 0 = false → _)
  refine ⟨fun h1 => ?_, fun h1 => ?_⟩
  · have g1 := fn_ne h1
    show fq 6 none (cF_motion 6 N C) none (fr 6 A7)
    refine ⟨rfl, A7, ?_, rfl⟩
    unfold cF_motion
    dsimp only
    subst e7 e6 e5 e4 e3 e2 e1
    rw [if_neg g1]
  · have g1 := fn_eq h1
    show ∃ R, cm_Lc cm_ms 10 [.ref 6, .int (A2.1 2 5), .int (A4.1 2 5), .int (A6.1 2 5)] (fr 6 A7) R ∧ ∀ v M', R v M' → _
    refine ⟨_, f_addMotion6 (A2.1 2 5) (A4.1 2 5) (A6.1 2 5) _, ?_⟩
    rintro v M' ⟨rfl, A8, e8, rfl⟩
    show fq 6 none (cF_motion 6 N C) none (fr 6 A8)
    refine ⟨rfl, A8, ?_, rfl⟩
    unfold cF_motion
    dsimp only
    subst e8 e7 e6 e5 e4 e3 e2 e1
    rw [if_pos g1]
set_option maxRecDepth 100000 in
set_option maxHeartbeats 4000000 in
theorem f_motion19 {N : Nat} {C : cm_M} (h : RC N C) : cm_Lc cm_ms 72 [.ref 2] (fr 19 C) (fq 19 none (cF_motion 19 N C)) := by
  have z3 : (3 : Int32).toInt = 3 := by decide
  refine lb_st0 (mi := mr_72) rfl 120 ?_
  show ∃ R, cm_Lc cm_ms 80 [.ref 2, .int 2, .int (C.1 19 9)] (fr 19 C) R ∧ ∀ v M', R v M' → _
  refine ⟨_, f_newName 2 (C.1 19 9) h, ?_⟩
  rintro v M' ⟨rfl, A1, e1, rfl⟩
  have k1 : RC N A1 := by rw [e1]; exact RC_newName h
  show ∃ R, cm_Lc cm_ms 78 [.ref 2, .ref (1001 + 2 * 16)] (fr 19 A1) R ∧ ∀ v M', R v M' → _
  refine ⟨_, f_takeWord (t := 16) (by decide) k1, ?_⟩
  rintro v M' ⟨rfl, A2, e2, rfl⟩
  have k2 : RC N A2 := by rw [e2]; exact RC_takeWord k1
  show ∃ R, cm_Lc cm_ms 79 [.ref 2, .int 1, .int 30] (fr 19 A2) R ∧ ∀ v M', R v M' → _
  refine ⟨_, f_takeWhole 1 30 k2, ?_⟩
  rintro v M' ⟨rfl, A3, e3, rfl⟩
  have k3 : RC N A3 := by rw [e3]; exact RC_takeWhole k2
  show ∃ R, cm_Lc cm_ms 78 [.ref 2, .ref (1001 + 2 * 17)] (fr 19 A3) R ∧ ∀ v M', R v M' → _
  refine ⟨_, f_takeWord (t := 17) (by decide) k3, ?_⟩
  rintro v M' ⟨rfl, A4, e4, rfl⟩
  have k4 : RC N A4 := by rw [e4]; exact RC_takeWord k3
  show ∃ R, cm_Lc cm_ms 79 [.ref 2, .int 0, .int 54] (fr 19 A4) R ∧ ∀ v M', R v M' → _
  refine ⟨_, f_takeWhole 0 54 k4, ?_⟩
  rintro v M' ⟨rfl, A5, e5, rfl⟩
  have k5 : RC N A5 := by rw [e5]; exact RC_takeWhole k4
  show ∃ R, cm_Lc cm_ms 78 [.ref 2, .ref (1001 + 2 * 18)] (fr 19 A5) R ∧ ∀ v M', R v M' → _
  refine ⟨_, f_takeWord (t := 18) (by decide) k5, ?_⟩
  rintro v M' ⟨rfl, A6, e6, rfl⟩
  have k6 : RC N A6 := by rw [e6]; exact RC_takeWord k5
  show ∃ R, cm_Lc cm_ms 79 [.ref 2, .int 0, .int 99] (fr 19 A6) R ∧ ∀ v M', R v M' → _
  refine ⟨_, f_takeWhole 0 99 k6, ?_⟩
  rintro v M' ⟨rfl, A7, e7, rfl⟩
  have k7 : RC N A7 := by rw [e7]; exact RC_takeWhole k6
  show (ev_cmp 1 (A7.1 2 9) 0 = true → _) ∧ (ev_cmp 1 (A7.1 2 9) 0 = false → _)
  refine ⟨fun h1 => ?_, fun h1 => ?_⟩
  · have g1 := fn_ne h1
    show fq 19 none (cF_motion 19 N C) none (fr 19 A7)
    refine ⟨rfl, A7, ?_, rfl⟩
    unfold cF_motion
    dsimp only
    subst e7 e6 e5 e4 e3 e2 e1
    rw [if_neg g1]
  · have g1 := fn_eq h1
    show ∃ R, cm_Lc cm_ms 10 [.ref 19, .int (A2.1 2 5), .int (A4.1 2 5), .int (A6.1 2 5)] (fr 19 A7) R ∧ ∀ v M', R v M' → _
    refine ⟨_, f_addMotion19 (A2.1 2 5) (A4.1 2 5) (A6.1 2 5) _, ?_⟩
    rintro v M' ⟨rfl, A8, e8, rfl⟩
    show fq 19 none (cF_motion 19 N C) none (fr 19 A8)
    refine ⟨rfl, A8, ?_, rfl⟩
    unfold cF_motion
    dsimp only
    subst e8 e7 e6 e5 e4 e3 e2 e1
    rw [if_pos g1]
set_option maxRecDepth 100000 in
set_option maxHeartbeats 4000000 in
theorem f_chair6 {N : Nat} {C : cm_M} (h : RC N C) : cm_Lc cm_ms 76 [.ref 2] (fr 6 C) (fq 6 none (cF_chair 6 N C)) := by
  have z3 : (3 : Int32).toInt = 3 := by decide
  refine lb_st0 (mi := mr_76) rfl 120 ?_
  show ∃ R, cm_Lc cm_ms 80 [.ref 2, .int 6, .int (C.1 6 15)] (fr 6 C) R ∧ ∀ v M', R v M' → _
  refine ⟨_, f_newName 6 (C.1 6 15) h, ?_⟩
  rintro v M' ⟨rfl, A1, e1, rfl⟩
  have k1 : RC N A1 := by rw [e1]; exact RC_newName h
  show ∃ R, cm_Lc cm_ms 78 [.ref 2, .ref (1001 + 2 * 19)] (fr 6 A1) R ∧ ∀ v M', R v M' → _
  refine ⟨_, f_takeWord (t := 19) (by decide) k1, ?_⟩
  rintro v M' ⟨rfl, A2, e2, rfl⟩
  have k2 : RC N A2 := by rw [e2]; exact RC_takeWord k1
  show ∃ R, cm_Lc cm_ms 79 [.ref 2, .int 0, .int 99] (fr 6 A2) R ∧ ∀ v M', R v M' → _
  refine ⟨_, f_takeWhole 0 99 k2, ?_⟩
  rintro v M' ⟨rfl, A3, e3, rfl⟩
  have k3 : RC N A3 := by rw [e3]; exact RC_takeWhole k2
  show (ev_cmp 1 (A3.1 2 9) 0 = true → _) ∧ (ev_cmp 1 (A3.1 2 9) 0 = false → _)
  refine ⟨fun h1 => ?_, fun h1 => ?_⟩
  · have g1 := fn_ne h1
    show fq 6 none (cF_chair 6 N C) none (fr 6 A3)
    refine ⟨rfl, A3, ?_, rfl⟩
    unfold cF_chair
    dsimp only
    subst e3 e2 e1
    rw [if_neg g1]
  · have g1 := fn_eq h1
    show ∃ R, cm_Lc cm_ms 11 [.ref 6, .int (A2.1 2 5)] (fr 6 A3) R ∧ ∀ v M', R v M' → _
    refine ⟨_, f_addChair6 (A2.1 2 5) _, ?_⟩
    rintro v M' ⟨rfl, A4, e4, rfl⟩
    show fq 6 none (cF_chair 6 N C) none (fr 6 A4)
    refine ⟨rfl, A4, ?_, rfl⟩
    unfold cF_chair
    dsimp only
    subst e4 e3 e2 e1
    rw [if_pos g1]
set_option maxRecDepth 100000 in
set_option maxHeartbeats 4000000 in
theorem f_chair19 {N : Nat} {C : cm_M} (h : RC N C) : cm_Lc cm_ms 76 [.ref 2] (fr 19 C) (fq 19 none (cF_chair 19 N C)) := by
  have z3 : (3 : Int32).toInt = 3 := by decide
  refine lb_st0 (mi := mr_76) rfl 120 ?_
  show ∃ R, cm_Lc cm_ms 80 [.ref 2, .int 6, .int (C.1 19 15)] (fr 19 C) R ∧ ∀ v M', R v M' → _
  refine ⟨_, f_newName 6 (C.1 19 15) h, ?_⟩
  rintro v M' ⟨rfl, A1, e1, rfl⟩
  have k1 : RC N A1 := by rw [e1]; exact RC_newName h
  show ∃ R, cm_Lc cm_ms 78 [.ref 2, .ref (1001 + 2 * 19)] (fr 19 A1) R ∧ ∀ v M', R v M' → _
  refine ⟨_, f_takeWord (t := 19) (by decide) k1, ?_⟩
  rintro v M' ⟨rfl, A2, e2, rfl⟩
  have k2 : RC N A2 := by rw [e2]; exact RC_takeWord k1
  show ∃ R, cm_Lc cm_ms 79 [.ref 2, .int 0, .int 99] (fr 19 A2) R ∧ ∀ v M', R v M' → _
  refine ⟨_, f_takeWhole 0 99 k2, ?_⟩
  rintro v M' ⟨rfl, A3, e3, rfl⟩
  have k3 : RC N A3 := by rw [e3]; exact RC_takeWhole k2
  show (ev_cmp 1 (A3.1 2 9) 0 = true → _) ∧ (ev_cmp 1 (A3.1 2 9) 0 = false → _)
  refine ⟨fun h1 => ?_, fun h1 => ?_⟩
  · have g1 := fn_ne h1
    show fq 19 none (cF_chair 19 N C) none (fr 19 A3)
    refine ⟨rfl, A3, ?_, rfl⟩
    unfold cF_chair
    dsimp only
    subst e3 e2 e1
    rw [if_neg g1]
  · have g1 := fn_eq h1
    show ∃ R, cm_Lc cm_ms 11 [.ref 19, .int (A2.1 2 5)] (fr 19 A3) R ∧ ∀ v M', R v M' → _
    refine ⟨_, f_addChair19 (A2.1 2 5) _, ?_⟩
    rintro v M' ⟨rfl, A4, e4, rfl⟩
    show fq 19 none (cF_chair 19 N C) none (fr 19 A4)
    refine ⟨rfl, A4, ?_, rfl⟩
    unfold cF_chair
    dsimp only
    subst e4 e3 e2 e1
    rw [if_pos g1]
set_option maxRecDepth 100000 in
set_option maxHeartbeats 4000000 in
theorem f_town6 {N : Nat} {C : cm_M} (h : RC N C) : cm_Lc cm_ms 70 [.ref 2] (fr 6 C) (fq 6 none (cF_town 6 N C)) := by
  have z3 : (3 : Int32).toInt = 3 := by decide
  refine lb_st0 (mi := mr_70) rfl 120 ?_
  show ∃ R, cm_Lc cm_ms 78 [.ref 2, .ref (1001 + 2 * 8)] (fr 6 C) R ∧ ∀ v M', R v M' → _
  refine ⟨_, f_takeWord (t := 8) (by decide) h, ?_⟩
  rintro v M' ⟨rfl, A1, e1, rfl⟩
  have k1 : RC N A1 := by rw [e1]; exact RC_takeWord h
  show ∃ R, cm_Lc cm_ms 79 [.ref 2, .int 0, .int 9] (fr 6 A1) R ∧ ∀ v M', R v M' → _
  refine ⟨_, f_takeWhole 0 9 k1, ?_⟩
  rintro v M' ⟨rfl, A2, e2, rfl⟩
  have k2 : RC N A2 := by rw [e2]; exact RC_takeWhole k1
  show ∃ R, cm_Lc cm_ms 78 [.ref 2, .ref (1001 + 2 * 9)] (cm_wi (fr 6 A2) 6 0 (A1.1 2 5)) R ∧ ∀ v M', R v M' → _
  refine ⟨_, f_takeWord (t := 9) (by decide) (C := cm_wi A2 6 0 (A1.1 2 5)) k2, ?_⟩
  rintro v M' ⟨rfl, A3, e3, rfl⟩
  have k3 : RC N A3 := by rw [e3]; exact RC_takeWord k2
  show ∃ R, cm_Lc cm_ms 79 [.ref 2, .int 0, .int 20] (fr 6 A3) R ∧ ∀ v M', R v M' → _
  refine ⟨_, f_takeWhole 0 20 k3, ?_⟩
  rintro v M' ⟨rfl, A4, e4, rfl⟩
  have k4 : RC N A4 := by rw [e4]; exact RC_takeWhole k3
  show ∃ R, cm_Lc cm_ms 78 [.ref 2, .ref (1001 + 2 * 10)] (cm_wi (fr 6 A4) 6 1 (A3.1 2 5)) R ∧ ∀ v M', R v M' → _
  refine ⟨_, f_takeWord (t := 10) (by decide) (C := cm_wi A4 6 1 (A3.1 2 5)) k4, ?_⟩
  rintro v M' ⟨rfl, A5, e5, rfl⟩
  have k5 : RC N A5 := by rw [e5]; exact RC_takeWord k4
  show ∃ R, cm_Lc cm_ms 79 [.ref 2, .int 0, .int 100] (fr 6 A5) R ∧ ∀ v M', R v M' → _
  refine ⟨_, f_takeWhole 0 100 k5, ?_⟩
  rintro v M' ⟨rfl, A6, e6, rfl⟩
  have k6 : RC N A6 := by rw [e6]; exact RC_takeWhole k5
  show fq 6 none (cF_town 6 N C) none (cm_wi (cm_wi (fr 6 A6) 6 2 (A5.1 2 5)) 2 8 1)
  refine ⟨rfl, cm_wi (cm_wi A6 6 2 (A5.1 2 5)) 2 8 1, ?_, rfl⟩
  unfold cF_town
  dsimp only
  subst e6 e5 e4 e3 e2 e1
  rfl
set_option maxRecDepth 100000 in
set_option maxHeartbeats 4000000 in
theorem f_town19 {N : Nat} {C : cm_M} (h : RC N C) : cm_Lc cm_ms 70 [.ref 2] (fr 19 C) (fq 19 none (cF_town 19 N C)) := by
  have z3 : (3 : Int32).toInt = 3 := by decide
  refine lb_st0 (mi := mr_70) rfl 120 ?_
  show ∃ R, cm_Lc cm_ms 78 [.ref 2, .ref (1001 + 2 * 8)] (fr 19 C) R ∧ ∀ v M', R v M' → _
  refine ⟨_, f_takeWord (t := 8) (by decide) h, ?_⟩
  rintro v M' ⟨rfl, A1, e1, rfl⟩
  have k1 : RC N A1 := by rw [e1]; exact RC_takeWord h
  show ∃ R, cm_Lc cm_ms 79 [.ref 2, .int 0, .int 9] (fr 19 A1) R ∧ ∀ v M', R v M' → _
  refine ⟨_, f_takeWhole 0 9 k1, ?_⟩
  rintro v M' ⟨rfl, A2, e2, rfl⟩
  have k2 : RC N A2 := by rw [e2]; exact RC_takeWhole k1
  show ∃ R, cm_Lc cm_ms 78 [.ref 2, .ref (1001 + 2 * 9)] (cm_wi (fr 19 A2) 19 0 (A1.1 2 5)) R ∧ ∀ v M', R v M' → _
  refine ⟨_, f_takeWord (t := 9) (by decide) (C := cm_wi A2 19 0 (A1.1 2 5)) k2, ?_⟩
  rintro v M' ⟨rfl, A3, e3, rfl⟩
  have k3 : RC N A3 := by rw [e3]; exact RC_takeWord k2
  show ∃ R, cm_Lc cm_ms 79 [.ref 2, .int 0, .int 20] (fr 19 A3) R ∧ ∀ v M', R v M' → _
  refine ⟨_, f_takeWhole 0 20 k3, ?_⟩
  rintro v M' ⟨rfl, A4, e4, rfl⟩
  have k4 : RC N A4 := by rw [e4]; exact RC_takeWhole k3
  show ∃ R, cm_Lc cm_ms 78 [.ref 2, .ref (1001 + 2 * 10)] (cm_wi (fr 19 A4) 19 1 (A3.1 2 5)) R ∧ ∀ v M', R v M' → _
  refine ⟨_, f_takeWord (t := 10) (by decide) (C := cm_wi A4 19 1 (A3.1 2 5)) k4, ?_⟩
  rintro v M' ⟨rfl, A5, e5, rfl⟩
  have k5 : RC N A5 := by rw [e5]; exact RC_takeWord k4
  show ∃ R, cm_Lc cm_ms 79 [.ref 2, .int 0, .int 100] (fr 19 A5) R ∧ ∀ v M', R v M' → _
  refine ⟨_, f_takeWhole 0 100 k5, ?_⟩
  rintro v M' ⟨rfl, A6, e6, rfl⟩
  have k6 : RC N A6 := by rw [e6]; exact RC_takeWhole k5
  show fq 19 none (cF_town 19 N C) none (cm_wi (cm_wi (fr 19 A6) 19 2 (A5.1 2 5)) 2 8 1)
  refine ⟨rfl, cm_wi (cm_wi A6 19 2 (A5.1 2 5)) 2 8 1, ?_, rfl⟩
  unfold cF_town
  dsimp only
  subst e6 e5 e4 e3 e2 e1
  rfl
set_option maxRecDepth 100000 in
set_option maxHeartbeats 4000000 in
theorem f_against6 {N : Nat} {C : cm_M} (h : RC N C) : cm_Lc cm_ms 73 [.ref 2] (fr 6 C) (fq 6 none (cF_against 6 N C)) := by
  have z3 : (3 : Int32).toInt = 3 := by decide
  refine lb_st0 (mi := mr_73) rfl 120 ?_
  show ∃ R, cm_Lc cm_ms 81 [.ref 2, .int 1] (fr 6 C) R ∧ ∀ v M', R v M' → _
  refine ⟨_, f_told 1 h, ?_⟩
  rintro v M' ⟨rfl, A1, e1, rfl⟩
  have k1 : RC N A1 := by rw [e1]; exact RC_told h
  show ∃ R, cm_Lc cm_ms 88 [.ref 2] (fr 6 A1) R ∧ ∀ v M', R v M' → _
  refine ⟨_, f_step k1, ?_⟩
  rintro v M' ⟨rfl, A2, e2, rfl⟩
  have k2 : RC N A2 := by rw [e2]; exact RC_step k1
  show ∃ R, cm_Lc cm_ms 81 [.ref 2, .int 2] (fr 6 A2) R ∧ ∀ v M', R v M' → _
  refine ⟨_, f_told 2 k2, ?_⟩
  rintro v M' ⟨rfl, A3, e3, rfl⟩
  have k3 : RC N A3 := by rw [e3]; exact RC_told k2
  show (ev_cmp 0 (cF_toldV 1 C) (-1) = true → _) ∧ (ev_cmp 0 (cF_toldV 1 C) (-1) = false → _)
  refine ⟨fun h1 => ?_, fun h1 => ?_⟩
  · have g1 := fn_eq0 h1
    show fq 6 none (cF_against 6 N C) none (fr 6 A3)
    refine ⟨rfl, A3, ?_, rfl⟩
    unfold cF_against
    dsimp only
    subst e3 e2 e1
    rw [if_pos g1]
  · have g1 := fn_ne0 h1
    show (ev_cmp 1 (cF_toldV 2 A2) (-1) = true → _) ∧ (ev_cmp 1 (cF_toldV 2 A2) (-1) = false → _)
    refine ⟨fun h2 => ?_, fun h2 => ?_⟩
    · have g2 := fn_ne h2
      show (ev_cmp 0 (((A3.1 10 ((cF_toldV 1 C).toNatClampNeg)) >>> ((cF_toldV 2 A2) &&& 31)) &&& 1) 0 = true → _) ∧ (ev_cmp 0 (((A3.1 10 ((cF_toldV 1 C).toNatClampNeg)) >>> ((cF_toldV 2 A2) &&& 31)) &&& 1) 0 = false → _)
      refine ⟨fun h3 => ?_, fun h3 => ?_⟩
      · have g3 := fn_eq0 h3
        show ∃ R, cm_Lc cm_ms 88 [.ref 2] (cm_wi (fr 6 A3) 10 ((cF_toldV 1 C).toNatClampNeg) ((A3.1 10 ((cF_toldV 1 C).toNatClampNeg)) ||| (1 <<< ((cF_toldV 2 A2) &&& 31)))) R ∧ ∀ v M', R v M' → _
        refine ⟨_, f_step (C := cm_wi A3 10 ((cF_toldV 1 C).toNatClampNeg) ((A3.1 10 ((cF_toldV 1 C).toNatClampNeg)) ||| (1 <<< ((cF_toldV 2 A2) &&& 31)))) k3, ?_⟩
        rintro v M' ⟨rfl, A4, e4, rfl⟩
        have k4 : RC N A4 := by rw [e4]; exact RC_step k3
        show fq 6 none (cF_against 6 N C) none (fr 6 A4)
        refine ⟨rfl, A4, ?_, rfl⟩
        unfold cF_against
        dsimp only
        subst e4 e3 e2 e1
        rw [if_neg g1, if_neg g2, if_pos g3]
      · have g3 := fn_ne0 h3
        show ∃ R, cm_Lc cm_ms 66 [.ref 2, .int 3] (fr 6 A3) R ∧ ∀ v M', R v M' → _
        refine ⟨_, f_fail 3 _, ?_⟩
        rintro v M' ⟨rfl, A4, e4, rfl⟩
        have k4 : RC N A4 := by rw [e4]; exact RC_fail _ k3
        show fq 6 none (cF_against 6 N C) none (fr 6 A4)
        refine ⟨rfl, A4, ?_, rfl⟩
        unfold cF_against
        dsimp only
        subst e4 e3 e2 e1
        rw [if_neg g1, if_neg g2, if_neg g3]
    · have g2 := fn_eq h2
      show fq 6 none (cF_against 6 N C) none (fr 6 A3)
      refine ⟨rfl, A3, ?_, rfl⟩
      unfold cF_against
      dsimp only
      subst e3 e2 e1
      rw [if_neg g1, if_pos g2]
set_option maxRecDepth 100000 in
set_option maxHeartbeats 4000000 in
theorem f_against19 {N : Nat} {C : cm_M} (h : RC N C) : cm_Lc cm_ms 73 [.ref 2] (fr 19 C) (fq 19 none (cF_against 19 N C)) := by
  have z3 : (3 : Int32).toInt = 3 := by decide
  refine lb_st0 (mi := mr_73) rfl 120 ?_
  show ∃ R, cm_Lc cm_ms 81 [.ref 2, .int 1] (fr 19 C) R ∧ ∀ v M', R v M' → _
  refine ⟨_, f_told 1 h, ?_⟩
  rintro v M' ⟨rfl, A1, e1, rfl⟩
  have k1 : RC N A1 := by rw [e1]; exact RC_told h
  show ∃ R, cm_Lc cm_ms 88 [.ref 2] (fr 19 A1) R ∧ ∀ v M', R v M' → _
  refine ⟨_, f_step k1, ?_⟩
  rintro v M' ⟨rfl, A2, e2, rfl⟩
  have k2 : RC N A2 := by rw [e2]; exact RC_step k1
  show ∃ R, cm_Lc cm_ms 81 [.ref 2, .int 2] (fr 19 A2) R ∧ ∀ v M', R v M' → _
  refine ⟨_, f_told 2 k2, ?_⟩
  rintro v M' ⟨rfl, A3, e3, rfl⟩
  have k3 : RC N A3 := by rw [e3]; exact RC_told k2
  show (ev_cmp 0 (cF_toldV 1 C) (-1) = true → _) ∧ (ev_cmp 0 (cF_toldV 1 C) (-1) = false → _)
  refine ⟨fun h1 => ?_, fun h1 => ?_⟩
  · have g1 := fn_eq0 h1
    show fq 19 none (cF_against 19 N C) none (fr 19 A3)
    refine ⟨rfl, A3, ?_, rfl⟩
    unfold cF_against
    dsimp only
    subst e3 e2 e1
    rw [if_pos g1]
  · have g1 := fn_ne0 h1
    show (ev_cmp 1 (cF_toldV 2 A2) (-1) = true → _) ∧ (ev_cmp 1 (cF_toldV 2 A2) (-1) = false → _)
    refine ⟨fun h2 => ?_, fun h2 => ?_⟩
    · have g2 := fn_ne h2
      show (ev_cmp 0 (((A3.1 23 ((cF_toldV 1 C).toNatClampNeg)) >>> ((cF_toldV 2 A2) &&& 31)) &&& 1) 0 = true → _) ∧ (ev_cmp 0 (((A3.1 23 ((cF_toldV 1 C).toNatClampNeg)) >>> ((cF_toldV 2 A2) &&& 31)) &&& 1) 0 = false → _)
      refine ⟨fun h3 => ?_, fun h3 => ?_⟩
      · have g3 := fn_eq0 h3
        show ∃ R, cm_Lc cm_ms 88 [.ref 2] (cm_wi (fr 19 A3) 23 ((cF_toldV 1 C).toNatClampNeg) ((A3.1 23 ((cF_toldV 1 C).toNatClampNeg)) ||| (1 <<< ((cF_toldV 2 A2) &&& 31)))) R ∧ ∀ v M', R v M' → _
        refine ⟨_, f_step (C := cm_wi A3 23 ((cF_toldV 1 C).toNatClampNeg) ((A3.1 23 ((cF_toldV 1 C).toNatClampNeg)) ||| (1 <<< ((cF_toldV 2 A2) &&& 31)))) k3, ?_⟩
        rintro v M' ⟨rfl, A4, e4, rfl⟩
        have k4 : RC N A4 := by rw [e4]; exact RC_step k3
        show fq 19 none (cF_against 19 N C) none (fr 19 A4)
        refine ⟨rfl, A4, ?_, rfl⟩
        unfold cF_against
        dsimp only
        subst e4 e3 e2 e1
        rw [if_neg g1, if_neg g2, if_pos g3]
      · have g3 := fn_ne0 h3
        show ∃ R, cm_Lc cm_ms 66 [.ref 2, .int 3] (fr 19 A3) R ∧ ∀ v M', R v M' → _
        refine ⟨_, f_fail 3 _, ?_⟩
        rintro v M' ⟨rfl, A4, e4, rfl⟩
        have k4 : RC N A4 := by rw [e4]; exact RC_fail _ k3
        show fq 19 none (cF_against 19 N C) none (fr 19 A4)
        refine ⟨rfl, A4, ?_, rfl⟩
        unfold cF_against
        dsimp only
        subst e4 e3 e2 e1
        rw [if_neg g1, if_neg g2, if_neg g3]
    · have g2 := fn_eq h2
      show fq 19 none (cF_against 19 N C) none (fr 19 A3)
      refine ⟨rfl, A3, ?_, rfl⟩
      unfold cF_against
      dsimp only
      subst e3 e2 e1
      rw [if_neg g1, if_pos g2]
set_option maxRecDepth 100000 in
set_option maxHeartbeats 4000000 in
theorem f_amends6 {N : Nat} {C : cm_M} (h : RC N C) : cm_Lc cm_ms 74 [.ref 2] (fr 6 C) (fq 6 none (cF_amends 6 N C)) := by
  have z3 : (3 : Int32).toInt = 3 := by decide
  refine lb_st0 (mi := mr_74) rfl 120 ?_
  show ∃ R, cm_Lc cm_ms 81 [.ref 2, .int 2] (fr 6 C) R ∧ ∀ v M', R v M' → _
  refine ⟨_, f_told 2 h, ?_⟩
  rintro v M' ⟨rfl, A1, e1, rfl⟩
  have k1 : RC N A1 := by rw [e1]; exact RC_told h
  show ∃ R, cm_Lc cm_ms 88 [.ref 2] (fr 6 A1) R ∧ ∀ v M', R v M' → _
  refine ⟨_, f_step k1, ?_⟩
  rintro v M' ⟨rfl, A2, e2, rfl⟩
  have k2 : RC N A2 := by rw [e2]; exact RC_step k1
  show ∃ R, cm_Lc cm_ms 81 [.ref 2, .int 2] (fr 6 A2) R ∧ ∀ v M', R v M' → _
  refine ⟨_, f_told 2 k2, ?_⟩
  rintro v M' ⟨rfl, A3, e3, rfl⟩
  have k3 : RC N A3 := by rw [e3]; exact RC_told k2
  show (ev_cmp 0 (cF_toldV 2 C) (-1) = true → _) ∧ (ev_cmp 0 (cF_toldV 2 C) (-1) = false → _)
  refine ⟨fun h1 => ?_, fun h1 => ?_⟩
  · have g1 := fn_eq0 h1
    show fq 6 none (cF_amends 6 N C) none (fr 6 A3)
    refine ⟨rfl, A3, ?_, rfl⟩
    unfold cF_amends
    dsimp only
    subst e3 e2 e1
    rw [if_pos g1]
  · have g1 := fn_ne0 h1
    show (ev_cmp 1 (cF_toldV 2 A2) (-1) = true → _) ∧ (ev_cmp 1 (cF_toldV 2 A2) (-1) = false → _)
    refine ⟨fun h2 => ?_, fun h2 => ?_⟩
    · have g2 := fn_ne h2
      show (ev_cmp 0 (((A3.1 15 ((cF_toldV 2 C).toNatClampNeg)) >>> ((cF_toldV 2 A2) &&& 31)) &&& 1) 0 = true → _) ∧ (ev_cmp 0 (((A3.1 15 ((cF_toldV 2 C).toNatClampNeg)) >>> ((cF_toldV 2 A2) &&& 31)) &&& 1) 0 = false → _)
      refine ⟨fun h3 => ?_, fun h3 => ?_⟩
      · have g3 := fn_eq0 h3
        show (ev_cmp 2 (cF_toldV 2 A2) (cF_toldV 2 C) = true → _) ∧ (ev_cmp 2 (cF_toldV 2 A2) (cF_toldV 2 C) = false → _)
        refine ⟨fun h4 => ?_, fun h4 => ?_⟩
        · have g4 := fn_lt h4
          show ∃ R, cm_Lc cm_ms 88 [.ref 2] (cm_wi (fr 6 A3) 15 ((cF_toldV 2 C).toNatClampNeg) ((A3.1 15 ((cF_toldV 2 C).toNatClampNeg)) ||| (1 <<< ((cF_toldV 2 A2) &&& 31)))) R ∧ ∀ v M', R v M' → _
          refine ⟨_, f_step (C := cm_wi A3 15 ((cF_toldV 2 C).toNatClampNeg) ((A3.1 15 ((cF_toldV 2 C).toNatClampNeg)) ||| (1 <<< ((cF_toldV 2 A2) &&& 31)))) k3, ?_⟩
          rintro v M' ⟨rfl, A4, e4, rfl⟩
          have k4 : RC N A4 := by rw [e4]; exact RC_step k3
          show fq 6 none (cF_amends 6 N C) none (fr 6 A4)
          refine ⟨rfl, A4, ?_, rfl⟩
          unfold cF_amends
          dsimp only
          subst e4 e3 e2 e1
          rw [if_neg g1, if_neg g2, if_pos g3, if_neg (by omega)]
        · have g4 := fn_nlt h4
          show ∃ R, cm_Lc cm_ms 66 [.ref 2, .int 7] (fr 6 A3) R ∧ ∀ v M', R v M' → _
          refine ⟨_, f_fail 7 _, ?_⟩
          rintro v M' ⟨rfl, A4, e4, rfl⟩
          have k4 : RC N A4 := by rw [e4]; exact RC_fail _ k3
          show fq 6 none (cF_amends 6 N C) none (fr 6 A4)
          refine ⟨rfl, A4, ?_, rfl⟩
          unfold cF_amends
          dsimp only
          subst e4 e3 e2 e1
          rw [if_neg g1, if_neg g2, if_pos g3, if_pos g4]
      · have g3 := fn_ne0 h3
        show ∃ R, cm_Lc cm_ms 66 [.ref 2, .int 3] (fr 6 A3) R ∧ ∀ v M', R v M' → _
        refine ⟨_, f_fail 3 _, ?_⟩
        rintro v M' ⟨rfl, A4, e4, rfl⟩
        have k4 : RC N A4 := by rw [e4]; exact RC_fail _ k3
        show fq 6 none (cF_amends 6 N C) none (fr 6 A4)
        refine ⟨rfl, A4, ?_, rfl⟩
        unfold cF_amends
        dsimp only
        subst e4 e3 e2 e1
        rw [if_neg g1, if_neg g2, if_neg g3]
    · have g2 := fn_eq h2
      show fq 6 none (cF_amends 6 N C) none (fr 6 A3)
      refine ⟨rfl, A3, ?_, rfl⟩
      unfold cF_amends
      dsimp only
      subst e3 e2 e1
      rw [if_neg g1, if_pos g2]
set_option maxRecDepth 100000 in
set_option maxHeartbeats 4000000 in
theorem f_amends19 {N : Nat} {C : cm_M} (h : RC N C) : cm_Lc cm_ms 74 [.ref 2] (fr 19 C) (fq 19 none (cF_amends 19 N C)) := by
  have z3 : (3 : Int32).toInt = 3 := by decide
  refine lb_st0 (mi := mr_74) rfl 120 ?_
  show ∃ R, cm_Lc cm_ms 81 [.ref 2, .int 2] (fr 19 C) R ∧ ∀ v M', R v M' → _
  refine ⟨_, f_told 2 h, ?_⟩
  rintro v M' ⟨rfl, A1, e1, rfl⟩
  have k1 : RC N A1 := by rw [e1]; exact RC_told h
  show ∃ R, cm_Lc cm_ms 88 [.ref 2] (fr 19 A1) R ∧ ∀ v M', R v M' → _
  refine ⟨_, f_step k1, ?_⟩
  rintro v M' ⟨rfl, A2, e2, rfl⟩
  have k2 : RC N A2 := by rw [e2]; exact RC_step k1
  show ∃ R, cm_Lc cm_ms 81 [.ref 2, .int 2] (fr 19 A2) R ∧ ∀ v M', R v M' → _
  refine ⟨_, f_told 2 k2, ?_⟩
  rintro v M' ⟨rfl, A3, e3, rfl⟩
  have k3 : RC N A3 := by rw [e3]; exact RC_told k2
  show (ev_cmp 0 (cF_toldV 2 C) (-1) = true → _) ∧ (ev_cmp 0 (cF_toldV 2 C) (-1) = false → _)
  refine ⟨fun h1 => ?_, fun h1 => ?_⟩
  · have g1 := fn_eq0 h1
    show fq 19 none (cF_amends 19 N C) none (fr 19 A3)
    refine ⟨rfl, A3, ?_, rfl⟩
    unfold cF_amends
    dsimp only
    subst e3 e2 e1
    rw [if_pos g1]
  · have g1 := fn_ne0 h1
    show (ev_cmp 1 (cF_toldV 2 A2) (-1) = true → _) ∧ (ev_cmp 1 (cF_toldV 2 A2) (-1) = false → _)
    refine ⟨fun h2 => ?_, fun h2 => ?_⟩
    · have g2 := fn_ne h2
      show (ev_cmp 0 (((A3.1 28 ((cF_toldV 2 C).toNatClampNeg)) >>> ((cF_toldV 2 A2) &&& 31)) &&& 1) 0 = true → _) ∧ (ev_cmp 0 (((A3.1 28 ((cF_toldV 2 C).toNatClampNeg)) >>> ((cF_toldV 2 A2) &&& 31)) &&& 1) 0 = false → _)
      refine ⟨fun h3 => ?_, fun h3 => ?_⟩
      · have g3 := fn_eq0 h3
        show (ev_cmp 2 (cF_toldV 2 A2) (cF_toldV 2 C) = true → _) ∧ (ev_cmp 2 (cF_toldV 2 A2) (cF_toldV 2 C) = false → _)
        refine ⟨fun h4 => ?_, fun h4 => ?_⟩
        · have g4 := fn_lt h4
          show ∃ R, cm_Lc cm_ms 88 [.ref 2] (cm_wi (fr 19 A3) 28 ((cF_toldV 2 C).toNatClampNeg) ((A3.1 28 ((cF_toldV 2 C).toNatClampNeg)) ||| (1 <<< ((cF_toldV 2 A2) &&& 31)))) R ∧ ∀ v M', R v M' → _
          refine ⟨_, f_step (C := cm_wi A3 28 ((cF_toldV 2 C).toNatClampNeg) ((A3.1 28 ((cF_toldV 2 C).toNatClampNeg)) ||| (1 <<< ((cF_toldV 2 A2) &&& 31)))) k3, ?_⟩
          rintro v M' ⟨rfl, A4, e4, rfl⟩
          have k4 : RC N A4 := by rw [e4]; exact RC_step k3
          show fq 19 none (cF_amends 19 N C) none (fr 19 A4)
          refine ⟨rfl, A4, ?_, rfl⟩
          unfold cF_amends
          dsimp only
          subst e4 e3 e2 e1
          rw [if_neg g1, if_neg g2, if_pos g3, if_neg (by omega)]
        · have g4 := fn_nlt h4
          show ∃ R, cm_Lc cm_ms 66 [.ref 2, .int 7] (fr 19 A3) R ∧ ∀ v M', R v M' → _
          refine ⟨_, f_fail 7 _, ?_⟩
          rintro v M' ⟨rfl, A4, e4, rfl⟩
          have k4 : RC N A4 := by rw [e4]; exact RC_fail _ k3
          show fq 19 none (cF_amends 19 N C) none (fr 19 A4)
          refine ⟨rfl, A4, ?_, rfl⟩
          unfold cF_amends
          dsimp only
          subst e4 e3 e2 e1
          rw [if_neg g1, if_neg g2, if_pos g3, if_pos g4]
      · have g3 := fn_ne0 h3
        show ∃ R, cm_Lc cm_ms 66 [.ref 2, .int 3] (fr 19 A3) R ∧ ∀ v M', R v M' → _
        refine ⟨_, f_fail 3 _, ?_⟩
        rintro v M' ⟨rfl, A4, e4, rfl⟩
        have k4 : RC N A4 := by rw [e4]; exact RC_fail _ k3
        show fq 19 none (cF_amends 19 N C) none (fr 19 A4)
        refine ⟨rfl, A4, ?_, rfl⟩
        unfold cF_amends
        dsimp only
        subst e4 e3 e2 e1
        rw [if_neg g1, if_neg g2, if_neg g3]
    · have g2 := fn_eq h2
      show fq 19 none (cF_amends 19 N C) none (fr 19 A3)
      refine ⟨rfl, A3, ?_, rfl⟩
      unfold cF_amends
      dsimp only
      subst e3 e2 e1
      rw [if_neg g1, if_pos g2]
set_option maxRecDepth 100000 in
set_option maxHeartbeats 4000000 in
theorem f_quarrel6 {N : Nat} {C : cm_M} (h : RC N C) : cm_Lc cm_ms 75 [.ref 2] (fr 6 C) (fq 6 none (cF_quarrel 6 N C)) := by
  have z3 : (3 : Int32).toInt = 3 := by decide
  refine lb_st0 (mi := mr_75) rfl 120 ?_
  show ∃ R, cm_Lc cm_ms 81 [.ref 2, .int 1] (fr 6 C) R ∧ ∀ v M', R v M' → _
  refine ⟨_, f_told 1 h, ?_⟩
  rintro v M' ⟨rfl, A1, e1, rfl⟩
  have k1 : RC N A1 := by rw [e1]; exact RC_told h
  show ∃ R, cm_Lc cm_ms 88 [.ref 2] (fr 6 A1) R ∧ ∀ v M', R v M' → _
  refine ⟨_, f_step k1, ?_⟩
  rintro v M' ⟨rfl, A2, e2, rfl⟩
  have k2 : RC N A2 := by rw [e2]; exact RC_step k1
  show ∃ R, cm_Lc cm_ms 81 [.ref 2, .int 1] (fr 6 A2) R ∧ ∀ v M', R v M' → _
  refine ⟨_, f_told 1 k2, ?_⟩
  rintro v M' ⟨rfl, A3, e3, rfl⟩
  have k3 : RC N A3 := by rw [e3]; exact RC_told k2
  show (ev_cmp 0 (cF_toldV 1 C) (-1) = true → _) ∧ (ev_cmp 0 (cF_toldV 1 C) (-1) = false → _)
  refine ⟨fun h1 => ?_, fun h1 => ?_⟩
  · have g1 := fn_eq0 h1
    show fq 6 none (cF_quarrel 6 N C) none (fr 6 A3)
    refine ⟨rfl, A3, ?_, rfl⟩
    unfold cF_quarrel
    dsimp only
    subst e3 e2 e1
    rw [if_pos g1]
  · have g1 := fn_ne0 h1
    show (ev_cmp 1 (cF_toldV 1 A2) (-1) = true → _) ∧ (ev_cmp 1 (cF_toldV 1 A2) (-1) = false → _)
    refine ⟨fun h2 => ?_, fun h2 => ?_⟩
    · have g2 := fn_ne h2
      show (ev_cmp 0 (cF_toldV 1 C) (cF_toldV 1 A2) = true → _) ∧ (ev_cmp 0 (cF_toldV 1 C) (cF_toldV 1 A2) = false → _)
      refine ⟨fun h3 => ?_, fun h3 => ?_⟩
      · have g3 := fn_eq0 h3
        show ∃ R, cm_Lc cm_ms 66 [.ref 2, .int 3] (fr 6 A3) R ∧ ∀ v M', R v M' → _
        refine ⟨_, f_fail 3 _, ?_⟩
        rintro v M' ⟨rfl, A4, e4, rfl⟩
        have k4 : RC N A4 := by rw [e4]; exact RC_fail _ k3
        show fq 6 none (cF_quarrel 6 N C) none (fr 6 A4)
        refine ⟨rfl, A4, ?_, rfl⟩
        unfold cF_quarrel
        dsimp only
        subst e4 e3 e2 e1
        rw [if_neg g1, if_neg g2, if_pos g3]
      · have g3 := fn_ne0 h3
        show (ev_cmp 0 (((A3.1 11 ((cF_toldV 1 C).toNatClampNeg)) >>> ((cF_toldV 1 A2) &&& 31)) &&& 1) 0 = true → _) ∧ (ev_cmp 0 (((A3.1 11 ((cF_toldV 1 C).toNatClampNeg)) >>> ((cF_toldV 1 A2) &&& 31)) &&& 1) 0 = false → _)
        refine ⟨fun h4 => ?_, fun h4 => ?_⟩
        · have g4 := fn_eq0 h4
          show ∃ R, cm_Lc cm_ms 88 [.ref 2] (cm_wi (cm_wi (fr 6 A3) 11 ((cF_toldV 1 C).toNatClampNeg) ((A3.1 11 ((cF_toldV 1 C).toNatClampNeg)) ||| (1 <<< ((cF_toldV 1 A2) &&& 31)))) 11 ((cF_toldV 1 A2).toNatClampNeg) (((cm_wi (fr 6 A3) 11 ((cF_toldV 1 C).toNatClampNeg) ((A3.1 11 ((cF_toldV 1 C).toNatClampNeg)) ||| (1 <<< ((cF_toldV 1 A2) &&& 31)))).1 11 ((cF_toldV 1 A2).toNatClampNeg)) ||| (1 <<< ((cF_toldV 1 C) &&& 31)))) R ∧ ∀ v M', R v M' → _
          refine ⟨_, f_step (C := cm_wi (cm_wi A3 11 ((cF_toldV 1 C).toNatClampNeg) ((A3.1 11 ((cF_toldV 1 C).toNatClampNeg)) ||| (1 <<< ((cF_toldV 1 A2) &&& 31)))) 11 ((cF_toldV 1 A2).toNatClampNeg) (((cm_wi (fr 6 A3) 11 ((cF_toldV 1 C).toNatClampNeg) ((A3.1 11 ((cF_toldV 1 C).toNatClampNeg)) ||| (1 <<< ((cF_toldV 1 A2) &&& 31)))).1 11 ((cF_toldV 1 A2).toNatClampNeg)) ||| (1 <<< ((cF_toldV 1 C) &&& 31)))) k3, ?_⟩
          rintro v M' ⟨rfl, A4, e4, rfl⟩
          have k4 : RC N A4 := by rw [e4]; exact RC_step k3
          show fq 6 none (cF_quarrel 6 N C) none (fr 6 A4)
          refine ⟨rfl, A4, ?_, rfl⟩
          unfold cF_quarrel
          dsimp only
          subst e4 e3 e2 e1
          rw [if_neg g1, if_neg g2, if_neg g3, if_pos g4]
          try rfl
        · have g4 := fn_ne0 h4
          show ∃ R, cm_Lc cm_ms 66 [.ref 2, .int 3] (fr 6 A3) R ∧ ∀ v M', R v M' → _
          refine ⟨_, f_fail 3 _, ?_⟩
          rintro v M' ⟨rfl, A4, e4, rfl⟩
          have k4 : RC N A4 := by rw [e4]; exact RC_fail _ k3
          show fq 6 none (cF_quarrel 6 N C) none (fr 6 A4)
          refine ⟨rfl, A4, ?_, rfl⟩
          unfold cF_quarrel
          dsimp only
          subst e4 e3 e2 e1
          rw [if_neg g1, if_neg g2, if_neg g3, if_neg g4]
    · have g2 := fn_eq h2
      show fq 6 none (cF_quarrel 6 N C) none (fr 6 A3)
      refine ⟨rfl, A3, ?_, rfl⟩
      unfold cF_quarrel
      dsimp only
      subst e3 e2 e1
      rw [if_neg g1, if_pos g2]
set_option maxRecDepth 100000 in
set_option maxHeartbeats 4000000 in
theorem f_quarrel19 {N : Nat} {C : cm_M} (h : RC N C) : cm_Lc cm_ms 75 [.ref 2] (fr 19 C) (fq 19 none (cF_quarrel 19 N C)) := by
  have z3 : (3 : Int32).toInt = 3 := by decide
  refine lb_st0 (mi := mr_75) rfl 120 ?_
  show ∃ R, cm_Lc cm_ms 81 [.ref 2, .int 1] (fr 19 C) R ∧ ∀ v M', R v M' → _
  refine ⟨_, f_told 1 h, ?_⟩
  rintro v M' ⟨rfl, A1, e1, rfl⟩
  have k1 : RC N A1 := by rw [e1]; exact RC_told h
  show ∃ R, cm_Lc cm_ms 88 [.ref 2] (fr 19 A1) R ∧ ∀ v M', R v M' → _
  refine ⟨_, f_step k1, ?_⟩
  rintro v M' ⟨rfl, A2, e2, rfl⟩
  have k2 : RC N A2 := by rw [e2]; exact RC_step k1
  show ∃ R, cm_Lc cm_ms 81 [.ref 2, .int 1] (fr 19 A2) R ∧ ∀ v M', R v M' → _
  refine ⟨_, f_told 1 k2, ?_⟩
  rintro v M' ⟨rfl, A3, e3, rfl⟩
  have k3 : RC N A3 := by rw [e3]; exact RC_told k2
  show (ev_cmp 0 (cF_toldV 1 C) (-1) = true → _) ∧ (ev_cmp 0 (cF_toldV 1 C) (-1) = false → _)
  refine ⟨fun h1 => ?_, fun h1 => ?_⟩
  · have g1 := fn_eq0 h1
    show fq 19 none (cF_quarrel 19 N C) none (fr 19 A3)
    refine ⟨rfl, A3, ?_, rfl⟩
    unfold cF_quarrel
    dsimp only
    subst e3 e2 e1
    rw [if_pos g1]
  · have g1 := fn_ne0 h1
    show (ev_cmp 1 (cF_toldV 1 A2) (-1) = true → _) ∧ (ev_cmp 1 (cF_toldV 1 A2) (-1) = false → _)
    refine ⟨fun h2 => ?_, fun h2 => ?_⟩
    · have g2 := fn_ne h2
      show (ev_cmp 0 (cF_toldV 1 C) (cF_toldV 1 A2) = true → _) ∧ (ev_cmp 0 (cF_toldV 1 C) (cF_toldV 1 A2) = false → _)
      refine ⟨fun h3 => ?_, fun h3 => ?_⟩
      · have g3 := fn_eq0 h3
        show ∃ R, cm_Lc cm_ms 66 [.ref 2, .int 3] (fr 19 A3) R ∧ ∀ v M', R v M' → _
        refine ⟨_, f_fail 3 _, ?_⟩
        rintro v M' ⟨rfl, A4, e4, rfl⟩
        have k4 : RC N A4 := by rw [e4]; exact RC_fail _ k3
        show fq 19 none (cF_quarrel 19 N C) none (fr 19 A4)
        refine ⟨rfl, A4, ?_, rfl⟩
        unfold cF_quarrel
        dsimp only
        subst e4 e3 e2 e1
        rw [if_neg g1, if_neg g2, if_pos g3]
      · have g3 := fn_ne0 h3
        show (ev_cmp 0 (((A3.1 24 ((cF_toldV 1 C).toNatClampNeg)) >>> ((cF_toldV 1 A2) &&& 31)) &&& 1) 0 = true → _) ∧ (ev_cmp 0 (((A3.1 24 ((cF_toldV 1 C).toNatClampNeg)) >>> ((cF_toldV 1 A2) &&& 31)) &&& 1) 0 = false → _)
        refine ⟨fun h4 => ?_, fun h4 => ?_⟩
        · have g4 := fn_eq0 h4
          show ∃ R, cm_Lc cm_ms 88 [.ref 2] (cm_wi (cm_wi (fr 19 A3) 24 ((cF_toldV 1 C).toNatClampNeg) ((A3.1 24 ((cF_toldV 1 C).toNatClampNeg)) ||| (1 <<< ((cF_toldV 1 A2) &&& 31)))) 24 ((cF_toldV 1 A2).toNatClampNeg) (((cm_wi (fr 19 A3) 24 ((cF_toldV 1 C).toNatClampNeg) ((A3.1 24 ((cF_toldV 1 C).toNatClampNeg)) ||| (1 <<< ((cF_toldV 1 A2) &&& 31)))).1 24 ((cF_toldV 1 A2).toNatClampNeg)) ||| (1 <<< ((cF_toldV 1 C) &&& 31)))) R ∧ ∀ v M', R v M' → _
          refine ⟨_, f_step (C := cm_wi (cm_wi A3 24 ((cF_toldV 1 C).toNatClampNeg) ((A3.1 24 ((cF_toldV 1 C).toNatClampNeg)) ||| (1 <<< ((cF_toldV 1 A2) &&& 31)))) 24 ((cF_toldV 1 A2).toNatClampNeg) (((cm_wi (fr 19 A3) 24 ((cF_toldV 1 C).toNatClampNeg) ((A3.1 24 ((cF_toldV 1 C).toNatClampNeg)) ||| (1 <<< ((cF_toldV 1 A2) &&& 31)))).1 24 ((cF_toldV 1 A2).toNatClampNeg)) ||| (1 <<< ((cF_toldV 1 C) &&& 31)))) k3, ?_⟩
          rintro v M' ⟨rfl, A4, e4, rfl⟩
          have k4 : RC N A4 := by rw [e4]; exact RC_step k3
          show fq 19 none (cF_quarrel 19 N C) none (fr 19 A4)
          refine ⟨rfl, A4, ?_, rfl⟩
          unfold cF_quarrel
          dsimp only
          subst e4 e3 e2 e1
          rw [if_neg g1, if_neg g2, if_neg g3, if_pos g4]
          try rfl
        · have g4 := fn_ne0 h4
          show ∃ R, cm_Lc cm_ms 66 [.ref 2, .int 3] (fr 19 A3) R ∧ ∀ v M', R v M' → _
          refine ⟨_, f_fail 3 _, ?_⟩
          rintro v M' ⟨rfl, A4, e4, rfl⟩
          have k4 : RC N A4 := by rw [e4]; exact RC_fail _ k3
          show fq 19 none (cF_quarrel 19 N C) none (fr 19 A4)
          refine ⟨rfl, A4, ?_, rfl⟩
          unfold cF_quarrel
          dsimp only
          subst e4 e3 e2 e1
          rw [if_neg g1, if_neg g2, if_neg g3, if_neg g4]
    · have g2 := fn_eq h2
      show fq 19 none (cF_quarrel 19 N C) none (fr 19 A3)
      refine ⟨rfl, A3, ?_, rfl⟩
      unfold cF_quarrel
      dsimp only
      subst e3 e2 e1
      rw [if_neg g1, if_pos g2]
set_option maxRecDepth 100000 in
set_option maxHeartbeats 4000000 in
theorem f_heap6 {N : Nat} {C : cm_M} (h : RC N C) : cm_Lc cm_ms 77 [.ref 2] (fr 6 C) (fq 6 none (cF_heap 6 N C)) := by
  have z3 : (3 : Int32).toInt = 3 := by decide
  refine lb_st0 (mi := mr_77) rfl 120 ?_
  show ∃ R, cm_Lc cm_ms 83 [.ref 2] (fr 6 C) R ∧ ∀ v M', R v M' → _
  refine ⟨_, f_colour _, ?_⟩
  rintro v M' ⟨rfl, A1, e1, rfl⟩
  have k1 : RC N A1 := by rw [e1]; exact RC_colour h
  show (ev_cmp 1 (cF_col C) (-1) = true → _) ∧ (ev_cmp 1 (cF_col C) (-1) = false → _)
  refine ⟨fun h1 => ?_, fun h1 => ?_⟩
  · have g1 := fn_ne h1
    show (ev_cmp 0 (((A1.1 6 18) >>> ((cF_col C) &&& 31)) &&& 1) 0 = true → _) ∧ (ev_cmp 0 (((A1.1 6 18) >>> ((cF_col C) &&& 31)) &&& 1) 0 = false → _)
    refine ⟨fun h2 => ?_, fun h2 => ?_⟩
    · have g2 := fn_eq0 h2
      show ∃ R, cm_Lc cm_ms 88 [.ref 2] (fr 6 A1) R ∧ ∀ v M', R v M' → _
      refine ⟨_, f_step k1, ?_⟩
      rintro v M' ⟨rfl, A2, e2, rfl⟩
      have k2 : RC N A2 := by rw [e2]; exact RC_step k1
      show ∃ R, cm_Lc cm_ms 79 [.ref 2, .int 0, .int 999] (fr 6 A2) R ∧ ∀ v M', R v M' → _
      refine ⟨_, f_takeWhole 0 999 k2, ?_⟩
      rintro v M' ⟨rfl, A3, e3, rfl⟩
      have k3 : RC N A3 := by rw [e3]; exact RC_takeWhole k2
      show (ev_cmp 1 (A3.1 2 9) 0 = true → _) ∧ (ev_cmp 1 (A3.1 2 9) 0 = false → _)
      refine ⟨fun h3 => ?_, fun h3 => ?_⟩
      · have g3 := fn_ne h3
        show fq 6 none (cF_heap 6 N C) none (fr 6 A3)
        refine ⟨rfl, A3, ?_, rfl⟩
        unfold cF_heap
        dsimp only
        subst e3 e2 e1
        rw [if_neg g1, if_pos g2, if_neg g3]
      · have g3 := fn_eq h3
        show (ev_cmp 3 (cF_col C) 3 = true → _) ∧ (ev_cmp 3 (cF_col C) 3 = false → _)
        refine ⟨fun h4 => ?_, fun h4 => ?_⟩
        · have g4 := fn_ge h4
          show fq 6 none (cF_heap 6 N C) none (fr 6 A3)
          refine ⟨rfl, A3, ?_, rfl⟩
          unfold cF_heap
          dsimp only
          subst e3 e2 e1
          rw [if_neg g1, if_pos g2, if_pos g3, if_pos (by omega)]
        · have g4 := fn_nge h4
          show fq 6 none (cF_heap 6 N C) none (cm_wi (cm_wi (fr 6 A3) 18 ((cF_col C).toNatClampNeg) (A2.1 2 5)) 6 18 ((A3.1 6 18) ||| (1 <<< ((cF_col C) &&& 31))))
          refine ⟨rfl, cm_wi (cm_wi A3 18 ((cF_col C).toNatClampNeg) (A2.1 2 5)) 6 18 ((A3.1 6 18) ||| (1 <<< ((cF_col C) &&& 31))), ?_, rfl⟩
          unfold cF_heap
          dsimp only
          subst e3 e2 e1
          rw [if_neg g1, if_pos g2, if_pos g3, if_neg (by omega)]
          try rfl
    · have g2 := fn_ne0 h2
      show ∃ R, cm_Lc cm_ms 66 [.ref 2, .int 3] (fr 6 A1) R ∧ ∀ v M', R v M' → _
      refine ⟨_, f_fail 3 _, ?_⟩
      rintro v M' ⟨rfl, A2, e2, rfl⟩
      have k2 : RC N A2 := by rw [e2]; exact RC_fail _ k1
      show fq 6 none (cF_heap 6 N C) none (fr 6 A2)
      refine ⟨rfl, A2, ?_, rfl⟩
      unfold cF_heap
      dsimp only
      subst e2 e1
      rw [if_neg g1, if_neg g2]
  · have g1 := fn_eq h1
    show fq 6 none (cF_heap 6 N C) none (fr 6 A1)
    refine ⟨rfl, A1, ?_, rfl⟩
    unfold cF_heap
    dsimp only
    subst e1
    rw [if_pos g1]
set_option maxRecDepth 100000 in
set_option maxHeartbeats 4000000 in
theorem f_heap19 {N : Nat} {C : cm_M} (h : RC N C) : cm_Lc cm_ms 77 [.ref 2] (fr 19 C) (fq 19 none (cF_heap 19 N C)) := by
  have z3 : (3 : Int32).toInt = 3 := by decide
  refine lb_st0 (mi := mr_77) rfl 120 ?_
  show ∃ R, cm_Lc cm_ms 83 [.ref 2] (fr 19 C) R ∧ ∀ v M', R v M' → _
  refine ⟨_, f_colour _, ?_⟩
  rintro v M' ⟨rfl, A1, e1, rfl⟩
  have k1 : RC N A1 := by rw [e1]; exact RC_colour h
  show (ev_cmp 1 (cF_col C) (-1) = true → _) ∧ (ev_cmp 1 (cF_col C) (-1) = false → _)
  refine ⟨fun h1 => ?_, fun h1 => ?_⟩
  · have g1 := fn_ne h1
    show (ev_cmp 0 (((A1.1 19 18) >>> ((cF_col C) &&& 31)) &&& 1) 0 = true → _) ∧ (ev_cmp 0 (((A1.1 19 18) >>> ((cF_col C) &&& 31)) &&& 1) 0 = false → _)
    refine ⟨fun h2 => ?_, fun h2 => ?_⟩
    · have g2 := fn_eq0 h2
      show ∃ R, cm_Lc cm_ms 88 [.ref 2] (fr 19 A1) R ∧ ∀ v M', R v M' → _
      refine ⟨_, f_step k1, ?_⟩
      rintro v M' ⟨rfl, A2, e2, rfl⟩
      have k2 : RC N A2 := by rw [e2]; exact RC_step k1
      show ∃ R, cm_Lc cm_ms 79 [.ref 2, .int 0, .int 999] (fr 19 A2) R ∧ ∀ v M', R v M' → _
      refine ⟨_, f_takeWhole 0 999 k2, ?_⟩
      rintro v M' ⟨rfl, A3, e3, rfl⟩
      have k3 : RC N A3 := by rw [e3]; exact RC_takeWhole k2
      show (ev_cmp 1 (A3.1 2 9) 0 = true → _) ∧ (ev_cmp 1 (A3.1 2 9) 0 = false → _)
      refine ⟨fun h3 => ?_, fun h3 => ?_⟩
      · have g3 := fn_ne h3
        show fq 19 none (cF_heap 19 N C) none (fr 19 A3)
        refine ⟨rfl, A3, ?_, rfl⟩
        unfold cF_heap
        dsimp only
        subst e3 e2 e1
        rw [if_neg g1, if_pos g2, if_neg g3]
      · have g3 := fn_eq h3
        show (ev_cmp 3 (cF_col C) 3 = true → _) ∧ (ev_cmp 3 (cF_col C) 3 = false → _)
        refine ⟨fun h4 => ?_, fun h4 => ?_⟩
        · have g4 := fn_ge h4
          show fq 19 none (cF_heap 19 N C) none (fr 19 A3)
          refine ⟨rfl, A3, ?_, rfl⟩
          unfold cF_heap
          dsimp only
          subst e3 e2 e1
          rw [if_neg g1, if_pos g2, if_pos g3, if_pos (by omega)]
        · have g4 := fn_nge h4
          show fq 19 none (cF_heap 19 N C) none (cm_wi (cm_wi (fr 19 A3) 31 ((cF_col C).toNatClampNeg) (A2.1 2 5)) 19 18 ((A3.1 19 18) ||| (1 <<< ((cF_col C) &&& 31))))
          refine ⟨rfl, cm_wi (cm_wi A3 31 ((cF_col C).toNatClampNeg) (A2.1 2 5)) 19 18 ((A3.1 19 18) ||| (1 <<< ((cF_col C) &&& 31))), ?_, rfl⟩
          unfold cF_heap
          dsimp only
          subst e3 e2 e1
          rw [if_neg g1, if_pos g2, if_pos g3, if_neg (by omega)]
          try rfl
    · have g2 := fn_ne0 h2
      show ∃ R, cm_Lc cm_ms 66 [.ref 2, .int 3] (fr 19 A1) R ∧ ∀ v M', R v M' → _
      refine ⟨_, f_fail 3 _, ?_⟩
      rintro v M' ⟨rfl, A2, e2, rfl⟩
      have k2 : RC N A2 := by rw [e2]; exact RC_fail _ k1
      show fq 19 none (cF_heap 19 N C) none (fr 19 A2)
      refine ⟨rfl, A2, ?_, rfl⟩
      unfold cF_heap
      dsimp only
      subst e2 e1
      rw [if_neg g1, if_neg g2]
  · have g1 := fn_eq h1
    show fq 19 none (cF_heap 19 N C) none (fr 19 A1)
    refine ⟨rfl, A1, ?_, rfl⟩
    unfold cF_heap
    dsimp only
    subst e1
    rw [if_pos g1]
/-- how many bits -/
noncomputable def pc (x : Nat) : Nat := x % 2 + x / 2 % 2 + x / 4 % 2 + x / 8 % 2 + x / 16 % 2 + x / 32 % 2
noncomputable def su (f : Nat → Nat) : Nat → Nat
  | 0 => 0
  | n + 1 => su f n + pc (f n)
noncomputable def up (f : Nat → Nat) (i v : Nat) (j : Nat) : Nat := if j = i then v else f j
theorem su_cg {f g : Nat → Nat} : ∀ n, (∀ j, j < n → f j = g j) → su f n = su g n
  | 0, _ => rfl
  | n + 1, h => by
    unfold su
    rw [su_cg n (fun j hj => h j (by omega)), h n (by omega)]
theorem su_up {f : Nat → Nat} {i v : Nat} (hp : pc v = pc (f i) + 1) : ∀ n, i < n → su (up f i v) n = su f n + 1
  | 0, h => by omega
  | n + 1, h => by
    unfold su
    rcases Nat.lt_or_ge i n with hi | hi
    · rw [su_up hp n hi]
      have : up f i v n = f n := by unfold up; rw [if_neg (by omega)]
      rw [this]
      omega
    · have e : i = n := by omega
      subst e
      have h1 : su (up f i v) i = su f i := su_cg i (fun j hj => by unfold up; rw [if_neg (by omega)])
      have h2 : up f i v i = v := by unfold up; rw [if_pos rfl]
      rw [h1, h2, hp]
      omega
set_option maxRecDepth 100000 in
theorem bit_t : ∀ a, a < 64 → ∀ k, k < 6 → (((Int32.ofNat a >>> (Int32.ofNat k &&& 31)) &&& 1 = 0) ↔ a / 2 ^ k % 2 = 0) := by decide +kernel
set_option maxRecDepth 100000 in
theorem bit_o : ∀ a, a < 64 → ∀ k, k < 6 → ((Int32.ofNat a >>> (Int32.ofNat k &&& 31)) &&& 1 = 0 ∨ (Int32.ofNat a >>> (Int32.ofNat k &&& 31)) &&& 1 = 1) := by decide +kernel
set_option maxRecDepth 100000 in
theorem bit_s : ∀ a, a < 64 → ∀ k, k < 6 → a / 2 ^ k % 2 = 0 → (Int32.ofNat a ||| ((1 : Int32) <<< (Int32.ofNat k &&& 31)) = Int32.ofNat (a + 2 ^ k)) ∧ pc (a + 2 ^ k) = pc a + 1 ∧ a + 2 ^ k < 64 := by decide +kernel
set_option maxRecDepth 100000 in
theorem bit_l : ∀ m, m < 7 → ∀ a, a < 2 ^ m → ∀ k, k < m → a / 2 ^ k % 2 = 0 → a + 2 ^ k < 2 ^ m := by decide +kernel
/-- each quarrel stands with both, none with oneself -/
noncomputable def sy (qu : Nat → Nat) : Prop := ∀ m, m < 6 → ∀ o, o < 6 → (qu m / 2 ^ o % 2 = qu o / 2 ^ m % 2) ∧ (m = o → qu m / 2 ^ o % 2 = 0)
/-- heaps -/
noncomputable def hR (hb : Nat) (A : Nat → Int32) (F : Nat → Int32) : Prop := ∀ c, c < 3 → (hb / 2 ^ c % 2 = 0 → F (66 + c) = 0) ∧ (hb / 2 ^ c % 2 ≠ 0 → F (66 + c) = A c + 1 ∧ 0 ≤ (A c).toInt ∧ (A c).toInt ≤ 999)
/-- the data of the two towns -/
noncomputable def DR (me mo ch : Nat) (td : Int32) (A : Nat → Nat → Int32) (F : Nat → Int32) : Prop :=
  ((td = 0 ∨ td = 1) ∧ F 10 = td ∧ (td = 1 → A 0 0 = F 0 ∧ A 0 1 = F 1 ∧ A 0 2 = F 2)) ∧
  (A 0 3 = Int32.ofNat me ∧ F 3 = Int32.ofNat me ∧ A 0 9 = Int32.ofNat mo ∧ F 4 = Int32.ofNat mo ∧ A 0 15 = Int32.ofNat ch ∧ F 8 = Int32.ofNat ch) ∧
  (∀ m, m < me → A 1 m = F (11 + 3 * m) ∧ A 2 m = F (12 + 3 * m) ∧ A 3 m = F (13 + 3 * m) ∧ A 4 m = F (44 + m) ∧ A 5 m = F (55 + m)) ∧
  (∀ k, k < mo → A 6 k = F (29 + 3 * k) ∧ A 7 k = F (30 + 3 * k) ∧ A 8 k = F (31 + 3 * k) ∧ A 9 k = F (50 + k)) ∧
  (∀ c, c < ch → A 11 c = F (61 + c)) ∧
  (∃ ag am qu : Nat → Nat, (∀ m, m < 6 → ag m < 32 ∧ F (44 + m) = Int32.ofNat (ag m) ∧ qu m < 64 ∧ F (55 + m) = Int32.ofNat (qu m)) ∧ (∀ m, me ≤ m → ag m = 0 ∧ qu m = 0) ∧ (∀ k, k < 5 → am k < 2 ^ k ∧ F (50 + k) = Int32.ofNat (am k)) ∧ (∀ k, mo ≤ k → am k = 0) ∧ F 5 = Int32.ofNat (su ag 6) ∧ F 6 = Int32.ofNat (su am 5) ∧ (∃ q, F 7 = Int32.ofNat q ∧ su qu 6 = 2 * q ∧ sy qu)) ∧
  (∃ hb, hb < 8 ∧ A 0 18 = Int32.ofNat hb ∧ F 9 = Int32.ofNat (pc hb) ∧ hR hb (A 12) F)
noncomputable def DA (T : Nat) (C : cm_M) (i j : Nat) : Int32 := C.1 (T + i) j
noncomputable def DT (T me mo ch : Nat) (C : cm_M) (F : Nat → Int32) : Prop := NC (me + mo + ch) me mo ch C F ∧ DR me mo ch (C.1 2 8) (DA T C) F
theorem DA_cg {T : Nat} {C C' : cm_M} (hT : 6 ≤ T) (h : KC C C') : DA T C' = DA T C := funext fun i => funext fun j => h.1 _ _ (by omega)
/-- the data stays, where the places that count do -/
theorem DR_cg {me mo ch : Nat} {td : Int32} {A A' : Nat → Nat → Int32} {F F' : Nat → Int32} (h1 : me ≤ 6) (h2 : mo ≤ 5) (h3 : ch ≤ 5) (hA : A' = A) (hF : ∀ j, j < 69 → ¬ (11 + 3 * me ≤ j ∧ j < 29) → ¬ (29 + 3 * mo ≤ j ∧ j < 44) → ¬ (61 + ch ≤ j ∧ j < 66) → F' j = F j) (h : DR me mo ch td A F) : DR me mo ch td A' F' := by
  subst hA
  obtain ⟨⟨a1, a2, a3⟩, ⟨b1, b2, b3, b4, b5, b6⟩, c, d, e, ⟨ag, am, qu, f1, f2, f3, f4, f5, f6, q, f7, f8⟩, hb, g1, g2, g3, g4⟩ := h
  refine ⟨⟨a1, ?_, fun q => ?_⟩, ⟨b1, ?_, b3, ?_, b5, ?_⟩, fun m hm => ?_, fun k hk => ?_, fun x hx => ?_, ⟨ag, am, qu, fun m hm => ?_, f2, fun k hk => ?_, f4, ?_, ?_, q, ?_, f8⟩, hb, g1, g2, ?_, fun x hx => ?_⟩
  · rw [hF 10 (by omega) (by omega) (by omega) (by omega)]; exact a2
  · rw [hF 0 (by omega) (by omega) (by omega) (by omega), hF 1 (by omega) (by omega) (by omega) (by omega), hF 2 (by omega) (by omega) (by omega) (by omega)]; exact a3 q
  · rw [hF 3 (by omega) (by omega) (by omega) (by omega)]; exact b2
  · rw [hF 4 (by omega) (by omega) (by omega) (by omega)]; exact b4
  · rw [hF 8 (by omega) (by omega) (by omega) (by omega)]; exact b6
  · rw [hF (11 + 3 * m) (by omega) (by omega) (by omega) (by omega), hF (12 + 3 * m) (by omega) (by omega) (by omega) (by omega), hF (13 + 3 * m) (by omega) (by omega) (by omega) (by omega), hF (44 + m) (by omega) (by omega) (by omega) (by omega), hF (55 + m) (by omega) (by omega) (by omega) (by omega)]; exact c m hm
  · rw [hF (29 + 3 * k) (by omega) (by omega) (by omega) (by omega), hF (30 + 3 * k) (by omega) (by omega) (by omega) (by omega), hF (31 + 3 * k) (by omega) (by omega) (by omega) (by omega), hF (50 + k) (by omega) (by omega) (by omega) (by omega)]; exact d k hk
  · rw [hF (61 + x) (by omega) (by omega) (by omega) (by omega)]; exact e x hx
  · rw [hF (44 + m) (by omega) (by omega) (by omega) (by omega), hF (55 + m) (by omega) (by omega) (by omega) (by omega)]; exact f1 m hm
  · rw [hF (50 + k) (by omega) (by omega) (by omega) (by omega)]; exact f3 k hk
  · rw [hF 5 (by omega) (by omega) (by omega) (by omega)]; exact f5
  · rw [hF 6 (by omega) (by omega) (by omega) (by omega)]; exact f6
  · rw [hF 7 (by omega) (by omega) (by omega) (by omega)]; exact f7
  · rw [hF 9 (by omega) (by omega) (by omega) (by omega)]; exact g3
  · rw [hF (66 + x) (by omega) (by omega) (by omega) (by omega)]; exact g4 x hx
theorem NR_cg {nam me mo ch : Nat} {nw : Nat → Int64} {so nu : Nat → Int32} {F F' : Nat → Int32} (h1 : me ≤ 6) (h2 : mo ≤ 5) (h3 : ch ≤ 5) (hF : ∀ j, 69 ≤ j → j < 213 → F' j = F j) (h : NR nam me mo ch nw so nu F) : NR nam me mo ch nw so nu F' := by
  obtain ⟨a, b, c⟩ := h
  refine ⟨fun i hi => ?_, fun n hn hz => ?_, c⟩
  · obtain ⟨p1, ns, p2, p3, p4, p5, p6⟩ := a i hi
    have hs := nsl_16 p1 h1 h2 h3
    refine ⟨p1, ns, p2, ?_, p4, fun j hj => ?_, ?_⟩
    · rw [hF _ (by omega) (by omega)]; exact p3
    · have := p5 j hj
      dsimp only at this ⊢
      rw [hF _ (by omega) (by omega)]
      exact this
    · rw [p6]
      refine tk_w_cg ns (fun j hj => ?_)
      rw [hF _ (by omega) (by omega)]
  · rw [hF _ (by omega) (by omega)] at hz
    exact b n hn hz
/-- a name more -/
theorem NR_new {nam me mo ch me' mo' ch' n ns : Nat} {nw nw' : Nat → Int64} {so nu so' nu' : Nat → Int32} {F F' L : Nat → Int32} {W : Int64} {s a : Int32} (h1 : me ≤ 6) (h2 : mo ≤ 5) (h3 : ch ≤ 5) (l1 : me ≤ me') (l2 : mo ≤ mo') (l3 : ch ≤ ch') (h : NR nam me mo ch nw so nu F) (hn : n < 16) (hsl : nsl s a = n) (hv : nmv me' mo' ch' s a) (hfree : F (69 + n) = 0) (hpos : 0 < ns) (hw : wrep W L ns) (hnew : ∀ i, i < nam → nw i ≠ W) (e1 : ∀ i, nw' i = if i = nam then W else nw i) (e2 : ∀ i, so' i = if i = nam then s else so i) (e3 : ∀ i, nu' i = if i = nam then a else nu i) (hF : ∀ j, 69 ≤ j → j < 213 → F' j = nnF F L n ns j) : NR (nam + 1) me' mo' ch' nw' so' nu' F' := by
  obtain ⟨p, q, r⟩ := h
  have hn8 := hw.1
  have old : ∀ i, i < nam → nw' i = nw i ∧ so' i = so i ∧ nu' i = nu i := fun i hi => by
    rw [e1, e2, e3, if_neg (by omega), if_neg (by omega), if_neg (by omega)]
    exact ⟨rfl, rfl, rfl⟩
  have new : nw' nam = W ∧ so' nam = s ∧ nu' nam = a := by
    rw [e1, e2, e3, if_pos rfl, if_pos rfl, if_pos rfl]
    exact ⟨rfl, rfl, rfl⟩
  refine ⟨fun i hi => ?_, fun m hm hz => ?_, fun i j hi hj he => ?_⟩
  · rcases Nat.lt_or_ge i nam with hc | hc
    · obtain ⟨o1, o2, o3⟩ := old i hc
      rw [o1, o2, o3]
      obtain ⟨p1, ns', p2, p3, p4, p5, p6⟩ := p i hc
      have hs := nsl_16 p1 h1 h2 h3
      have hne : nsl (so i) (nu i) ≠ n := fun hh => by
        rw [hh, hfree] at p3
        have := ofn_inj (a := 0) (b := ns') (by omega) (by omega) p3
        omega
      have hk : ∀ k, k < 8 → F' (85 + 8 * nsl (so i) (nu i) + k) = F (85 + 8 * nsl (so i) (nu i) + k) := fun k hk => by
        rw [hF _ (by omega) (by omega)]
        unfold nnF
        rw [if_neg (by omega), if_neg (by omega)]
      refine ⟨nmv_up p1 l1 l2 l3, ns', p2, ?_, p4, fun j hj => ?_, ?_⟩
      · rw [hF _ (by omega) (by omega)]
        unfold nnF
        rw [if_neg (by omega), if_neg (by omega)]
        exact p3
      · have := p5 j hj
        dsimp only at this ⊢
        rw [hk j (by omega)]
        exact this
      · rw [p6]
        refine tk_w_cg ns' (fun j hj => ?_)
        rw [hk j (by omega)]
    · have : i = nam := by omega
      subst this
      obtain ⟨o1, o2, o3⟩ := new
      rw [o1, o2, o3, hsl]
      have hk : ∀ k, k < ns → F' (85 + 8 * n + k) = L k := fun k hk => by
        rw [hF _ (by omega) (by omega)]
        unfold nnF
        rw [if_neg (by omega), if_pos (by omega), Nat.add_sub_cancel_left]
      refine ⟨hv, ns, hpos, ?_, hn8, fun j hj => ?_, ?_⟩
      · rw [hF _ (by omega) (by omega)]
        unfold nnF
        rw [if_pos rfl]
      · dsimp only
        rw [hk j hj]
        exact hw.2.1 j hj
      · rw [hw.2.2]
        refine tk_w_cg ns (fun j hj => ?_)
        rw [hk j hj]
  · by_cases hmn : m = n
    · exact ⟨nam, by omega, by rw [new.2.1, new.2.2, hsl, hmn]⟩
    · rw [hF _ (by omega) (by omega)] at hz
      unfold nnF at hz
      rw [if_neg (by omega), if_neg (by omega)] at hz
      obtain ⟨i, hi, hin⟩ := q m hm hz
      exact ⟨i, by omega, by rw [(old i hi).2.1, (old i hi).2.2]; exact hin⟩
  · rcases Nat.lt_or_ge i nam with ci | ci
    · rcases Nat.lt_or_ge j nam with cj | cj
      · rw [(old i ci).1, (old j cj).1] at he
        exact r i j ci cj he
      · have : j = nam := by omega
        subst this
        rw [(old i ci).1, new.1] at he
        exact absurd he (hnew i ci)
    · have : i = nam := by omega
      subst this
      rcases Nat.lt_or_ge j i with cj | cj
      · rw [(old j cj).1, new.1] at he
        exact absurd he.symm (hnew j cj)
      · omega
theorem Rq_w {N : Nat} {C D : cm_M} {i : Nat} {x : Int32} (h : Rq N C D) : Rq N C (cm_wi D 128 i x) := Rq_D h (fun c j hc => by
  show (if c = 128 ∧ j = i then _ else _) = _
  rw [if_neg (fun q => hc q.1)])
theorem wF (D : cm_M) (i j : Nat) (x : Int32) : (cm_wi D 128 i x).1 128 j = if j = i then x else D.1 128 j := by
  show (if 128 = 128 ∧ j = i then x else D.1 128 j) = _
  by_cases h : j = i
  · rw [if_pos ⟨rfl, h⟩, if_pos h]
  · rw [if_neg (fun q => h q.2), if_neg h]
theorem Rq_C {N : Nat} {C C' D : cm_M} (h : Rq N C D) (h1 : ∀ c j, c < 6 ∨ 124 ≤ c → C'.1 c j = C.1 c j) (h2 : C'.2 = C.2) : Rq N C' D := by
  have e : ∀ j, C'.1 2 j = C.1 2 j := fun j => h1 2 j (by omega)
  obtain ⟨⟨a1, ⟨b1, b2, b3, k, b4, b5⟩, a3, a4, a5, a6⟩, f⟩ := h
  refine ⟨⟨fun j hj => ?_, ⟨?_, ?_, b3, k, b4, ?_⟩, a3, ?_, ?_, ?_⟩, ?_⟩
  · rw [h1 1 j (by omega)]
    exact a1 j hj
  · rw [h2]; exact b1
  · rw [e]; exact b2
  · rw [e]; exact b5
  · rw [e]; exact a4
  · rw [e]; exact a5
  · unfold tw
    rw [e, e, h2]
    exact a6
  · unfold fl
    rw [e, e]
    exact ⟨f.1, f.2.1, fun c j q => (f.2.2 c j q).trans (h1 c j (by unfold prC at q; omega)).symm⟩
theorem z_word {N t : Nat} {C : cm_M} (h : (cF_takeWord N t C).1 2 9 = 0) : C.1 2 9 = 0 := by
  by_cases hc : C.1 2 9 = 0
  · exact hc
  · rw [tkw_id hc] at h
    exact h
theorem z_whole {N : Nat} {lo hi : Int32} {C : cm_M} (h : (cF_takeWhole N lo hi C).1 2 9 = 0) : C.1 2 9 = 0 := by
  by_cases hc : C.1 2 9 = 0
  · exact hc
  · rw [tkn_id hc] at h
    exact h
theorem z_step {N : Nat} {C : cm_M} (h : (cF_step N C).1 2 9 = 0) : C.1 2 9 = 0 := by
  rw [cF_step_9] at h
  exact h
theorem z_col {C : cm_M} (h : (cF_colour C).1 2 9 = 0) : C.1 2 9 = 0 := by
  by_cases hc : C.1 2 9 = 0
  · exact hc
  · exfalso
    have : cF_colour C = C := by
      unfold cF_colour
      split
      · rfl
      · split
        · rfl
        · split
          · rfl
          · exact cF_fail_id hc
    rw [this] at h
    exact hc h
theorem z_told {so : Int32} {C : cm_M} (h : (cF_told so C).1 2 9 = 0) : C.1 2 9 = 0 := by
  by_cases hc : C.1 2 9 = 0
  · exact hc
  · rw [told_id hc] at h
    exact h
theorem chk_1 {C : cm_M} (h0 : C.1 2 9 = 0) (h : cF_newChk C = C) : C.1 2 3 = 1 := by
  by_cases hk : C.1 2 3 = 1 ∧ cF_line C = -1
  · exact hk.1
  · exfalso
    unfold cF_newChk at h
    rw [if_neg hk] at h
    have := cF_fail_9n (x := 1) (C := C) (by decide)
    rw [h] at this
    exact this h0
/-- names behind a new one -/
theorem NC_new {N nam me mo ch me' mo' ch' n ns : Nat} {C C' : cm_M} {F F' L : Nat → Int32} {s a : Int32} (hN : NC nam me mo ch C F) (hn16 : nam < 16) (h0 : C.1 2 9 = 0) (h1 : cF_newChk C = C) (h2 : cF_name C = -1) (hK : KN (cF_newName N s a C) C') (l1 : me ≤ me') (l2 : mo ≤ mo') (l3 : ch ≤ ch') (m1 : me' ≤ 6) (m2 : mo' ≤ 5) (m3 : ch' ≤ 5) (hn : n < 16) (hsl : nsl s a = n) (hv : nmv me' mo' ch' s a) (hfree : F (69 + n) = 0) (hpos : 0 < ns) (hw : wrep (C.2.1 2 6) L ns) (hF : ∀ j, 69 ≤ j → j < 213 → F' j = nnF F L n ns j) : NC (nam + 1) me' mo' ch' C' F' := by
  obtain ⟨c1, c2, c3, c4, c5, c6⟩ := hN
  obtain ⟨k1, k2, k3, k4⟩ := hK
  have hk := chk_1 h0 h1
  have e : cF_newName N s a C = cF_step N (cm_wi (cm_wi (cm_wi (cm_wl C 3 nam (C.2.1 2 6)) 4 nam s) 5 nam a) 2 10 (C.1 2 10 + 1)) := by
    unfold cF_newName
    rw [h1]
    unfold cF_put
    rw [if_pos ⟨h0, by rw [c1, fn_toInt (by omega)]; omega⟩, c1, fn_nat (by omega)]
  obtain ⟨-, s1, s2, s3, s4⟩ := K_step N (cm_wi (cm_wi (cm_wi (cm_wl C 3 nam (C.2.1 2 6)) 4 nam s) 5 nam a) 2 10 (C.1 2 10 + 1))
  rw [e] at k1 k2 k3 k4
  have t1 := k1.trans s1
  have t2 := k2.trans s2
  have t3 := k3.trans s3
  have t4 := k4.trans s4
  refine ⟨?_, by omega, m1, m2, m3, NR_new c3 c4 c5 l1 l2 l3 c6 hn hsl hv hfree hpos hw (fun i hi => ?_) (fun i => ?_) (fun i => ?_) (fun i => ?_) hF⟩
  · rw [t1]
    show C.1 2 10 + 1 = _
    rw [c1, fn_succ]
  · have hnm : cF_name C = nm_f C nam 0 := by
      unfold cF_name
      rw [c1, fn_nat (by omega)]
    rw [hnm] at h2
    rcases nm_sp hk nam 0 with ⟨p, q⟩ | ⟨j, p, q, r, t⟩
    · exact q i (by omega) (by omega)
    · rw [r] at h2
      exact absurd h2 (of_m1 (by omega))
  · rw [t2]
    show (if 3 = 3 ∧ i = nam then C.2.1 2 6 else C.2.1 3 i) = _
    by_cases hi : i = nam
    · rw [if_pos ⟨rfl, hi⟩, if_pos hi]
    · rw [if_neg (fun q => hi q.2), if_neg hi]
  · rw [t3]
    show (if 4 = 2 ∧ i = 10 then C.1 2 10 + 1 else if 4 = 5 ∧ i = nam then a else if 4 = 4 ∧ i = nam then s else C.1 4 i) = _
    rw [if_neg (fun q => by omega), if_neg (fun q => by omega)]
    by_cases hi : i = nam
    · rw [if_pos ⟨rfl, hi⟩, if_pos hi]
    · rw [if_neg (fun q => hi q.2), if_neg hi]
  · rw [t4]
    show (if 5 = 2 ∧ i = 10 then C.1 2 10 + 1 else if 5 = 5 ∧ i = nam then a else if 5 = 4 ∧ i = nam then s else C.1 5 i) = _
    rw [if_neg (fun q => by omega)]
    by_cases hi : i = nam
    · rw [if_pos ⟨rfl, hi⟩, if_pos hi]
    · rw [if_neg (fun q => hi q.2), if_neg (fun q => by omega), if_neg hi]
/-- a slot beyond those that are told is free -/
theorem NR_free {nam me mo ch n : Nat} {nw : Nat → Int64} {so nu F : Nat → Int32} (h1 : me ≤ 6) (h2 : mo ≤ 5) (h3 : ch ≤ 5) (h : NR nam me mo ch nw so nu F) (hn : (n = me ∧ me < 6) ∨ (n = 6 + mo ∧ mo < 5) ∨ (n = 11 + ch ∧ ch < 5)) : F (69 + n) = 0 := by
  by_cases hz : F (69 + n) = 0
  · exact hz
  · exfalso
    obtain ⟨i, hi, hs⟩ := h.2.1 n (by omega) hz
    rcases (h.1 i hi).1 with ⟨a, b, c, d⟩ | ⟨a, b, c, d⟩ | ⟨a, b, c, d⟩
    · rw [a, d, nsl_1 (by omega)] at hs
      omega
    · rw [a, d, nsl_2 (by omega)] at hs
      omega
    · rw [a, d, nsl_6 (by omega)] at hs
      omega
section ADD
variable {T me : Nat} {c h0 v0 : Int32} {C : cm_M}
theorem addMan_eq (hm : C.1 T 3 = Int32.ofNat me) (h6 : me < 6) : cF_addMan T c h0 v0 C = cm_wi (cm_wi (cm_wi (cm_wi (cm_wi (cm_wi C (T + 1) me c) (T + 2) me h0) (T + 3) me v0) (T + 4) me 0) (T + 5) me 0) T 3 (Int32.ofNat (me + 1)) := by
  unfold cF_addMan
  rw [if_neg (by rw [hm, fn_toInt (by omega)]; omega), hm, fn_nat (by omega), fn_succ]
theorem addMotion_eq (hm : C.1 T 9 = Int32.ofNat me) (h6 : me < 5) : cF_addMotion T c h0 v0 C = cm_wi (cm_wi (cm_wi (cm_wi (cm_wi C (T + 6) me c) (T + 7) me h0) (T + 8) me v0) (T + 9) me 0) T 9 (Int32.ofNat (me + 1)) := by
  unfold cF_addMotion
  rw [if_neg (by rw [hm, fn_toInt (by omega)]; omega), hm, fn_nat (by omega), fn_succ]
theorem addChair_eq (hm : C.1 T 15 = Int32.ofNat me) (h6 : me < 5) : cF_addChair T c C = cm_wi (cm_wi C (T + 11) me c) T 15 (Int32.ofNat (me + 1)) := by
  unfold cF_addChair
  rw [if_neg (by rw [hm, fn_toInt (by omega)]; omega), hm, fn_nat (by omega), fn_succ]
end ADD
theorem up_same {f : Nat → Nat} {i v j : Nat} (h : j ≠ i) : up f i v j = f j := if_neg h
theorem DT_man {T N me mo ch ns : Nat} {C C7 : cm_M} {F F' L : Nat → Int32} {c hh vv : Int32} (hT : 6 ≤ T) (hd : DT T me mo ch C F) (hme : me < 6) (y0 : C.1 2 9 = 0) (y1 : cF_newChk C = C) (y2 : cF_name C = -1) (hK : KN (cF_newName N 1 (C.1 T 3) C) C7) (hKC : KC C C7) (hpos : 0 < ns) (hw : wrep (C.2.1 2 6) L ns) (hF : ∀ j, j < 213 → F' j = if j = 3 then Int32.ofNat (me + 1) else if j = 13 + 3 * me then vv else if j = 12 + 3 * me then hh else if j = 11 + 3 * me then c else nnF F L me ns j) : DT T (me + 1) mo ch (cF_addMan T c hh vv C7) F' := by
  obtain ⟨hN, hR⟩ := hd
  have hN' := hN
  obtain ⟨c1, c2, c3, c4, c5, c6⟩ := hN'
  have hR' := hR
  obtain ⟨⟨a1, a2, a3⟩, ⟨b1, b2, b3, b4, b5, b6⟩, d1, d2, d3, ⟨ag, am, qu, f1, f2, f3, f4, f5, f6, q, f7, f8⟩, hb, g1, g2, g3, g4⟩ := hR'
  have m0 : C.1 T 3 = Int32.ofNat me := b1
  have m7 : C7.1 T 3 = Int32.ofNat me := (hKC.1 T 3 hT).trans m0
  have e := addMan_eq (c := c) (h0 := hh) (v0 := vv) m7 hme
  have hlo : ∀ x j, x < 6 → (cF_addMan T c hh vv C7).1 x j = C7.1 x j := fun x j hx => by
    rw [e]
    show (if x = T ∧ j = 3 then _ else if x = T + 5 ∧ j = me then _ else if x = T + 4 ∧ j = me then _ else if x = T + 3 ∧ j = me then _ else if x = T + 2 ∧ j = me then _ else if x = T + 1 ∧ j = me then _ else _) = _
    rw [if_neg (by omega), if_neg (by omega), if_neg (by omega), if_neg (by omega), if_neg (by omega), if_neg (by omega)]
  have h2 : (cF_addMan T c hh vv C7).2 = C7.2 := by rw [e]; try rfl
  have old : ∀ i j, ¬ (i = 0 ∧ j = 3) → ¬ (1 ≤ i ∧ i ≤ 5 ∧ j = me) → DA T (cF_addMan T c hh vv C7) i j = DA T C i j := fun i j p1 p2 => by
    rw [e]
    show (if T + i = T ∧ j = 3 then _ else if T + i = T + 5 ∧ j = me then _ else if T + i = T + 4 ∧ j = me then _ else if T + i = T + 3 ∧ j = me then _ else if T + i = T + 2 ∧ j = me then _ else if T + i = T + 1 ∧ j = me then _ else C7.1 (T + i) j) = _
    rw [if_neg (by omega), if_neg (by omega), if_neg (by omega), if_neg (by omega), if_neg (by omega), if_neg (by omega)]
    exact hKC.1 _ _ (by omega)
  have n0 : DA T (cF_addMan T c hh vv C7) 0 3 = Int32.ofNat (me + 1) := by
    rw [e]
    show (if T + 0 = T ∧ 3 = 3 then _ else _) = _
    rw [if_pos ⟨rfl, rfl⟩]
  have nx : ∀ i, 1 ≤ i → i ≤ 5 → DA T (cF_addMan T c hh vv C7) i me = if i = 5 then 0 else if i = 4 then 0 else if i = 3 then vv else if i = 2 then hh else c := fun i p1 p2 => by
    rw [e]
    show (if T + i = T ∧ me = 3 then _ else if T + i = T + 5 ∧ me = me then _ else if T + i = T + 4 ∧ me = me then _ else if T + i = T + 3 ∧ me = me then _ else if T + i = T + 2 ∧ me = me then _ else if T + i = T + 1 ∧ me = me then _ else C7.1 (T + i) me) = _
    rw [if_neg (by omega)]
    by_cases q5 : i = 5
    · rw [if_pos ⟨by omega, rfl⟩, if_pos q5]
    · rw [if_neg (by omega), if_neg q5]
      by_cases q4 : i = 4
      · rw [if_pos ⟨by omega, rfl⟩, if_pos q4]
      · rw [if_neg (by omega), if_neg q4]
        by_cases q3 : i = 3
        · rw [if_pos ⟨by omega, rfl⟩, if_pos q3]
        · rw [if_neg (by omega), if_neg q3]
          by_cases q2 : i = 2
          · rw [if_pos ⟨by omega, rfl⟩, if_pos q2]
          · rw [if_neg (by omega), if_neg q2, if_pos ⟨by omega, rfl⟩]
  have hFo : ∀ j, j < 69 → j ≠ 3 → ¬ (11 + 3 * me ≤ j ∧ j < 14 + 3 * me) → F' j = F j := fun j j1 j2 j3 => by
    rw [hF j (by omega), if_neg j2, if_neg (by omega), if_neg (by omega), if_neg (by omega)]
    unfold nnF
    rw [if_neg (by omega), if_neg (by omega)]
  have f44 := (f1 me (by omega)).2.1
  have f55 := (f1 me (by omega)).2.2.2
  rw [(f2 me (by omega)).1] at f44
  rw [(f2 me (by omega)).2] at f55
  refine ⟨?_, ?_⟩
  · have hn := NC_new (N := N) (C' := cF_addMan T c hh vv C7) (F' := F') (n := me) (me' := me + 1) (mo' := mo) (ch' := ch) (s := 1) (a := C.1 T 3) hN (by omega) y0 y1 y2 (KN_tr hK ⟨hlo 2 10 (by omega), by rw [h2], funext fun j => hlo 4 j (by omega), funext fun j => hlo 5 j (by omega)⟩) (by omega) (by omega) (by omega) (by omega) (by omega) (by omega) (by omega) (by rw [m0, nsl_1 (by omega)]) (Or.inl ⟨rfl, me, by omega, m0⟩) (NR_free c3 c4 c5 c6 (Or.inl ⟨rfl, hme⟩)) hpos hw (fun j j1 j2 => by rw [hF j j2, if_neg (by omega), if_neg (by omega), if_neg (by omega), if_neg (by omega)])
    rw [show me + 1 + mo + ch = me + mo + ch + 1 by omega]
    exact hn
  · rw [show (cF_addMan T c hh vv C7).1 2 8 = C.1 2 8 from (hlo 2 8 (by omega)).trans hKC.2]
    refine ⟨⟨a1, ?_, fun q => ?_⟩, ⟨n0, ?_, ?_, ?_, ?_, ?_⟩, fun m hm => ?_, fun k hk => ?_, fun x hx => ?_, ⟨ag, am, qu, fun m hm => ?_, fun m hm => f2 m (by omega), fun k hk => ?_, f4, ?_, ?_, q, ?_, f8⟩, hb, g1, ?_, ?_, fun x hx => ?_⟩
    · rw [hFo 10 (by omega) (by omega) (by omega)]; exact a2
    · rw [old 0 0 (by omega) (by omega), old 0 1 (by omega) (by omega), old 0 2 (by omega) (by omega), hFo 0 (by omega) (by omega) (by omega), hFo 1 (by omega) (by omega) (by omega), hFo 2 (by omega) (by omega) (by omega)]; exact a3 q
    · rw [hF 3 (by omega), if_pos rfl]
    · rw [old 0 9 (by omega) (by omega)]; exact b3
    · rw [hFo 4 (by omega) (by omega) (by omega)]; exact b4
    · rw [old 0 15 (by omega) (by omega)]; exact b5
    · rw [hFo 8 (by omega) (by omega) (by omega)]; exact b6
    · rcases Nat.lt_or_ge m me with hc | hc
      · rw [old 1 m (by omega) (by omega), old 2 m (by omega) (by omega), old 3 m (by omega) (by omega), old 4 m (by omega) (by omega), old 5 m (by omega) (by omega), hFo (11 + 3 * m) (by omega) (by omega) (by omega), hFo (12 + 3 * m) (by omega) (by omega) (by omega), hFo (13 + 3 * m) (by omega) (by omega) (by omega), hFo (44 + m) (by omega) (by omega) (by omega), hFo (55 + m) (by omega) (by omega) (by omega)]; exact d1 m hc
      · have : m = me := by omega
        subst this
        rw [nx 1 (by omega) (by omega), nx 2 (by omega) (by omega), nx 3 (by omega) (by omega), nx 4 (by omega) (by omega), nx 5 (by omega) (by omega), hFo (44 + m) (by omega) (by omega) (by omega), hFo (55 + m) (by omega) (by omega) (by omega), hF (11 + 3 * m) (by omega), hF (12 + 3 * m) (by omega), hF (13 + 3 * m) (by omega), f44, f55]
        refine ⟨?_, ?_, ?_, rfl, rfl⟩
        · rw [if_neg (by omega), if_neg (by omega), if_neg (by omega), if_neg (by omega), if_neg (by omega), if_neg (by omega), if_neg (by omega), if_pos rfl]
        · rw [if_neg (by omega), if_neg (by omega), if_neg (by omega), if_pos rfl, if_neg (by omega), if_neg (by omega), if_pos rfl]
        · rw [if_neg (by omega), if_neg (by omega), if_pos rfl, if_neg (by omega), if_pos rfl]
    · rw [old 6 k (by omega) (by omega), old 7 k (by omega) (by omega), old 8 k (by omega) (by omega), old 9 k (by omega) (by omega), hFo (29 + 3 * k) (by omega) (by omega) (by omega), hFo (30 + 3 * k) (by omega) (by omega) (by omega), hFo (31 + 3 * k) (by omega) (by omega) (by omega), hFo (50 + k) (by omega) (by omega) (by omega)]; exact d2 k hk
    · rw [old 11 x (by omega) (by omega), hFo (61 + x) (by omega) (by omega) (by omega)]; exact d3 x hx
    · rw [hFo (44 + m) (by omega) (by omega) (by omega), hFo (55 + m) (by omega) (by omega) (by omega)]; exact f1 m hm
    · rw [hFo (50 + k) (by omega) (by omega) (by omega)]; exact f3 k hk
    · rw [hFo 5 (by omega) (by omega) (by omega)]; exact f5
    · rw [hFo 6 (by omega) (by omega) (by omega)]; exact f6
    · rw [hFo 7 (by omega) (by omega) (by omega)]; exact f7
    · rw [old 0 18 (by omega) (by omega)]; exact g2
    · rw [hFo 9 (by omega) (by omega) (by omega)]; exact g3
    · rw [old 12 x (by omega) (by omega), hFo (66 + x) (by omega) (by omega) (by omega)]; exact g4 x hx
theorem DT_motion {T N me mo ch ns : Nat} {C C7 : cm_M} {F F' L : Nat → Int32} {c hh vv : Int32} (hT : 6 ≤ T) (hd : DT T me mo ch C F) (hmo : mo < 5) (y0 : C.1 2 9 = 0) (y1 : cF_newChk C = C) (y2 : cF_name C = -1) (hK : KN (cF_newName N 2 (C.1 T 9) C) C7) (hKC : KC C C7) (hpos : 0 < ns) (hw : wrep (C.2.1 2 6) L ns) (hF : ∀ j, j < 213 → F' j = if j = 4 then Int32.ofNat (mo + 1) else if j = 31 + 3 * mo then vv else if j = 30 + 3 * mo then hh else if j = 29 + 3 * mo then c else nnF F L (6 + mo) ns j) : DT T me (mo + 1) ch (cF_addMotion T c hh vv C7) F' := by
  obtain ⟨hN, hR⟩ := hd
  have hN' := hN
  obtain ⟨c1, c2, c3, c4, c5, c6⟩ := hN'
  have hR' := hR
  obtain ⟨⟨a1, a2, a3⟩, ⟨b1, b2, b3, b4, b5, b6⟩, d1, d2, d3, ⟨ag, am, qu, f1, f2, f3, f4, f5, f6, q, f7, f8⟩, hb, g1, g2, g3, g4⟩ := hR'
  have m0 : C.1 T 9 = Int32.ofNat mo := b3
  have m7 : C7.1 T 9 = Int32.ofNat mo := (hKC.1 T 9 hT).trans m0
  have e := addMotion_eq (c := c) (h0 := hh) (v0 := vv) m7 hmo
  have hlo : ∀ x j, x < 6 → (cF_addMotion T c hh vv C7).1 x j = C7.1 x j := fun x j hx => by
    rw [e]
    show (if x = T ∧ j = 9 then _ else if x = T + 9 ∧ j = mo then _ else if x = T + 8 ∧ j = mo then _ else if x = T + 7 ∧ j = mo then _ else if x = T + 6 ∧ j = mo then _ else _) = _
    rw [if_neg (by omega), if_neg (by omega), if_neg (by omega), if_neg (by omega), if_neg (by omega)]
  have h2 : (cF_addMotion T c hh vv C7).2 = C7.2 := by rw [e]; try rfl
  have old : ∀ i j, ¬ (i = 0 ∧ j = 9) → ¬ (6 ≤ i ∧ i ≤ 9 ∧ j = mo) → DA T (cF_addMotion T c hh vv C7) i j = DA T C i j := fun i j p1 p2 => by
    rw [e]
    show (if T + i = T ∧ j = 9 then _ else if T + i = T + 9 ∧ j = mo then _ else if T + i = T + 8 ∧ j = mo then _ else if T + i = T + 7 ∧ j = mo then _ else if T + i = T + 6 ∧ j = mo then _ else C7.1 (T + i) j) = _
    rw [if_neg (by omega), if_neg (by omega), if_neg (by omega), if_neg (by omega), if_neg (by omega)]
    exact hKC.1 _ _ (by omega)
  have n0 : DA T (cF_addMotion T c hh vv C7) 0 9 = Int32.ofNat (mo + 1) := by
    rw [e]
    show (if T + 0 = T ∧ 9 = 9 then _ else _) = _
    rw [if_pos ⟨rfl, rfl⟩]
  have nx : ∀ i, 6 ≤ i → i ≤ 9 → DA T (cF_addMotion T c hh vv C7) i mo = if i = 9 then 0 else if i = 8 then vv else if i = 7 then hh else c := fun i p1 p2 => by
    rw [e]
    show (if T + i = T ∧ mo = 9 then _ else if T + i = T + 9 ∧ mo = mo then _ else if T + i = T + 8 ∧ mo = mo then _ else if T + i = T + 7 ∧ mo = mo then _ else if T + i = T + 6 ∧ mo = mo then _ else C7.1 (T + i) mo) = _
    rw [if_neg (by omega)]
    by_cases q4 : i = 9
    · rw [if_pos ⟨by omega, rfl⟩, if_pos q4]
    · rw [if_neg (by omega), if_neg q4]
      by_cases q3 : i = 8
      · rw [if_pos ⟨by omega, rfl⟩, if_pos q3]
      · rw [if_neg (by omega), if_neg q3]
        by_cases q2 : i = 7
        · rw [if_pos ⟨by omega, rfl⟩, if_pos q2]
        · rw [if_neg (by omega), if_neg q2, if_pos ⟨by omega, rfl⟩]
  have hFo : ∀ j, j < 69 → j ≠ 4 → ¬ (29 + 3 * mo ≤ j ∧ j < 32 + 3 * mo) → F' j = F j := fun j j1 j2 j3 => by
    rw [hF j (by omega), if_neg j2, if_neg (by omega), if_neg (by omega), if_neg (by omega)]
    unfold nnF
    rw [if_neg (by omega), if_neg (by omega)]
  have f50 := (f3 mo (by omega)).2
  rw [f4 mo (by omega)] at f50
  refine ⟨?_, ?_⟩
  · have hn := NC_new (N := N) (C' := cF_addMotion T c hh vv C7) (F' := F') (n := 6 + mo) (me' := me) (mo' := mo + 1) (ch' := ch) (s := 2) (a := C.1 T 9) hN (by omega) y0 y1 y2 (KN_tr hK ⟨hlo 2 10 (by omega), by rw [h2], funext fun j => hlo 4 j (by omega), funext fun j => hlo 5 j (by omega)⟩) (by omega) (by omega) (by omega) (by omega) (by omega) (by omega) (by omega) (by rw [m0, nsl_2 (by omega)]) (Or.inr (Or.inl ⟨rfl, mo, by omega, m0⟩)) (NR_free c3 c4 c5 c6 (Or.inr (Or.inl ⟨rfl, hmo⟩))) hpos hw (fun j j1 j2 => by rw [hF j j2, if_neg (by omega), if_neg (by omega), if_neg (by omega), if_neg (by omega)])
    rw [show me + (mo + 1) + ch = me + mo + ch + 1 by omega]
    exact hn
  · rw [show (cF_addMotion T c hh vv C7).1 2 8 = C.1 2 8 from (hlo 2 8 (by omega)).trans hKC.2]
    refine ⟨⟨a1, ?_, fun q => ?_⟩, ⟨?_, ?_, n0, ?_, ?_, ?_⟩, fun m hm => ?_, fun k hk => ?_, fun x hx => ?_, ⟨ag, am, qu, fun m hm => ?_, f2, fun k hk => ?_, fun k hk => f4 k (by omega), ?_, ?_, q, ?_, f8⟩, hb, g1, ?_, ?_, fun x hx => ?_⟩
    · rw [hFo 10 (by omega) (by omega) (by omega)]; exact a2
    · rw [old 0 0 (by omega) (by omega), old 0 1 (by omega) (by omega), old 0 2 (by omega) (by omega), hFo 0 (by omega) (by omega) (by omega), hFo 1 (by omega) (by omega) (by omega), hFo 2 (by omega) (by omega) (by omega)]; exact a3 q
    · rw [old 0 3 (by omega) (by omega)]; exact b1
    · rw [hFo 3 (by omega) (by omega) (by omega)]; exact b2
    · rw [hF 4 (by omega), if_pos rfl]
    · rw [old 0 15 (by omega) (by omega)]; exact b5
    · rw [hFo 8 (by omega) (by omega) (by omega)]; exact b6
    · rw [old 1 m (by omega) (by omega), old 2 m (by omega) (by omega), old 3 m (by omega) (by omega), old 4 m (by omega) (by omega), old 5 m (by omega) (by omega), hFo (11 + 3 * m) (by omega) (by omega) (by omega), hFo (12 + 3 * m) (by omega) (by omega) (by omega), hFo (13 + 3 * m) (by omega) (by omega) (by omega), hFo (44 + m) (by omega) (by omega) (by omega), hFo (55 + m) (by omega) (by omega) (by omega)]; exact d1 m hm
    · rcases Nat.lt_or_ge k mo with hc | hc
      · rw [old 6 k (by omega) (by omega), old 7 k (by omega) (by omega), old 8 k (by omega) (by omega), old 9 k (by omega) (by omega), hFo (29 + 3 * k) (by omega) (by omega) (by omega), hFo (30 + 3 * k) (by omega) (by omega) (by omega), hFo (31 + 3 * k) (by omega) (by omega) (by omega), hFo (50 + k) (by omega) (by omega) (by omega)]; exact d2 k hc
      · have : k = mo := by omega
        subst this
        rw [nx 6 (by omega) (by omega), nx 7 (by omega) (by omega), nx 8 (by omega) (by omega), nx 9 (by omega) (by omega), hFo (50 + k) (by omega) (by omega) (by omega), hF (29 + 3 * k) (by omega), hF (30 + 3 * k) (by omega), hF (31 + 3 * k) (by omega), f50]
        refine ⟨?_, ?_, ?_, rfl⟩
        · rw [if_neg (by omega), if_neg (by omega), if_neg (by omega), if_neg (by omega), if_neg (by omega), if_neg (by omega), if_pos rfl]
        · rw [if_neg (by omega), if_neg (by omega), if_pos rfl, if_neg (by omega), if_neg (by omega), if_pos rfl]
        · rw [if_neg (by omega), if_pos rfl, if_neg (by omega), if_pos rfl]
    · rw [old 11 x (by omega) (by omega), hFo (61 + x) (by omega) (by omega) (by omega)]; exact d3 x hx
    · rw [hFo (44 + m) (by omega) (by omega) (by omega), hFo (55 + m) (by omega) (by omega) (by omega)]; exact f1 m hm
    · rw [hFo (50 + k) (by omega) (by omega) (by omega)]; exact f3 k hk
    · rw [hFo 5 (by omega) (by omega) (by omega)]; exact f5
    · rw [hFo 6 (by omega) (by omega) (by omega)]; exact f6
    · rw [hFo 7 (by omega) (by omega) (by omega)]; exact f7
    · rw [old 0 18 (by omega) (by omega)]; exact g2
    · rw [hFo 9 (by omega) (by omega) (by omega)]; exact g3
    · rw [old 12 x (by omega) (by omega), hFo (66 + x) (by omega) (by omega) (by omega)]; exact g4 x hx
theorem DT_chair {T N me mo ch ns : Nat} {C C7 : cm_M} {F F' L : Nat → Int32} {c : Int32} (hT : 6 ≤ T) (hd : DT T me mo ch C F) (hch : ch < 5) (y0 : C.1 2 9 = 0) (y1 : cF_newChk C = C) (y2 : cF_name C = -1) (hK : KN (cF_newName N 6 (C.1 T 15) C) C7) (hKC : KC C C7) (hpos : 0 < ns) (hw : wrep (C.2.1 2 6) L ns) (hF : ∀ j, j < 213 → F' j = if j = 8 then Int32.ofNat (ch + 1) else if j = 61 + ch then c else nnF F L (11 + ch) ns j) : DT T me mo (ch + 1) (cF_addChair T c C7) F' := by
  obtain ⟨hN, hR⟩ := hd
  have hN' := hN
  obtain ⟨c1, c2, c3, c4, c5, c6⟩ := hN'
  have hR' := hR
  obtain ⟨⟨a1, a2, a3⟩, ⟨b1, b2, b3, b4, b5, b6⟩, d1, d2, d3, ⟨ag, am, qu, f1, f2, f3, f4, f5, f6, q, f7, f8⟩, hb, g1, g2, g3, g4⟩ := hR'
  have m0 : C.1 T 15 = Int32.ofNat ch := b5
  have m7 : C7.1 T 15 = Int32.ofNat ch := (hKC.1 T 15 hT).trans m0
  have e := addChair_eq (c := c) m7 hch
  have hlo : ∀ x j, x < 6 → (cF_addChair T c C7).1 x j = C7.1 x j := fun x j hx => by
    rw [e]
    show (if x = T ∧ j = 15 then _ else if x = T + 11 ∧ j = ch then _ else _) = _
    rw [if_neg (by omega), if_neg (by omega)]
  have h2 : (cF_addChair T c C7).2 = C7.2 := by rw [e]; try rfl
  have old : ∀ i j, ¬ (i = 0 ∧ j = 15) → ¬ (i = 11 ∧ j = ch) → DA T (cF_addChair T c C7) i j = DA T C i j := fun i j p1 p2 => by
    rw [e]
    show (if T + i = T ∧ j = 15 then _ else if T + i = T + 11 ∧ j = ch then _ else C7.1 (T + i) j) = _
    rw [if_neg (by omega), if_neg (by omega)]
    exact hKC.1 _ _ (by omega)
  have n0 : DA T (cF_addChair T c C7) 0 15 = Int32.ofNat (ch + 1) := by
    rw [e]
    show (if T + 0 = T ∧ 15 = 15 then _ else _) = _
    rw [if_pos ⟨rfl, rfl⟩]
  have nx : DA T (cF_addChair T c C7) 11 ch = c := by
    rw [e]
    show (if T + 11 = T ∧ ch = 15 then _ else if T + 11 = T + 11 ∧ ch = ch then _ else C7.1 (T + 11) ch) = _
    rw [if_neg (by omega), if_pos ⟨rfl, rfl⟩]
  have hFo : ∀ j, j < 69 → j ≠ 8 → j ≠ 61 + ch → F' j = F j := fun j j1 j2 j3 => by
    rw [hF j (by omega), if_neg j2, if_neg j3]
    unfold nnF
    rw [if_neg (by omega), if_neg (by omega)]
  refine ⟨?_, ?_⟩
  · have hn := NC_new (N := N) (C' := cF_addChair T c C7) (F' := F') (n := 11 + ch) (me' := me) (mo' := mo) (ch' := ch + 1) (s := 6) (a := C.1 T 15) hN (by omega) y0 y1 y2 (KN_tr hK ⟨hlo 2 10 (by omega), by rw [h2], funext fun j => hlo 4 j (by omega), funext fun j => hlo 5 j (by omega)⟩) (by omega) (by omega) (by omega) (by omega) (by omega) (by omega) (by omega) (by rw [m0, nsl_6 (by omega)]) (Or.inr (Or.inr ⟨rfl, ch, by omega, m0⟩)) (NR_free c3 c4 c5 c6 (Or.inr (Or.inr ⟨rfl, hch⟩))) hpos hw (fun j j1 j2 => by rw [hF j j2, if_neg (by omega), if_neg (by omega)])
    rw [show me + mo + (ch + 1) = me + mo + ch + 1 by omega]
    exact hn
  · rw [show (cF_addChair T c C7).1 2 8 = C.1 2 8 from (hlo 2 8 (by omega)).trans hKC.2]
    refine ⟨⟨a1, ?_, fun q => ?_⟩, ⟨?_, ?_, ?_, ?_, n0, ?_⟩, fun m hm => ?_, fun k hk => ?_, fun x hx => ?_, ⟨ag, am, qu, fun m hm => ?_, f2, fun k hk => ?_, f4, ?_, ?_, q, ?_, f8⟩, hb, g1, ?_, ?_, fun x hx => ?_⟩
    · rw [hFo 10 (by omega) (by omega) (by omega)]; exact a2
    · rw [old 0 0 (by omega) (by omega), old 0 1 (by omega) (by omega), old 0 2 (by omega) (by omega), hFo 0 (by omega) (by omega) (by omega), hFo 1 (by omega) (by omega) (by omega), hFo 2 (by omega) (by omega) (by omega)]; exact a3 q
    · rw [old 0 3 (by omega) (by omega)]; exact b1
    · rw [hFo 3 (by omega) (by omega) (by omega)]; exact b2
    · rw [old 0 9 (by omega) (by omega)]; exact b3
    · rw [hFo 4 (by omega) (by omega) (by omega)]; exact b4
    · rw [hF 8 (by omega), if_pos rfl]
    · rw [old 1 m (by omega) (by omega), old 2 m (by omega) (by omega), old 3 m (by omega) (by omega), old 4 m (by omega) (by omega), old 5 m (by omega) (by omega), hFo (11 + 3 * m) (by omega) (by omega) (by omega), hFo (12 + 3 * m) (by omega) (by omega) (by omega), hFo (13 + 3 * m) (by omega) (by omega) (by omega), hFo (44 + m) (by omega) (by omega) (by omega), hFo (55 + m) (by omega) (by omega) (by omega)]; exact d1 m hm
    · rw [old 6 k (by omega) (by omega), old 7 k (by omega) (by omega), old 8 k (by omega) (by omega), old 9 k (by omega) (by omega), hFo (29 + 3 * k) (by omega) (by omega) (by omega), hFo (30 + 3 * k) (by omega) (by omega) (by omega), hFo (31 + 3 * k) (by omega) (by omega) (by omega), hFo (50 + k) (by omega) (by omega) (by omega)]; exact d2 k hk
    · rcases Nat.lt_or_ge x ch with hc | hc
      · rw [old 11 x (by omega) (by omega), hFo (61 + x) (by omega) (by omega) (by omega)]; exact d3 x hc
      · have : x = ch := by omega
        subst this
        rw [nx, hF (61 + x) (by omega), if_neg (by omega), if_pos rfl]
    · rw [hFo (44 + m) (by omega) (by omega) (by omega), hFo (55 + m) (by omega) (by omega) (by omega)]; exact f1 m hm
    · rw [hFo (50 + k) (by omega) (by omega) (by omega)]; exact f3 k hk
    · rw [hFo 5 (by omega) (by omega) (by omega)]; exact f5
    · rw [hFo 6 (by omega) (by omega) (by omega)]; exact f6
    · rw [hFo 7 (by omega) (by omega) (by omega)]; exact f7
    · rw [old 0 18 (by omega) (by omega)]; exact g2
    · rw [hFo 9 (by omega) (by omega) (by omega)]; exact g3
    · rw [old 12 x (by omega) (by omega), hFo (66 + x) (by omega) (by omega) (by omega)]; exact g4 x hx
/-- the data, where the cells that changed are told -/
theorem NC_cg {nam me mo ch : Nat} {C C' : cm_M} {F F' : Nat → Int32} (h : NC nam me mo ch C F) (hK : KN C C') (hF : ∀ j, 69 ≤ j → j < 213 → F' j = F j) : NC nam me mo ch C' F' := by
  obtain ⟨c1, c2, c3, c4, c5, c6⟩ := h
  obtain ⟨k1, k2, k3, k4⟩ := hK
  refine ⟨k1.trans c1, c2, c3, c4, c5, ?_⟩
  rw [k2, k3, k4]
  exact NR_cg c3 c4 c5 hF c6
theorem DT_cg {T me mo ch : Nat} {C C' : cm_M} {F : Nat → Int32} (hT : 6 ≤ T) (h : DT T me mo ch C F) (hK : KC C C' ∧ KN C C') : DT T me mo ch C' F := by
  refine ⟨NC_cg h.1 hK.2 (fun _ _ _ => rfl), ?_⟩
  rw [DA_cg hT hK.1, hK.1.2]
  exact h.2
theorem DT_town {T me mo ch : Nat} {C C' : cm_M} {F F' : Nat → Int32} {x y z : Int32} (hd : DT T me mo ch C F) (hK : KN C C') (h8 : C'.1 2 8 = 1) (a0 : DA T C' 0 0 = x) (a1 : DA T C' 0 1 = y) (a2 : DA T C' 0 2 = z) (old : ∀ i j, ¬ (i = 0 ∧ j < 3) → DA T C' i j = DA T C i j) (hF : ∀ j, j < 213 → F' j = if j = 10 then 1 else if j = 2 then z else if j = 1 then y else if j = 0 then x else F j) : DT T me mo ch C' F' := by
  obtain ⟨hN, ⟨-, -, -⟩, ⟨b1, b2, b3, b4, b5, b6⟩, d1, d2, d3, ⟨ag, am, qu, f1, f2, f3, f4, f5, f6, q, f7, f8⟩, hb, g1, g2, g3, g4⟩ := hd
  obtain ⟨-, -, c3, c4, c5, -⟩ := id hN
  have hFo : ∀ j, j < 213 → j ≠ 10 → ¬ j < 3 → F' j = F j := fun j j1 j2 j3 => by
    rw [hF j j1, if_neg j2, if_neg (by omega), if_neg (by omega), if_neg (by omega)]
  refine ⟨NC_cg hN hK (fun j j1 j2 => hFo j j2 (by omega) (by omega)), ?_⟩
  rw [h8]
  refine ⟨⟨Or.inr rfl, ?_, fun _ => ⟨?_, ?_, ?_⟩⟩, ⟨?_, ?_, ?_, ?_, ?_, ?_⟩, fun m hm => ?_, fun k hk => ?_, fun x hx => ?_, ⟨ag, am, qu, fun m hm => ?_, f2, fun k hk => ?_, f4, ?_, ?_, q, ?_, f8⟩, hb, g1, ?_, ?_, fun x hx => ?_⟩
  · rw [hF 10 (by omega), if_pos rfl]
  · rw [a0, hF 0 (by omega), if_neg (by omega), if_neg (by omega), if_neg (by omega), if_pos rfl]
  · rw [a1, hF 1 (by omega), if_neg (by omega), if_neg (by omega), if_pos rfl]
  · rw [a2, hF 2 (by omega), if_neg (by omega), if_pos rfl]
  · rw [old 0 3 (by omega)]; exact b1
  · rw [hFo 3 (by omega) (by omega) (by omega)]; exact b2
  · rw [old 0 9 (by omega)]; exact b3
  · rw [hFo 4 (by omega) (by omega) (by omega)]; exact b4
  · rw [old 0 15 (by omega)]; exact b5
  · rw [hFo 8 (by omega) (by omega) (by omega)]; exact b6
  · rw [old 1 m (by omega), old 2 m (by omega), old 3 m (by omega), old 4 m (by omega), old 5 m (by omega), hFo (11 + 3 * m) (by omega) (by omega) (by omega), hFo (12 + 3 * m) (by omega) (by omega) (by omega), hFo (13 + 3 * m) (by omega) (by omega) (by omega), hFo (44 + m) (by omega) (by omega) (by omega), hFo (55 + m) (by omega) (by omega) (by omega)]; exact d1 m hm
  · rw [old 6 k (by omega), old 7 k (by omega), old 8 k (by omega), old 9 k (by omega), hFo (29 + 3 * k) (by omega) (by omega) (by omega), hFo (30 + 3 * k) (by omega) (by omega) (by omega), hFo (31 + 3 * k) (by omega) (by omega) (by omega), hFo (50 + k) (by omega) (by omega) (by omega)]; exact d2 k hk
  · rw [old 11 x (by omega), hFo (61 + x) (by omega) (by omega) (by omega)]; exact d3 x hx
  · rw [hFo (44 + m) (by omega) (by omega) (by omega), hFo (55 + m) (by omega) (by omega) (by omega)]; exact f1 m hm
  · rw [hFo (50 + k) (by omega) (by omega) (by omega)]; exact f3 k hk
  · rw [hFo 5 (by omega) (by omega) (by omega)]; exact f5
  · rw [hFo 6 (by omega) (by omega) (by omega)]; exact f6
  · rw [hFo 7 (by omega) (by omega) (by omega)]; exact f7
  · rw [old 0 18 (by omega)]; exact g2
  · rw [hFo 9 (by omega) (by omega) (by omega)]; exact g3
  · have ex : DA T C' 12 = DA T C 12 := funext fun j => old 12 j (by omega)
    rw [ex, hFo (66 + x) (by omega) (by omega) (by omega)]; exact g4 x hx
theorem of_s (a : Nat) : Int32.ofNat a + 1 = Int32.ofNat (a + 1) := fn_succ a
theorem DT_against {T me mo ch m k : Nat} {C C' : cm_M} {F F' : Nat → Int32} (hd : DT T me mo ch C F) (hK : KN C C') (h8 : C'.1 2 8 = C.1 2 8) (hm : m < me) (hk : k < mo) (hbit : (F (44 + m) >>> (Int32.ofNat k &&& 31)) &&& 1 = 0) (hn : DA T C' 4 m = F (44 + m) ||| ((1 : Int32) <<< (Int32.ofNat k &&& 31))) (old : ∀ i j, ¬ (i = 4 ∧ j = m) → DA T C' i j = DA T C i j) (hF : ∀ j, j < 213 → F' j = if j = 5 then F 5 + 1 else if j = 44 + m then F (44 + m) ||| ((1 : Int32) <<< (Int32.ofNat k &&& 31)) else F j) : DT T me mo ch C' F' := by
  obtain ⟨hN, ⟨a1, a2, a3⟩, ⟨b1, b2, b3, b4, b5, b6⟩, d1, d2, d3, ⟨ag, am, qu, f1, f2, f3, f4, f5, f6, q, f7, f8⟩, hb, g1, g2, g3, g4⟩ := hd
  obtain ⟨-, -, c3, c4, c5, -⟩ := id hN
  have hFo : ∀ j, j < 213 → j ≠ 5 → j ≠ 44 + m → F' j = F j := fun j j1 j2 j3 => by
    rw [hF j j1, if_neg j2, if_neg j3]
  obtain ⟨p1, p2, p3, p4⟩ := f1 m (by omega)
  rw [p2] at hbit hn
  have hb0 := (bit_t (ag m) (by omega) k (by omega)).mp hbit
  obtain ⟨s1, s2, s3⟩ := bit_s (ag m) (by omega) k (by omega) hb0
  have s4 := bit_l 5 (by omega) (ag m) p1 k (by omega) hb0
  refine ⟨NC_cg hN hK (fun j j1 j2 => hFo j j2 (by omega) (by omega)), ?_⟩
  rw [h8]
  refine ⟨⟨a1, ?_, fun q => ?_⟩, ⟨?_, ?_, ?_, ?_, ?_, ?_⟩, fun x hx => ?_, fun k hk => ?_, fun x hx => ?_, ⟨up ag m (ag m + 2 ^ k), am, qu, fun x hx => ?_, fun x hx => ?_, fun k hk => ?_, f4, ?_, ?_, q, ?_, f8⟩, hb, g1, ?_, ?_, fun x hx => ?_⟩
  · rw [hFo 10 (by omega) (by omega) (by omega)]; exact a2
  · rw [old 0 0 (by omega), old 0 1 (by omega), old 0 2 (by omega), hFo 0 (by omega) (by omega) (by omega), hFo 1 (by omega) (by omega) (by omega), hFo 2 (by omega) (by omega) (by omega)]; exact a3 q
  · rw [old 0 3 (by omega)]; exact b1
  · rw [hFo 3 (by omega) (by omega) (by omega)]; exact b2
  · rw [old 0 9 (by omega)]; exact b3
  · rw [hFo 4 (by omega) (by omega) (by omega)]; exact b4
  · rw [old 0 15 (by omega)]; exact b5
  · rw [hFo 8 (by omega) (by omega) (by omega)]; exact b6
  · by_cases hxm : x = m
    · subst hxm
      rw [old 1 x (by omega), old 2 x (by omega), old 3 x (by omega), old 5 x (by omega), hFo (11 + 3 * x) (by omega) (by omega) (by omega), hFo (12 + 3 * x) (by omega) (by omega) (by omega), hFo (13 + 3 * x) (by omega) (by omega) (by omega), hFo (55 + x) (by omega) (by omega) (by omega), hn, hF (44 + x) (by omega), if_neg (by omega), if_pos rfl, p2]
      obtain ⟨t1, t2, t3, t4, t5⟩ := d1 x hx
      exact ⟨t1, t2, t3, rfl, t5⟩
    · rw [old 1 x (by omega), old 2 x (by omega), old 3 x (by omega), old 4 x (by omega), old 5 x (by omega), hFo (11 + 3 * x) (by omega) (by omega) (by omega), hFo (12 + 3 * x) (by omega) (by omega) (by omega), hFo (13 + 3 * x) (by omega) (by omega) (by omega), hFo (44 + x) (by omega) (by omega) (by omega), hFo (55 + x) (by omega) (by omega) (by omega)]; exact d1 x hx
  · rw [old 6 k (by omega), old 7 k (by omega), old 8 k (by omega), old 9 k (by omega), hFo (29 + 3 * k) (by omega) (by omega) (by omega), hFo (30 + 3 * k) (by omega) (by omega) (by omega), hFo (31 + 3 * k) (by omega) (by omega) (by omega), hFo (50 + k) (by omega) (by omega) (by omega)]; exact d2 k hk
  · rw [old 11 x (by omega), hFo (61 + x) (by omega) (by omega) (by omega)]; exact d3 x hx
  · by_cases hxm : x = m
    · subst hxm
      rw [hF (44 + x) (by omega), if_neg (by omega), if_pos rfl, p2, hFo (55 + x) (by omega) (by omega) (by omega), s1]
      unfold up
      rw [if_pos rfl]
      exact ⟨s4, rfl, p3, p4⟩
    · rw [hFo (44 + x) (by omega) (by omega) (by omega), hFo (55 + x) (by omega) (by omega) (by omega), up_same hxm]; exact f1 x hx
  · rw [up_same (by omega)]
    exact f2 x hx
  · rw [hFo (50 + k) (by omega) (by omega) (by omega)]; exact f3 k hk
  · rw [hF 5 (by omega), if_pos rfl, f5, of_s, su_up s2 6 (by omega)]
  · rw [hFo 6 (by omega) (by omega) (by omega)]; exact f6
  · rw [hFo 7 (by omega) (by omega) (by omega)]; exact f7
  · rw [old 0 18 (by omega)]; exact g2
  · rw [hFo 9 (by omega) (by omega) (by omega)]; exact g3
  · have ex : DA T C' 12 = DA T C 12 := funext fun j => old 12 j (by omega)
    rw [ex, hFo (66 + x) (by omega) (by omega) (by omega)]; exact g4 x hx
theorem DT_amends {T me mo ch m k : Nat} {C C' : cm_M} {F F' : Nat → Int32} (hd : DT T me mo ch C F) (hK : KN C C') (h8 : C'.1 2 8 = C.1 2 8) (hm : m < mo) (hk : k < m) (hbit : (F (50 + m) >>> (Int32.ofNat k &&& 31)) &&& 1 = 0) (hn : DA T C' 9 m = F (50 + m) ||| ((1 : Int32) <<< (Int32.ofNat k &&& 31))) (old : ∀ i j, ¬ (i = 9 ∧ j = m) → DA T C' i j = DA T C i j) (hF : ∀ j, j < 213 → F' j = if j = 6 then F 6 + 1 else if j = 50 + m then F (50 + m) ||| ((1 : Int32) <<< (Int32.ofNat k &&& 31)) else F j) : DT T me mo ch C' F' := by
  obtain ⟨hN, ⟨a1, a2, a3⟩, ⟨b1, b2, b3, b4, b5, b6⟩, d1, d2, d3, ⟨ag, am, qu, f1, f2, f3, f4, f5, f6, q, f7, f8⟩, hb, g1, g2, g3, g4⟩ := hd
  obtain ⟨-, -, c3, c4, c5, -⟩ := id hN
  have hFo : ∀ j, j < 213 → j ≠ 6 → j ≠ 50 + m → F' j = F j := fun j j1 j2 j3 => by
    rw [hF j j1, if_neg j2, if_neg j3]
  obtain ⟨p1, p2⟩ := f3 m (by omega)
  have p32 : am m < 64 := Nat.lt_of_lt_of_le p1 (Nat.le_trans (Nat.pow_le_pow_right (by omega) (by omega : m ≤ 6)) (by decide))
  rw [p2] at hbit hn
  have hb0 := (bit_t (am m) p32 k (by omega)).mp hbit
  obtain ⟨s1, s2, s3⟩ := bit_s (am m) p32 k (by omega) hb0
  have s4 := bit_l m (by omega) (am m) p1 k (by omega) hb0
  refine ⟨NC_cg hN hK (fun j j1 j2 => hFo j j2 (by omega) (by omega)), ?_⟩
  rw [h8]
  refine ⟨⟨a1, ?_, fun q => ?_⟩, ⟨?_, ?_, ?_, ?_, ?_, ?_⟩, fun x hx => ?_, fun x hx => ?_, fun x hx => ?_, ⟨ag, up am m (am m + 2 ^ k), qu, fun x hx => ?_, f2, fun x hx => ?_, fun x hx => ?_, ?_, ?_, q, ?_, f8⟩, hb, g1, ?_, ?_, fun x hx => ?_⟩
  · rw [hFo 10 (by omega) (by omega) (by omega)]; exact a2
  · rw [old 0 0 (by omega), old 0 1 (by omega), old 0 2 (by omega), hFo 0 (by omega) (by omega) (by omega), hFo 1 (by omega) (by omega) (by omega), hFo 2 (by omega) (by omega) (by omega)]; exact a3 q
  · rw [old 0 3 (by omega)]; exact b1
  · rw [hFo 3 (by omega) (by omega) (by omega)]; exact b2
  · rw [old 0 9 (by omega)]; exact b3
  · rw [hFo 4 (by omega) (by omega) (by omega)]; exact b4
  · rw [old 0 15 (by omega)]; exact b5
  · rw [hFo 8 (by omega) (by omega) (by omega)]; exact b6
  · rw [old 1 x (by omega), old 2 x (by omega), old 3 x (by omega), old 4 x (by omega), old 5 x (by omega), hFo (11 + 3 * x) (by omega) (by omega) (by omega), hFo (12 + 3 * x) (by omega) (by omega) (by omega), hFo (13 + 3 * x) (by omega) (by omega) (by omega), hFo (44 + x) (by omega) (by omega) (by omega), hFo (55 + x) (by omega) (by omega) (by omega)]; exact d1 x hx
  · by_cases hxm : x = m
    · subst hxm
      rw [old 6 x (by omega), old 7 x (by omega), old 8 x (by omega), hFo (29 + 3 * x) (by omega) (by omega) (by omega), hFo (30 + 3 * x) (by omega) (by omega) (by omega), hFo (31 + 3 * x) (by omega) (by omega) (by omega), hn, hF (50 + x) (by omega), if_neg (by omega), if_pos rfl, p2]
      obtain ⟨t1, t2, t3, t4⟩ := d2 x hx
      exact ⟨t1, t2, t3, rfl⟩
    · rw [old 6 x (by omega), old 7 x (by omega), old 8 x (by omega), old 9 x (by omega), hFo (29 + 3 * x) (by omega) (by omega) (by omega), hFo (30 + 3 * x) (by omega) (by omega) (by omega), hFo (31 + 3 * x) (by omega) (by omega) (by omega), hFo (50 + x) (by omega) (by omega) (by omega)]; exact d2 x hx
  · rw [old 11 x (by omega), hFo (61 + x) (by omega) (by omega) (by omega)]; exact d3 x hx
  · rw [hFo (44 + x) (by omega) (by omega) (by omega), hFo (55 + x) (by omega) (by omega) (by omega)]; exact f1 x hx
  · by_cases hxm : x = m
    · subst hxm
      rw [hF (50 + x) (by omega), if_neg (by omega), if_pos rfl, p2, s1]
      unfold up
      rw [if_pos rfl]
      exact ⟨s4, rfl⟩
    · rw [hFo (50 + x) (by omega) (by omega) (by omega), up_same hxm]; exact f3 x hx
  · rw [up_same (by omega)]
    exact f4 x hx
  · rw [hFo 5 (by omega) (by omega) (by omega)]; exact f5
  · rw [hF 6 (by omega), if_pos rfl, f6, of_s, su_up s2 5 (by omega)]
  · rw [hFo 7 (by omega) (by omega) (by omega)]; exact f7
  · rw [old 0 18 (by omega)]; exact g2
  · rw [hFo 9 (by omega) (by omega) (by omega)]; exact g3
  · have ex : DA T C' 12 = DA T C 12 := funext fun j => old 12 j (by omega)
    rw [ex, hFo (66 + x) (by omega) (by omega) (by omega)]; exact g4 x hx
set_option maxRecDepth 100000 in
theorem bit_k : ∀ a, a < 64 → ∀ k, k < 6 → a / 2 ^ k % 2 = 0 → ∀ j, j < 6 → (a + 2 ^ k) / 2 ^ j % 2 = if j = k then 1 else a / 2 ^ j % 2 := by decide +kernel
theorem DT_quarrel {T me mo ch m o : Nat} {C C' : cm_M} {F F' : Nat → Int32} (hd : DT T me mo ch C F) (hK : KN C C') (h8 : C'.1 2 8 = C.1 2 8) (hm : m < me) (ho : o < me) (hmo : m ≠ o) (hbit : (F (55 + m) >>> (Int32.ofNat o &&& 31)) &&& 1 = 0) (hn : DA T C' 5 m = F (55 + m) ||| ((1 : Int32) <<< (Int32.ofNat o &&& 31))) (hn2 : DA T C' 5 o = F (55 + o) ||| ((1 : Int32) <<< (Int32.ofNat m &&& 31))) (old : ∀ i j, ¬ (i = 5 ∧ (j = m ∨ j = o)) → DA T C' i j = DA T C i j) (hF : ∀ j, j < 213 → F' j = if j = 7 then F 7 + 1 else if j = 55 + o then F (55 + o) ||| ((1 : Int32) <<< (Int32.ofNat m &&& 31)) else if j = 55 + m then F (55 + m) ||| ((1 : Int32) <<< (Int32.ofNat o &&& 31)) else F j) : DT T me mo ch C' F' := by
  obtain ⟨hN, ⟨a1, a2, a3⟩, ⟨b1, b2, b3, b4, b5, b6⟩, d1, d2, d3, ⟨ag, am, qu, f1, f2, f3, f4, f5, f6, q, f7, f8, f9⟩, hb, g1, g2, g3, g4⟩ := hd
  obtain ⟨-, -, c3, c4, c5, -⟩ := id hN
  have hFo : ∀ j, j < 213 → j ≠ 7 → j ≠ 55 + o → j ≠ 55 + m → F' j = F j := fun j j1 j2 j3 j4 => by
    rw [hF j j1, if_neg j2, if_neg j3, if_neg j4]
  obtain ⟨p1, p2, p3, p4⟩ := f1 m (by omega)
  obtain ⟨r1, r2, r3, r4⟩ := f1 o (by omega)
  rw [p4] at hbit hn
  rw [r4] at hn2
  have hb0 := (bit_t (qu m) p3 o (by omega)).mp hbit
  have hb1 : qu o / 2 ^ m % 2 = 0 := (f9 m (by omega) o (by omega)).1 ▸ hb0
  obtain ⟨s1, s2, s3⟩ := bit_s (qu m) p3 o (by omega) hb0
  obtain ⟨t1, t2, t3⟩ := bit_s (qu o) r3 m (by omega) hb1
  have u1 : ∀ x, up (up qu m (qu m + 2 ^ o)) o (qu o + 2 ^ m) x = if x = o then qu o + 2 ^ m else if x = m then qu m + 2 ^ o else qu x := fun x => rfl
  have uo : up qu m (qu m + 2 ^ o) o = qu o := up_same (fun h => hmo h.symm)
  have hsum : su (up (up qu m (qu m + 2 ^ o)) o (qu o + 2 ^ m)) 6 = su qu 6 + 2 := by
    rw [su_up (by rw [uo]; exact t2) 6 (by omega), su_up s2 6 (by omega)]
  refine ⟨NC_cg hN hK (fun j j1 j2 => hFo j j2 (by omega) (by omega) (by omega)), ?_⟩
  rw [h8]
  refine ⟨⟨a1, ?_, fun q => ?_⟩, ⟨?_, ?_, ?_, ?_, ?_, ?_⟩, fun x hx => ?_, fun x hx => ?_, fun x hx => ?_, ⟨ag, am, up (up qu m (qu m + 2 ^ o)) o (qu o + 2 ^ m), fun x hx => ?_, fun x hx => ?_, fun x hx => ?_, f4, ?_, ?_, q + 1, ?_, ?_, ?_⟩, hb, g1, ?_, ?_, fun x hx => ?_⟩
  · rw [hFo 10 (by omega) (by omega) (by omega) (by omega)]; exact a2
  · rw [old 0 0 (by omega), old 0 1 (by omega), old 0 2 (by omega), hFo 0 (by omega) (by omega) (by omega) (by omega), hFo 1 (by omega) (by omega) (by omega) (by omega), hFo 2 (by omega) (by omega) (by omega) (by omega)]; exact a3 q
  · rw [old 0 3 (by omega)]; exact b1
  · rw [hFo 3 (by omega) (by omega) (by omega) (by omega)]; exact b2
  · rw [old 0 9 (by omega)]; exact b3
  · rw [hFo 4 (by omega) (by omega) (by omega) (by omega)]; exact b4
  · rw [old 0 15 (by omega)]; exact b5
  · rw [hFo 8 (by omega) (by omega) (by omega) (by omega)]; exact b6
  · obtain ⟨t1, t2, t3, t4, t5⟩ := d1 x hx
    refine ⟨?_, ?_, ?_, ?_, ?_⟩
    · rw [old 1 x (by omega), hFo (11 + 3 * x) (by omega) (by omega) (by omega) (by omega)]; exact t1
    · rw [old 2 x (by omega), hFo (12 + 3 * x) (by omega) (by omega) (by omega) (by omega)]; exact t2
    · rw [old 3 x (by omega), hFo (13 + 3 * x) (by omega) (by omega) (by omega) (by omega)]; exact t3
    · rw [old 4 x (by omega), hFo (44 + x) (by omega) (by omega) (by omega) (by omega)]; exact t4
    · by_cases hxo : x = o
      · subst hxo
        rw [hn2, hF (55 + x) (by omega), if_neg (by omega), if_pos rfl, r4]
      · by_cases hxm : x = m
        · subst hxm
          rw [hn, hF (55 + x) (by omega), if_neg (by omega), if_neg (by omega), if_pos rfl, p4]
        · rw [old 5 x (by omega), hFo (55 + x) (by omega) (by omega) (by omega) (by omega)]; exact t5
  · rw [old 6 x (by omega), old 7 x (by omega), old 8 x (by omega), old 9 x (by omega), hFo (29 + 3 * x) (by omega) (by omega) (by omega) (by omega), hFo (30 + 3 * x) (by omega) (by omega) (by omega) (by omega), hFo (31 + 3 * x) (by omega) (by omega) (by omega) (by omega), hFo (50 + x) (by omega) (by omega) (by omega) (by omega)]; exact d2 x hx
  · rw [old 11 x (by omega), hFo (61 + x) (by omega) (by omega) (by omega) (by omega)]; exact d3 x hx
  · obtain ⟨v1, v2, v3, v4⟩ := f1 x hx
    rw [hFo (44 + x) (by omega) (by omega) (by omega) (by omega), u1]
    refine ⟨v1, v2, ?_⟩
    by_cases hxo : x = o
    · subst hxo
      rw [if_pos rfl, hF (55 + x) (by omega), if_neg (by omega), if_pos rfl, r4, t1]
      exact ⟨t3, rfl⟩
    · rw [if_neg hxo]
      by_cases hxm : x = m
      · subst hxm
        rw [if_pos rfl, hF (55 + x) (by omega), if_neg (by omega), if_neg (by omega), if_pos rfl, p4, s1]
        exact ⟨s3, rfl⟩
      · rw [if_neg hxm, hFo (55 + x) (by omega) (by omega) (by omega) (by omega)]
        exact ⟨v3, v4⟩
  · rw [u1, if_neg (by omega), if_neg (by omega)]
    exact f2 x hx
  · rw [hFo (50 + x) (by omega) (by omega) (by omega) (by omega)]; exact f3 x hx
  · rw [hFo 5 (by omega) (by omega) (by omega) (by omega)]; exact f5
  · rw [hFo 6 (by omega) (by omega) (by omega) (by omega)]; exact f6
  · rw [hF 7 (by omega), if_pos rfl, f7, of_s]
  · rw [hsum, f8]
    omega
  · intro x hx y hy
    have kk : ∀ z, z < 6 → ∀ w, w < 6 → up (up qu m (qu m + 2 ^ o)) o (qu o + 2 ^ m) z / 2 ^ w % 2 = if (z = o ∧ w = m) ∨ (z = m ∧ w = o) then 1 else qu z / 2 ^ w % 2 := fun z hz w hw => by
      rw [u1]
      by_cases hzo : z = o
      · subst hzo
        rw [if_pos rfl, bit_k (qu z) r3 m (by omega) hb1 w hw]
        by_cases hwm : w = m
        · rw [if_pos hwm, if_pos (Or.inl ⟨rfl, hwm⟩)]
        · rw [if_neg hwm, if_neg (by omega)]
      · rw [if_neg hzo]
        by_cases hzm : z = m
        · subst hzm
          rw [if_pos rfl, bit_k (qu z) p3 o (by omega) hb0 w hw]
          by_cases hwm : w = o
          · rw [if_pos hwm, if_pos (Or.inr ⟨rfl, hwm⟩)]
          · rw [if_neg hwm, if_neg (by omega)]
        · rw [if_neg hzm, if_neg (by omega)]
    rw [kk x hx y hy, kk y hy x hx]
    obtain ⟨w1, w2⟩ := f9 x hx y hy
    by_cases hc : (x = o ∧ y = m) ∨ (x = m ∧ y = o)
    · rw [if_pos hc, if_pos (by omega)]
      exact ⟨rfl, fun hh => by omega⟩
    · rw [if_neg hc, if_neg (by omega)]
      exact ⟨w1, w2⟩
  · rw [old 0 18 (by omega)]; exact g2
  · rw [hFo 9 (by omega) (by omega) (by omega) (by omega)]; exact g3
  · have ex : DA T C' 12 = DA T C 12 := funext fun j => old 12 j (by omega)
    rw [ex, hFo (66 + x) (by omega) (by omega) (by omega) (by omega)]; exact g4 x hx
theorem DT_heap {T me mo ch c : Nat} {C C' : cm_M} {F F' : Nat → Int32} {a : Int32} (hd : DT T me mo ch C F) (hK : KN C C') (h8 : C'.1 2 8 = C.1 2 8) (hc : c < 3) (hbit : (DA T C 0 18 >>> (Int32.ofNat c &&& 31)) &&& 1 = 0) (ha : 0 ≤ a.toInt) (ha9 : a.toInt ≤ 999) (hn : DA T C' 12 c = a) (hn2 : DA T C' 0 18 = DA T C 0 18 ||| ((1 : Int32) <<< (Int32.ofNat c &&& 31))) (old : ∀ i j, ¬ (i = 12 ∧ j = c) → ¬ (i = 0 ∧ j = 18) → DA T C' i j = DA T C i j) (hF : ∀ j, j < 213 → F' j = if j = 9 then F 9 + 1 else if j = 66 + c then a + 1 else F j) : DT T me mo ch C' F' := by
  obtain ⟨hN, ⟨a1, a2, a3⟩, ⟨b1, b2, b3, b4, b5, b6⟩, d1, d2, d3, ⟨ag, am, qu, f1, f2, f3, f4, f5, f6, q, f7, f8⟩, hb, g1, g2, g3, g4⟩ := hd
  obtain ⟨-, -, c3, c4, c5, -⟩ := id hN
  have hFo : ∀ j, j < 213 → j ≠ 9 → j ≠ 66 + c → F' j = F j := fun j j1 j2 j3 => by
    rw [hF j j1, if_neg j2, if_neg j3]
  rw [g2] at hbit hn2
  have hb0 := (bit_t hb (by omega) c (by omega)).mp hbit
  obtain ⟨s1, s2, s3⟩ := bit_s hb (by omega) c (by omega) hb0
  have s4 := bit_l 3 (by omega) hb (by omega) c (by omega) hb0
  refine ⟨NC_cg hN hK (fun j j1 j2 => hFo j j2 (by omega) (by omega)), ?_⟩
  rw [h8]
  refine ⟨⟨a1, ?_, fun q => ?_⟩, ⟨?_, ?_, ?_, ?_, ?_, ?_⟩, fun x hx => ?_, fun x hx => ?_, fun x hx => ?_, ⟨ag, am, qu, fun x hx => ?_, f2, fun x hx => ?_, f4, ?_, ?_, q, ?_, f8⟩, hb + 2 ^ c, s4, ?_, ?_, fun x hx => ?_⟩
  · rw [hFo 10 (by omega) (by omega) (by omega)]; exact a2
  · rw [old 0 0 (by omega) (by omega), old 0 1 (by omega) (by omega), old 0 2 (by omega) (by omega), hFo 0 (by omega) (by omega) (by omega), hFo 1 (by omega) (by omega) (by omega), hFo 2 (by omega) (by omega) (by omega)]; exact a3 q
  · rw [old 0 3 (by omega) (by omega)]; exact b1
  · rw [hFo 3 (by omega) (by omega) (by omega)]; exact b2
  · rw [old 0 9 (by omega) (by omega)]; exact b3
  · rw [hFo 4 (by omega) (by omega) (by omega)]; exact b4
  · rw [old 0 15 (by omega) (by omega)]; exact b5
  · rw [hFo 8 (by omega) (by omega) (by omega)]; exact b6
  · rw [old 1 x (by omega) (by omega), old 2 x (by omega) (by omega), old 3 x (by omega) (by omega), old 4 x (by omega) (by omega), old 5 x (by omega) (by omega), hFo (11 + 3 * x) (by omega) (by omega) (by omega), hFo (12 + 3 * x) (by omega) (by omega) (by omega), hFo (13 + 3 * x) (by omega) (by omega) (by omega), hFo (44 + x) (by omega) (by omega) (by omega), hFo (55 + x) (by omega) (by omega) (by omega)]; exact d1 x hx
  · rw [old 6 x (by omega) (by omega), old 7 x (by omega) (by omega), old 8 x (by omega) (by omega), old 9 x (by omega) (by omega), hFo (29 + 3 * x) (by omega) (by omega) (by omega), hFo (30 + 3 * x) (by omega) (by omega) (by omega), hFo (31 + 3 * x) (by omega) (by omega) (by omega), hFo (50 + x) (by omega) (by omega) (by omega)]; exact d2 x hx
  · rw [old 11 x (by omega) (by omega), hFo (61 + x) (by omega) (by omega) (by omega)]; exact d3 x hx
  · rw [hFo (44 + x) (by omega) (by omega) (by omega), hFo (55 + x) (by omega) (by omega) (by omega)]; exact f1 x hx
  · rw [hFo (50 + x) (by omega) (by omega) (by omega)]; exact f3 x hx
  · rw [hFo 5 (by omega) (by omega) (by omega)]; exact f5
  · rw [hFo 6 (by omega) (by omega) (by omega)]; exact f6
  · rw [hFo 7 (by omega) (by omega) (by omega)]; exact f7
  · rw [hn2, s1]
  · rw [hF 9 (by omega), if_pos rfl, g3, of_s, s2]
  · rw [bit_k hb (by omega) c (by omega) hb0 x (by omega)]
    by_cases hxc : x = c
    · subst hxc
      rw [if_pos rfl, hF (66 + x) (by omega), if_neg (by omega), if_pos rfl, hn]
      exact ⟨fun hh => by omega, fun _ => ⟨rfl, ha, ha9⟩⟩
    · rw [if_neg hxc, hFo (66 + x) (by omega) (by omega) (by omega), old 12 x (by omega) (by omega)]
      exact g4 x hx
theorem m_hasBit (a k : Int32) (M : cm_M) : cm_Lc cm_ms 168 [.int a, .int k] M (fun v M' => v = some (.int (bi (decide ((a >>> (k &&& 31)) &&& 1 = 1)))) ∧ M' = M) := by
  refine lb_st0 (mi := mr_168) rfl 20 ?_
  show (ev_cmp 1 ((a >>> (k &&& 31)) &&& 1) 1 = true → _) ∧ (ev_cmp 1 ((a >>> (k &&& 31)) &&& 1) 1 = false → _)
  refine ⟨fun h => ⟨?_, rfl⟩, fun h => ⟨?_, rfl⟩⟩
  · rw [decide_eq_false (fn_ne h)]
    try rfl
  · rw [decide_eq_true (fn_eq h)]
    try rfl
theorem told_v {nam me mo ch : Nat} {C : cm_M} {F : Nat → Int32} {sx : Int32} (hN : NC nam me mo ch C F) (h0 : C.1 2 9 = 0) (h : (cF_told sx C).1 2 9 = 0) : cF_told sx C = C ∧ ∃ a, cF_toldV sx C = Int32.ofNat a ∧ a < 6 ∧ (sx = 1 → a < me) ∧ (sx = 2 → a < mo) := by
  obtain ⟨c1, c2, c3, c4, c5, c6⟩ := hN
  by_cases hk : C.1 2 3 = 1 ∧ cF_line C = -1
  · by_cases h2 : cF_name C = -1 ∨ C.1 4 (cF_name C).toNatClampNeg ≠ sx
    · exfalso
      rw [told_no hk h2] at h
      exact cF_fail_9n (by decide) h
    · have e := told_ok hk h2
      refine ⟨e, ?_⟩
      have hnm : cF_name C = nm_f C nam 0 := by
        unfold cF_name
        rw [c1, fn_nat (by omega)]
      have hv : cF_toldV sx C = C.1 5 (cF_name C).toNatClampNeg := by
        unfold cF_toldV
        rw [e, if_neg (fun q => q.elim (fun q => q h0) (fun q => h2 (Or.inl q)))]
      rcases nm_sp hk.1 nam 0 with ⟨p, q⟩ | ⟨j, p, q, r, t⟩
      · exact absurd (Or.inl (hnm.trans p)) h2
      · have hj : (cF_name C).toNatClampNeg = j := by rw [hnm, r, fn_nat (by omega)]
        have hs : C.1 4 j = sx := by
          by_cases hs : C.1 4 j = sx
          · exact hs
          · exact absurd (Or.inr (by rw [hj]; exact hs)) h2
        rw [hv, hj]
        rcases (c6.1 j (by omega)).1 with ⟨u1, a, u2, u3⟩ | ⟨u1, a, u2, u3⟩ | ⟨u1, a, u2, u3⟩
        · refine ⟨a, u3, by omega, fun _ => u2, fun hh => ?_⟩
          rw [hs] at u1
          rw [u1] at hh
          exact absurd hh (by decide)
        · refine ⟨a, u3, by omega, fun hh => ?_, fun _ => u2⟩
          rw [hs] at u1
          rw [u1] at hh
          exact absurd hh (by decide)
        · refine ⟨a, u3, by omega, fun hh => ?_, fun hh => ?_⟩
          · rw [hs] at u1
            rw [u1] at hh
            exact absurd hh (by decide)
          · rw [hs] at u1
            rw [u1] at hh
            exact absurd hh (by decide)
  · exfalso
    rw [told_nm hk] at h
    exact cF_fail_9n (by decide) h
theorem toldV_bad {sx : Int32} {C : cm_M} (h : (cF_told sx C).1 2 9 ≠ 0) : cF_toldV sx C = -1 := by
  unfold cF_toldV
  rw [if_pos (Or.inl h)]
theorem step_wi {N c i : Nat} {v : Int32} {X : cm_M} (hc : 6 ≤ c) : cF_step N (cm_wi X c i v) = cm_wi (cF_step N X) c i v := by
  have e1 : (cm_wi X c i v).1 1 = X.1 1 := funext fun j => by
    show (if 1 = c ∧ j = i then _ else _) = _
    rw [if_neg (by omega)]
  have e2 : ∀ j, (cm_wi X c i v).1 2 j = X.1 2 j := fun j => by
    show (if 2 = c ∧ j = i then _ else _) = _
    rw [if_neg (by omega)]
  have et : cF_tok N (cm_wi X c i v) = cF_tok N X := by
    unfold cF_tok
    rw [e1, e2]
  unfold cF_step
  rw [e2, et]
  by_cases h : X.1 2 9 = 0
  · rw [if_pos h, if_pos h]
    generalize cF_tok N X = t
    refine Prod.ext (funext fun a => funext fun b => ?_) (Prod.ext rfl rfl)
    show (if a = 2 ∧ b = 3 then t.2.2.1 else if a = 2 ∧ b = 2 then Int32.ofNat t.2.1 else if a = 2 ∧ b = 5 then t.2.2.2.1 else if a = 2 ∧ b = 4 then Int32.ofNat t.1 else if a = c ∧ b = i then v else X.1 a b) = if a = c ∧ b = i then v else if a = 2 ∧ b = 3 then t.2.2.1 else if a = 2 ∧ b = 2 then Int32.ofNat t.2.1 else if a = 2 ∧ b = 5 then t.2.2.2.1 else if a = 2 ∧ b = 4 then Int32.ofNat t.1 else X.1 a b
    by_cases ha : a = 2
    · subst ha
      rw [if_neg (c := 2 = c ∧ b = i) (by omega), if_neg (c := 2 = c ∧ b = i) (by omega)]
    · rw [if_neg (fun q => ha q.1), if_neg (fun q => ha q.1), if_neg (fun q => ha q.1), if_neg (fun q => ha q.1), if_neg (c := a = 2 ∧ b = 3) (fun q => ha q.1), if_neg (c := a = 2 ∧ b = 2) (fun q => ha q.1), if_neg (c := a = 2 ∧ b = 5) (fun q => ha q.1), if_neg (c := a = 2 ∧ b = 4) (fun q => ha q.1)]
  · rw [if_neg h, if_neg h]
theorem Rq_wC {N c i : Nat} {v : Int32} {C D : cm_M} (hc : 6 ≤ c ∧ c < 124) (h : Rq N C D) : Rq N (cm_wi C c i v) D := Rq_C h (fun x j hx => by
  show (if x = c ∧ j = i then _ else _) = _
  rw [if_neg (by omega)]) rfl
theorem KN_w {c i : Nat} {v : Int32} {C : cm_M} (hc : 6 ≤ c) : KN C (cm_wi C c i v) := by
  refine ⟨?_, rfl, funext fun j => ?_, funext fun j => ?_⟩
  · show (if 2 = c ∧ 10 = i then _ else _) = _
    rw [if_neg (by omega)]
  · show (if 4 = c ∧ j = i then _ else _) = _
    rw [if_neg (by omega)]
  · show (if 5 = c ∧ j = i then _ else _) = _
    rw [if_neg (by omega)]
theorem w8 {c i : Nat} {v : Int32} {C : cm_M} (hc : 6 ≤ c) : (cm_wi C c i v).1 2 8 = C.1 2 8 := by
  show (if 2 = c ∧ 8 = i then _ else _) = _
  rw [if_neg (by omega)]
theorem w9 {c i : Nat} {v : Int32} {C : cm_M} (hc : 6 ≤ c) : (cm_wi C c i v).1 2 9 = C.1 2 9 := by
  show (if 2 = c ∧ 9 = i then _ else _) = _
  rw [if_neg (by omega)]
theorem wC (C : cm_M) (c i x y : Nat) (v : Int32) : (cm_wi C c i v).1 x y = if x = c ∧ y = i then v else C.1 x y := rfl
