noncomputable def cF_addMan (T : Nat) (c h0 v0 : Int32) (C : cm_M) : cm_M := if 6 ≤ (C.1 T 3).toInt then C else cm_wi (cm_wi (cm_wi (cm_wi (cm_wi (cm_wi C (T + 1) (C.1 T 3).toNatClampNeg c) (T + 2) (C.1 T 3).toNatClampNeg h0) (T + 3) (C.1 T 3).toNatClampNeg v0) (T + 4) (C.1 T 3).toNatClampNeg 0) (T + 5) (C.1 T 3).toNatClampNeg 0) T 3 (C.1 T 3 + 1)
noncomputable def cF_addMotion (T : Nat) (c n0 w0 : Int32) (C : cm_M) : cm_M := if 5 ≤ (C.1 T 9).toInt then C else cm_wi (cm_wi (cm_wi (cm_wi (cm_wi C (T + 6) (C.1 T 9).toNatClampNeg c) (T + 7) (C.1 T 9).toNatClampNeg n0) (T + 8) (C.1 T 9).toNatClampNeg w0) (T + 9) (C.1 T 9).toNatClampNeg 0) T 9 (C.1 T 9 + 1)
noncomputable def cF_addChair (T : Nat) (c : Int32) (C : cm_M) : cm_M := if 5 ≤ (C.1 T 15).toInt then C else cm_wi (cm_wi C (T + 11) (C.1 T 15).toNatClampNeg c) T 15 (C.1 T 15 + 1)
theorem tn_fr6 (U : Nat) (C : cm_M) : tn_ok6 (fr U C) := ⟨rfl, rfl, rfl, rfl, rfl, rfl, rfl, rfl, rfl, rfl, rfl, rfl⟩
theorem f_addMan6 {U : Nat} (c h0 v0 : Int32) (C : cm_M) : cm_Lc cm_ms 9 [.ref 6, .int c, .int h0, .int v0] (fr U C) (fq U none (cF_addMan 6 c h0 v0 C)) := by
  refine cm_Lc_im (cs_addMan6 c h0 v0 (tn_fr6 U C)) (fun v M' q => ⟨q.1, _, rfl, q.2.trans ?_⟩)
  unfold cF_addMan6 cF_addMan
  show (if 6 ≤ (C.1 6 3).toInt then _ else _) = _
  split <;> rfl
theorem f_addMotion6 {U : Nat} (c n0 w0 : Int32) (C : cm_M) : cm_Lc cm_ms 10 [.ref 6, .int c, .int n0, .int w0] (fr U C) (fq U none (cF_addMotion 6 c n0 w0 C)) := by
  refine cm_Lc_im (cs_addMotion6 c n0 w0 (tn_fr6 U C)) (fun v M' q => ⟨q.1, _, rfl, q.2.trans ?_⟩)
  unfold cF_addMotion6 cF_addMotion
  show (if 5 ≤ (C.1 6 9).toInt then _ else _) = _
  split <;> rfl
theorem f_addChair6 {U : Nat} (c : Int32) (C : cm_M) : cm_Lc cm_ms 11 [.ref 6, .int c] (fr U C) (fq U none (cF_addChair 6 c C)) := by
  refine cm_Lc_im (cs_addChair6 c (tn_fr6 U C)) (fun v M' q => ⟨q.1, _, rfl, q.2.trans ?_⟩)
  unfold cF_addChair6 cF_addChair
  show (if 5 ≤ (C.1 6 15).toInt then _ else _) = _
  split <;> rfl
theorem tn_fr19 (U : Nat) (C : cm_M) : tn_ok19 (fr U C) := ⟨rfl, rfl, rfl, rfl, rfl, rfl, rfl, rfl, rfl, rfl, rfl, rfl⟩
theorem f_addMan19 {U : Nat} (c h0 v0 : Int32) (C : cm_M) : cm_Lc cm_ms 9 [.ref 19, .int c, .int h0, .int v0] (fr U C) (fq U none (cF_addMan 19 c h0 v0 C)) := by
  refine cm_Lc_im (cs_addMan19 c h0 v0 (tn_fr19 U C)) (fun v M' q => ⟨q.1, _, rfl, q.2.trans ?_⟩)
  unfold cF_addMan19 cF_addMan
  show (if 6 ≤ (C.1 19 3).toInt then _ else _) = _
  split <;> rfl
theorem f_addMotion19 {U : Nat} (c n0 w0 : Int32) (C : cm_M) : cm_Lc cm_ms 10 [.ref 19, .int c, .int n0, .int w0] (fr U C) (fq U none (cF_addMotion 19 c n0 w0 C)) := by
  refine cm_Lc_im (cs_addMotion19 c n0 w0 (tn_fr19 U C)) (fun v M' q => ⟨q.1, _, rfl, q.2.trans ?_⟩)
  unfold cF_addMotion19 cF_addMotion
  show (if 5 ≤ (C.1 19 9).toInt then _ else _) = _
  split <;> rfl
theorem f_addChair19 {U : Nat} (c : Int32) (C : cm_M) : cm_Lc cm_ms 11 [.ref 19, .int c] (fr U C) (fq U none (cF_addChair 19 c C)) := by
  refine cm_Lc_im (cs_addChair19 c (tn_fr19 U C)) (fun v M' q => ⟨q.1, _, rfl, q.2.trans ?_⟩)
  unfold cF_addChair19 cF_addChair
  show (if 5 ≤ (C.1 19 15).toInt then _ else _) = _
  split <;> rfl
noncomputable def cF_man (T N : Nat) (C : cm_M) : cm_M :=
  let A1 := cF_newName N 1 (C.1 T 3) C
  let A2 := cF_colour A1
  let A3 := cF_step N A2
  let A4 := cF_takeWord N 14 A3
  let A5 := cF_takeWhole N 0 99 A4
  let A6 := cF_takeWord N 15 A5
  let A7 := cF_takeWhole N 0 9 A6
  if A7.1 2 9 = 0 then cF_addMan T (cF_col A1) (A4.1 2 5) (A6.1 2 5) A7 else A7
noncomputable def cF_motion (T N : Nat) (C : cm_M) : cm_M :=
  let A1 := cF_newName N 2 (C.1 T 9) C
  let A2 := cF_takeWord N 16 A1
  let A3 := cF_takeWhole N 1 30 A2
  let A4 := cF_takeWord N 17 A3
  let A5 := cF_takeWhole N 0 54 A4
  let A6 := cF_takeWord N 18 A5
  let A7 := cF_takeWhole N 0 99 A6
  if A7.1 2 9 = 0 then cF_addMotion T (A2.1 2 5) (A4.1 2 5) (A6.1 2 5) A7 else A7
noncomputable def cF_chair (T N : Nat) (C : cm_M) : cm_M :=
  let A1 := cF_newName N 6 (C.1 T 15) C
  let A2 := cF_takeWord N 19 A1
  let A3 := cF_takeWhole N 0 99 A2
  if A3.1 2 9 = 0 then cF_addChair T (A2.1 2 5) A3 else A3
noncomputable def cF_town (T N : Nat) (C : cm_M) : cm_M :=
  let A1 := cF_takeWord N 8 C
  let A2 := cF_takeWhole N 0 9 A1
  let A3 := cF_takeWord N 9 (cm_wi A2 T 0 (A1.1 2 5))
  let A4 := cF_takeWhole N 0 20 A3
  let A5 := cF_takeWord N 10 (cm_wi A4 T 1 (A3.1 2 5))
  let A6 := cF_takeWhole N 0 100 A5
  cm_wi (cm_wi A6 T 2 (A5.1 2 5)) 2 8 1
noncomputable def cF_against (T N : Nat) (C : cm_M) : cm_M :=
  let A1 := cF_told 1 C
  let A2 := cF_step N A1
  let A3 := cF_told 2 A2
  let m := cF_toldV 1 C
  let k := cF_toldV 2 A2
  if m = -1 then A3 else if k = -1 then A3 else if (A3.1 (T + 4) m.toNatClampNeg >>> (k &&& 31)) &&& 1 = 0 then cF_step N (cm_wi A3 (T + 4) m.toNatClampNeg (A3.1 (T + 4) m.toNatClampNeg ||| (1 <<< (k &&& 31)))) else cF_fail 3 A3
noncomputable def cF_amends (T N : Nat) (C : cm_M) : cm_M :=
  let A1 := cF_told 2 C
  let A2 := cF_step N A1
  let A3 := cF_told 2 A2
  let m := cF_toldV 2 C
  let k := cF_toldV 2 A2
  if m = -1 then A3 else if k = -1 then A3 else if (A3.1 (T + 9) m.toNatClampNeg >>> (k &&& 31)) &&& 1 = 0 then (if m.toInt ≤ k.toInt then cF_fail 7 A3 else cF_step N (cm_wi A3 (T + 9) m.toNatClampNeg (A3.1 (T + 9) m.toNatClampNeg ||| (1 <<< (k &&& 31))))) else cF_fail 3 A3
noncomputable def cF_qput (T : Nat) (m k : Int32) (X : cm_M) : cm_M := cm_wi (cm_wi X (T + 5) m.toNatClampNeg (X.1 (T + 5) m.toNatClampNeg ||| (1 <<< (k &&& 31)))) (T + 5) k.toNatClampNeg ((cm_wi X (T + 5) m.toNatClampNeg (X.1 (T + 5) m.toNatClampNeg ||| (1 <<< (k &&& 31)))).1 (T + 5) k.toNatClampNeg ||| (1 <<< (m &&& 31)))
noncomputable def cF_quarrel (T N : Nat) (C : cm_M) : cm_M :=
  let A1 := cF_told 1 C
  let A2 := cF_step N A1
  let A3 := cF_told 1 A2
  let m := cF_toldV 1 C
  let k := cF_toldV 1 A2
  if m = -1 then A3 else if k = -1 then A3 else if m = k then cF_fail 3 A3 else if (A3.1 (T + 5) m.toNatClampNeg >>> (k &&& 31)) &&& 1 = 0 then cF_step N (cF_qput T m k A3) else cF_fail 3 A3
noncomputable def cF_hput (T : Nat) (c a : Int32) (X : cm_M) : cm_M := cm_wi (cm_wi X (T + 12) c.toNatClampNeg a) T 18 (X.1 T 18 ||| (1 <<< (c &&& 31)))
noncomputable def cF_heap (T N : Nat) (C : cm_M) : cm_M :=
  let A1 := cF_colour C
  let c := cF_col C
  if c = -1 then A1 else if (A1.1 T 18 >>> (c &&& 31)) &&& 1 = 0 then
    (let A2 := cF_step N A1
    let A3 := cF_takeWhole N 0 999 A2
    if A3.1 2 9 = 0 then (if 3 ≤ c.toInt then A3 else cF_hput T c (A2.1 2 5) A3) else A3) else cF_fail 3 A1
set_option maxRecDepth 100000 in
set_option maxHeartbeats 4000000 in
theorem f_man6 {N : Nat} {C : cm_M} (h : RC N C) : cm_Lc cm_ms 71 [.ref 2] (fr 6 C) (fq 6 none (cF_man 6 N C)) := by
  have z3 : (3 : Int32).toInt = 3 := by decide
  refine lb_st0 (mi := mr_71) rfl 120 ?_
  show ∃ R, cm_Lc cm_ms 80 [.ref 2, .int 1, .int (C.1 6 3)] (fr 6 C) R ∧ ∀ v M', R v M' → _
  refine ⟨_, f_newName 1 (C.1 6 3) h, ?_⟩
  rintro v M' ⟨rfl, A1, e1, rfl⟩
  have k1 : RC N A1 := by rw [e1]; exact RC_newName h
  show ∃ R, cm_Lc cm_ms 83 [.ref 2] (fr 6 A1) R ∧ ∀ v M', R v M' → _
  refine ⟨_, f_colour _, ?_⟩
  rintro v M' ⟨rfl, A2, e2, rfl⟩
  have k2 : RC N A2 := by rw [e2]; exact RC_colour k1
  show ∃ R, cm_Lc cm_ms 88 [.ref 2] (fr 6 A2) R ∧ ∀ v M', R v M' → _
  refine ⟨_, f_step k2, ?_⟩
  rintro v M' ⟨rfl, A3, e3, rfl⟩
  have k3 : RC N A3 := by rw [e3]; exact RC_step k2
  show ∃ R, cm_Lc cm_ms 78 [.ref 2, .ref (1001 + 2 * 14)] (fr 6 A3) R ∧ ∀ v M', R v M' → _
  refine ⟨_, f_takeWord (t := 14) (by decide) k3, ?_⟩
  rintro v M' ⟨rfl, A4, e4, rfl⟩
  have k4 : RC N A4 := by rw [e4]; exact RC_takeWord k3
  show ∃ R, cm_Lc cm_ms 79 [.ref 2, .int 0, .int 99] (fr 6 A4) R ∧ ∀ v M', R v M' → _
  refine ⟨_, f_takeWhole 0 99 k4, ?_⟩
  rintro v M' ⟨rfl, A5, e5, rfl⟩
  have k5 : RC N A5 := by rw [e5]; exact RC_takeWhole k4
  show ∃ R, cm_Lc cm_ms 78 [.ref 2, .ref (1001 + 2 * 15)] (fr 6 A5) R ∧ ∀ v M', R v M' → _
  refine ⟨_, f_takeWord (t := 15) (by decide) k5, ?_⟩
  rintro v M' ⟨rfl, A6, e6, rfl⟩
  have k6 : RC N A6 := by rw [e6]; exact RC_takeWord k5
  show ∃ R, cm_Lc cm_ms 79 [.ref 2, .int 0, .int 9] (fr 6 A6) R ∧ ∀ v M', R v M' → _
  refine ⟨_, f_takeWhole 0 9 k6, ?_⟩
  rintro v M' ⟨rfl, A7, e7, rfl⟩
  have k7 : RC N A7 := by rw [e7]; exact RC_takeWhole k6
  show (ev_cmp 1 (A7.1 2 9) 0 = true → _) ∧ (ev_cmp 1 (A7.1 2 9) 0 = false → _)
  refine ⟨fun h1 => ?_, fun h1 => ?_⟩
  · have g1 := fn_ne h1
    show fq 6 none (cF_man 6 N C) none (fr 6 A7)
    refine ⟨rfl, A7, ?_, rfl⟩
    unfold cF_man
    dsimp only
    subst e7 e6 e5 e4 e3 e2 e1
    rw [if_neg g1]
  · have g1 := fn_eq h1
    show ∃ R, cm_Lc cm_ms 9 [.ref 6, .int (cF_col A1), .int (A4.1 2 5), .int (A6.1 2 5)] (fr 6 A7) R ∧ ∀ v M', R v M' → _
    refine ⟨_, f_addMan6 (cF_col A1) (A4.1 2 5) (A6.1 2 5) _, ?_⟩
    rintro v M' ⟨rfl, A8, e8, rfl⟩
    show fq 6 none (cF_man 6 N C) none (fr 6 A8)
    refine ⟨rfl, A8, ?_, rfl⟩
    unfold cF_man
    dsimp only
    subst e8 e7 e6 e5 e4 e3 e2 e1
    rw [if_pos g1]
set_option maxRecDepth 100000 in
set_option maxHeartbeats 4000000 in
theorem f_man19 {N : Nat} {C : cm_M} (h : RC N C) : cm_Lc cm_ms 71 [.ref 2] (fr 19 C) (fq 19 none (cF_man 19 N C)) := by
  have z3 : (3 : Int32).toInt = 3 := by decide
  refine lb_st0 (mi := mr_71) rfl 120 ?_
  show ∃ R, cm_Lc cm_ms 80 [.ref 2, .int 1, .int (C.1 19 3)] (fr 19 C) R ∧ ∀ v M', R v M' → _
  refine ⟨_, f_newName 1 (C.1 19 3) h, ?_⟩
  rintro v M' ⟨rfl, A1, e1, rfl⟩
  have k1 : RC N A1 := by rw [e1]; exact RC_newName h
  show ∃ R, cm_Lc cm_ms 83 [.ref 2] (fr 19 A1) R ∧ ∀ v M', R v M' → _
  refine ⟨_, f_colour _, ?_⟩
  rintro v M' ⟨rfl, A2, e2, rfl⟩
  have k2 : RC N A2 := by rw [e2]; exact RC_colour k1
  show ∃ R, cm_Lc cm_ms 88 [.ref 2] (fr 19 A2) R ∧ ∀ v M', R v M' → _
  refine ⟨_, f_step k2, ?_⟩
  rintro v M' ⟨rfl, A3, e3, rfl⟩
  have k3 : RC N A3 := by rw [e3]; exact RC_step k2
  show ∃ R, cm_Lc cm_ms 78 [.ref 2, .ref (1001 + 2 * 14)] (fr 19 A3) R ∧ ∀ v M', R v M' → _
  refine ⟨_, f_takeWord (t := 14) (by decide) k3, ?_⟩
  rintro v M' ⟨rfl, A4, e4, rfl⟩
  have k4 : RC N A4 := by rw [e4]; exact RC_takeWord k3
  show ∃ R, cm_Lc cm_ms 79 [.ref 2, .int 0, .int 99] (fr 19 A4) R ∧ ∀ v M', R v M' → _
  refine ⟨_, f_takeWhole 0 99 k4, ?_⟩
  rintro v M' ⟨rfl, A5, e5, rfl⟩
  have k5 : RC N A5 := by rw [e5]; exact RC_takeWhole k4
  show ∃ R, cm_Lc cm_ms 78 [.ref 2, .ref (1001 + 2 * 15)] (fr 19 A5) R ∧ ∀ v M', R v M' → _
  refine ⟨_, f_takeWord (t := 15) (by decide) k5, ?_⟩
  rintro v M' ⟨rfl, A6, e6, rfl⟩
  have k6 : RC N A6 := by rw [e6]; exact RC_takeWord k5
  show ∃ R, cm_Lc cm_ms 79 [.ref 2, .int 0, .int 9] (fr 19 A6) R ∧ ∀ v M', R v M' → _
  refine ⟨_, f_takeWhole 0 9 k6, ?_⟩
  rintro v M' ⟨rfl, A7, e7, rfl⟩
  have k7 : RC N A7 := by rw [e7]; exact RC_takeWhole k6
  show (ev_cmp 1 (A7.1 2 9) 0 = true → _) ∧ (ev_cmp 1 (A7.1 2 9) 0 = false → _)
  refine ⟨fun h1 => ?_, fun h1 => ?_⟩
  · have g1 := fn_ne h1
    show fq 19 none (cF_man 19 N C) none (fr 19 A7)
    refine ⟨rfl, A7, ?_, rfl⟩
    unfold cF_man
    dsimp only
    subst e7 e6 e5 e4 e3 e2 e1
    rw [if_neg g1]
  · have g1 := fn_eq h1
    show ∃ R, cm_Lc cm_ms 9 [.ref 19, .int (cF_col A1), .int (A4.1 2 5), .int (A6.1 2 5)] (fr 19 A7) R ∧ ∀ v M', R v M' → _
    refine ⟨_, f_addMan19 (cF_col A1) (A4.1 2 5) (A6.1 2 5) _, ?_⟩
    rintro v M' ⟨rfl, A8, e8, rfl⟩
    show fq 19 none (cF_man 19 N C) none (fr 19 A8)
    refine ⟨rfl, A8, ?_, rfl⟩
    unfold cF_man
    dsimp only
    subst e8 e7 e6 e5 e4 e3 e2 e1
    rw [if_pos g1]
set_option maxRecDepth 100000 in
set_option maxHeartbeats 4000000 in
theorem f_motion6 {N : Nat} {C : cm_M} (h : RC N C) : cm_Lc cm_ms 72 [.ref 2] (fr 6 C) (fq 6 none (cF_motion 6 N C)) := by
  have z3 : (3 : Int32).toInt = 3 := by decide
  refine lb_st0 (mi := mr_72) rfl 120 ?_
  show ∃ R, cm_Lc cm_ms 80 [.ref 2, .int 2, .int (C.1 6 9)] (fr 6 C) R ∧ ∀ v M', R v M' → _
  refine ⟨_, f_newName 2 (C.1 6 9) h, ?_⟩
  rintro v M' ⟨rfl, A1, e1, rfl⟩
  have k1 : RC N A1 := by rw [e1]; exact RC_newName h
  show ∃ R, cm_Lc cm_ms 78 [.ref 2, .ref (1001 + 2 * 16)] (fr 6 A1) R ∧ ∀ v M', R v M' → _
  refine ⟨_, f_takeWord (t := 16) (by decide) k1, ?_⟩
  rintro v M' ⟨rfl, A2, e2, rfl⟩
  have k2 : RC N A2 := by rw [e2]; exact RC_takeWord k1
  show ∃ R, cm_Lc cm_ms 79 [.ref 2, .int 1, .int 30] (fr 6 A2) R ∧ ∀ v M', R v M' → _
  refine ⟨_, f_takeWhole 1 30 k2, ?_⟩
  rintro v M' ⟨rfl, A3, e3, rfl⟩
  have k3 : RC N A3 := by rw [e3]; exact RC_takeWhole k2
  show ∃ R, cm_Lc cm_ms 78 [.ref 2, .ref (1001 + 2 * 17)] (fr 6 A3) R ∧ ∀ v M', R v M' → _
  refine ⟨_, f_takeWord (t := 17) (by decide) k3, ?_⟩
  rintro v M' ⟨rfl, A4, e4, rfl⟩
  have k4 : RC N A4 := by rw [e4]; exact RC_takeWord k3
  show ∃ R, cm_Lc cm_ms 79 [.ref 2, .int 0, .int 54] (fr 6 A4) R ∧ ∀ v M', R v M' → _
  refine ⟨_, f_takeWhole 0 54 k4, ?_⟩
  rintro v M' ⟨rfl, A5, e5, rfl⟩
  have k5 : RC N A5 := by rw [e5]; exact RC_takeWhole k4
  show ∃ R, cm_Lc cm_ms 78 [.ref 2, .ref (1001 + 2 * 18)] (fr 6 A5) R ∧ ∀ v M', R v M' → _
  refine ⟨_, f_takeWord (t := 18) (by decide) k5, ?_⟩
  rintro v M' ⟨rfl, A6, e6, rfl⟩
  have k6 : RC N A6 := by rw [e6]; exact RC_takeWord k5
  show ∃ R, cm_Lc cm_ms 79 [.ref 2, .int 0, .int 99] (fr 6 A6) R ∧ ∀ v M', R v M' → _
  refine ⟨_, f_takeWhole 0 99 k6, ?_⟩
  rintro v M' ⟨rfl, A7, e7, rfl⟩
  have k7 : RC N A7 := by rw [e7]; exact RC_takeWhole k6
  show (ev_cmp 1 (A7.1 2 9) 0 = true → _) ∧ (ev_cmp 1 (A7.1 2 9) 0 = false → _)
  refine ⟨fun h1 => ?_, fun h1 => ?_⟩
  · have g1 := fn_ne h1
    show fq 6 none (cF_motion 6 N C) none (fr 6 A7)
    refine ⟨rfl, A7, ?_, rfl⟩
    unfold cF_motion
    dsimp only
    subst e7 e6 e5 e4 e3 e2 e1
    rw [if_neg g1]
  · have g1 := fn_eq h1
    show ∃ R, cm_Lc cm_ms 10 [.ref 6, .int (A2.1 2 5), .int (A4.1 2 5), .int (A6.1 2 5)] (fr 6 A7) R ∧ ∀ v M', R v M' → _
    refine ⟨_, f_addMotion6 (A2.1 2 5) (A4.1 2 5) (A6.1 2 5) _, ?_⟩
    rintro v M' ⟨rfl, A8, e8, rfl⟩
    show fq 6 none (cF_motion 6 N C) none (fr 6 A8)
    refine ⟨rfl, A8, ?_, rfl⟩
    unfold cF_motion
    dsimp only
    subst e8 e7 e6 e5 e4 e3 e2 e1
    rw [if_pos g1]
set_option maxRecDepth 100000 in
set_option maxHeartbeats 4000000 in
theorem f_motion19 {N : Nat} {C : cm_M} (h : RC N C) : cm_Lc cm_ms 72 [.ref 2] (fr 19 C) (fq 19 none (cF_motion 19 N C)) := by
  have z3 : (3 : Int32).toInt = 3 := by decide
  refine lb_st0 (mi := mr_72) rfl 120 ?_
  show ∃ R, cm_Lc cm_ms 80 [.ref 2, .int 2, .int (C.1 19 9)] (fr 19 C) R ∧ ∀ v M', R v M' → _
  refine ⟨_, f_newName 2 (C.1 19 9) h, ?_⟩
  rintro v M' ⟨rfl, A1, e1, rfl⟩
  have k1 : RC N A1 := by rw [e1]; exact RC_newName h
  show ∃ R, cm_Lc cm_ms 78 [.ref 2, .ref (1001 + 2 * 16)] (fr 19 A1) R ∧ ∀ v M', R v M' → _
  refine ⟨_, f_takeWord (t := 16) (by decide) k1, ?_⟩
  rintro v M' ⟨rfl, A2, e2, rfl⟩
  have k2 : RC N A2 := by rw [e2]; exact RC_takeWord k1
  show ∃ R, cm_Lc cm_ms 79 [.ref 2, .int 1, .int 30] (fr 19 A2) R ∧ ∀ v M', R v M' → _
  refine ⟨_, f_takeWhole 1 30 k2, ?_⟩
  rintro v M' ⟨rfl, A3, e3, rfl⟩
  have k3 : RC N A3 := by rw [e3]; exact RC_takeWhole k2
  show ∃ R, cm_Lc cm_ms 78 [.ref 2, .ref (1001 + 2 * 17)] (fr 19 A3) R ∧ ∀ v M', R v M' → _
  refine ⟨_, f_takeWord (t := 17) (by decide) k3, ?_⟩
  rintro v M' ⟨rfl, A4, e4, rfl⟩
  have k4 : RC N A4 := by rw [e4]; exact RC_takeWord k3
  show ∃ R, cm_Lc cm_ms 79 [.ref 2, .int 0, .int 54] (fr 19 A4) R ∧ ∀ v M', R v M' → _
  refine ⟨_, f_takeWhole 0 54 k4, ?_⟩
  rintro v M' ⟨rfl, A5, e5, rfl⟩
  have k5 : RC N A5 := by rw [e5]; exact RC_takeWhole k4
  show ∃ R, cm_Lc cm_ms 78 [.ref 2, .ref (1001 + 2 * 18)] (fr 19 A5) R ∧ ∀ v M', R v M' → _
  refine ⟨_, f_takeWord (t := 18) (by decide) k5, ?_⟩
  rintro v M' ⟨rfl, A6, e6, rfl⟩
  have k6 : RC N A6 := by rw [e6]; exact RC_takeWord k5
  show ∃ R, cm_Lc cm_ms 79 [.ref 2, .int 0, .int 99] (fr 19 A6) R ∧ ∀ v M', R v M' → _
  refine ⟨_, f_takeWhole 0 99 k6, ?_⟩
  rintro v M' ⟨rfl, A7, e7, rfl⟩
  have k7 : RC N A7 := by rw [e7]; exact RC_takeWhole k6
  show (ev_cmp 1 (A7.1 2 9) 0 = true → _) ∧ (ev_cmp 1 (A7.1 2 9) 0 = false → _)
  refine ⟨fun h1 => ?_, fun h1 => ?_⟩
  · have g1 := fn_ne h1
    show fq 19 none (cF_motion 19 N C) none (fr 19 A7)
    refine ⟨rfl, A7, ?_, rfl⟩
    unfold cF_motion
    dsimp only
    subst e7 e6 e5 e4 e3 e2 e1
    rw [if_neg g1]
  · have g1 := fn_eq h1
    show ∃ R, cm_Lc cm_ms 10 [.ref 19, .int (A2.1 2 5), .int (A4.1 2 5), .int (A6.1 2 5)] (fr 19 A7) R ∧ ∀ v M', R v M' → _
    refine ⟨_, f_addMotion19 (A2.1 2 5) (A4.1 2 5) (A6.1 2 5) _, ?_⟩
    rintro v M' ⟨rfl, A8, e8, rfl⟩
    show fq 19 none (cF_motion 19 N C) none (fr 19 A8)
    refine ⟨rfl, A8, ?_, rfl⟩
    unfold cF_motion
    dsimp only
    subst e8 e7 e6 e5 e4 e3 e2 e1
    rw [if_pos g1]
set_option maxRecDepth 100000 in
set_option maxHeartbeats 4000000 in
theorem f_chair6 {N : Nat} {C : cm_M} (h : RC N C) : cm_Lc cm_ms 76 [.ref 2] (fr 6 C) (fq 6 none (cF_chair 6 N C)) := by
  have z3 : (3 : Int32).toInt = 3 := by decide
  refine lb_st0 (mi := mr_76) rfl 120 ?_
  show ∃ R, cm_Lc cm_ms 80 [.ref 2, .int 6, .int (C.1 6 15)] (fr 6 C) R ∧ ∀ v M', R v M' → _
  refine ⟨_, f_newName 6 (C.1 6 15) h, ?_⟩
  rintro v M' ⟨rfl, A1, e1, rfl⟩
  have k1 : RC N A1 := by rw [e1]; exact RC_newName h
  show ∃ R, cm_Lc cm_ms 78 [.ref 2, .ref (1001 + 2 * 19)] (fr 6 A1) R ∧ ∀ v M', R v M' → _
  refine ⟨_, f_takeWord (t := 19) (by decide) k1, ?_⟩
  rintro v M' ⟨rfl, A2, e2, rfl⟩
  have k2 : RC N A2 := by rw [e2]; exact RC_takeWord k1
  show ∃ R, cm_Lc cm_ms 79 [.ref 2, .int 0, .int 99] (fr 6 A2) R ∧ ∀ v M', R v M' → _
  refine ⟨_, f_takeWhole 0 99 k2, ?_⟩
  rintro v M' ⟨rfl, A3, e3, rfl⟩
  have k3 : RC N A3 := by rw [e3]; exact RC_takeWhole k2
  show (ev_cmp 1 (A3.1 2 9) 0 = true → _) ∧ (ev_cmp 1 (A3.1 2 9) 0 = false → _)
  refine ⟨fun h1 => ?_, fun h1 => ?_⟩
  · have g1 := fn_ne h1
    show fq 6 none (cF_chair 6 N C) none (fr 6 A3)
    refine ⟨rfl, A3, ?_, rfl⟩
    unfold cF_chair
    dsimp only
    subst e3 e2 e1
    rw [if_neg g1]
  · have g1 := fn_eq h1
    show ∃ R, cm_Lc cm_ms 11 [.ref 6, .int (A2.1 2 5)] (fr 6 A3) R ∧ ∀ v M', R v M' → _
    refine ⟨_, f_addChair6 (A2.1 2 5) _, ?_⟩
    rintro v M' ⟨rfl, A4, e4, rfl⟩
    show fq 6 none (cF_chair 6 N C) none (fr 6 A4)
    refine ⟨rfl, A4, ?_, rfl⟩
    unfold cF_chair
    dsimp only
    subst e4 e3 e2 e1
    rw [if_pos g1]
set_option maxRecDepth 100000 in
set_option maxHeartbeats 4000000 in
theorem f_chair19 {N : Nat} {C : cm_M} (h : RC N C) : cm_Lc cm_ms 76 [.ref 2] (fr 19 C) (fq 19 none (cF_chair 19 N C)) := by
  have z3 : (3 : Int32).toInt = 3 := by decide
  refine lb_st0 (mi := mr_76) rfl 120 ?_
  show ∃ R, cm_Lc cm_ms 80 [.ref 2, .int 6, .int (C.1 19 15)] (fr 19 C) R ∧ ∀ v M', R v M' → _
  refine ⟨_, f_newName 6 (C.1 19 15) h, ?_⟩
  rintro v M' ⟨rfl, A1, e1, rfl⟩
  have k1 : RC N A1 := by rw [e1]; exact RC_newName h
  show ∃ R, cm_Lc cm_ms 78 [.ref 2, .ref (1001 + 2 * 19)] (fr 19 A1) R ∧ ∀ v M', R v M' → _
  refine ⟨_, f_takeWord (t := 19) (by decide) k1, ?_⟩
  rintro v M' ⟨rfl, A2, e2, rfl⟩
  have k2 : RC N A2 := by rw [e2]; exact RC_takeWord k1
  show ∃ R, cm_Lc cm_ms 79 [.ref 2, .int 0, .int 99] (fr 19 A2) R ∧ ∀ v M', R v M' → _
  refine ⟨_, f_takeWhole 0 99 k2, ?_⟩
  rintro v M' ⟨rfl, A3, e3, rfl⟩
  have k3 : RC N A3 := by rw [e3]; exact RC_takeWhole k2
  show (ev_cmp 1 (A3.1 2 9) 0 = true → _) ∧ (ev_cmp 1 (A3.1 2 9) 0 = false → _)
  refine ⟨fun h1 => ?_, fun h1 => ?_⟩
  · have g1 := fn_ne h1
    show fq 19 none (cF_chair 19 N C) none (fr 19 A3)
    refine ⟨rfl, A3, ?_, rfl⟩
    unfold cF_chair
    dsimp only
    subst e3 e2 e1
    rw [if_neg g1]
  · have g1 := fn_eq h1
    show ∃ R, cm_Lc cm_ms 11 [.ref 19, .int (A2.1 2 5)] (fr 19 A3) R ∧ ∀ v M', R v M' → _
    refine ⟨_, f_addChair19 (A2.1 2 5) _, ?_⟩
    rintro v M' ⟨rfl, A4, e4, rfl⟩
    show fq 19 none (cF_chair 19 N C) none (fr 19 A4)
    refine ⟨rfl, A4, ?_, rfl⟩
    unfold cF_chair
    dsimp only
    subst e4 e3 e2 e1
    rw [if_pos g1]
set_option maxRecDepth 100000 in
set_option maxHeartbeats 4000000 in
theorem f_town6 {N : Nat} {C : cm_M} (h : RC N C) : cm_Lc cm_ms 70 [.ref 2] (fr 6 C) (fq 6 none (cF_town 6 N C)) := by
  have z3 : (3 : Int32).toInt = 3 := by decide
  refine lb_st0 (mi := mr_70) rfl 120 ?_
  show ∃ R, cm_Lc cm_ms 78 [.ref 2, .ref (1001 + 2 * 8)] (fr 6 C) R ∧ ∀ v M', R v M' → _
  refine ⟨_, f_takeWord (t := 8) (by decide) h, ?_⟩
  rintro v M' ⟨rfl, A1, e1, rfl⟩
  have k1 : RC N A1 := by rw [e1]; exact RC_takeWord h
  show ∃ R, cm_Lc cm_ms 79 [.ref 2, .int 0, .int 9] (fr 6 A1) R ∧ ∀ v M', R v M' → _
  refine ⟨_, f_takeWhole 0 9 k1, ?_⟩
  rintro v M' ⟨rfl, A2, e2, rfl⟩
  have k2 : RC N A2 := by rw [e2]; exact RC_takeWhole k1
  show ∃ R, cm_Lc cm_ms 78 [.ref 2, .ref (1001 + 2 * 9)] (cm_wi (fr 6 A2) 6 0 (A1.1 2 5)) R ∧ ∀ v M', R v M' → _
  refine ⟨_, f_takeWord (t := 9) (by decide) (C := cm_wi A2 6 0 (A1.1 2 5)) k2, ?_⟩
  rintro v M' ⟨rfl, A3, e3, rfl⟩
  have k3 : RC N A3 := by rw [e3]; exact RC_takeWord k2
  show ∃ R, cm_Lc cm_ms 79 [.ref 2, .int 0, .int 20] (fr 6 A3) R ∧ ∀ v M', R v M' → _
  refine ⟨_, f_takeWhole 0 20 k3, ?_⟩
  rintro v M' ⟨rfl, A4, e4, rfl⟩
  have k4 : RC N A4 := by rw [e4]; exact RC_takeWhole k3
  show ∃ R, cm_Lc cm_ms 78 [.ref 2, .ref (1001 + 2 * 10)] (cm_wi (fr 6 A4) 6 1 (A3.1 2 5)) R ∧ ∀ v M', R v M' → _
  refine ⟨_, f_takeWord (t := 10) (by decide) (C := cm_wi A4 6 1 (A3.1 2 5)) k4, ?_⟩
  rintro v M' ⟨rfl, A5, e5, rfl⟩
  have k5 : RC N A5 := by rw [e5]; exact RC_takeWord k4
  show ∃ R, cm_Lc cm_ms 79 [.ref 2, .int 0, .int 100] (fr 6 A5) R ∧ ∀ v M', R v M' → _
  refine ⟨_, f_takeWhole 0 100 k5, ?_⟩
  rintro v M' ⟨rfl, A6, e6, rfl⟩
  have k6 : RC N A6 := by rw [e6]; exact RC_takeWhole k5
  show fq 6 none (cF_town 6 N C) none (cm_wi (cm_wi (fr 6 A6) 6 2 (A5.1 2 5)) 2 8 1)
  refine ⟨rfl, cm_wi (cm_wi A6 6 2 (A5.1 2 5)) 2 8 1, ?_, rfl⟩
  unfold cF_town
  dsimp only
  subst e6 e5 e4 e3 e2 e1
  rfl
set_option maxRecDepth 100000 in
set_option maxHeartbeats 4000000 in
theorem f_town19 {N : Nat} {C : cm_M} (h : RC N C) : cm_Lc cm_ms 70 [.ref 2] (fr 19 C) (fq 19 none (cF_town 19 N C)) := by
  have z3 : (3 : Int32).toInt = 3 := by decide
  refine lb_st0 (mi := mr_70) rfl 120 ?_
  show ∃ R, cm_Lc cm_ms 78 [.ref 2, .ref (1001 + 2 * 8)] (fr 19 C) R ∧ ∀ v M', R v M' → _
  refine ⟨_, f_takeWord (t := 8) (by decide) h, ?_⟩
  rintro v M' ⟨rfl, A1, e1, rfl⟩
  have k1 : RC N A1 := by rw [e1]; exact RC_takeWord h
  show ∃ R, cm_Lc cm_ms 79 [.ref 2, .int 0, .int 9] (fr 19 A1) R ∧ ∀ v M', R v M' → _
  refine ⟨_, f_takeWhole 0 9 k1, ?_⟩
  rintro v M' ⟨rfl, A2, e2, rfl⟩
  have k2 : RC N A2 := by rw [e2]; exact RC_takeWhole k1
  show ∃ R, cm_Lc cm_ms 78 [.ref 2, .ref (1001 + 2 * 9)] (cm_wi (fr 19 A2) 19 0 (A1.1 2 5)) R ∧ ∀ v M', R v M' → _
  refine ⟨_, f_takeWord (t := 9) (by decide) (C := cm_wi A2 19 0 (A1.1 2 5)) k2, ?_⟩
  rintro v M' ⟨rfl, A3, e3, rfl⟩
  have k3 : RC N A3 := by rw [e3]; exact RC_takeWord k2
  show ∃ R, cm_Lc cm_ms 79 [.ref 2, .int 0, .int 20] (fr 19 A3) R ∧ ∀ v M', R v M' → _
  refine ⟨_, f_takeWhole 0 20 k3, ?_⟩
  rintro v M' ⟨rfl, A4, e4, rfl⟩
  have k4 : RC N A4 := by rw [e4]; exact RC_takeWhole k3
  show ∃ R, cm_Lc cm_ms 78 [.ref 2, .ref (1001 + 2 * 10)] (cm_wi (fr 19 A4) 19 1 (A3.1 2 5)) R ∧ ∀ v M', R v M' → _
  refine ⟨_, f_takeWord (t := 10) (by decide) (C := cm_wi A4 19 1 (A3.1 2 5)) k4, ?_⟩
  rintro v M' ⟨rfl, A5, e5, rfl⟩
  have k5 : RC N A5 := by rw [e5]; exact RC_takeWord k4
  show ∃ R, cm_Lc cm_ms 79 [.ref 2, .int 0, .int 100] (fr 19 A5) R ∧ ∀ v M', R v M' → _
  refine ⟨_, f_takeWhole 0 100 k5, ?_⟩
  rintro v M' ⟨rfl, A6, e6, rfl⟩
  have k6 : RC N A6 := by rw [e6]; exact RC_takeWhole k5
  show fq 19 none (cF_town 19 N C) none (cm_wi (cm_wi (fr 19 A6) 19 2 (A5.1 2 5)) 2 8 1)
  refine ⟨rfl, cm_wi (cm_wi A6 19 2 (A5.1 2 5)) 2 8 1, ?_, rfl⟩
  unfold cF_town
  dsimp only
  subst e6 e5 e4 e3 e2 e1
  rfl
set_option maxRecDepth 100000 in
set_option maxHeartbeats 4000000 in
theorem f_against6 {N : Nat} {C : cm_M} (h : RC N C) : cm_Lc cm_ms 73 [.ref 2] (fr 6 C) (fq 6 none (cF_against 6 N C)) := by
  have z3 : (3 : Int32).toInt = 3 := by decide
  refine lb_st0 (mi := mr_73) rfl 120 ?_
  show ∃ R, cm_Lc cm_ms 81 [.ref 2, .int 1] (fr 6 C) R ∧ ∀ v M', R v M' → _
  refine ⟨_, f_told 1 h, ?_⟩
  rintro v M' ⟨rfl, A1, e1, rfl⟩
  have k1 : RC N A1 := by rw [e1]; exact RC_told h
  show ∃ R, cm_Lc cm_ms 88 [.ref 2] (fr 6 A1) R ∧ ∀ v M', R v M' → _
  refine ⟨_, f_step k1, ?_⟩
  rintro v M' ⟨rfl, A2, e2, rfl⟩
  have k2 : RC N A2 := by rw [e2]; exact RC_step k1
  show ∃ R, cm_Lc cm_ms 81 [.ref 2, .int 2] (fr 6 A2) R ∧ ∀ v M', R v M' → _
  refine ⟨_, f_told 2 k2, ?_⟩
  rintro v M' ⟨rfl, A3, e3, rfl⟩
  have k3 : RC N A3 := by rw [e3]; exact RC_told k2
  show (ev_cmp 0 (cF_toldV 1 C) (-1) = true → _) ∧ (ev_cmp 0 (cF_toldV 1 C) (-1) = false → _)
  refine ⟨fun h1 => ?_, fun h1 => ?_⟩
  · have g1 := fn_eq0 h1
    show fq 6 none (cF_against 6 N C) none (fr 6 A3)
    refine ⟨rfl, A3, ?_, rfl⟩
    unfold cF_against
    dsimp only
    subst e3 e2 e1
    rw [if_pos g1]
  · have g1 := fn_ne0 h1
    show (ev_cmp 1 (cF_toldV 2 A2) (-1) = true → _) ∧ (ev_cmp 1 (cF_toldV 2 A2) (-1) = false → _)
    refine ⟨fun h2 => ?_, fun h2 => ?_⟩
    · have g2 := fn_ne h2
      show (ev_cmp 0 (((A3.1 10 ((cF_toldV 1 C).toNatClampNeg)) >>> ((cF_toldV 2 A2) &&& 31)) &&& 1) 0 = true → _) ∧ (ev_cmp 0 (((A3.1 10 ((cF_toldV 1 C).toNatClampNeg)) >>> ((cF_toldV 2 A2) &&& 31)) &&& 1) 0 = false → _)
      refine ⟨fun h3 => ?_, fun h3 => ?_⟩
      · have g3 := fn_eq0 h3
        show ∃ R, cm_Lc cm_ms 88 [.ref 2] (cm_wi (fr 6 A3) 10 ((cF_toldV 1 C).toNatClampNeg) ((A3.1 10 ((cF_toldV 1 C).toNatClampNeg)) ||| (1 <<< ((cF_toldV 2 A2) &&& 31)))) R ∧ ∀ v M', R v M' → _
        refine ⟨_, f_step (C := cm_wi A3 10 ((cF_toldV 1 C).toNatClampNeg) ((A3.1 10 ((cF_toldV 1 C).toNatClampNeg)) ||| (1 <<< ((cF_toldV 2 A2) &&& 31)))) k3, ?_⟩
        rintro v M' ⟨rfl, A4, e4, rfl⟩
        have k4 : RC N A4 := by rw [e4]; exact RC_step k3
        show fq 6 none (cF_against 6 N C) none (fr 6 A4)
        refine ⟨rfl, A4, ?_, rfl⟩
        unfold cF_against
        dsimp only
        subst e4 e3 e2 e1
        rw [if_neg g1, if_neg g2, if_pos g3]
      · have g3 := fn_ne0 h3
        show ∃ R, cm_Lc cm_ms 66 [.ref 2, .int 3] (fr 6 A3) R ∧ ∀ v M', R v M' → _
        refine ⟨_, f_fail 3 _, ?_⟩
        rintro v M' ⟨rfl, A4, e4, rfl⟩
        have k4 : RC N A4 := by rw [e4]; exact RC_fail _ k3
        show fq 6 none (cF_against 6 N C) none (fr 6 A4)
        refine ⟨rfl, A4, ?_, rfl⟩
        unfold cF_against
        dsimp only
        subst e4 e3 e2 e1
        rw [if_neg g1, if_neg g2, if_neg g3]
    · have g2 := fn_eq h2
      show fq 6 none (cF_against 6 N C) none (fr 6 A3)
      refine ⟨rfl, A3, ?_, rfl⟩
      unfold cF_against
      dsimp only
      subst e3 e2 e1
      rw [if_neg g1, if_pos g2]
set_option maxRecDepth 100000 in
set_option maxHeartbeats 4000000 in
theorem f_against19 {N : Nat} {C : cm_M} (h : RC N C) : cm_Lc cm_ms 73 [.ref 2] (fr 19 C) (fq 19 none (cF_against 19 N C)) := by
  have z3 : (3 : Int32).toInt = 3 := by decide
  refine lb_st0 (mi := mr_73) rfl 120 ?_
  show ∃ R, cm_Lc cm_ms 81 [.ref 2, .int 1] (fr 19 C) R ∧ ∀ v M', R v M' → _
  refine ⟨_, f_told 1 h, ?_⟩
  rintro v M' ⟨rfl, A1, e1, rfl⟩
  have k1 : RC N A1 := by rw [e1]; exact RC_told h
  show ∃ R, cm_Lc cm_ms 88 [.ref 2] (fr 19 A1) R ∧ ∀ v M', R v M' → _
  refine ⟨_, f_step k1, ?_⟩
  rintro v M' ⟨rfl, A2, e2, rfl⟩
  have k2 : RC N A2 := by rw [e2]; exact RC_step k1
  show ∃ R, cm_Lc cm_ms 81 [.ref 2, .int 2] (fr 19 A2) R ∧ ∀ v M', R v M' → _
  refine ⟨_, f_told 2 k2, ?_⟩
  rintro v M' ⟨rfl, A3, e3, rfl⟩
  have k3 : RC N A3 := by rw [e3]; exact RC_told k2
  show (ev_cmp 0 (cF_toldV 1 C) (-1) = true → _) ∧ (ev_cmp 0 (cF_toldV 1 C) (-1) = false → _)
  refine ⟨fun h1 => ?_, fun h1 => ?_⟩
  · have g1 := fn_eq0 h1
    show fq 19 none (cF_against 19 N C) none (fr 19 A3)
    refine ⟨rfl, A3, ?_, rfl⟩
    unfold cF_against
    dsimp only
    subst e3 e2 e1
    rw [if_pos g1]
  · have g1 := fn_ne0 h1
    show (ev_cmp 1 (cF_toldV 2 A2) (-1) = true → _) ∧ (ev_cmp 1 (cF_toldV 2 A2) (-1) = false → _)
    refine ⟨fun h2 => ?_, fun h2 => ?_⟩
    · have g2 := fn_ne h2
      show (ev_cmp 0 (((A3.1 23 ((cF_toldV 1 C).toNatClampNeg)) >>> ((cF_toldV 2 A2) &&& 31)) &&& 1) 0 = true → _) ∧ (ev_cmp 0 (((A3.1 23 ((cF_toldV 1 C).toNatClampNeg)) >>> ((cF_toldV 2 A2) &&& 31)) &&& 1) 0 = false → _)
      refine ⟨fun h3 => ?_, fun h3 => ?_⟩
      · have g3 := fn_eq0 h3
        show ∃ R, cm_Lc cm_ms 88 [.ref 2] (cm_wi (fr 19 A3) 23 ((cF_toldV 1 C).toNatClampNeg) ((A3.1 23 ((cF_toldV 1 C).toNatClampNeg)) ||| (1 <<< ((cF_toldV 2 A2) &&& 31)))) R ∧ ∀ v M', R v M' → _
        refine ⟨_, f_step (C := cm_wi A3 23 ((cF_toldV 1 C).toNatClampNeg) ((A3.1 23 ((cF_toldV 1 C).toNatClampNeg)) ||| (1 <<< ((cF_toldV 2 A2) &&& 31)))) k3, ?_⟩
        rintro v M' ⟨rfl, A4, e4, rfl⟩
        have k4 : RC N A4 := by rw [e4]; exact RC_step k3
        show fq 19 none (cF_against 19 N C) none (fr 19 A4)
        refine ⟨rfl, A4, ?_, rfl⟩
        unfold cF_against
        dsimp only
        subst e4 e3 e2 e1
        rw [if_neg g1, if_neg g2, if_pos g3]
      · have g3 := fn_ne0 h3
        show ∃ R, cm_Lc cm_ms 66 [.ref 2, .int 3] (fr 19 A3) R ∧ ∀ v M', R v M' → _
        refine ⟨_, f_fail 3 _, ?_⟩
        rintro v M' ⟨rfl, A4, e4, rfl⟩
        have k4 : RC N A4 := by rw [e4]; exact RC_fail _ k3
        show fq 19 none (cF_against 19 N C) none (fr 19 A4)
        refine ⟨rfl, A4, ?_, rfl⟩
        unfold cF_against
        dsimp only
        subst e4 e3 e2 e1
        rw [if_neg g1, if_neg g2, if_neg g3]
    · have g2 := fn_eq h2
      show fq 19 none (cF_against 19 N C) none (fr 19 A3)
      refine ⟨rfl, A3, ?_, rfl⟩
      unfold cF_against
      dsimp only
      subst e3 e2 e1
      rw [if_neg g1, if_pos g2]
set_option maxRecDepth 100000 in
set_option maxHeartbeats 4000000 in
theorem f_amends6 {N : Nat} {C : cm_M} (h : RC N C) : cm_Lc cm_ms 74 [.ref 2] (fr 6 C) (fq 6 none (cF_amends 6 N C)) := by
  have z3 : (3 : Int32).toInt = 3 := by decide
  refine lb_st0 (mi := mr_74) rfl 120 ?_
  show ∃ R, cm_Lc cm_ms 81 [.ref 2, .int 2] (fr 6 C) R ∧ ∀ v M', R v M' → _
  refine ⟨_, f_told 2 h, ?_⟩
  rintro v M' ⟨rfl, A1, e1, rfl⟩
  have k1 : RC N A1 := by rw [e1]; exact RC_told h
  show ∃ R, cm_Lc cm_ms 88 [.ref 2] (fr 6 A1) R ∧ ∀ v M', R v M' → _
  refine ⟨_, f_step k1, ?_⟩
  rintro v M' ⟨rfl, A2, e2, rfl⟩
  have k2 : RC N A2 := by rw [e2]; exact RC_step k1
  show ∃ R, cm_Lc cm_ms 81 [.ref 2, .int 2] (fr 6 A2) R ∧ ∀ v M', R v M' → _
  refine ⟨_, f_told 2 k2, ?_⟩
  rintro v M' ⟨rfl, A3, e3, rfl⟩
  have k3 : RC N A3 := by rw [e3]; exact RC_told k2
  show (ev_cmp 0 (cF_toldV 2 C) (-1) = true → _) ∧ (ev_cmp 0 (cF_toldV 2 C) (-1) = false → _)
  refine ⟨fun h1 => ?_, fun h1 => ?_⟩
  · have g1 := fn_eq0 h1
    show fq 6 none (cF_amends 6 N C) none (fr 6 A3)
    refine ⟨rfl, A3, ?_, rfl⟩
    unfold cF_amends
    dsimp only
    subst e3 e2 e1
    rw [if_pos g1]
  · have g1 := fn_ne0 h1
    show (ev_cmp 1 (cF_toldV 2 A2) (-1) = true → _) ∧ (ev_cmp 1 (cF_toldV 2 A2) (-1) = false → _)
    refine ⟨fun h2 => ?_, fun h2 => ?_⟩
    · have g2 := fn_ne h2
      show (ev_cmp 0 (((A3.1 15 ((cF_toldV 2 C).toNatClampNeg)) >>> ((cF_toldV 2 A2) &&& 31)) &&& 1) 0 = true → _) ∧ (ev_cmp 0 (((A3.1 15 ((cF_toldV 2 C).toNatClampNeg)) >>> ((cF_toldV 2 A2) &&& 31)) &&& 1) 0 = false → _)
      refine ⟨fun h3 => ?_, fun h3 => ?_⟩
      · have g3 := fn_eq0 h3
        show (ev_cmp 2 (cF_toldV 2 A2) (cF_toldV 2 C) = true → _) ∧ (ev_cmp 2 (cF_toldV 2 A2) (cF_toldV 2 C) = false → _)
        refine ⟨fun h4 => ?_, fun h4 => ?_⟩
        · have g4 := fn_lt h4
          show ∃ R, cm_Lc cm_ms 88 [.ref 2] (cm_wi (fr 6 A3) 15 ((cF_toldV 2 C).toNatClampNeg) ((A3.1 15 ((cF_toldV 2 C).toNatClampNeg)) ||| (1 <<< ((cF_toldV 2 A2) &&& 31)))) R ∧ ∀ v M', R v M' → _
          refine ⟨_, f_step (C := cm_wi A3 15 ((cF_toldV 2 C).toNatClampNeg) ((A3.1 15 ((cF_toldV 2 C).toNatClampNeg)) ||| (1 <<< ((cF_toldV 2 A2) &&& 31)))) k3, ?_⟩
          rintro v M' ⟨rfl, A4, e4, rfl⟩
          have k4 : RC N A4 := by rw [e4]; exact RC_step k3
          show fq 6 none (cF_amends 6 N C) none (fr 6 A4)
          refine ⟨rfl, A4, ?_, rfl⟩
          unfold cF_amends
          dsimp only
          subst e4 e3 e2 e1
          rw [if_neg g1, if_neg g2, if_pos g3, if_neg (by omega)]
        · have g4 := fn_nlt h4
          show ∃ R, cm_Lc cm_ms 66 [.ref 2, .int 7] (fr 6 A3) R ∧ ∀ v M', R v M' → _
          refine ⟨_, f_fail 7 _, ?_⟩
          rintro v M' ⟨rfl, A4, e4, rfl⟩
          have k4 : RC N A4 := by rw [e4]; exact RC_fail _ k3
          show fq 6 none (cF_amends 6 N C) none (fr 6 A4)
          refine ⟨rfl, A4, ?_, rfl⟩
          unfold cF_amends
          dsimp only
          subst e4 e3 e2 e1
          rw [if_neg g1, if_neg g2, if_pos g3, if_pos g4]
      · have g3 := fn_ne0 h3
        show ∃ R, cm_Lc cm_ms 66 [.ref 2, .int 3] (fr 6 A3) R ∧ ∀ v M', R v M' → _
        refine ⟨_, f_fail 3 _, ?_⟩
        rintro v M' ⟨rfl, A4, e4, rfl⟩
        have k4 : RC N A4 := by rw [e4]; exact RC_fail _ k3
        show fq 6 none (cF_amends 6 N C) none (fr 6 A4)
        refine ⟨rfl, A4, ?_, rfl⟩
        unfold cF_amends
        dsimp only
        subst e4 e3 e2 e1
        rw [if_neg g1, if_neg g2, if_neg g3]
    · have g2 := fn_eq h2
      show fq 6 none (cF_amends 6 N C) none (fr 6 A3)
      refine ⟨rfl, A3, ?_, rfl⟩
      unfold cF_amends
      dsimp only
      subst e3 e2 e1
      rw [if_neg g1, if_pos g2]
set_option maxRecDepth 100000 in
set_option maxHeartbeats 4000000 in
theorem f_amends19 {N : Nat} {C : cm_M} (h : RC N C) : cm_Lc cm_ms 74 [.ref 2] (fr 19 C) (fq 19 none (cF_amends 19 N C)) := by
  have z3 : (3 : Int32).toInt = 3 := by decide
  refine lb_st0 (mi := mr_74) rfl 120 ?_
  show ∃ R, cm_Lc cm_ms 81 [.ref 2, .int 2] (fr 19 C) R ∧ ∀ v M', R v M' → _
  refine ⟨_, f_told 2 h, ?_⟩
  rintro v M' ⟨rfl, A1, e1, rfl⟩
  have k1 : RC N A1 := by rw [e1]; exact RC_told h
  show ∃ R, cm_Lc cm_ms 88 [.ref 2] (fr 19 A1) R ∧ ∀ v M', R v M' → _
  refine ⟨_, f_step k1, ?_⟩
  rintro v M' ⟨rfl, A2, e2, rfl⟩
  have k2 : RC N A2 := by rw [e2]; exact RC_step k1
  show ∃ R, cm_Lc cm_ms 81 [.ref 2, .int 2] (fr 19 A2) R ∧ ∀ v M', R v M' → _
  refine ⟨_, f_told 2 k2, ?_⟩
  rintro v M' ⟨rfl, A3, e3, rfl⟩
  have k3 : RC N A3 := by rw [e3]; exact RC_told k2
  show (ev_cmp 0 (cF_toldV 2 C) (-1) = true → _) ∧ (ev_cmp 0 (cF_toldV 2 C) (-1) = false → _)
  refine ⟨fun h1 => ?_, fun h1 => ?_⟩
  · have g1 := fn_eq0 h1
    show fq 19 none (cF_amends 19 N C) none (fr 19 A3)
    refine ⟨rfl, A3, ?_, rfl⟩
    unfold cF_amends
    dsimp only
    subst e3 e2 e1
    rw [if_pos g1]
  · have g1 := fn_ne0 h1
    show (ev_cmp 1 (cF_toldV 2 A2) (-1) = true → _) ∧ (ev_cmp 1 (cF_toldV 2 A2) (-1) = false → _)
    refine ⟨fun h2 => ?_, fun h2 => ?_⟩
    · have g2 := fn_ne h2
      show (ev_cmp 0 (((A3.1 28 ((cF_toldV 2 C).toNatClampNeg)) >>> ((cF_toldV 2 A2) &&& 31)) &&& 1) 0 = true → _) ∧ (ev_cmp 0 (((A3.1 28 ((cF_toldV 2 C).toNatClampNeg)) >>> ((cF_toldV 2 A2) &&& 31)) &&& 1) 0 = false → _)
      refine ⟨fun h3 => ?_, fun h3 => ?_⟩
      · have g3 := fn_eq0 h3
        show (ev_cmp 2 (cF_toldV 2 A2) (cF_toldV 2 C) = true → _) ∧ (ev_cmp 2 (cF_toldV 2 A2) (cF_toldV 2 C) = false → _)
        refine ⟨fun h4 => ?_, fun h4 => ?_⟩
        · have g4 := fn_lt h4
          show ∃ R, cm_Lc cm_ms 88 [.ref 2] (cm_wi (fr 19 A3) 28 ((cF_toldV 2 C).toNatClampNeg) ((A3.1 28 ((cF_toldV 2 C).toNatClampNeg)) ||| (1 <<< ((cF_toldV 2 A2) &&& 31)))) R ∧ ∀ v M', R v M' → _
          refine ⟨_, f_step (C := cm_wi A3 28 ((cF_toldV 2 C).toNatClampNeg) ((A3.1 28 ((cF_toldV 2 C).toNatClampNeg)) ||| (1 <<< ((cF_toldV 2 A2) &&& 31)))) k3, ?_⟩
          rintro v M' ⟨rfl, A4, e4, rfl⟩
          have k4 : RC N A4 := by rw [e4]; exact RC_step k3
          show fq 19 none (cF_amends 19 N C) none (fr 19 A4)
          refine ⟨rfl, A4, ?_, rfl⟩
          unfold cF_amends
          dsimp only
          subst e4 e3 e2 e1
          rw [if_neg g1, if_neg g2, if_pos g3, if_neg (by omega)]
        · have g4 := fn_nlt h4
          show ∃ R, cm_Lc cm_ms 66 [.ref 2, .int 7] (fr 19 A3) R ∧ ∀ v M', R v M' → _
          refine ⟨_, f_fail 7 _, ?_⟩
          rintro v M' ⟨rfl, A4, e4, rfl⟩
          have k4 : RC N A4 := by rw [e4]; exact RC_fail _ k3
          show fq 19 none (cF_amends 19 N C) none (fr 19 A4)
          refine ⟨rfl, A4, ?_, rfl⟩
          unfold cF_amends
          dsimp only
          subst e4 e3 e2 e1
          rw [if_neg g1, if_neg g2, if_pos g3, if_pos g4]
      · have g3 := fn_ne0 h3
        show ∃ R, cm_Lc cm_ms 66 [.ref 2, .int 3] (fr 19 A3) R ∧ ∀ v M', R v M' → _
        refine ⟨_, f_fail 3 _, ?_⟩
        rintro v M' ⟨rfl, A4, e4, rfl⟩
        have k4 : RC N A4 := by rw [e4]; exact RC_fail _ k3
        show fq 19 none (cF_amends 19 N C) none (fr 19 A4)
        refine ⟨rfl, A4, ?_, rfl⟩
        unfold cF_amends
        dsimp only
        subst e4 e3 e2 e1
        rw [if_neg g1, if_neg g2, if_neg g3]
    · have g2 := fn_eq h2
      show fq 19 none (cF_amends 19 N C) none (fr 19 A3)
      refine ⟨rfl, A3, ?_, rfl⟩
      unfold cF_amends
      dsimp only
      subst e3 e2 e1
      rw [if_neg g1, if_pos g2]
set_option maxRecDepth 100000 in
set_option maxHeartbeats 4000000 in
theorem f_quarrel6 {N : Nat} {C : cm_M} (h : RC N C) : cm_Lc cm_ms 75 [.ref 2] (fr 6 C) (fq 6 none (cF_quarrel 6 N C)) := by
  have z3 : (3 : Int32).toInt = 3 := by decide
  refine lb_st0 (mi := mr_75) rfl 120 ?_
  show ∃ R, cm_Lc cm_ms 81 [.ref 2, .int 1] (fr 6 C) R ∧ ∀ v M', R v M' → _
  refine ⟨_, f_told 1 h, ?_⟩
  rintro v M' ⟨rfl, A1, e1, rfl⟩
  have k1 : RC N A1 := by rw [e1]; exact RC_told h
  show ∃ R, cm_Lc cm_ms 88 [.ref 2] (fr 6 A1) R ∧ ∀ v M', R v M' → _
  refine ⟨_, f_step k1, ?_⟩
  rintro v M' ⟨rfl, A2, e2, rfl⟩
  have k2 : RC N A2 := by rw [e2]; exact RC_step k1
  show ∃ R, cm_Lc cm_ms 81 [.ref 2, .int 1] (fr 6 A2) R ∧ ∀ v M', R v M' → _
  refine ⟨_, f_told 1 k2, ?_⟩
  rintro v M' ⟨rfl, A3, e3, rfl⟩
  have k3 : RC N A3 := by rw [e3]; exact RC_told k2
  show (ev_cmp 0 (cF_toldV 1 C) (-1) = true → _) ∧ (ev_cmp 0 (cF_toldV 1 C) (-1) = false → _)
  refine ⟨fun h1 => ?_, fun h1 => ?_⟩
  · have g1 := fn_eq0 h1
    show fq 6 none (cF_quarrel 6 N C) none (fr 6 A3)
    refine ⟨rfl, A3, ?_, rfl⟩
    unfold cF_quarrel
    dsimp only
    subst e3 e2 e1
    rw [if_pos g1]
  · have g1 := fn_ne0 h1
    show (ev_cmp 1 (cF_toldV 1 A2) (-1) = true → _) ∧ (ev_cmp 1 (cF_toldV 1 A2) (-1) = false → _)
    refine ⟨fun h2 => ?_, fun h2 => ?_⟩
    · have g2 := fn_ne h2
      show (ev_cmp 0 (cF_toldV 1 C) (cF_toldV 1 A2) = true → _) ∧ (ev_cmp 0 (cF_toldV 1 C) (cF_toldV 1 A2) = false → _)
      refine ⟨fun h3 => ?_, fun h3 => ?_⟩
      · have g3 := fn_eq0 h3
        show ∃ R, cm_Lc cm_ms 66 [.ref 2, .int 3] (fr 6 A3) R ∧ ∀ v M', R v M' → _
        refine ⟨_, f_fail 3 _, ?_⟩
        rintro v M' ⟨rfl, A4, e4, rfl⟩
        have k4 : RC N A4 := by rw [e4]; exact RC_fail _ k3
        show fq 6 none (cF_quarrel 6 N C) none (fr 6 A4)
        refine ⟨rfl, A4, ?_, rfl⟩
        unfold cF_quarrel
        dsimp only
        subst e4 e3 e2 e1
        rw [if_neg g1, if_neg g2, if_pos g3]
      · have g3 := fn_ne0 h3
        show (ev_cmp 0 (((A3.1 11 ((cF_toldV 1 C).toNatClampNeg)) >>> ((cF_toldV 1 A2) &&& 31)) &&& 1) 0 = true → _) ∧ (ev_cmp 0 (((A3.1 11 ((cF_toldV 1 C).toNatClampNeg)) >>> ((cF_toldV 1 A2) &&& 31)) &&& 1) 0 = false → _)
        refine ⟨fun h4 => ?_, fun h4 => ?_⟩
        · have g4 := fn_eq0 h4
          show ∃ R, cm_Lc cm_ms 88 [.ref 2] (cm_wi (cm_wi (fr 6 A3) 11 ((cF_toldV 1 C).toNatClampNeg) ((A3.1 11 ((cF_toldV 1 C).toNatClampNeg)) ||| (1 <<< ((cF_toldV 1 A2) &&& 31)))) 11 ((cF_toldV 1 A2).toNatClampNeg) (((cm_wi (fr 6 A3) 11 ((cF_toldV 1 C).toNatClampNeg) ((A3.1 11 ((cF_toldV 1 C).toNatClampNeg)) ||| (1 <<< ((cF_toldV 1 A2) &&& 31)))).1 11 ((cF_toldV 1 A2).toNatClampNeg)) ||| (1 <<< ((cF_toldV 1 C) &&& 31)))) R ∧ ∀ v M', R v M' → _
          refine ⟨_, f_step (C := cm_wi (cm_wi A3 11 ((cF_toldV 1 C).toNatClampNeg) ((A3.1 11 ((cF_toldV 1 C).toNatClampNeg)) ||| (1 <<< ((cF_toldV 1 A2) &&& 31)))) 11 ((cF_toldV 1 A2).toNatClampNeg) (((cm_wi (fr 6 A3) 11 ((cF_toldV 1 C).toNatClampNeg) ((A3.1 11 ((cF_toldV 1 C).toNatClampNeg)) ||| (1 <<< ((cF_toldV 1 A2) &&& 31)))).1 11 ((cF_toldV 1 A2).toNatClampNeg)) ||| (1 <<< ((cF_toldV 1 C) &&& 31)))) k3, ?_⟩
          rintro v M' ⟨rfl, A4, e4, rfl⟩
          have k4 : RC N A4 := by rw [e4]; exact RC_step k3
          show fq 6 none (cF_quarrel 6 N C) none (fr 6 A4)
          refine ⟨rfl, A4, ?_, rfl⟩
          unfold cF_quarrel
          dsimp only
          subst e4 e3 e2 e1
          rw [if_neg g1, if_neg g2, if_neg g3, if_pos g4]
          try rfl
        · have g4 := fn_ne0 h4
          show ∃ R, cm_Lc cm_ms 66 [.ref 2, .int 3] (fr 6 A3) R ∧ ∀ v M', R v M' → _
          refine ⟨_, f_fail 3 _, ?_⟩
          rintro v M' ⟨rfl, A4, e4, rfl⟩
          have k4 : RC N A4 := by rw [e4]; exact RC_fail _ k3
          show fq 6 none (cF_quarrel 6 N C) none (fr 6 A4)
          refine ⟨rfl, A4, ?_, rfl⟩
          unfold cF_quarrel
          dsimp only
          subst e4 e3 e2 e1
          rw [if_neg g1, if_neg g2, if_neg g3, if_neg g4]
    · have g2 := fn_eq h2
      show fq 6 none (cF_quarrel 6 N C) none (fr 6 A3)
      refine ⟨rfl, A3, ?_, rfl⟩
      unfold cF_quarrel
      dsimp only
      subst e3 e2 e1
      rw [if_neg g1, if_pos g2]
set_option maxRecDepth 100000 in
set_option maxHeartbeats 4000000 in
theorem f_quarrel19 {N : Nat} {C : cm_M} (h : RC N C) : cm_Lc cm_ms 75 [.ref 2] (fr 19 C) (fq 19 none (cF_quarrel 19 N C)) := by
  have z3 : (3 : Int32).toInt = 3 := by decide
  refine lb_st0 (mi := mr_75) rfl 120 ?_
  show ∃ R, cm_Lc cm_ms 81 [.ref 2, .int 1] (fr 19 C) R ∧ ∀ v M', R v M' → _
  refine ⟨_, f_told 1 h, ?_⟩
  rintro v M' ⟨rfl, A1, e1, rfl⟩
  have k1 : RC N A1 := by rw [e1]; exact RC_told h
  show ∃ R, cm_Lc cm_ms 88 [.ref 2] (fr 19 A1) R ∧ ∀ v M', R v M' → _
  refine ⟨_, f_step k1, ?_⟩
  rintro v M' ⟨rfl, A2, e2, rfl⟩
  have k2 : RC N A2 := by rw [e2]; exact RC_step k1
  show ∃ R, cm_Lc cm_ms 81 [.ref 2, .int 1] (fr 19 A2) R ∧ ∀ v M', R v M' → _
  refine ⟨_, f_told 1 k2, ?_⟩
  rintro v M' ⟨rfl, A3, e3, rfl⟩
  have k3 : RC N A3 := by rw [e3]; exact RC_told k2
  show (ev_cmp 0 (cF_toldV 1 C) (-1) = true → _) ∧ (ev_cmp 0 (cF_toldV 1 C) (-1) = false → _)
  refine ⟨fun h1 => ?_, fun h1 => ?_⟩
  · have g1 := fn_eq0 h1
    show fq 19 none (cF_quarrel 19 N C) none (fr 19 A3)
    refine ⟨rfl, A3, ?_, rfl⟩
    unfold cF_quarrel
    dsimp only
    subst e3 e2 e1
    rw [if_pos g1]
  · have g1 := fn_ne0 h1
    show (ev_cmp 1 (cF_toldV 1 A2) (-1) = true → _) ∧ (ev_cmp 1 (cF_toldV 1 A2) (-1) = false → _)
    refine ⟨fun h2 => ?_, fun h2 => ?_⟩
    · have g2 := fn_ne h2
      show (ev_cmp 0 (cF_toldV 1 C) (cF_toldV 1 A2) = true → _) ∧ (ev_cmp 0 (cF_toldV 1 C) (cF_toldV 1 A2) = false → _)
      refine ⟨fun h3 => ?_, fun h3 => ?_⟩
      · have g3 := fn_eq0 h3
        show ∃ R, cm_Lc cm_ms 66 [.ref 2, .int 3] (fr 19 A3) R ∧ ∀ v M', R v M' → _
        refine ⟨_, f_fail 3 _, ?_⟩
        rintro v M' ⟨rfl, A4, e4, rfl⟩
        have k4 : RC N A4 := by rw [e4]; exact RC_fail _ k3
        show fq 19 none (cF_quarrel 19 N C) none (fr 19 A4)
        refine ⟨rfl, A4, ?_, rfl⟩
        unfold cF_quarrel
        dsimp only
        subst e4 e3 e2 e1
        rw [if_neg g1, if_neg g2, if_pos g3]
      · have g3 := fn_ne0 h3
        show (ev_cmp 0 (((A3.1 24 ((cF_toldV 1 C).toNatClampNeg)) >>> ((cF_toldV 1 A2) &&& 31)) &&& 1) 0 = true → _) ∧ (ev_cmp 0 (((A3.1 24 ((cF_toldV 1 C).toNatClampNeg)) >>> ((cF_toldV 1 A2) &&& 31)) &&& 1) 0 = false → _)
        refine ⟨fun h4 => ?_, fun h4 => ?_⟩
        · have g4 := fn_eq0 h4
          show ∃ R, cm_Lc cm_ms 88 [.ref 2] (cm_wi (cm_wi (fr 19 A3) 24 ((cF_toldV 1 C).toNatClampNeg) ((A3.1 24 ((cF_toldV 1 C).toNatClampNeg)) ||| (1 <<< ((cF_toldV 1 A2) &&& 31)))) 24 ((cF_toldV 1 A2).toNatClampNeg) (((cm_wi (fr 19 A3) 24 ((cF_toldV 1 C).toNatClampNeg) ((A3.1 24 ((cF_toldV 1 C).toNatClampNeg)) ||| (1 <<< ((cF_toldV 1 A2) &&& 31)))).1 24 ((cF_toldV 1 A2).toNatClampNeg)) ||| (1 <<< ((cF_toldV 1 C) &&& 31)))) R ∧ ∀ v M', R v M' → _
          refine ⟨_, f_step (C := cm_wi (cm_wi A3 24 ((cF_toldV 1 C).toNatClampNeg) ((A3.1 24 ((cF_toldV 1 C).toNatClampNeg)) ||| (1 <<< ((cF_toldV 1 A2) &&& 31)))) 24 ((cF_toldV 1 A2).toNatClampNeg) (((cm_wi (fr 19 A3) 24 ((cF_toldV 1 C).toNatClampNeg) ((A3.1 24 ((cF_toldV 1 C).toNatClampNeg)) ||| (1 <<< ((cF_toldV 1 A2) &&& 31)))).1 24 ((cF_toldV 1 A2).toNatClampNeg)) ||| (1 <<< ((cF_toldV 1 C) &&& 31)))) k3, ?_⟩
          rintro v M' ⟨rfl, A4, e4, rfl⟩
          have k4 : RC N A4 := by rw [e4]; exact RC_step k3
          show fq 19 none (cF_quarrel 19 N C) none (fr 19 A4)
          refine ⟨rfl, A4, ?_, rfl⟩
          unfold cF_quarrel
          dsimp only
          subst e4 e3 e2 e1
          rw [if_neg g1, if_neg g2, if_neg g3, if_pos g4]
          try rfl
        · have g4 := fn_ne0 h4
          show ∃ R, cm_Lc cm_ms 66 [.ref 2, .int 3] (fr 19 A3) R ∧ ∀ v M', R v M' → _
          refine ⟨_, f_fail 3 _, ?_⟩
          rintro v M' ⟨rfl, A4, e4, rfl⟩
          have k4 : RC N A4 := by rw [e4]; exact RC_fail _ k3
          show fq 19 none (cF_quarrel 19 N C) none (fr 19 A4)
          refine ⟨rfl, A4, ?_, rfl⟩
          unfold cF_quarrel
          dsimp only
          subst e4 e3 e2 e1
          rw [if_neg g1, if_neg g2, if_neg g3, if_neg g4]
    · have g2 := fn_eq h2
      show fq 19 none (cF_quarrel 19 N C) none (fr 19 A3)
      refine ⟨rfl, A3, ?_, rfl⟩
      unfold cF_quarrel
      dsimp only
      subst e3 e2 e1
      rw [if_neg g1, if_pos g2]
set_option maxRecDepth 100000 in
set_option maxHeartbeats 4000000 in
theorem f_heap6 {N : Nat} {C : cm_M} (h : RC N C) : cm_Lc cm_ms 77 [.ref 2] (fr 6 C) (fq 6 none (cF_heap 6 N C)) := by
  have z3 : (3 : Int32).toInt = 3 := by decide
  refine lb_st0 (mi := mr_77) rfl 120 ?_
  show ∃ R, cm_Lc cm_ms 83 [.ref 2] (fr 6 C) R ∧ ∀ v M', R v M' → _
  refine ⟨_, f_colour _, ?_⟩
  rintro v M' ⟨rfl, A1, e1, rfl⟩
  have k1 : RC N A1 := by rw [e1]; exact RC_colour h
  show (ev_cmp 1 (cF_col C) (-1) = true → _) ∧ (ev_cmp 1 (cF_col C) (-1) = false → _)
  refine ⟨fun h1 => ?_, fun h1 => ?_⟩
  · have g1 := fn_ne h1
    show (ev_cmp 0 (((A1.1 6 18) >>> ((cF_col C) &&& 31)) &&& 1) 0 = true → _) ∧ (ev_cmp 0 (((A1.1 6 18) >>> ((cF_col C) &&& 31)) &&& 1) 0 = false → _)
    refine ⟨fun h2 => ?_, fun h2 => ?_⟩
    · have g2 := fn_eq0 h2
      show ∃ R, cm_Lc cm_ms 88 [.ref 2] (fr 6 A1) R ∧ ∀ v M', R v M' → _
      refine ⟨_, f_step k1, ?_⟩
      rintro v M' ⟨rfl, A2, e2, rfl⟩
      have k2 : RC N A2 := by rw [e2]; exact RC_step k1
      show ∃ R, cm_Lc cm_ms 79 [.ref 2, .int 0, .int 999] (fr 6 A2) R ∧ ∀ v M', R v M' → _
      refine ⟨_, f_takeWhole 0 999 k2, ?_⟩
      rintro v M' ⟨rfl, A3, e3, rfl⟩
      have k3 : RC N A3 := by rw [e3]; exact RC_takeWhole k2
      show (ev_cmp 1 (A3.1 2 9) 0 = true → _) ∧ (ev_cmp 1 (A3.1 2 9) 0 = false → _)
      refine ⟨fun h3 => ?_, fun h3 => ?_⟩
      · have g3 := fn_ne h3
        show fq 6 none (cF_heap 6 N C) none (fr 6 A3)
        refine ⟨rfl, A3, ?_, rfl⟩
        unfold cF_heap
        dsimp only
        subst e3 e2 e1
        rw [if_neg g1, if_pos g2, if_neg g3]
      · have g3 := fn_eq h3
        show (ev_cmp 3 (cF_col C) 3 = true → _) ∧ (ev_cmp 3 (cF_col C) 3 = false → _)
        refine ⟨fun h4 => ?_, fun h4 => ?_⟩
        · have g4 := fn_ge h4
          show fq 6 none (cF_heap 6 N C) none (fr 6 A3)
          refine ⟨rfl, A3, ?_, rfl⟩
          unfold cF_heap
          dsimp only
          subst e3 e2 e1
          rw [if_neg g1, if_pos g2, if_pos g3, if_pos (by omega)]
        · have g4 := fn_nge h4
          show fq 6 none (cF_heap 6 N C) none (cm_wi (cm_wi (fr 6 A3) 18 ((cF_col C).toNatClampNeg) (A2.1 2 5)) 6 18 ((A3.1 6 18) ||| (1 <<< ((cF_col C) &&& 31))))
          refine ⟨rfl, cm_wi (cm_wi A3 18 ((cF_col C).toNatClampNeg) (A2.1 2 5)) 6 18 ((A3.1 6 18) ||| (1 <<< ((cF_col C) &&& 31))), ?_, rfl⟩
          unfold cF_heap
          dsimp only
          subst e3 e2 e1
          rw [if_neg g1, if_pos g2, if_pos g3, if_neg (by omega)]
          try rfl
    · have g2 := fn_ne0 h2
      show ∃ R, cm_Lc cm_ms 66 [.ref 2, .int 3] (fr 6 A1) R ∧ ∀ v M', R v M' → _
      refine ⟨_, f_fail 3 _, ?_⟩
      rintro v M' ⟨rfl, A2, e2, rfl⟩
      have k2 : RC N A2 := by rw [e2]; exact RC_fail _ k1
      show fq 6 none (cF_heap 6 N C) none (fr 6 A2)
      refine ⟨rfl, A2, ?_, rfl⟩
      unfold cF_heap
      dsimp only
      subst e2 e1
      rw [if_neg g1, if_neg g2]
  · have g1 := fn_eq h1
    show fq 6 none (cF_heap 6 N C) none (fr 6 A1)
    refine ⟨rfl, A1, ?_, rfl⟩
    unfold cF_heap
    dsimp only
    subst e1
    rw [if_pos g1]
set_option maxRecDepth 100000 in
set_option maxHeartbeats 4000000 in
theorem f_heap19 {N : Nat} {C : cm_M} (h : RC N C) : cm_Lc cm_ms 77 [.ref 2] (fr 19 C) (fq 19 none (cF_heap 19 N C)) := by
  have z3 : (3 : Int32).toInt = 3 := by decide
  refine lb_st0 (mi := mr_77) rfl 120 ?_
  show ∃ R, cm_Lc cm_ms 83 [.ref 2] (fr 19 C) R ∧ ∀ v M', R v M' → _
  refine ⟨_, f_colour _, ?_⟩
  rintro v M' ⟨rfl, A1, e1, rfl⟩
  have k1 : RC N A1 := by rw [e1]; exact RC_colour h
  show (ev_cmp 1 (cF_col C) (-1) = true → _) ∧ (ev_cmp 1 (cF_col C) (-1) = false → _)
  refine ⟨fun h1 => ?_, fun h1 => ?_⟩
  · have g1 := fn_ne h1
    show (ev_cmp 0 (((A1.1 19 18) >>> ((cF_col C) &&& 31)) &&& 1) 0 = true → _) ∧ (ev_cmp 0 (((A1.1 19 18) >>> ((cF_col C) &&& 31)) &&& 1) 0 = false → _)
    refine ⟨fun h2 => ?_, fun h2 => ?_⟩
    · have g2 := fn_eq0 h2
      show ∃ R, cm_Lc cm_ms 88 [.ref 2] (fr 19 A1) R ∧ ∀ v M', R v M' → _
      refine ⟨_, f_step k1, ?_⟩
      rintro v M' ⟨rfl, A2, e2, rfl⟩
      have k2 : RC N A2 := by rw [e2]; exact RC_step k1
      show ∃ R, cm_Lc cm_ms 79 [.ref 2, .int 0, .int 999] (fr 19 A2) R ∧ ∀ v M', R v M' → _
      refine ⟨_, f_takeWhole 0 999 k2, ?_⟩
      rintro v M' ⟨rfl, A3, e3, rfl⟩
      have k3 : RC N A3 := by rw [e3]; exact RC_takeWhole k2
      show (ev_cmp 1 (A3.1 2 9) 0 = true → _) ∧ (ev_cmp 1 (A3.1 2 9) 0 = false → _)
      refine ⟨fun h3 => ?_, fun h3 => ?_⟩
      · have g3 := fn_ne h3
        show fq 19 none (cF_heap 19 N C) none (fr 19 A3)
        refine ⟨rfl, A3, ?_, rfl⟩
        unfold cF_heap
        dsimp only
        subst e3 e2 e1
        rw [if_neg g1, if_pos g2, if_neg g3]
      · have g3 := fn_eq h3
        show (ev_cmp 3 (cF_col C) 3 = true → _) ∧ (ev_cmp 3 (cF_col C) 3 = false → _)
        refine ⟨fun h4 => ?_, fun h4 => ?_⟩
        · have g4 := fn_ge h4
          show fq 19 none (cF_heap 19 N C) none (fr 19 A3)
          refine ⟨rfl, A3, ?_, rfl⟩
          unfold cF_heap
          dsimp only
          subst e3 e2 e1
          rw [if_neg g1, if_pos g2, if_pos g3, if_pos (by omega)]
        · have g4 := fn_nge h4
          show fq 19 none (cF_heap 19 N C) none (cm_wi (cm_wi (fr 19 A3) 31 ((cF_col C).toNatClampNeg) (A2.1 2 5)) 19 18 ((A3.1 19 18) ||| (1 <<< ((cF_col C) &&& 31))))
          refine ⟨rfl, cm_wi (cm_wi A3 31 ((cF_col C).toNatClampNeg) (A2.1 2 5)) 19 18 ((A3.1 19 18) ||| (1 <<< ((cF_col C) &&& 31))), ?_, rfl⟩
          unfold cF_heap
          dsimp only
          subst e3 e2 e1
          rw [if_neg g1, if_pos g2, if_pos g3, if_neg (by omega)]
          try rfl
    · have g2 := fn_ne0 h2
      show ∃ R, cm_Lc cm_ms 66 [.ref 2, .int 3] (fr 19 A1) R ∧ ∀ v M', R v M' → _
      refine ⟨_, f_fail 3 _, ?_⟩
      rintro v M' ⟨rfl, A2, e2, rfl⟩
      have k2 : RC N A2 := by rw [e2]; exact RC_fail _ k1
      show fq 19 none (cF_heap 19 N C) none (fr 19 A2)
      refine ⟨rfl, A2, ?_, rfl⟩
      unfold cF_heap
      dsimp only
      subst e2 e1
      rw [if_neg g1, if_neg g2]
  · have g1 := fn_eq h1
    show fq 19 none (cF_heap 19 N C) none (fr 19 A1)
    refine ⟨rfl, A1, ?_, rfl⟩
    unfold cF_heap
    dsimp only
    subst e1
    rw [if_pos g1]
