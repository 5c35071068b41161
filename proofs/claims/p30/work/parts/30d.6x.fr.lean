/-! THE CLASS'S READER over a told shape -/
def fr (T : Nat) (C : cm_M) : cm_M := (C.1, C.2.1, fun c i => if c = 2 then (if i = 7 then some T else if i = 0 then some 1 else if i = 11 then some 3 else if i = 12 then some 4 else if i = 13 then some 5 else C.2.2 2 i) else if c = 6 then (if i = 4 then some 7 else if i = 5 then some 8 else if i = 6 then some 9 else if i = 7 then some 10 else if i = 8 then some 11 else if i = 10 then some 12 else if i = 11 then some 13 else if i = 12 then some 14 else if i = 13 then some 15 else if i = 14 then some 16 else if i = 16 then some 17 else if i = 17 then some 18 else C.2.2 6 i) else if c = 19 then (if i = 4 then some 20 else if i = 5 then some 21 else if i = 6 then some 22 else if i = 7 then some 23 else if i = 8 then some 24 else if i = 10 then some 25 else if i = 11 then some 26 else if i = 12 then some 27 else if i = 13 then some 28 else if i = 14 then some 29 else if i = 16 then some 30 else if i = 17 then some 31 else C.2.2 19 i) else C.2.2 c i)
def RC (N : Nat) (C : cm_M) : Prop := rs_ok N C ∧ ∃ nn, nn ≤ 16 ∧ C.1 2 10 = Int32.ofNat nn
theorem RC_rs {N T : Nat} {C : cm_M} (h : RC N C) : rs_ok N (fr T C) := ⟨rfl, h.1.2⟩
theorem RC_rn {N T : Nat} {C : cm_M} (h : RC N C) : rn_ok (fr T C) := ⟨rfl, rfl, rfl, h.2⟩
theorem fr_fail (T : Nat) (x : Int32) (C : cm_M) : cF_fail x (fr T C) = fr T (cF_fail x C) := by
  unfold cF_fail
  show (if C.1 2 9 = 0 then _ else _) = _
  split <;> rfl
theorem fr_step (T N : Nat) (C : cm_M) : cF_step N (fr T C) = fr T (cF_step N C) := by
  unfold cF_step
  show (if C.1 2 9 = 0 then _ else _) = _
  split <;> rfl
theorem fr_due (T t : Nat) (C : cm_M) : cF_due t (fr T C) = fr T (cF_due t C) := by
  unfold cF_due
  show (if wt t C = true then _ else _) = _
  split
  · rfl
  · exact fr_fail T 1 C
theorem fr_takeWord (T N t : Nat) (C : cm_M) : cF_takeWord N t (fr T C) = fr T (cF_takeWord N t C) := by
  unfold cF_takeWord
  rw [fr_due, fr_step]
theorem fr_takeWhole (T N : Nat) (lo hi : Int32) (C : cm_M) : cF_takeWhole N lo hi (fr T C) = fr T (cF_takeWhole N lo hi C) := by
  have e : cF_whole lo hi (fr T C) = fr T (cF_whole lo hi C) := by
    unfold cF_whole
    show (if C.1 2 3 = 2 then (if C.1 2 5 < lo ∨ hi < C.1 2 5 then _ else _) else _) = _
    split
    · split
      · exact fr_fail T 4 C
      · rfl
    · exact fr_fail T 1 C
  unfold cF_takeWhole
  rw [e, fr_step]
theorem fr_colour (T : Nat) (C : cm_M) : cF_colour (fr T C) = fr T (cF_colour C) := by
  unfold cF_colour
  show (if wt 11 C = true then _ else if wt 12 C = true then _ else if wt 13 C = true then _ else _) = _
  split
  · rfl
  · split
    · rfl
    · split
      · rfl
      · exact fr_fail T 1 C
theorem nm_fr (T : Nat) (C : cm_M) : ∀ f i, nm_f (fr T C) f i = nm_f C f i
  | 0, i => rfl
  | f + 1, i => by
    unfold nm_f
    rw [nm_fr T C f (i + 1)]
    rfl
theorem fr_name (T : Nat) (C : cm_M) : cF_name (fr T C) = cF_name C := by
  unfold cF_name
  exact nm_fr T C _ _
theorem ln_fr (T : Nat) (C : cm_M) : ∀ f j, ln_f (fr T C) f j = ln_f C f j
  | 0, j => rfl
  | f + 1, j => by
    unfold ln_f
    rw [ln_fr T C f (j + 1)]
    rfl
theorem fr_line (T : Nat) (C : cm_M) : cF_line (fr T C) = cF_line C := ln_fr T C 8 0
theorem fr_newName (T N : Nat) (so nu : Int32) (C : cm_M) : cF_newName N so nu (fr T C) = fr T (cF_newName N so nu C) := by
  have e : cF_newChk (fr T C) = fr T (cF_newChk C) := by
    unfold cF_newChk
    rw [fr_line, fr_name]
    show (if C.1 2 3 = 1 ∧ cF_line C = -1 then _ else _) = _
    split
    · split
      · rfl
      · exact fr_fail T 3 C
    · exact fr_fail T 1 C
  have e2 : ∀ X, cF_put so nu (fr T X) = fr T (cF_put so nu X) := fun X => by
    unfold cF_put
    show (if X.1 2 9 = 0 ∧ (X.1 2 10).toInt < 16 then _ else _) = _
    split <;> rfl
  unfold cF_newName
  rw [e, e2, fr_step]
theorem fr_told (T : Nat) (so : Int32) (C : cm_M) : cF_told so (fr T C) = fr T (cF_told so C) := by
  unfold cF_told
  rw [fr_line, fr_name]
  show (if C.1 2 3 = 1 ∧ cF_line C = -1 then (if cF_name C = -1 ∨ C.1 4 (cF_name C).toNatClampNeg ≠ so then _ else _) else _) = _
  split
  · split
    · exact fr_fail T 2 C
    · rfl
  · exact fr_fail T 1 C
theorem fr_toldV (T : Nat) (so : Int32) (C : cm_M) : cF_toldV so (fr T C) = cF_toldV so C := by
  unfold cF_toldV
  rw [fr_told, fr_name]
  rfl
abbrev fq (T : Nat) (v0 : Option Value) (X : cm_M) : cm_K := fun v M' => v = v0 ∧ ∃ A, A = X ∧ M' = fr T A
theorem f_step {T N : Nat} {C : cm_M} (h : RC N C) : cm_Lc cm_ms 88 [.ref 2] (fr T C) (fq T none (cF_step N C)) :=
  cm_Lc_im (cs_step (RC_rs h)) (fun v M' q => ⟨q.1, _, rfl, q.2.trans (fr_step T N C)⟩)
theorem f_fail {T : Nat} (x : Int32) (C : cm_M) : cm_Lc cm_ms 66 [.ref 2, .int x] (fr T C) (fq T none (cF_fail x C)) :=
  cm_Lc_im (cs_fail x _) (fun v M' q => ⟨q.1, _, rfl, q.2.trans (fr_fail T x C)⟩)
theorem f_takeWord {T N t : Nat} (ht : t < 40) {C : cm_M} (h : RC N C) : cm_Lc cm_ms 78 [.ref 2, .ref (1001 + 2 * t)] (fr T C) (fq T none (cF_takeWord N t C)) :=
  cm_Lc_im (cs_takeWord ht (RC_rs h)) (fun v M' q => ⟨q.1, _, rfl, q.2.trans (fr_takeWord T N t C)⟩)
theorem f_takeWhole {T N : Nat} (lo hi : Int32) {C : cm_M} (h : RC N C) : cm_Lc cm_ms 79 [.ref 2, .int lo, .int hi] (fr T C) (fq T (some (.int (C.1 2 5))) (cF_takeWhole N lo hi C)) :=
  cm_Lc_im (cs_takeWhole lo hi (RC_rs h)) (fun v M' q => ⟨q.1, _, rfl, q.2.trans (fr_takeWhole T N lo hi C)⟩)
theorem f_colour {T : Nat} (C : cm_M) : cm_Lc cm_ms 83 [.ref 2] (fr T C) (fq T (some (.int (cF_col C))) (cF_colour C)) :=
  cm_Lc_im (cs_colour _) (fun v M' q => ⟨q.1, _, rfl, q.2.trans (fr_colour T C)⟩)
theorem f_newName {T N : Nat} (so nu : Int32) {C : cm_M} (h : RC N C) : cm_Lc cm_ms 80 [.ref 2, .int so, .int nu] (fr T C) (fq T none (cF_newName N so nu C)) :=
  cm_Lc_im (cs_newName so nu (RC_rs h) (RC_rn h)) (fun v M' q => ⟨q.1, _, rfl, q.2.trans (fr_newName T N so nu C)⟩)
theorem f_told {T N : Nat} (so : Int32) {C : cm_M} (h : RC N C) : cm_Lc cm_ms 81 [.ref 2, .int so] (fr T C) (fq T (some (.int (cF_toldV so C))) (cF_told so C)) :=
  cm_Lc_im (cs_told so (RC_rn h)) (fun v M' q => ⟨by rw [q.1, fr_toldV], _, rfl, q.2.trans (fr_told T so C)⟩)
theorem f_line {T : Nat} (C : cm_M) : cm_Lc cm_ms 84 [.ref 2] (fr T C) (fun v M' => v = some (.int (cF_line C)) ∧ M' = fr T C) :=
  cm_Lc_im (cs_line _) (fun v M' q => ⟨by rw [q.2, fr_line], q.1⟩)
theorem RC_fail {N : Nat} {C : cm_M} (x : Int32) (h : RC N C) : RC N (cF_fail x C) := by
  refine ⟨rs_fail x h.1, ?_⟩
  unfold cF_fail
  split <;> exact h.2
theorem RC_step {N : Nat} {C : cm_M} (h : RC N C) : RC N (cF_step N C) := by
  refine ⟨rs_step h.1, ?_⟩
  unfold cF_step
  split <;> exact h.2
theorem RC_takeWord {N t : Nat} {C : cm_M} (h : RC N C) : RC N (cF_takeWord N t C) := by
  unfold cF_takeWord cF_due
  split
  · exact RC_step h
  · exact RC_step (RC_fail 1 h)
theorem RC_takeWhole {N : Nat} {lo hi : Int32} {C : cm_M} (h : RC N C) : RC N (cF_takeWhole N lo hi C) := by
  unfold cF_takeWhole cF_whole
  split
  · split
    · exact RC_step (RC_fail 4 h)
    · exact RC_step h
  · exact RC_step (RC_fail 1 h)
theorem RC_colour {N : Nat} {C : cm_M} (h : RC N C) : RC N (cF_colour C) := by
  unfold cF_colour
  split
  · exact h
  · split
    · exact h
    · split
      · exact h
      · exact RC_fail 1 h
theorem RC_newName {N : Nat} {so nu : Int32} {C : cm_M} (h : RC N C) : RC N (cF_newName N so nu C) := by
  have h1 : RC N (cF_newChk C) := by
    unfold cF_newChk
    split
    · split
      · exact h
      · exact RC_fail 3 h
    · exact RC_fail 1 h
  unfold cF_newName
  refine RC_step ?_
  refine ⟨rs_put so nu h1.1, ?_⟩
  unfold cF_put
  split
  · rename_i hc
    obtain ⟨nn, h2, h3⟩ := h1.2
    have h16 := hc.2
    rw [h3, fn_toInt (by omega)] at h16
    refine ⟨nn + 1, by omega, ?_⟩
    show (cF_newChk C).1 2 10 + 1 = _
    rw [h3, fn_succ]
  · exact h1.2
theorem RC_told {N : Nat} {so : Int32} {C : cm_M} (h : RC N C) : RC N (cF_told so C) := by
  unfold cF_told
  split
  · split
    · exact RC_fail 2 h
    · exact h
  · exact RC_fail 1 h
/-! what stays: cells from 6 on, whether a town was told; the names -/
def KC (C C' : cm_M) : Prop := (∀ c j, 6 ≤ c → C'.1 c j = C.1 c j) ∧ C'.1 2 8 = C.1 2 8
def KN (C C' : cm_M) : Prop := C'.1 2 10 = C.1 2 10 ∧ C'.2.1 3 = C.2.1 3 ∧ C'.1 4 = C.1 4 ∧ C'.1 5 = C.1 5
theorem KC_rfl {C : cm_M} : KC C C := ⟨fun _ _ _ => rfl, rfl⟩
theorem KN_rfl {C : cm_M} : KN C C := ⟨rfl, rfl, rfl, rfl⟩
theorem KC_tr {A B C : cm_M} (h : KC A B) (h2 : KC B C) : KC A C := ⟨fun c j hc => (h2.1 c j hc).trans (h.1 c j hc), h2.2.trans h.2⟩
theorem KN_tr {A B C : cm_M} (h : KN A B) (h2 : KN B C) : KN A C := ⟨h2.1.trans h.1, h2.2.1.trans h.2.1, h2.2.2.1.trans h.2.2.1, h2.2.2.2.trans h.2.2.2⟩
theorem K_fail (x : Int32) (C : cm_M) : KC C (cF_fail x C) ∧ KN C (cF_fail x C) := by
  unfold cF_fail
  split
  · refine ⟨⟨fun c j hc => ?_, rfl⟩, rfl, rfl, rfl, rfl⟩
    show (if c = 2 ∧ j = 9 then _ else _) = _
    rw [if_neg (by omega)]
  · exact ⟨KC_rfl, KN_rfl⟩
theorem K_step (N : Nat) (C : cm_M) : KC C (cF_step N C) ∧ KN C (cF_step N C) := by
  unfold cF_step
  split
  · refine ⟨⟨fun c j hc => ?_, rfl⟩, rfl, ?_, rfl, rfl⟩
    · show (if c = 2 ∧ j = 3 then _ else if c = 2 ∧ j = 2 then _ else if c = 2 ∧ j = 5 then _ else if c = 2 ∧ j = 4 then _ else _) = _
      rw [if_neg (by omega), if_neg (by omega), if_neg (by omega), if_neg (by omega)]
    · exact funext fun j => rfl
  · exact ⟨KC_rfl, KN_rfl⟩
theorem K_and {A B C : cm_M} (h : KC A B ∧ KN A B) (h2 : KC B C ∧ KN B C) : KC A C ∧ KN A C := ⟨KC_tr h.1 h2.1, KN_tr h.2 h2.2⟩
theorem K_takeWord (N t : Nat) (C : cm_M) : KC C (cF_takeWord N t C) ∧ KN C (cF_takeWord N t C) := by
  unfold cF_takeWord cF_due
  split
  · exact K_step N C
  · exact K_and (K_fail 1 C) (K_step N _)
theorem K_takeWhole (N : Nat) (lo hi : Int32) (C : cm_M) : KC C (cF_takeWhole N lo hi C) ∧ KN C (cF_takeWhole N lo hi C) := by
  unfold cF_takeWhole cF_whole
  split
  · split
    · exact K_and (K_fail 4 C) (K_step N _)
    · exact K_step N C
  · exact K_and (K_fail 1 C) (K_step N _)
theorem K_colour (C : cm_M) : KC C (cF_colour C) ∧ KN C (cF_colour C) := by
  unfold cF_colour
  split
  · exact ⟨KC_rfl, KN_rfl⟩
  · split
    · exact ⟨KC_rfl, KN_rfl⟩
    · split
      · exact ⟨KC_rfl, KN_rfl⟩
      · exact K_fail 1 C
theorem K_told (so : Int32) (C : cm_M) : KC C (cF_told so C) ∧ KN C (cF_told so C) := by
  unfold cF_told
  split
  · split
    · exact K_fail 2 C
    · exact ⟨KC_rfl, KN_rfl⟩
  · exact K_fail 1 C
theorem K_newChk (C : cm_M) : KC C (cF_newChk C) ∧ KN C (cF_newChk C) := by
  unfold cF_newChk
  split
  · split
    · exact ⟨KC_rfl, KN_rfl⟩
    · exact K_fail 3 C
  · exact K_fail 1 C
theorem K_put (so nu : Int32) (C : cm_M) : KC C (cF_put so nu C) := by
  unfold cF_put
  split
  · refine ⟨fun c j hc => ?_, rfl⟩
    show (if c = 2 ∧ j = 10 then _ else if c = 5 ∧ j = _ then _ else if c = 4 ∧ j = _ then _ else _) = _
    rw [if_neg (by omega), if_neg (by omega), if_neg (by omega)]
    rfl
  · exact KC_rfl
theorem K_newName (N : Nat) (so nu : Int32) (C : cm_M) : KC C (cF_newName N so nu C) := by
  unfold cF_newName
  exact KC_tr (KC_tr (K_newChk C).1 (K_put so nu _)) (K_step N _).1
