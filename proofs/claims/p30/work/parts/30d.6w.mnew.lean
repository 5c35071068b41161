/-! THE TWO READERS: a new name -/
theorem Rq_D {N : Nat} {C D D' : cm_M} (h : Rq N C D) (hD : ∀ c i, c ≠ 128 → D'.1 c i = D.1 c i) : Rq N C D' := by
  obtain ⟨⟨a1, a2, a3, a4, a5, a6⟩, b⟩ := h
  have e126 : D'.1 126 = D.1 126 := funext fun i => hD 126 i (by decide)
  refine ⟨⟨fun j hj => ?_, a2, ?_, ?_, ?_, ?_⟩, ?_⟩
  · rw [hD 125 j (by decide)]
    exact a1 j hj
  · rw [hD _ _ (by decide)]
    exact a3
  · rw [hD _ _ (by decide)]
    exact a4
  · rw [hD _ _ (by decide)]
    exact a5
  · unfold tw
    rw [hD 124 6 (by decide), hD 124 7 (by decide), hD 124 8 (by decide), e126]
    exact a6
  · unfold fl
    rw [hD 124 13 (by decide), hD 124 9 (by decide), hD 124 10 (by decide), hD 124 0 (by decide), hD 124 2 (by decide), hD 124 11 (by decide)]
    exact ⟨b.1, b.2.1, fun c j q => (hD c j (by unfold prC at q; omega)).trans (b.2.2 c j q)⟩
theorem Rq_put {N : Nat} {C D : cm_M} (so nu : Int32) (h : Rq N C D) : Rq N (cF_put so nu C) D := by
  unfold cF_put
  split
  · refine ⟨h.1, h.2.1, h.2.2.1, fun c j q => (h.2.2.2 c j q).trans ?_⟩
    unfold prC at q
    show _ = (cm_wi (cm_wi (cm_wi (cm_wl C 3 _ _) 4 _ _) 5 _ _) 2 10 _).1 c j
    rw [wi_n2 (by omega), wi_n2 (by omega), wi_n2 (by omega)]
    rfl
  · exact h
def cpm (D : cm_M) (n k : Nat) : cm_M := (fun a b => if a = 128 ∧ 85 + 8 * n ≤ b ∧ b < 85 + 8 * n + k then D.1 126 (b - (85 + 8 * n)) else D.1 a b, D.2)
theorem cpm_0 (D : cm_M) (n : Nat) : cpm D n 0 = D := by
  unfold cpm
  refine Prod.ext (funext fun a => funext fun b => ?_) rfl
  show (if _ then _ else _) = _
  rw [if_neg (by omega)]
theorem cpm_s (D : cm_M) (n k : Nat) : cm_wi (cpm D n k) 128 (85 + 8 * n + k) (D.1 126 k) = cpm D n (k + 1) := by
  refine Prod.ext (funext fun a => funext fun b => ?_) rfl
  show (if a = 128 ∧ b = 85 + 8 * n + k then D.1 126 k else if a = 128 ∧ 85 + 8 * n ≤ b ∧ b < 85 + 8 * n + k then D.1 126 (b - (85 + 8 * n)) else D.1 a b) = if a = 128 ∧ 85 + 8 * n ≤ b ∧ b < 85 + 8 * n + (k + 1) then D.1 126 (b - (85 + 8 * n)) else D.1 a b
  by_cases h1 : a = 128 ∧ b = 85 + 8 * n + k
  · rw [if_pos h1, if_pos ⟨h1.1, by omega, by omega⟩, h1.2, Nat.add_sub_cancel_left]
  · rw [if_neg h1]
    by_cases h2 : a = 128 ∧ 85 + 8 * n ≤ b ∧ b < 85 + 8 * n + k
    · rw [if_pos h2, if_pos (by omega)]
    · rw [if_neg h2, if_neg (by omega)]
def nnF (F L : Nat → Int32) (n ns : Nat) (j : Nat) : Int32 := if j = 69 + n then Int32.ofNat ns else if 85 + 8 * n ≤ j ∧ j < 85 + 8 * n + ns then L (j - (85 + 8 * n)) else F j
theorem nn_id {N : Nat} {so nu : Int32} {C : cm_M} (h : C.1 2 9 ≠ 0) : cF_newName N so nu C = C := by
  have e : cF_newChk C = C := by
    unfold cF_newChk
    split
    · split
      · rfl
      · exact cF_fail_id h
    · exact cF_fail_id h
  unfold cF_newName
  rw [e]
  have e2 : cF_put so nu C = C := by
    unfold cF_put
    rw [if_neg (fun q => h q.1)]
  rw [e2]
  exact cF_step_id h
theorem nn_bad {N : Nat} {so nu x : Int32} {C : cm_M} (hx : x ≠ 0) (h : cF_newChk C = cF_fail x C) : cF_newName N so nu C = cF_fail x C := by
  have h9 : (cF_fail x C).1 2 9 ≠ 0 := cF_fail_9n hx
  unfold cF_newName
  rw [h]
  have e2 : cF_put so nu (cF_fail x C) = cF_fail x C := by
    unfold cF_put
    rw [if_neg (fun q => h9 q.1)]
  rw [e2]
  exact cF_step_id h9
abbrev nn_K (N n : Nat) (so nu : Int32) (C D : cm_M) : cm_K := fun v M' => v = none ∧ ∃ D', M' = fm D' ∧ Rq N (cF_newName N so nu C) D' ∧ ((cF_newName N so nu C).1 2 9 = 0 → C.1 2 9 = 0 ∧ cF_newChk C = C ∧ cF_name C = -1 ∧ ∃ L ns, 0 < ns ∧ wrep (C.2.1 2 6) L ns ∧ ∀ j, D'.1 128 j = nnF (D.1 128) L n ns j)
def nw_J (N n : Nat) (C D : cm_M) (S : cm_S) : Prop := C.1 2 9 = 0 ∧ cF_newChk C = C ∧ cF_name C = -1 ∧ ∃ (D1 : cm_M) (ns k : Nat), Rq N C D1 ∧ D1.1 128 = D.1 128 ∧ 0 < ns ∧ ns ≤ 8 ∧ D1.1 124 8 = Int32.ofNat ns ∧ wrep (C.2.1 2 6) (D1.1 126) ns ∧ k ≤ ns ∧ S = (45, [(0, .ref 124), (1, .int (Int32.ofNat n)), (2, .int (Int32.ofNat k))], [], fm (cpm D1 n k))
set_option maxRecDepth 100000 in
set_option maxHeartbeats 4000000 in
theorem m_newName {N nam me mo ch n : Nat} {so nu : Int32} (n16 : n < 16) {C D : cm_M} (h : Rq N C D) (hc : C.1 2 9 = 0 → NC nam me mo ch C (D.1 128)) : cm_Lc cm_ms 183 [.ref 124, .int (Int32.ofNat n)] (fm D) (nn_K N n so nu C D) := by
  refine lb_of (mi := mr_183) rfl [(45, [0, 1, 2])] (nw_J N n C D) 60 (fun S hS => ?_) 60 ?_
  · obtain ⟨y0, y1, y2, D1, ns, k, r1, f1, s1, s2, s3, s4, hk, rfl⟩ := hS
    show (ev_cmp 3 (Int32.ofNat k) (D1.1 124 8) = true → _) ∧ (ev_cmp 3 (Int32.ofNat k) (D1.1 124 8) = false → _)
    refine ⟨fun h1 => ?_, fun h1 => ?_⟩
    · have g := fn_ge h1
      rw [s3, fn_toInt (by omega), fn_toInt (by omega)] at g
      have : k = ns := by omega
      subst this
      show ∃ R, cm_Lc cm_ms 176 [.ref 124] (fm (cm_wi (cpm D1 n k) 128 ((69 : Int32) + Int32.ofNat n).toNatClampNeg (D1.1 124 8))) R ∧ ∀ v M', R v M' → _
      have hr : Rq N (cF_put so nu C) (cm_wi (cpm D1 n k) 128 ((69 : Int32) + Int32.ofNat n).toNatClampNeg (D1.1 124 8)) := by
        refine Rq_D (Rq_put so nu r1) (fun c i hci => ?_)
        show (if c = 128 ∧ _ then _ else if c = 128 ∧ _ then _ else _) = _
        rw [if_neg (fun q => hci q.1), if_neg (fun q => hci q.1)]
      have h90 : (cF_put so nu C).1 2 9 = 0 := by
        unfold cF_put
        split
        · exact y0
        · exact y0
      refine ⟨_, m_next hr h90, ?_⟩
      rintro v M' ⟨rfl, D2, rfl, r2, f2⟩
      show nn_K N n so nu C D none (fm D2)
      have e : cF_newName N so nu C = cF_step N (cF_put so nu C) := by
        unfold cF_newName
        rw [y1]
      refine ⟨rfl, D2, rfl, by rw [e]; exact r2, fun _ => ⟨y0, y1, y2, D1.1 126, k, s1, s4, fun j => ?_⟩⟩
      rw [f2, ix_69 (by omega), s3]
      show (if 128 = 128 ∧ j = 69 + n then Int32.ofNat k else if 128 = 128 ∧ 85 + 8 * n ≤ j ∧ j < 85 + 8 * n + k then D1.1 126 (j - (85 + 8 * n)) else D1.1 128 j) = _
      unfold nnF
      rw [f1]
      by_cases j1 : j = 69 + n
      · rw [if_pos ⟨rfl, j1⟩, if_pos j1]
      · rw [if_neg (fun q => j1 q.2), if_neg j1]
        by_cases j2 : 85 + 8 * n ≤ j ∧ j < 85 + 8 * n + k
        · rw [if_pos ⟨rfl, j2⟩, if_pos j2]
        · rw [if_neg (fun q => j2 q.2), if_neg j2]
    · have g := fn_nge h1
      rw [s3, fn_toInt (by omega), fn_toInt (by omega)] at g
      have ix : (Int32.ofNat 85 + Int32.ofNat 8 * Int32.ofNat n + Int32.ofNat k).toNatClampNeg = 85 + 8 * n + k := ix2 85 8 (by decide) (by decide) (by omega) (by omega)
      have iy : (Int32.ofNat k).toNatClampNeg = k := fn_nat (by omega)
      show nw_J N n C D (45, [(0, .ref 124), (1, .int (Int32.ofNat n)), (2, .int (Int32.ofNat k + 1))], [], fm (cm_wi (cpm D1 n k) 128 (Int32.ofNat 85 + Int32.ofNat 8 * Int32.ofNat n + Int32.ofNat k).toNatClampNeg (D1.1 126 (Int32.ofNat k).toNatClampNeg)))
      rw [ix, iy, cpm_s, fn_succ]
      exact ⟨y0, y1, y2, D1, ns, k + 1, r1, f1, s1, s2, s3, s4, by omega, rfl⟩
  · show (ev_cmp 0 (D.1 124 13) 0 = true → _) ∧ (ev_cmp 0 (D.1 124 13) 0 = false → _)
    refine ⟨fun h1 => ?_, fun h1 => ?_⟩
    · have z1 : C.1 2 9 = 0 := fl_0 h.2 (fn_eq0 h1)
      show ∃ R, cm_Lc cm_ms 181 [.ref 124] (fm D) R ∧ ∀ v M', R v M' → _
      refine ⟨_, m_mustName h z1, ?_⟩
      rintro v M' ⟨rfl, D1, rfl, r1, f1⟩
      show (ev_cmp 1 (D1.1 124 13) 0 = true → _) ∧ (ev_cmp 1 (D1.1 124 13) 0 = false → _)
      refine ⟨fun h2 => ?_, fun h2 => ?_⟩
      · have z2 : (cF_nm C).1 2 9 ≠ 0 := fl_1 r1.2 (fn_ne h2)
        show (ev_cmp 0 (D1.1 124 13) 0 = true → _) ∧ (ev_cmp 0 (D1.1 124 13) 0 = false → _)
        refine ⟨fun h3 => ?_, fun h3 => ?_⟩
        · have z3 : (cF_nm C).1 2 9 = 0 := fl_0 r1.2 (fn_eq0 h3)
          exact absurd z3 z2
        · have z3 : (cF_nm C).1 2 9 ≠ 0 := fl_1 r1.2 (fn_ne0 h3)
          show nn_K N n so nu C D none (fm D1)
          have q1 : ¬ (C.1 2 3 = 1 ∧ cF_line C = -1) := fun q => z3 (by unfold cF_nm; rw [if_pos q]; exact z1)
          have q2 : cF_nm C = cF_fail 1 C := by
            unfold cF_nm
            rw [if_neg q1]
          have q3 : cF_newName N so nu C = cF_fail 1 C := nn_bad (by decide) (by unfold cF_newChk; rw [if_neg q1])
          refine ⟨rfl, D1, rfl, ?_, ?_⟩
          · rw [q3, ← q2]
            exact r1
          · rw [q3]
            exact fun q => absurd q (cF_fail_9n (by decide))
      · have z2 : (cF_nm C).1 2 9 = 0 := fl_0 r1.2 (fn_eq h2)
        have q1 : C.1 2 3 = 1 ∧ cF_line C = -1 := by
          by_cases q : C.1 2 3 = 1 ∧ cF_line C = -1
          · exact q
          · exfalso
            unfold cF_nm at z2
            rw [if_neg q] at z2
            exact cF_fail_9n (by decide) z2
        have q2 : cF_nm C = C := by
          unfold cF_nm
          rw [if_pos q1]
        rw [q2] at r1
        obtain ⟨ns, s1, s2, s3, s4⟩ := wr_ns r1 q1.1
        obtain ⟨c1, c2, c3, c4, c5, c6⟩ := hc z1
        show ∃ R, cm_Lc cm_ms 182 [.ref 124] (fm D1) R ∧ ∀ v M', R v M' → _
        refine ⟨_, m_find s3 s2 s1, ?_⟩
        rintro v M' ⟨rfl, hx⟩
        have hv : ∃ x, v = some (.int x) ∧ ((x = -1 ∧ cF_name C = -1) ∨ (∃ i, i < nam ∧ cF_name C = Int32.ofNat i ∧ nmv me mo ch (C.1 4 i) (C.1 5 i) ∧ x = Int32.ofNat (nsl (C.1 4 i) (C.1 5 i)))) := by
          rw [← f1] at c6
          rcases hx with ⟨rfl, q⟩ | ⟨n, q3, rfl, q4⟩
          · exact ⟨_, rfl, NF q1.1 c1 c2 c3 c4 c5 c6 s1 s2 s4 (Or.inl ⟨rfl, q⟩)⟩
          · exact ⟨_, rfl, NF q1.1 c1 c2 c3 c4 c5 c6 s1 s2 s4 (Or.inr ⟨n, q3, rfl, q4⟩)⟩
        clear hx
        obtain ⟨x, rfl, hx⟩ := hv
        show (ev_cmp 2 x 0 = true → _) ∧ (ev_cmp 2 x 0 = false → _)
        refine ⟨fun h4 => ?_, fun h4 => ?_⟩
        · show (ev_cmp 0 (D1.1 124 13) 0 = true → _) ∧ (ev_cmp 0 (D1.1 124 13) 0 = false → _)
          refine ⟨fun h5 => ?_, fun h5 => ?_⟩
          · have z5 : C.1 2 9 = 0 := fl_0 r1.2 (fn_eq0 h5)
            show nw_J N n C D (45, [(0, .ref 124), (1, .int (Int32.ofNat n)), (2, .int (Int32.ofNat 0))], [], fm D1)
            have q3 : cF_name C = -1 := by
              rcases hx with ⟨-, q⟩ | ⟨i, i1, i2, i3, rfl⟩
              · exact q
              · have g := fn_lt h4
                have i16 := nsl_16 i3 c3 c4 c5
                rw [fn_toInt (by omega)] at g
                have e0 : (0 : Int32).toInt = 0 := by decide
                omega
            refine ⟨z1, ?_, q3, D1, ns, 0, r1, f1, s1, s2, s3, s4, Nat.zero_le _, ?_⟩
            · unfold cF_newChk
              rw [if_pos q1, if_pos q3]
            · rw [cpm_0]
          · have z5 : C.1 2 9 ≠ 0 := fl_1 r1.2 (fn_ne0 h5)
            show nn_K N n so nu C D none (fm D1)
            exact absurd z1 z5
        · show ∃ R, cm_Lc cm_ms 177 [.ref 124, .int 3, .int (D1.1 124 4)] (fm D1) R ∧ ∀ v M', R v M' → _
          refine ⟨_, m_wrong r1 (x := 3) (by decide), ?_⟩
          rintro v M' ⟨rfl, D2, rfl, r2, f2⟩
          show (ev_cmp 0 (D2.1 124 13) 0 = true → _) ∧ (ev_cmp 0 (D2.1 124 13) 0 = false → _)
          refine ⟨fun h6 => ?_, fun h6 => ?_⟩
          · have z6 : (cF_fail 3 C).1 2 9 = 0 := fl_0 r2.2 (fn_eq0 h6)
            exact absurd z6 (cF_fail_9n (by decide))
          · have z6 : (cF_fail 3 C).1 2 9 ≠ 0 := fl_1 r2.2 (fn_ne0 h6)
            show nn_K N n so nu C D none (fm D2)
            have q3 : cF_newName N so nu C = cF_fail 3 C := by
              refine nn_bad (by decide) ?_
              unfold cF_newChk
              rw [if_pos q1, if_neg]
              intro q
              rcases hx with ⟨rfl, -⟩ | ⟨i, i1, i2, i3, rfl⟩
              · exact absurd h4 (by decide)
              · rw [i2] at q
                exact of_m1 (by omega) q
            refine ⟨rfl, D2, rfl, ?_, ?_⟩
            · rw [q3]
              exact r2
            · rw [q3]
              exact fun q => absurd q (cF_fail_9n (by decide))
    · have z1 : C.1 2 9 ≠ 0 := fl_1 h.2 (fn_ne0 h1)
      show nn_K N n so nu C D none (fm D)
      refine ⟨rfl, D, rfl, ?_, ?_⟩
      · rw [nn_id z1]
        exact h
      · rw [nn_id z1]
        exact fun q => absurd q z1
