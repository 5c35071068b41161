/-! THE TWO READERS: helps for the lines -/
theorem m_hasBit (a k : Int32) (M : cm_M) : cm_Lc cm_ms 168 [.int a, .int k] M (fun v M' => v = some (.int (bi (decide ((a >>> (k &&& 31)) &&& 1 = 1)))) ∧ M' = M) := by
  refine lb_st0 (mi := mr_168) rfl 20 ?_
  show (ev_cmp 1 ((a >>> (k &&& 31)) &&& 1) 1 = true → _) ∧ (ev_cmp 1 ((a >>> (k &&& 31)) &&& 1) 1 = false → _)
  refine ⟨fun h => ⟨?_, rfl⟩, fun h => ⟨?_, rfl⟩⟩
  · rw [decide_eq_false (fn_ne h)]
    rfl
  · rw [decide_eq_true (fn_eq h)]
    rfl
theorem told_v {nam me mo ch : Nat} {C : cm_M} {F : Nat → Int32} {sx : Int32} (hN : NC nam me mo ch C F) (h0 : C.1 2 9 = 0) (h : (cF_told sx C).1 2 9 = 0) : cF_told sx C = C ∧ ∃ a, cF_toldV sx C = Int32.ofNat a ∧ a < 6 ∧ (sx = 1 → a < me) ∧ (sx = 2 → a < mo) := by
  obtain ⟨c1, c2, c3, c4, c5, c6⟩ := hN
  by_cases hk : C.1 2 3 = 1 ∧ cF_line C = -1
  · by_cases h2 : cF_name C = -1 ∨ C.1 4 (cF_name C).toNatClampNeg ≠ sx
    · exfalso
      rw [told_no hk h2] at h
      exact cF_fail_9n (by decide) h
    · have e := told_ok hk h2
      refine ⟨e, ?_⟩
      have hnm : cF_name C = nm_f C nam 0 := by
        unfold cF_name
        rw [c1, fn_nat (by omega)]
      have hv : cF_toldV sx C = C.1 5 (cF_name C).toNatClampNeg := by
        unfold cF_toldV
        rw [e, if_neg (fun q => q.elim (fun q => q h0) (fun q => h2 (Or.inl q)))]
      rcases nm_sp hk.1 nam 0 with ⟨p, q⟩ | ⟨j, p, q, r, t⟩
      · exact absurd (Or.inl (hnm.trans p)) h2
      · have hj : (cF_name C).toNatClampNeg = j := by rw [hnm, r, fn_nat (by omega)]
        have hs : C.1 4 j = sx := by
          by_cases hs : C.1 4 j = sx
          · exact hs
          · exact absurd (Or.inr (by rw [hj]; exact hs)) h2
        rw [hv, hj]
        rcases (c6.1 j (by omega)).1 with ⟨u1, a, u2, u3⟩ | ⟨u1, a, u2, u3⟩ | ⟨u1, a, u2, u3⟩
        · refine ⟨a, u3, by omega, fun _ => u2, fun hh => ?_⟩
          rw [hs] at u1
          rw [u1] at hh
          exact absurd hh (by decide)
        · refine ⟨a, u3, by omega, fun hh => ?_, fun _ => u2⟩
          rw [hs] at u1
          rw [u1] at hh
          exact absurd hh (by decide)
        · refine ⟨a, u3, by omega, fun hh => ?_, fun hh => ?_⟩
          · rw [hs] at u1
            rw [u1] at hh
            exact absurd hh (by decide)
          · rw [hs] at u1
            rw [u1] at hh
            exact absurd hh (by decide)
  · exfalso
    rw [told_nm hk] at h
    exact cF_fail_9n (by decide) h
theorem toldV_bad {sx : Int32} {C : cm_M} (h : (cF_told sx C).1 2 9 ≠ 0) : cF_toldV sx C = -1 := by
  unfold cF_toldV
  rw [if_pos (Or.inl h)]
theorem step_wi {N c i : Nat} {v : Int32} {X : cm_M} (hc : 6 ≤ c) : cF_step N (cm_wi X c i v) = cm_wi (cF_step N X) c i v := by
  have e1 : (cm_wi X c i v).1 1 = X.1 1 := funext fun j => by
    show (if 1 = c ∧ j = i then _ else _) = _
    rw [if_neg (by omega)]
  have e2 : ∀ j, (cm_wi X c i v).1 2 j = X.1 2 j := fun j => by
    show (if 2 = c ∧ j = i then _ else _) = _
    rw [if_neg (by omega)]
  have et : cF_tok N (cm_wi X c i v) = cF_tok N X := by
    unfold cF_tok
    rw [e1, e2]
  unfold cF_step
  rw [e2, et]
  by_cases h : X.1 2 9 = 0
  · rw [if_pos h, if_pos h]
    generalize cF_tok N X = t
    refine Prod.ext (funext fun a => funext fun b => ?_) (Prod.ext rfl rfl)
    show (if a = 2 ∧ b = 3 then t.2.2.1 else if a = 2 ∧ b = 2 then Int32.ofNat t.2.1 else if a = 2 ∧ b = 5 then t.2.2.2.1 else if a = 2 ∧ b = 4 then Int32.ofNat t.1 else if a = c ∧ b = i then v else X.1 a b) = if a = c ∧ b = i then v else if a = 2 ∧ b = 3 then t.2.2.1 else if a = 2 ∧ b = 2 then Int32.ofNat t.2.1 else if a = 2 ∧ b = 5 then t.2.2.2.1 else if a = 2 ∧ b = 4 then Int32.ofNat t.1 else X.1 a b
    by_cases ha : a = 2
    · subst ha
      rw [if_neg (c := 2 = c ∧ b = i) (by omega), if_neg (c := 2 = c ∧ b = i) (by omega)]
    · rw [if_neg (fun q => ha q.1), if_neg (fun q => ha q.1), if_neg (fun q => ha q.1), if_neg (fun q => ha q.1), if_neg (c := a = 2 ∧ b = 3) (fun q => ha q.1), if_neg (c := a = 2 ∧ b = 2) (fun q => ha q.1), if_neg (c := a = 2 ∧ b = 5) (fun q => ha q.1), if_neg (c := a = 2 ∧ b = 4) (fun q => ha q.1)]
  · rw [if_neg h, if_neg h]
theorem Rq_wC {N c i : Nat} {v : Int32} {C D : cm_M} (hc : 6 ≤ c ∧ c < 124) (h : Rq N C D) : Rq N (cm_wi C c i v) D := Rq_C h (fun x j hx => by
  show (if x = c ∧ j = i then _ else _) = _
  rw [if_neg (by omega)]) rfl
theorem KN_w {c i : Nat} {v : Int32} {C : cm_M} (hc : 6 ≤ c) : KN C (cm_wi C c i v) := by
  refine ⟨?_, rfl, funext fun j => ?_, funext fun j => ?_⟩
  · show (if 2 = c ∧ 10 = i then _ else _) = _
    rw [if_neg (by omega)]
  · show (if 4 = c ∧ j = i then _ else _) = _
    rw [if_neg (by omega)]
  · show (if 5 = c ∧ j = i then _ else _) = _
    rw [if_neg (by omega)]
theorem w8 {c i : Nat} {v : Int32} {C : cm_M} (hc : 6 ≤ c) : (cm_wi C c i v).1 2 8 = C.1 2 8 := by
  show (if 2 = c ∧ 8 = i then _ else _) = _
  rw [if_neg (by omega)]
theorem w9 {c i : Nat} {v : Int32} {C : cm_M} (hc : 6 ≤ c) : (cm_wi C c i v).1 2 9 = C.1 2 9 := by
  show (if 2 = c ∧ 9 = i then _ else _) = _
  rw [if_neg (by omega)]
theorem wC (C : cm_M) (c i x y : Nat) (v : Int32) : (cm_wi C c i v).1 x y = if x = c ∧ y = i then v else C.1 x y := rfl
theorem told_stays {sx : Int32} {C : cm_M} (h : (cF_told sx C).1 2 9 = 0) : cF_told sx C = C := by
  by_cases hk : C.1 2 3 = 1 ∧ cF_line C = -1
  · by_cases h2 : cF_name C = -1 ∨ C.1 4 (cF_name C).toNatClampNeg ≠ sx
    · exfalso
      rw [told_no hk h2] at h
      exact cF_fail_9n (by decide) h
    · exact told_ok hk h2
  · exfalso
    rw [told_nm hk] at h
    exact cF_fail_9n (by decide) h
theorem DT_N {T me mo ch : Nat} {C : cm_M} {F : Nat → Int32} (h : DT T me mo ch C F) : NC (me + mo + ch) me mo ch C F := h.1
theorem NC_F {nam me mo ch : Nat} {C : cm_M} {F F' : Nat → Int32} (h : NC nam me mo ch C F) (e : F' = F) : NC nam me mo ch C F' := by rw [e]; exact h
