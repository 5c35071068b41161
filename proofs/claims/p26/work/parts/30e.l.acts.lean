noncomputable def sh130 (M : cm_M) (k : Nat) : cm_M := (fun d q => if d = 130 ∧ q < k then M.1 130 (q + 11) else M.1 d q, M.2)
theorem sh_0 (M : cm_M) : sh130 M 0 = M := by
  refine Prod.ext (funext fun d => funext fun q => ?_) rfl
  show (if d = 130 ∧ q < 0 then _ else _) = _
  rw [if_neg (by omega)]
theorem sh_n {M : cm_M} {k d q : Nat} (h : ¬ (d = 130 ∧ q < k)) : (sh130 M k).1 d q = M.1 d q := if_neg h
theorem sh_i {M : cm_M} {k q : Nat} (h : q < k) : (sh130 M k).1 130 q = M.1 130 (q + 11) := if_pos ⟨rfl, h⟩
theorem sh_s (M : cm_M) (k : Nat) : cm_wi (sh130 M k) 130 k (M.1 130 (k + 11)) = sh130 M (k + 1) := by
  refine Prod.ext (funext fun d => funext fun q => ?_) rfl
  show (cm_wi (sh130 M k) 130 k (M.1 130 (k + 11))).1 d q = (sh130 M (k + 1)).1 d q
  by_cases h : d = 130 ∧ q = k
  · obtain ⟨rfl, rfl⟩ := h
    rw [wi_at, sh_i (by omega)]
  · rw [wi_n2 h]
    by_cases z : d = 130 ∧ q < k
    · obtain ⟨rfl, z⟩ := z
      rw [sh_i z, sh_i (by omega)]
    · rw [sh_n z, sh_n (by omega)]
/-- the row noted -/
noncomputable def noteR (u : Nat) (M M' : cm_M) : Prop := M'.2 = M.2 ∧ (∀ d j, d ≠ 130 → ¬ (d = 124 ∧ j = 20) → M'.1 d j = M.1 d j) ∧ M'.1 124 20 = Int32.ofNat (min 16 (u + 1)) ∧ (∀ i j, i < min u 15 → j < 11 → M'.1 130 (11 * i + j) = M.1 130 (11 * (i + (u + 1 - min 16 (u + 1))) + j)) ∧ ∀ j, j < 11 → M'.1 130 (11 * min u 15 + j) = M.1 129 j
/-- .. before the row itself -/
noncomputable def nt2 (u : Nat) (M M1 : cm_M) : Prop := M1.2 = M.2 ∧ (∀ d j, d ≠ 130 → ¬ (d = 124 ∧ j = 20) → M1.1 d j = M.1 d j) ∧ M1.1 124 20 = Int32.ofNat (min u 15) ∧ ∀ i j, i < min u 15 → j < 11 → M1.1 130 (11 * i + j) = M.1 130 (11 * (i + (u + 1 - min 16 (u + 1))) + j)
noncomputable def nt_J (u : Nat) (M : cm_M) (S : cm_S) : Prop := (u = 16 ∧ ∃ k, k ≤ 165 ∧ S = (11, [(0, .ref 124), (1, .int (Int32.ofNat k))], [], sh130 M k)) ∨ (∃ M1, nt2 u M M1 ∧ S = (49, [(0, .ref 124)], [], M1))
theorem e11_t : ∀ u, u < 17 → (11 : Int32) * Int32.ofNat u = Int32.ofNat (11 * u) := by decide +kernel
set_option maxRecDepth 100000 in
theorem m_note {M : cm_M} {u : Nat} (h17 : M.2.2 124 17 = some 129) (h18 : M.2.2 124 18 = some 130) (hu : M.1 124 20 = Int32.ofNat u) (hu16 : u ≤ 16) : cm_Lc cm_ms 287 [.ref 124] M (fun v M' => v = none ∧ noteR u M M') := by
  have z16 : (16 : Int32) = Int32.ofNat 16 := rfl
  refine lb_of (mi := mr_287) rfl [(11, [0, 1]), (49, [0])] (nt_J u M) 400 (fun S hS => ?_) 400 ?_
  · rcases hS with ⟨h16, k, hk, rfl⟩ | ⟨M1, hs, rfl⟩
    · have h18x : (sh130 M k).2.2 124 18 = some 130 := h18
      have z : (165 : Int32).toInt = 165 := by decide
      show (ev_cmp 3 (Int32.ofNat k) 165 = true → _) ∧ (ev_cmp 3 (Int32.ofNat k) 165 = false → _)
      refine ⟨fun hL0 => ?_, fun hL0 => ?_⟩
      · show (nt_J u M) (49, [(0, .ref 124)], [], cm_wi (sh130 M k) 124 20 (((sh130 M k).1 124 20) - 1))
        have g := fn_ge hL0
        rw [z, fn_toInt (by omega)] at g
        have : k = 165 := by omega
        refine Or.inr ⟨cm_wi (sh130 M k) 124 20 (((sh130 M k).1 124 20) - 1), ⟨rfl, fun d j b1 b2 => ?_, ?_, fun i j hi hj => ?_⟩, rfl⟩
        · show (cm_wi (sh130 M k) 124 20 (((sh130 M k).1 124 20) - 1)).1 d j = _
          rw [wi_n2 b2, sh_n (by omega)]
        · show (cm_wi (sh130 M k) 124 20 (((sh130 M k).1 124 20) - 1)).1 124 20 = _
          rw [wi_at, sh_n (by omega), hu, h16]
          try rfl
        · show (cm_wi (sh130 M k) 124 20 (((sh130 M k).1 124 20) - 1)).1 130 _ = _
          rw [wi_n2 (by omega), sh_i (by omega)]
          exact congrArg (M.1 130) (by omega)
      · first | refine lb_to (T := (19, [(0, .ref 124), (1, .int (Int32.ofNat k))], [.ref 124], (sh130 M k))) 19 [0, 1] rfl rfl rfl (fun J' h => h) (lb_g0 rfl rfl h18x ?_) | refine lb_to0 (T := (19, [(0, .ref 124), (1, .int (Int32.ofNat k))], [.ref 124], (sh130 M k))) 19 [0, 1] rfl rfl rfl (fun J' h => h) (lb_g0 rfl rfl h18x ?_)
        first | refine lb_to (T := (24, [(0, .ref 124), (1, .int (Int32.ofNat k))], [.ref 124, .int (Int32.ofNat k), .ref 130], (sh130 M k))) 24 [0, 1] rfl rfl rfl (fun J' h => h) (lb_g0 rfl rfl h18x ?_) | refine lb_to0 (T := (24, [(0, .ref 124), (1, .int (Int32.ofNat k))], [.ref 124, .int (Int32.ofNat k), .ref 130], (sh130 M k))) 24 [0, 1] rfl rfl rfl (fun J' h => h) (lb_g0 rfl rfl h18x ?_)
        show (nt_J u M) (11, [(0, .ref 124), (1, .int ((Int32.ofNat k) + 1))], [], cm_wi (sh130 M k) 130 ((Int32.ofNat k).toNatClampNeg) ((sh130 M k).1 130 (((Int32.ofNat k) + 11).toNatClampNeg)))
        have g := fn_nge hL0
        rw [z, fn_toInt (by omega)] at g
        refine Or.inl ⟨h16, k + 1, by omega, ?_⟩
        rw [ofn_s1, fn_nat (show k < 2147483648 by omega), show (Int32.ofNat k + 11).toNatClampNeg = k + 11 from by
          rw [show (11 : Int32) = Int32.ofNat 11 from rfl, ← Int32.ofNat_add, fn_nat (by omega)], sh_n (by omega), sh_s]
    · have h17x : M1.2.2 124 17 = some 129 := by rw [hs.1]; exact h17
      have h18x : M1.2.2 124 18 = some 130 := by rw [hs.1]; exact h18
      have ey : (11 : Int32) * M1.1 124 20 = Int32.ofNat (11 * min u 15) := by
        rw [hs.2.2.1]
        exact e11_t _ (by omega)
      have hc := m_copyR (M := M1) (a := 129) (b := 130) (x := 0) (y := 11 * min u 15) (n := 11) (by decide) (by omega) (by omega)
      rw [← ey] at hc
      first | refine lb_to (T := (50, [(0, .ref 124)], [.ref 124], M1)) 50 [0] rfl rfl rfl (fun J' h => h) (lb_g0 rfl rfl h17x ?_) | refine lb_to0 (T := (50, [(0, .ref 124)], [.ref 124], M1)) 50 [0] rfl rfl rfl (fun J' h => h) (lb_g0 rfl rfl h17x ?_)
      first | refine lb_to (T := (55, [(0, .ref 124)], [.ref 124, .int 0, .ref 129], M1)) 55 [0] rfl rfl rfl (fun J' h => h) (lb_g0 rfl rfl h18x ?_) | refine lb_to0 (T := (55, [(0, .ref 124)], [.ref 124, .int 0, .ref 129], M1)) 55 [0] rfl rfl rfl (fun J' h => h) (lb_g0 rfl rfl h18x ?_)
      show ∃ R, cm_Lc cm_ms 170 [.ref 129, .int 0, .ref 130, .int (11 * (M1.1 124 20)), .int 11] M1 R ∧ ∀ v M', R v M' → _
      refine ⟨_, hc, ?_⟩
      rintro v M' ⟨rfl, hM⟩
      subst hM
      refine ⟨rfl, ?_⟩
      have ek : (cm_cp M1 129 0 130 (11 * min u 15) 11).1 124 20 = Int32.ofNat (min u 15) := (cp_ne (by omega)).trans hs.2.2.1
      show noteR u M (cm_wi (cm_cp M1 129 0 130 (11 * min u 15) 11) 124 20 ((cm_cp M1 129 0 130 (11 * min u 15) 11).1 124 20 + 1))
      rw [ek, ofn_s1]
      refine ⟨hs.1, fun d j b1 b2 => ?_, ?_, fun i j hi hj => ?_, fun j hj => ?_⟩
      · rw [wi_n2 b2, cp_ne (by omega)]
        exact hs.2.1 d j b1 b2
      · rw [wi_at]
        congr 1
        omega
      · rw [wi_n2 (by omega), cp_ne (by omega)]
        exact hs.2.2.2 i j hi hj
      · rw [wi_n2 (by omega), cp_in (by omega) (by omega)]
        rw [hs.2.1 129 _ (by omega) (by omega)]
        exact congrArg (M.1 129) (by omega)
  · show (ev_cmp 1 (M.1 124 20) 16 = true → _) ∧ (ev_cmp 1 (M.1 124 20) 16 = false → _)
    refine ⟨fun h => ?_, fun h => ?_⟩
    · show (nt_J u M) (49, [(0, .ref 124)], [], M)
      have g := fn_ne h
      have ne : u ≠ 16 := fun q => g (by rw [hu, q]; try rfl)
      refine Or.inr ⟨M, ⟨rfl, fun _ _ _ _ => rfl, ?_, fun i j hi hj => ?_⟩, rfl⟩
      · rw [hu]
        exact congrArg Int32.ofNat (by omega)
      · exact congrArg (M.1 130) (by omega)
    · show (nt_J u M) (11, [(0, .ref 124), (1, .int 0)], [], M)
      have g := fn_eq h
      rw [hu, z16] at g
      have e16 := ofn_inj (by omega) (by omega) g
      exact Or.inl ⟨e16, 0, Nat.zero_le _, by rw [sh_0]; try rfl⟩
/-- the row put -/
noncomputable def ptR (en : Bool) (k : Nat) (r : Nat → Int32) (j : Nat) : Int32 := if j = 9 ∧ en = true then r 9 ||| sB k else r j
theorem m_putOf {M : cm_M} {d me k : Nat} {co : Nat → Nat} (h15 : M.2.2 124 15 = some 127) (hd : d ≠ 127 ∧ d ≠ 124) (h3 : M.1 127 3 = Int32.ofNat me) (hme : me ≤ 6) (hk : k < 1000) (hco : CO me (fun m => M.1 127 (11 + 3 * m)) co) : cm_Lc cm_ms 218 [.ref 124, .ref d, .int (Int32.ofNat k)] M (fun v M' => v = some (.int (bi (geB (voF (fun m => M.1 127 (13 + 3 * m)) (orF (fun m => syB (M.1 127 1) (M.1 127 (29 + 3 * k)) (M.1 127 (44 + m)) (M.1 d m) k) me) me) (M.1 127 (30 + 3 * k))))) ∧ rset d M M' (ptR (geB (voF (fun m => M.1 127 (13 + 3 * m)) (orF (fun m => syB (M.1 127 1) (M.1 127 (29 + 3 * k)) (M.1 127 (44 + m)) (M.1 d m) k) me) me) (M.1 127 (30 + 3 * k))) k (cuR (M.1 127 (29 + 3 * k)) (orF (fun m => syB (M.1 127 1) (M.1 127 (29 + 3 * k)) (M.1 127 (44 + m)) (M.1 d m) k) me) co (M.1 d) me))) := by
  have he := m_enough (d := d) h15 h3 hme hk
  have hc := m_cutBy h15 hd h3 hme hk hco
  generalize geB (voF (fun m => M.1 127 (13 + 3 * m)) (orF (fun m => syB (M.1 127 1) (M.1 127 (29 + 3 * k)) (M.1 127 (44 + m)) (M.1 d m) k) me) me) (M.1 127 (30 + 3 * k)) = en at he ⊢
  generalize orF (fun m => syB (M.1 127 1) (M.1 127 (29 + 3 * k)) (M.1 127 (44 + m)) (M.1 d m) k) me = Y at hc ⊢
  refine lb_st0 (mi := mr_218) rfl 400 ?_
  show ∃ R, cm_Lc cm_ms 215 [.ref 124, .ref d, .int (Int32.ofNat k)] M R ∧ ∀ v M', R v M' → _
  refine ⟨_, he, ?_⟩
  rintro v M' ⟨hM, rfl⟩
  subst M'
  show ∃ R, cm_Lc cm_ms 217 [.ref 124, .ref d, .int (Int32.ofNat k)] M R ∧ ∀ v M', R v M' → _
  refine ⟨_, hc, ?_⟩
  rintro v M' ⟨rfl, hs⟩
  show (ev_cmp 0 (bi en) 0 = true → _) ∧ (ev_cmp 0 (bi en) 0 = false → _)
  refine ⟨fun hcc => ?_, fun hcc => ?_⟩
  · refine ⟨rfl, rset_cg hs (fun j hj => ?_)⟩
    unfold ptR
    rw [bi_0 hcc, if_neg (fun q => nomatch q.2)]
  · have e := bi_1 hcc
    refine ⟨rfl, rset_w hs (m := 9) ?_ (fun j hj hne => ?_)⟩
    · show M'.1 d 9 ||| sB k = _
      unfold ptR
      rw [if_pos ⟨rfl, e⟩, hs.2.2 9 (by omega)]
    · unfold ptR
      rw [if_neg (fun q => hne q.1)]
