/-! FUNCTIONS: feed of the reference -/
def mf_f (M : cm_M) : cm_M := cm_wr M 124 1 (some 125)
def mt (x : Int32) (c : Nat) : Int32 := (x >>> ((24 - 8 * (Int32.ofNat c - Int32.ofNat c / 4 * 4)) &&& 31)) &&& 255
def sm (M : cm_M) (w : Nat → Int32) (t : Nat) : Nat → cm_M
  | 0 => M
  | c + 1 => cm_wi (cm_wi (sm M w t c) 125 (t + c) (mt (w c) c)) 124 2 (Int32.ofNat (t + c + 1))
theorem sm_t {M : cm_M} {w : Nat → Int32} {t : Nat} (h : M.1 124 2 = Int32.ofNat t) : ∀ c, (sm M w t c).1 124 2 = Int32.ofNat (t + c)
  | 0 => h
  | c + 1 => rfl
theorem sm_r (M : cm_M) (w : Nat → Int32) (t : Nat) : ∀ c, (sm M w t c).2 = M.2
  | 0 => rfl
  | c + 1 => sm_r M w t c
def w5 (a b c d e : Int32) (k : Nat) : Int32 := if k < 4 then a else if k < 8 then b else if k < 12 then c else if k < 16 then d else e
abbrev mfd_m (M : cm_M) (t : Nat) (a b c d e : Int32) : cm_M := sm (cm_wi M 124 0 0) (w5 a b c d e) t 20
abbrev fm_R (M : cm_M) (t : Nat) (a b c d e : Int32) : cm_K := fun v M' => (880 < t → v = some (.int (-1)) ∧ M' = cm_wi M 124 0 0) ∧ (t ≤ 880 → v = some (.int (Int32.ofNat (t + 20))) ∧ M' = mfd_m M t a b c d e)
abbrev mfd_L (a b c d e k : Int32) : List (Nat × Value) := [(0, .ref 124), (1, .int a), (2, .int b), (3, .int c), (4, .int d), (5, .int e), (6, .int k)]
def mfd_J (M : cm_M) (t : Nat) (a b c d e : Int32) (S : cm_S) : Prop := t ≤ 880 ∧ ∃ k : Nat, (k ≤ 20 ∧ S = (23, mfd_L a b c d e (Int32.ofNat k), [], mf_f (sm (cm_wi M 124 0 0) (w5 a b c d e) t k))) ∨ (k < 20 ∧ S = (76, mfd_L a b c d e (Int32.ofNat k), [.int (w5 a b c d e k)], mf_f (sm (cm_wi M 124 0 0) (w5 a b c d e) t k)))
abbrev mfd_st : List (Nat × List Nat) := [(23, [0, 1, 2, 3, 4, 5, 6]), (76, [0, 1, 2, 3, 4, 5, 6])]
set_option maxRecDepth 100000 in
set_option maxHeartbeats 4000000 in
theorem fn_mfeed {M : cm_M} {t : Nat} (hr : M.2.2 124 1 = some 125) (ht : M.1 124 2 = Int32.ofNat t) (h9 : t ≤ 900) (a b c d e : Int32) : cm_Lc cm_ms 172 [.ref 124, .int a, .int b, .int c, .int d, .int e] M (fm_R M t a b c d e) := by
  have z : (M.1 124 2 + 20).toInt = (t : Int) + 20 := by
    have h20 : (20 : Int32).toInt = 20 := by decide
    rw [ht, Int32.toInt_add, fn_toInt (by omega), h20, ev_bm (by omega) (by omega)]
  have z9 : (900 : Int32).toInt = 900 := by decide
  have ht1 : (cm_wi M 124 0 0).1 124 2 = Int32.ofNat t := ht
  refine lb_of (mi := mr_172) rfl mfd_st (mfd_J M t a b c d e) 40 (fun S hS => ?_) 20 ?_
  · obtain ⟨h8, k, ⟨hk, rfl⟩ | ⟨hk, rfl⟩⟩ := hS
    · have e1 := sm_t (w := w5 a b c d e) ht1 k
      have z20 : (20 : Int32).toInt = 20 := by decide
      have z4 : (4 : Int32).toInt = 4 := by decide
      have z8 : (8 : Int32).toInt = 8 := by decide
      have z12 : (12 : Int32).toInt = 12 := by decide
      have z16 : (16 : Int32).toInt = 16 := by decide
      have zk : (Int32.ofNat k).toInt = (k : Int) := fn_toInt (by omega)
      show (ev_cmp 3 (Int32.ofNat k) 20 = true → _) ∧ (ev_cmp 3 (Int32.ofNat k) 20 = false → (ev_cmp 3 (Int32.ofNat k) 4 = true → (ev_cmp 3 (Int32.ofNat k) 8 = true → (ev_cmp 3 (Int32.ofNat k) 12 = true → (ev_cmp 3 (Int32.ofNat k) 16 = true → mfd_J M t a b c d e (76, mfd_L a b c d e (Int32.ofNat k), [.int e], mf_f (sm (cm_wi M 124 0 0) (w5 a b c d e) t k))) ∧ (ev_cmp 3 (Int32.ofNat k) 16 = false → mfd_J M t a b c d e (76, mfd_L a b c d e (Int32.ofNat k), [.int d], mf_f (sm (cm_wi M 124 0 0) (w5 a b c d e) t k)))) ∧ (ev_cmp 3 (Int32.ofNat k) 12 = false → mfd_J M t a b c d e (76, mfd_L a b c d e (Int32.ofNat k), [.int c], mf_f (sm (cm_wi M 124 0 0) (w5 a b c d e) t k)))) ∧ (ev_cmp 3 (Int32.ofNat k) 8 = false → mfd_J M t a b c d e (76, mfd_L a b c d e (Int32.ofNat k), [.int b], mf_f (sm (cm_wi M 124 0 0) (w5 a b c d e) t k)))) ∧ (ev_cmp 3 (Int32.ofNat k) 4 = false → mfd_J M t a b c d e (76, mfd_L a b c d e (Int32.ofNat k), [.int a], mf_f (sm (cm_wi M 124 0 0) (w5 a b c d e) t k))))
      have to76 : ∀ x : Int32, k < 20 → w5 a b c d e k = x → mfd_J M t a b c d e (76, mfd_L a b c d e (Int32.ofNat k), [.int x], mf_f (sm (cm_wi M 124 0 0) (w5 a b c d e) t k)) := fun x hk2 hx => ⟨h8, k, Or.inr ⟨hk2, by rw [hx]⟩⟩
      refine ⟨fun h => ?_, fun h => ⟨fun h2 => ⟨fun h3 => ⟨fun h4 => ⟨fun h5 => ?_, fun h5 => ?_⟩, fun h4 => ?_⟩, fun h3 => ?_⟩, fun h2 => ?_⟩⟩
      · have g := fn_ge h
        have : k = 20 := by omega
        subst this
        show fm_R M t a b c d e (some (.int ((sm (cm_wi M 124 0 0) (w5 a b c d e) t 20).1 124 2))) (mf_f (sm (cm_wi M 124 0 0) (w5 a b c d e) t 20))
        refine ⟨fun h => by omega, fun _ => ⟨by rw [e1], ?_⟩⟩
        exact wr_id (by rw [sm_r]; exact hr)
      · have g := fn_nge h
        have g5 := fn_ge h5
        exact to76 e (by omega) (by unfold w5; rw [if_neg (by omega), if_neg (by omega), if_neg (by omega), if_neg (by omega)])
      · have g := fn_nge h
        have g4 := fn_ge h4
        have g5 := fn_nge h5
        exact to76 d (by omega) (by unfold w5; rw [if_neg (by omega), if_neg (by omega), if_neg (by omega), if_pos (by omega)])
      · have g := fn_nge h
        have g4 := fn_nge h4
        have g3 := fn_ge h3
        exact to76 c (by omega) (by unfold w5; rw [if_neg (by omega), if_neg (by omega), if_pos (by omega)])
      · have g := fn_nge h
        have g3 := fn_nge h3
        have g2 := fn_ge h2
        exact to76 b (by omega) (by unfold w5; rw [if_neg (by omega), if_pos (by omega)])
      · have g := fn_nge h
        have g2 := fn_nge h2
        exact to76 a (by omega) (by unfold w5; rw [if_pos (by omega)])
    · have e1 := sm_t (w := w5 a b c d e) ht1 k
      show mfd_J M t a b c d e (23, mfd_L a b c d e (Int32.ofNat k + 1), [], cm_wi (cm_wi (mf_f (sm (cm_wi M 124 0 0) (w5 a b c d e) t k)) 125 ((sm (cm_wi M 124 0 0) (w5 a b c d e) t k).1 124 2).toNatClampNeg (mt (w5 a b c d e k) k)) 124 2 ((sm (cm_wi M 124 0 0) (w5 a b c d e) t k).1 124 2 + 1))
      rw [e1, fn_nat (by omega), fn_succ, fn_succ]
      exact ⟨h8, k + 1, Or.inl ⟨by omega, rfl⟩⟩
  · show (ev_cmp 5 (M.1 124 2 + 20) 900 = true → mfd_J M t a b c d e (23, mfd_L a b c d e 0, [], cm_wi M 124 0 0)) ∧ (ev_cmp 5 (M.1 124 2 + 20) 900 = false → _)
    refine ⟨fun h => ?_, fun h => ?_⟩
    · have g := fn_le h
      refine ⟨by omega, 0, Or.inl ⟨by omega, ?_⟩⟩
      show _ = (((23, mfd_L a b c d e 0, [], mf_f (cm_wi M 124 0 0)) : cm_S))
      rw [show mf_f (cm_wi M 124 0 0) = cm_wi M 124 0 0 from wr_id hr]
    · have g := fn_nle h
      show fm_R M t a b c d e (some (.int (-1))) (cm_wi M 124 0 0)
      exact ⟨fun _ => ⟨rfl, rfl⟩, fun h => by omega⟩
