/-! BY HAND: the weights of shaves, all of it -/
abbrev ts_md : ab_Md := [(124, [31, 32, 33]), (129, [0, 1, 2, 3, 4, 5, 10]), (132, [])]
abbrev ts_st : List (Nat × List Nat) := [(17, [0, 1, 2]), (35, [0, 1, 2, 3, 5]), (101, [0, 1, 2, 3]), (111, [0, 1, 2, 3])]
def ts_J1 (M0 M : cm_M) (s : Int32) : Prop := ab_ok hp hN M ∧ ab_fr ts_md M0 M ∧ 0 ≤ s.toInt ∧ s.toInt ≤ (ts_a M0).toInt + 1 ∧ 0 ≤ (M.2.1 124 31).toInt ∧ (M.2.1 124 31).toInt ≤ s.toInt * 1000000000000 ∧ (1 ≤ s.toInt → (M0.1 127 2).toInt < 100 → 1 ≤ (M.2.1 124 31).toInt) ∧ ((ts_a M0).toInt < s.toInt → (M0.1 127 2).toInt = 100 → 1 ≤ (M.2.1 124 31).toInt)
def ts_J2 (M0 M : cm_M) (s m : Int32) (w : Int64) : Prop := ts_J1 M0 M s ∧ s.toInt ≤ (ts_a M0).toInt ∧ 0 ≤ m.toInt ∧ m.toInt ≤ (M0.1 127 3).toInt ∧ 0 ≤ w.toInt ∧ w.toInt ≤ 100 ^ m.toInt.toNat ∧ (s = 0 → (M0.1 127 2).toInt < 100 → 1 ≤ w.toInt) ∧ (s = ts_a M0 → (M0.1 127 2).toInt = 100 → 1 ≤ w.toInt)
theorem ts_fr2 {M0 M M' : cm_M} {md : ab_Md} (h1 : ab_fr ts_md M0 M) (hm : ab_mds md ts_md = true) (h2 : ab_fr md M M') : ab_fr ts_md M0 M' := fun c i hc => by
  obtain ⟨a1, a2, a3⟩ := h1 c i hc
  obtain ⟨b1, b2, b3⟩ := h2 c i (ab_mds_ok hm hc)
  exact ⟨b1.trans a1, b2.trans a2, b3.trans a3⟩
theorem ts_hi {M : cm_M} (h : ab_ok hp hN M) : (0 ≤ (M.1 127 2).toInt ∧ (M.1 127 2).toInt ≤ 100) ∧ 0 ≤ (M.1 127 3).toInt ∧ (M.1 127 3).toInt ≤ 6 := by
  have h2 := h.1 127 2
  have h3 := h.1 127 3
  rw [show ab_hi hp 127 2 = (0, 100) from by decide +kernel] at h2
  rw [show ab_hi hp 127 3 = (0, 6) from by decide +kernel] at h3
  exact ⟨h2, h3⟩
theorem ts_an {M : cm_M} (h : ab_ok hp hN M) : 0 ≤ (ts_a M).toInt ∧ (ts_a M).toInt ≤ 63 ∧ ∀ m : Int32, 0 ≤ m.toInt → m.toInt < (M.1 127 3).toInt → (ts_a M >>> (m &&& 31)) &&& 1 = 1 := by
  obtain ⟨-, h0, h1⟩ := ts_hi h
  obtain ⟨n, hn, en, en2⟩ := ts_small (b := 7) h0 (by omega)
  have hx := ts_num n hn
  unfold ts_a
  rw [en] at *
  refine ⟨hx.1, hx.2.1, fun m g0 g1 => ?_⟩
  obtain ⟨q, hq, eq, eq2⟩ := ts_small (b := 7) g0 (by omega)
  rw [eq]
  exact hx.2.2 q (by omega)
theorem ts_D {d : Nat} (hY : ab_CT cm_ms hp hN d tc_yes) (hE : ab_CT cm_ms hp hN d tc_en) {Post : cm_K} {M0 M : cm_M} (hM0 : ab_ok hp hN M0) {k s m : Int32} {w : Int64} (hk0 : 0 ≤ k.toInt) (hk1 : k.toInt ≤ 4) (hJ : ts_J2 M0 M s m w) (IH : ∀ M', ts_J1 M0 M' (s + 1) → cm_At cm_ms d mr_281 Post (17, [(0, .ref 124), (1, .int k), (2, .int (s + 1))], [], M')) : cm_At cm_ms d mr_281 Post (101, [(0, .ref 124), (1, .int k), (2, .int s), (3, .long w)], [], M) := by
  obtain ⟨⟨j1, j2, j3, j4, j5, j6, j7, j8⟩, i1, i2, i3, i4, i5, i6, i7⟩ := hJ
  obtain ⟨a1, a2, -⟩ := ts_an hM0
  obtain ⟨-, n1, n2⟩ := ts_hi hM0
  have hw : w.toInt ≤ 1000000000000 := by
    have : ∀ q : Nat, q < 7 → (100 : Int) ^ q ≤ 1000000000000 := by decide
    have := this m.toInt.toNat (by omega)
    omega
  have hsum : (M.2.1 124 31 + w).toInt = (M.2.1 124 31).toInt + w.toInt := by
    rw [Int64.toInt_add]
    exact Int.bmod_eq_of_le (by omega) (by omega)
  have hinc := hd_inc (i := s) (by omega)
  refine cm_At_run cm_ms_ok (k := 281) rfl (stops := ts_st) (J := cm_At cm_ms d mr_281 Post) (fun S hS => hS) (n := 20) ?_
  show _ = 1 ∧ (cm_kind 124).1 = _ ∧ _ < _ ∧ (cm_kind 124).1 = _ ∧ _ < _ ∧ _ = false ∧ _ ∧ _
  refine ⟨rfl, by decide, by decide, by decide, by decide, by decide, rfl, ?_⟩
  refine ts_D2 hY hE (M := cm_wl M 124 31 (M.2.1 124 31 + w)) (hd_wl_ok j1) hk0 hk1 j3 (by omega) (fun M' g1 g2 => IH M' ?_)
  have e31 : M'.2.1 124 31 = M.2.1 124 31 + w := (g2 124 31 (by decide)).2.1
  refine ⟨g1, ts_fr2 (hd_wl_fr (by decide) j2) (by decide) g2, by omega, by omega, ?_, ?_, fun _ hs => ?_, fun ha hs => ?_⟩
  · rw [e31]; omega
  · rw [e31]; omega
  · rw [e31]
    by_cases h0 : s = 0
    · have := i6 h0 hs
      omega
    · have : s.toInt ≠ 0 := fun e => h0 (Int32.toInt_inj.mp (e.trans (by decide)))
      have := j7 (by omega) hs
      omega
  · rw [e31]
    have : s = ts_a M0 := Int32.toInt_inj.mp (by omega)
    have := i7 this hs
    omega
theorem ts_tail {d : Nat} (hd : 1 ≤ d) {Post : cm_K} (J : cm_S → Prop) (f : Nat) {k s m : Int32} {w : Int64} {M : cm_M} (h0 : 0 ≤ m.toInt) (h1 : m.toInt < 11) (H1 : J (35, [(0, .ref 124), (1, .int k), (2, .int s), (3, .long w), (5, .int (m + 1))], [], ts_f M)) (H2 : J (35, [(0, .ref 124), (1, .int k), (2, .int s), (3, .long w), (5, .int (m + 1))], [], cm_wi (ts_f M) 132 m.toNatClampNeg 0)) : cm_wp cm_ms (cm_Call cm_ms d) none (cm_P mr_281) mr_281.2.2.2.2.2.2 ts_st J (cm_ret mr_281.2.2.2.1 Post) (f + 30) (78, [(3, .long w), (0, .ref 124), (1, .int k), (2, .int s), (5, .int m)], [], ts_f M) := by
  show cm_cs [] ≤ 8 ∧ ev_nar1 _ _ = true ∧ (_ → _) ∧ cm_Call cm_ms d 168 [.int s, .int m] (ts_f M) _
  refine ⟨by decide, by decide, fun h => absurd h (by decide), cm_Call_up (ts_bit _ s m) hd (fun v M' hv => ?_)⟩
  obtain ⟨rfl, b, rfl, hb⟩ := hv
  show 0 ≤ _ ∧ (ev_cmp 0 b 0 = true → _) ∧ (ev_cmp 0 b 0 = false → _)
  refine ⟨(by decide : (0 : Int) ≤ 95), fun _ => ?_, fun _ => ?_⟩
  · show 5 < 6 ∧ 0 ≤ _ ∧ _
    exact ⟨by decide, (by decide : (0 : Int) ≤ 35), H1⟩
  · show (cm_kind 124).1 = _ ∧ _ < _ ∧ (cm_kind 132).1 = _ ∧ 0 ≤ m.toInt ∧ m.toInt < _ ∧ 5 < 6 ∧ 0 ≤ _ ∧ _
    exact ⟨by decide, by decide, by decide, h0, h1, by decide, (by decide : (0 : Int) ≤ 35), H2⟩
