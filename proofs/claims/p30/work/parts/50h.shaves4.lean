/-! BY HAND: the weights of shaves, the loops -/
theorem ts_wi {M : cm_M} {i : Nat} (h : ab_ok hp hN M) (hi : i < 11) : ab_ok hp hN (cm_wi M 132 i 0) := by
  have hb : ∀ i, i < 11 → (ab_hi hp 132 i).1 ≤ 0 ∧ 0 ≤ (ab_hi hp 132 i).2 := by decide +kernel
  refine ⟨fun a b => ?_, fun a b => h.2.1 a b, h.2.2⟩
  show ev_inb (ab_hi hp a b) (if a = 132 ∧ b = i then 0 else M.1 a b)
  split
  · rename_i e
    rw [e.1, e.2]
    exact hb i hi
  · exact h.1 a b
theorem ts_wf {M0 M : cm_M} {i : Nat} {x : Int32} (h : ab_fr ts_md M0 M) : ab_fr ts_md M0 (cm_wi M 132 i x) := by
  intro a b hm
  obtain ⟨h1, h2, h3⟩ := h a b hm
  refine ⟨?_, h2, h3⟩
  show (if a = 132 ∧ b = i then x else M.1 a b) = _
  rw [if_neg ?_]
  · exact h1
  · rintro ⟨rfl, rfl⟩
    cases hm
theorem ts_step {M0 M M' : cm_M} (hM0 : ab_ok hp hN M0) {s m x : Int32} {w : Int64} (hJ : ts_J2 M0 M s m w) (hJ' : ts_J1 M0 M' s) (hlt : m.toInt < (M0.1 127 3).toInt) (hx0 : 0 ≤ x.toInt) (hx1 : x.toInt ≤ 100) (f1 : s = 0 → (M0.1 127 2).toInt < 100 → 1 ≤ x.toInt) (f2 : s = ts_a M0 → (M0.1 127 2).toInt = 100 → 1 ≤ x.toInt) : ts_J2 M0 M' s (m + 1) (w * x.toInt64) := by
  obtain ⟨-, i1, i2, i3, i4, i5, i6, i7⟩ := hJ
  obtain ⟨-, n1, n2⟩ := ts_hi hM0
  have hinc := hd_inc (i := m) (by omega)
  obtain ⟨e1, e2, e3, e4⟩ := ts_mul (w := w) (x := x) (m := m.toInt.toNat) (by omega) i4 i5 hx0 hx1
  have em : (m + 1).toInt.toNat = m.toInt.toNat + 1 := by omega
  refine ⟨hJ', i1, by omega, by omega, by rw [e1]; exact e2, by rw [e1, em]; exact e3, fun a b => ?_, fun a b => ?_⟩
  · rw [e1]
    exact e4 (i6 a b) (f1 a b)
  · rw [e1]
    exact e4 (i7 a b) (f2 a b)
theorem ts_C {d : Nat} (hd : 1 ≤ d) {Post : cm_K} {M0 : cm_M} (hM0 : ab_ok hp hN M0) {k s : Int32} (HD : ∀ (M : cm_M) (m : Int32) (w : Int64), ts_J2 M0 M s m w → cm_At cm_ms d mr_281 Post (101, [(0, .ref 124), (1, .int k), (2, .int s), (3, .long w)], [], M)) : ∀ (j : Nat) (M : cm_M) (m : Int32) (w : Int64), ts_J2 M0 M s m w → (M0.1 127 3).toInt - m.toInt < (j : Int) → cm_At cm_ms d mr_281 Post (35, [(0, .ref 124), (1, .int k), (2, .int s), (3, .long w), (5, .int m)], [], M) := by
  intro j
  induction j with
  | zero =>
    intro M m w hJ hj
    exact absurd hJ.2.2.2.1 (by omega)
  | succ j ih =>
    intro M m w hJ hj
    have hok := hJ.1.1
    have e127 : ∀ i, M.1 127 i = M0.1 127 i := fun i => (hJ.1.2.1 127 i rfl).1
    obtain ⟨⟨s1, s2⟩, n1, n2⟩ := ts_hi hM0
    have i2 := hJ.2.2.1
    have IH' : ∀ (M' : cm_M) (x : Int32), m.toInt < (M0.1 127 3).toInt → ts_J1 M0 M' s → 0 ≤ x.toInt → x.toInt ≤ 100 → (s = 0 → (M0.1 127 2).toInt < 100 → 1 ≤ x.toInt) → (s = ts_a M0 → (M0.1 127 2).toInt = 100 → 1 ≤ x.toInt) → cm_At cm_ms d mr_281 Post (35, [(0, .ref 124), (1, .int k), (2, .int s), (3, .long (w * x.toInt64)), (5, .int (m + 1))], [], M') := fun M' x hlt hJ' g0 g1 f1 f2 => ih M' (m + 1) _ (ts_step hM0 hJ hJ' hlt g0 g1 f1 f2) (by have := hd_inc (i := m) (by omega); omega)
    have hJf : ts_J1 M0 (ts_f M) s := by rw [ts_f_eq hok]; exact hJ.1
    have h101 := HD M m w hJ
    rw [← ts_f_eq hok] at h101
    rw [← ts_f_eq hok]
    refine cm_At_run cm_ms_ok (k := 281) rfl (stops := ts_st) (J := cm_At cm_ms d mr_281 Post) (fun S hS => hS) (n := 80) ?_
    show (cm_kind 124).1 = _ ∧ _ < _ ∧ (cm_kind 127).1 = _ ∧ 0 ≤ _ ∧ _ < _ ∧ 0 ≤ _ ∧ (ev_cmp 3 m (M.1 127 3) = true → _) ∧ (ev_cmp 3 m (M.1 127 3) = false → _)
    refine ⟨by decide, by decide, by decide, by decide, by decide, (by decide : (0 : Int) ≤ 101), fun hc => h101, fun hc => ?_⟩
    have hlt : m.toInt < (M0.1 127 3).toInt := by
      have h1 : ¬ M.1 127 3 ≤ m := of_decide_eq_false hc
      rw [Int32.le_iff_toInt_le, e127 3] at h1
      omega
    have hJw : ts_J1 M0 (cm_wi (ts_f M) 132 m.toNatClampNeg 0) s := by
      obtain ⟨j1, j2, j3⟩ := hJf
      refine ⟨ts_wi j1 ?_, ts_wf j2, j3⟩
      have : (m.toNatClampNeg : Int) = m.toInt := by
        rw [Int32.toNatClampNeg]
        omega
      omega
    show cm_cs [.long w] ≤ 8 ∧ ev_nar1 _ _ = true ∧ (_ → _) ∧ cm_Call cm_ms d 168 [.int s, .int m] (ts_f M) _
    refine ⟨by show 2 ≤ 8; decide, by decide, fun h => absurd h (by decide), cm_Call_up (ts_bit _ s m) hd (fun v M' hv => ?_)⟩
    obtain ⟨rfl, b, rfl, hb⟩ := hv
    show 0 ≤ _ ∧ (ev_cmp 0 b 0 = true → _) ∧ (ev_cmp 0 b 0 = false → _)
    refine ⟨(by decide : (0 : Int) ≤ 66), fun hc2 => ?_, fun hc2 => ?_⟩
    · have hb0 : b = 0 := of_decide_eq_true hc2
      have hnb : (s >>> (m &&& 31)) &&& 1 ≠ 1 := by
        rcases hb with ⟨e, _⟩ | ⟨_, e⟩
        · rw [hb0] at e
          exact absurd e (by decide)
        · exact e
      have hx : (100 - M0.1 127 2).toInt = 100 - (M0.1 127 2).toInt := by
        have h1 : (100 : Int32).toInt = 100 := by decide
        rw [Int32.toInt_sub, h1, ev_bm (by omega) (by omega)]
      have f1 : s = 0 → (M0.1 127 2).toInt < 100 → 1 ≤ (100 - M0.1 127 2).toInt := fun _ h => by rw [hx]; omega
      have f2 : s = ts_a M0 → (M0.1 127 2).toInt = 100 → 1 ≤ (100 - M0.1 127 2).toInt := fun h _ => by
        rw [h] at hnb
        exact absurd ((ts_an hM0).2.2 m i2 hlt) hnb
      show (cm_kind 124).1 = _ ∧ _ < _ ∧ (cm_kind 127).1 = _ ∧ 0 ≤ _ ∧ _ < _ ∧ 3 + 1 < 6 ∧ _
      refine ⟨by decide, by decide, by decide, by decide, by decide, by decide, ?_⟩
      refine ts_tail hd (cm_At cm_ms d mr_281 Post) 30 (w := w * (100 - M.1 127 2).toInt64) i2 (by omega) ?_ ?_
      · rw [e127 2]
        exact IH' _ _ hlt hJf (by rw [hx]; omega) (by rw [hx]; omega) f1 f2
      · rw [e127 2]
        exact IH' _ _ hlt hJw (by rw [hx]; omega) (by rw [hx]; omega) f1 f2
    · have hb1 : (s >>> (m &&& 31)) &&& 1 = 1 := by
        rcases hb with ⟨_, e⟩ | ⟨e, _⟩
        · exact e
        · exact absurd e (of_decide_eq_false hc2)
      have f1 : s = 0 → (M0.1 127 2).toInt < 100 → 1 ≤ (M0.1 127 2).toInt := fun h _ => by
        rw [h] at hb1
        exact absurd hb1 (ts_zero m)
      have f2 : s = ts_a M0 → (M0.1 127 2).toInt = 100 → 1 ≤ (M0.1 127 2).toInt := fun _ h => by omega
      show (cm_kind 124).1 = _ ∧ _ < _ ∧ (cm_kind 127).1 = _ ∧ 0 ≤ _ ∧ _ < _ ∧ 0 ≤ _ ∧ 3 + 1 < 6 ∧ _
      refine ⟨by decide, by decide, by decide, by decide, by decide, (by decide : (0 : Int) ≤ 76), by decide, ?_⟩
      refine ts_tail hd (cm_At cm_ms d mr_281 Post) 31 (w := w * (M.1 127 2).toInt64) i2 (by omega) ?_ ?_
      · rw [e127 2]
        exact IH' _ _ hlt hJf s1 s2 f1 f2
      · rw [e127 2]
        exact IH' _ _ hlt hJw s1 s2 f1 f2
def ts_P (M0 : cm_M) : cm_K := fun v M' => v = none ∧ ab_ok hp hN M' ∧ ab_fr ts_md M0 M' ∧ M'.2.1 124 31 ≠ 0
theorem ts_B {d : Nat} (hd : 1 ≤ d) (hG : ab_CT cm_ms hp hN d tc_go) (hY : ab_CT cm_ms hp hN d tc_yes) (hE : ab_CT cm_ms hp hN d tc_en) {M0 : cm_M} (hM0 : ab_ok hp hN M0) {k : Int32} (hk0 : 0 ≤ k.toInt) (hk1 : k.toInt ≤ 4) : ∀ (j : Nat) (M : cm_M) (s : Int32), ts_J1 M0 M s → (ts_a M0).toInt + 1 - s.toInt < (j : Int) → cm_At cm_ms d mr_281 (ts_P M0) (17, [(0, .ref 124), (1, .int k), (2, .int s)], [], M) := by
  intro j
  induction j with
  | zero =>
    intro M s hJ hj
    exact absurd hJ.2.2.2.1 (by omega)
  | succ j ih =>
    intro M s hJ hj
    have hJ0 := hJ
    obtain ⟨j1, j2, j3, j4, j5, j6, j7, j8⟩ := hJ
    obtain ⟨a1, a2, -⟩ := ts_an hM0
    obtain ⟨⟨s1, s2⟩, n1, n2⟩ := ts_hi hM0
    have ea : ts_a M = ts_a M0 := by
      unfold ts_a
      rw [(j2 127 3 rfl).1]
    refine cm_At_run cm_ms_ok (k := 281) rfl (stops := ts_st) (J := cm_At cm_ms d mr_281 (ts_P M0)) (fun S hS => hS) (n := 40) ?_
    show cm_cs [.int s] ≤ 8 ∧ ev_nar1 _ _ = true ∧ (_ → _) ∧ cm_Call cm_ms d 208 [.ref 124] M _
    refine ⟨by show 1 ≤ 8; decide, by decide, fun _ => Or.inr rfl, cm_Call_up (ts_all j1) hd (fun v M' hv => ?_)⟩
    obtain ⟨rfl, rfl⟩ := hv
    show 0 ≤ _ ∧ (ev_cmp 4 s (ts_a M') = true → _) ∧ (ev_cmp 4 s (ts_a M') = false → _)
    refine ⟨(by decide : (0 : Int) ≤ 164), fun hc => ?_, fun hc => ?_⟩
    · show ts_P M0 none M'
      have h1 : ts_a M' < s := of_decide_eq_true hc
      rw [ea, Int32.lt_iff_toInt_lt] at h1
      refine ⟨rfl, j1, j2, fun e => ?_⟩
      rw [e] at j7 j8
      have h0 : (0 : Int64).toInt = 0 := by decide
      rw [h0] at j7 j8
      by_cases h : (M0.1 127 2).toInt < 100
      · have := j7 (by omega) h
        omega
      · have := j8 (by omega) (by omega)
        omega
    · have h1 : ¬ ts_a M' < s := of_decide_eq_false hc
      rw [ea, Int32.lt_iff_toInt_lt] at h1
      have hk : ab_k [1] [((-2147483648), 2147483647, 0, (0, 0, []), (0, 0, []))] := by
        refine ⟨rfl, fun j r x g1 g2 => ?_⟩
        match j with
        | 0 => cases g1; cases g2; exact ⟨ev_ful_in _, Or.inl rfl⟩
        | j + 1 => cases g1
      show cm_cs [] ≤ 8 ∧ ev_nar1 _ _ = true ∧ (_ → _) ∧ cm_Call cm_ms d 220 [.ref 124, .int 1] M' _
      refine ⟨by decide, by decide, fun _ => Or.inr rfl, cm_Call_up (hG [1] [.ref 124, .int 1] M' ⟨⟨124, List.mem_singleton.mpr rfl, rfl⟩, ⟨1, rfl, rfl⟩, trivial⟩ hk j1 (fun q hq => nomatch hq)) (Nat.le_refl _) (fun v M'' hv => ?_)⟩
      obtain ⟨o, ho, ext, p1, p2, p3⟩ := hv
      have ho := List.mem_singleton.mp ho
      subst ho
      have hvn := ab_s_nil p1
      cases v with
      | some v => cases hvn
      | none =>
        have e31 : M''.2.1 124 31 = M'.2.1 124 31 := (p3.2.1 124 31 (by decide)).2.1
        show 3 + 1 < 6 ∧ 5 < 6 ∧ _
        refine ⟨by decide, by decide, ?_⟩
        refine ts_C hd hM0 (fun M2 m w hJ2 => ts_D hY hE hM0 hk0 hk1 hJ2 (fun M3 hJ3 => ih M3 (s + 1) hJ3 (by have := hd_inc (i := s) (by omega); omega))) 7 M'' 0 1 ⟨⟨p3.1, ts_fr2 j2 (by decide) p3.2.1, j3, j4, by rw [e31]; exact j5, by rw [e31]; exact j6, by rw [e31]; exact j7, by rw [e31]; exact j8⟩, by omega, by decide, n1, by decide, by decide, fun _ _ => by decide, fun _ _ => by decide⟩ ?_
        have h0 : (0 : Int32).toInt = 0 := by decide
        rw [h0]
        omega
theorem hd_shaves {d : Nat} (hd : 1 ≤ d) (hG : ab_CT cm_ms hp hN d tc_go) (hY : ab_CT cm_ms hp hN d tc_yes) (hE : ab_CT cm_ms hp hN d tc_en) {M0 : cm_M} (hM0 : ab_ok hp hN M0) {k : Int32} (hk0 : 0 ≤ k.toInt) (hk1 : k.toInt ≤ 4) : cm_Call cm_ms (d + 1) 281 [.ref 124, .int k] M0 (ts_P M0) := by
  obtain ⟨a1, a2, -⟩ := ts_an hM0
  refine cm_Call_of cm_ms_ok (k := 281) (mi := mr_281) rfl (by show 2 ≤ 6; decide) ?_
  refine cm_At_run cm_ms_ok (k := 281) rfl (stops := ts_st) (J := cm_At cm_ms d mr_281 (ts_P M0)) (fun S hS => hS) (n := 30) ?_
  show (cm_kind 124).1 = _ ∧ _ < _ ∧ _ = false ∧ _ ∧ (cm_kind 124).1 = _ ∧ _ < _ ∧ _ = false ∧ _ ∧ (cm_kind 124).1 = _ ∧ _ < _ ∧ _ = false ∧ _ ∧ 2 < 6 ∧ _
  refine ⟨by decide, by decide, by decide, rfl, by decide, by decide, by decide, rfl, by decide, by decide, by decide, rfl, by decide, ?_⟩
  have h0 : (0 : Int32).toInt = 0 := by decide
  have h1 : (0 : Int64).toInt = 0 := by decide
  have e : (cm_wl (cm_wl (cm_wl M0 124 31 0) 124 32 0) 124 33 0).2.1 124 31 = 0 := rfl
  refine ts_B hd hG hY hE hM0 hk0 hk1 66 (cm_wl (cm_wl (cm_wl M0 124 31 0) 124 32 0) 124 33 0) 0 ⟨hd_wl_ok (hd_wl_ok (hd_wl_ok hM0)), hd_wl_fr (by decide) (hd_wl_fr (by decide) (hd_wl_fr (by decide) (ab_fr_rf _ _))), by decide, by rw [h0]; omega, by rw [e]; decide, by rw [e]; decide, fun h => by rw [h0] at h; omega, fun h => by rw [h0] at h; omega⟩ ?_
  rw [h0]
  omega
