/-! BY HAND: the feed of the reference, exactly -/
def mf_S : ab_S := (23, [(0, (1, 0, [124])), (1, (3, 0, [])), (2, (3, 1, [])), (3, (3, 2, [])), (4, (3, 3, [])), (5, (3, 4, [])), (6, (3, 5, []))], [], [fs_F, fs_F, fs_F, fs_F, fs_F, (0, 19, 0, (0, 0, []), (0, 0, [])), (0, 899, 0, (0, 0, []), (0, 0, []))], [(124, 2, (3, 6, []))])
def mf_p (f : Bool × ab_S) : Bool := f.1 && (decide (f.2.1 = 23) && (decide (f.2.2.1 = [(0, (1, 0, [124])), (1, (3, 0, [])), (2, (3, 1, [])), (3, (3, 2, [])), (4, (3, 3, [])), (5, (3, 4, [])), (6, (3, 13, []))]) && (decide (f.2.2.2.1 = []) && (decide ((f.2.2.2.2.1[13]?).map (fun r => r.2.2) = some (1, (3, ((5 : Nat) : Int), []), (0, 1, []))) && (decide ((f.2.2.2.2.1[12]?).map (fun r => r.2.2) = some (1, (3, ((6 : Nat) : Int), []), (0, 1, []))) && decide (f.2.2.2.2.2 = [(124, 2, (3, 12, []))]))))))
abbrev mf_md : ab_Md := [(124, [0, 2]), (125, [])]
set_option maxRecDepth 1000000 in
theorem mf_chk : (ab_run (ab_cl cm_ms hp mf_md [] [] 0) hp mf_md (cm_P mr_172) mr_172.2.2.2.2.2.2 [(23, [0, 1, 2, 3, 4, 5, 6])] 80 mf_S).any (fun fs => fs.all mf_p) = true := by decide +kernel
theorem mf_turn {Post : cm_K} {a b c d e k : Int32} {M : cm_M} (hM : ab_ok hp hN M) (h0 : 0 ≤ k.toInt) (h1 : k.toInt ≤ 19) (t0 : 0 ≤ (M.1 124 2).toInt) (t1 : (M.1 124 2).toInt ≤ 899) (IH : ∀ M', ab_ok hp hN M' → ab_fr mf_md M M' → M'.1 124 2 = M.1 124 2 + 1 → cm_At cm_ms 0 mr_172 Post (23, [(0, .ref 124), (1, .int a), (2, .int b), (3, .int c), (4, .int d), (5, .int e), (6, .int (k + 1))], [], M')) : cm_At cm_ms 0 mr_172 Post (23, [(0, .ref 124), (1, .int a), (2, .int b), (3, .int c), (4, .int d), (5, .int e), (6, .int k)], [], M) := by
  refine hd_mid (fun _ h => absurd h List.not_mem_nil) (k := 172) rfl mf_chk (ρ := [a, b, c, d, e, k, M.1 124 2]) (M0 := M) ⟨rfl, ?_, trivial, ?_, hM, ab_fr_rf _ _, ?_⟩ (fun f hp1 ext C' hG => ?_)
  · intro q hq
    simp only [mf_S, List.mem_cons, List.not_mem_nil, or_false] at hq
    rcases hq with rfl | rfl | rfl | rfl | rfl | rfl | rfl
    · exact ⟨_, rfl, 124, List.mem_singleton.mpr rfl, rfl⟩
    · exact ⟨_, rfl, a, rfl, rfl⟩
    · exact ⟨_, rfl, b, rfl, rfl⟩
    · exact ⟨_, rfl, c, rfl, rfl⟩
    · exact ⟨_, rfl, d, rfl, rfl⟩
    · exact ⟨_, rfl, e, rfl, rfl⟩
    · exact ⟨_, rfl, k, rfl, rfl⟩
  · refine ⟨rfl, fun j r y g1 g2 => ?_⟩
    match j with
    | 0 => cases g1; cases g2; exact ⟨ev_ful_in _, Or.inl rfl⟩
    | 1 => cases g1; cases g2; exact ⟨ev_ful_in _, Or.inl rfl⟩
    | 2 => cases g1; cases g2; exact ⟨ev_ful_in _, Or.inl rfl⟩
    | 3 => cases g1; cases g2; exact ⟨ev_ful_in _, Or.inl rfl⟩
    | 4 => cases g1; cases g2; exact ⟨ev_ful_in _, Or.inl rfl⟩
    | 5 => cases g1; cases g2; exact ⟨⟨h0, h1⟩, Or.inl rfl⟩
    | 6 => cases g1; cases g2; exact ⟨⟨t0, t1⟩, Or.inl rfl⟩
    | j + 7 => cases g1
  · intro q hq
    have hq := List.mem_singleton.mp hq
    subst hq
    rfl
  · simp only [mf_p, Bool.and_eq_true, decide_eq_true_eq] at hp1
    obtain ⟨h1, h2, h3, h4, h5, h6, h7⟩ := hp1
    refine ⟨h1, ?_⟩
    obtain ⟨g1, g2, g3, g4, g5⟩ := hG
    obtain ⟨pc, CL, sc, M'⟩ := C'
    dsimp only at g1 g2 g3 g4 g5
    rw [h2] at g1
    subst g1
    rw [h4] at g3
    have hsc := ab_s_nil g3
    subst hsc
    rw [h3] at g2
    obtain ⟨v0, l0, c0, hc0, rfl⟩ := g2 (0, (1, 0, [124])) (by decide)
    have hc0 := List.mem_singleton.mp hc0
    subst hc0
    obtain ⟨v1, l1, x1, hx1, rfl⟩ := g2 (1, (3, 0, [])) (by decide)
    have e1 : some a = some x1 := hx1
    cases e1
    obtain ⟨v2, l2, x2, hx2, rfl⟩ := g2 (2, (3, 1, [])) (by decide)
    have e2 : some b = some x2 := hx2
    cases e2
    obtain ⟨v3, l3, x3, hx3, rfl⟩ := g2 (3, (3, 2, [])) (by decide)
    have e3 : some c = some x3 := hx3
    cases e3
    obtain ⟨v4, l4, x4, hx4, rfl⟩ := g2 (4, (3, 3, [])) (by decide)
    have e4 : some d = some x4 := hx4
    cases e4
    obtain ⟨v5, l5, x5, hx5, rfl⟩ := g2 (5, (3, 4, [])) (by decide)
    have e5 : some e = some x5 := hx5
    cases e5
    obtain ⟨v6, l6, x6, hx6, rfl⟩ := g2 (6, (3, 13, [])) (by decide)
    obtain ⟨y, hy, rfl⟩ := hd_sum g4 h5 hx6
    have hy : some k = some y := hy
    cases hy
    have hca := g5.2.2 (124, 2, (3, 12, [])) (by rw [h7]; exact List.mem_singleton.mpr rfl)
    have hca : ([a, b, c, d, e, k, M.1 124 2] ++ ext)[12]? = some (M'.1 124 2) := hca
    obtain ⟨z, hz, e⟩ := hd_sum g4 h6 hca
    have hz : some (M.1 124 2) = some z := hz
    cases hz
    refine ts_sub (IH M' g5.1 g5.2.1 e) (fun q hq => ?_)
    simp only [List.mem_cons, List.not_mem_nil, or_false] at hq
    rcases hq with rfl | rfl | rfl | rfl | rfl | rfl | rfl
    · exact l0
    · exact l1
    · exact l2
    · exact l3
    · exact l4
    · exact l5
    · exact l6
def mf_P (M0 : cm_M) : cm_K := fun v M' => ab_ok hp hN M' ∧ ab_fr mf_md M0 M' ∧ ∃ r : Int32, v = some (.int r) ∧ ((880 < (M0.1 124 2).toInt ∧ r = -1 ∧ M'.1 124 2 = M0.1 124 2) ∨ ((M0.1 124 2).toInt ≤ 880 ∧ r = M'.1 124 2 ∧ (M'.1 124 2).toInt = (M0.1 124 2).toInt + 20))
def mf_Q (M0 : cm_M) (t : Int) : cm_K := fun v M' => ab_ok hp hN M' ∧ ab_fr mf_md M0 M' ∧ v = some (.int (M'.1 124 2)) ∧ (M'.1 124 2).toInt = t
theorem mf_hi {M : cm_M} (h : ab_ok hp hN M) : 0 ≤ (M.1 124 2).toInt ∧ (M.1 124 2).toInt ≤ 900 := by
  have h2 := h.1 124 2
  rw [show ab_hi hp 124 2 = (0, 900) from by decide +kernel] at h2
  exact h2
theorem mf_loop {M0 : cm_M} {t : Int} (ht : t ≤ 900) {Post : cm_K} (hP : ∀ v M', mf_Q M0 t v M' → Post v M') (a b c d e : Int32) : ∀ (j : Nat) (k : Int32) (M : cm_M), j ≤ 20 → k.toInt = 20 - (j : Int) → ab_ok hp hN M → ab_fr mf_md M0 M → (M.1 124 2).toInt + (j : Int) = t → cm_At cm_ms 0 mr_172 Post (23, [(0, .ref 124), (1, .int a), (2, .int b), (3, .int c), (4, .int d), (5, .int e), (6, .int k)], [], M) := by
  intro j
  induction j with
  | zero =>
    intro k M hj hk hok hfr hs
    refine cm_At_run cm_ms_ok (k := 172) rfl (stops := []) (J := fun _ => False) (fun S hS => hS.elim) (n := 10) ?_
    show 0 ≤ _ ∧ (ev_cmp 3 k 20 = true → _) ∧ (ev_cmp 3 k 20 = false → _)
    refine ⟨(by decide : (0 : Int) ≤ 120), fun _ => ?_, fun hc => ?_⟩
    · show (cm_kind 124).1 = _ ∧ _ < _ ∧ Post (some (.int (M.1 124 2))) M
      exact ⟨by decide, by decide, hP _ _ ⟨hok, hfr, rfl, by omega⟩⟩
    · have h1 : ¬ (20 : Int32) ≤ k := of_decide_eq_false hc
      rw [Int32.le_iff_toInt_le] at h1
      have h0 : (20 : Int32).toInt = 20 := by decide
      omega
  | succ j ih =>
    intro k M hj hk hok hfr hs
    have hb := mf_hi hok
    refine mf_turn hok (by omega) (by omega) hb.1 (by omega) (fun M' g1 g2 g3 => ih _ M' (by omega) ?_ g1 (fs_tr hfr g2) ?_)
    · rw [hd_inc (by omega)]
      omega
    · rw [g3, hd_inc (by omega)]
      omega
theorem mf_w0 {M : cm_M} (h : ab_ok hp hN M) : ab_ok hp hN (cm_wi M 124 0 0) := by
  refine ⟨fun a b => ?_, fun a b => h.2.1 a b, h.2.2⟩
  show ev_inb (ab_hi hp a b) (if a = 124 ∧ b = 0 then 0 else M.1 a b)
  split
  · rename_i e
    rw [e.1, e.2, show ab_hi hp 124 0 = ev_ful from by decide +kernel]
    exact ev_ful_in _
  · exact h.1 a b
theorem mf_f0 {M : cm_M} : ab_fr mf_md M (cm_wi M 124 0 0) := by
  intro a b hm
  refine ⟨?_, rfl, rfl⟩
  show (if a = 124 ∧ b = 0 then 0 else M.1 a b) = _
  rw [if_neg ?_]
  rintro ⟨rfl, rfl⟩
  cases hm
theorem hd_mfeed {M : cm_M} (hok : ab_ok hp hN M) (a b c d e : Int32) : cm_Call cm_ms 1 172 [.ref 124, .int a, .int b, .int c, .int d, .int e] M (mf_P M) := by
  have hb := mf_hi hok
  have h20 : (M.1 124 2 + 20).toInt = (M.1 124 2).toInt + 20 := by
    have h1 : (20 : Int32).toInt = 20 := by decide
    rw [Int32.toInt_add, h1, ev_bm (by omega) (by omega)]
  have h900 : (900 : Int32).toInt = 900 := by decide
  refine cm_Call_of cm_ms_ok (k := 172) (mi := mr_172) rfl (by show 6 ≤ 8; decide) ?_
  refine cm_At_run cm_ms_ok (k := 172) rfl (stops := [(23, [0, 1, 2, 3, 4, 5, 6])]) (J := cm_At cm_ms 0 mr_172 (mf_P M)) (fun S hS => hS) (n := 30) ?_
  show (cm_kind 124).1 = _ ∧ _ < _ ∧ _ = false ∧ (_ = 0 ∧ _) ∧ (cm_kind 124).1 = _ ∧ _ < _ ∧ 0 ≤ _ ∧ (ev_cmp 5 (M.1 124 2 + 20) 900 = true → _) ∧ (ev_cmp 5 (M.1 124 2 + 20) 900 = false → _)
  refine ⟨by decide, by decide, by decide, ⟨by decide, fun _ => Or.inl rfl⟩, by decide, by decide, (by decide : (0 : Int) ≤ 20), fun hc => ?_, fun hc => ?_⟩
  · have h1 : M.1 124 2 + 20 ≤ 900 := of_decide_eq_true hc
    rw [Int32.le_iff_toInt_le, h20, h900] at h1
    show 6 < 8 ∧ _
    refine ⟨by decide, ?_⟩
    refine mf_loop (M0 := M) (t := (M.1 124 2).toInt + 20) (by omega) (fun v M' hv => ?_) a b c d e 20 0 (cm_wi M 124 0 0) (by decide) (by decide) (mf_w0 hok) mf_f0 rfl
    obtain ⟨q1, q2, q3, q4⟩ := hv
    exact ⟨q1, q2, _, q3, Or.inr ⟨by omega, rfl, q4⟩⟩
  · have h1 : ¬ M.1 124 2 + 20 ≤ 900 := of_decide_eq_false hc
    rw [Int32.le_iff_toInt_le, h20, h900] at h1
    show mf_P M (some (.int (-1))) (cm_wi M 124 0 0)
    exact ⟨mf_w0 hok, mf_f0, -1, rfl, Or.inl ⟨by omega, rfl, rfl⟩⟩
