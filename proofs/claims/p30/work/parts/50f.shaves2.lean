/-! BY HAND: the weights of shaves, the rounds -/
theorem ts_sub {d : Nat} {mi : ev_MI} {Post : cm_K} {pc : Nat} {L L' : List (Nat × Value)} {st : List Value} {M : cm_M} (h : cm_At cm_ms d mi Post (pc, L', st, M)) (hL : ∀ q ∈ L', cm_look L q.1 = some q.2) : cm_At cm_ms d mi Post (pc, L, st, M) := cm_At_sub h hL
theorem ts_any {α : Type} {o : Option α} {p : α → Bool} (h : o.any p = true) : ∃ a, o = some a ∧ p a = true := by
  cases o with
  | none => cases h
  | some a => exact ⟨a, rfl, h⟩
def tc_yes : ab_Ct := (214, [(1, 0, [124]), (1, 0, [129, 132]), (3, 0, [])], [(0, 8, 0, (0, 0, []), (0, 0, []))], [], [], [([(3, 1, [])], [(0, 8, 0, (0, 0, []), (0, 0, [])), ((-2147483648), 2147483647, 0, (0, 0, []), (0, 0, []))], [])])
def tc_en : ab_Ct := (215, [(1, 0, [124]), (1, 0, [129, 132]), (3, 0, [])], [(0, 8, 0, (0, 0, []), (0, 0, []))], [], [], [([(3, 1, [])], [(0, 8, 0, (0, 0, []), (0, 0, [])), (0, 1, 0, (0, 0, []), (0, 0, []))], [])])
def tc_go : ab_Ct := (220, [(1, 0, [124]), (3, 0, [])], [((-2147483648), 2147483647, 0, (0, 0, []), (0, 0, []))], [], [(129, [0, 1, 2, 3, 4, 5, 10]), (132, [])], [([], [((-2147483648), 2147483647, 0, (0, 0, []), (0, 0, []))], [])])
def ts_S0 : ab_S := (111, [(0, (1, 0, [124])), (1, (3, 0, [])), (2, (3, 1, [])), (3, (6, 0, []))], [], [(0, 4, 0, (0, 0, []), (0, 0, [])), (0, 63, 0, (0, 0, []), (0, 0, []))], [])
def ts_p (f : Bool × ab_S) : Bool := f.1 && (decide (f.2.1 = 17) && (decide (f.2.2.1 = [(0, (1, 0, [124])), (1, (3, 0, [])), (2, (3, 4, []))]) && (decide (f.2.2.2.1 = []) && decide ((f.2.2.2.2.1[4]?).map (fun r => r.2.2) = some (1, (3, 1, []), (0, 1, []))))))
set_option maxRecDepth 1000000 in
theorem ts_chk : (ab_run (ab_cl cm_ms hp [(124, [32, 33])] [tc_yes, tc_en] [] 0) hp [(124, [32, 33])] (cm_P mr_281) mr_281.2.2.2.2.2.2 [(17, [0, 1, 2])] 60 ts_S0).any (fun fs => fs.all ts_p) = true := by decide +kernel
theorem ts_k2 {k s : Int32} {a b c e : Int} (h1 : a ≤ k.toInt) (h2 : k.toInt ≤ b) (h3 : c ≤ s.toInt) (h4 : s.toInt ≤ e) : ab_k [k, s] [(a, b, 0, (0, 0, []), (0, 0, [])), (c, e, 0, (0, 0, []), (0, 0, []))] := by
  refine ⟨rfl, fun j r x g1 g2 => ?_⟩
  match j with
  | 0 => cases g1; cases g2; exact ⟨⟨h1, h2⟩, Or.inl rfl⟩
  | 1 => cases g1; cases g2; exact ⟨⟨h3, h4⟩, Or.inl rfl⟩
  | j + 2 => cases g1
theorem ts_D2 {d : Nat} (hY : ab_CT cm_ms hp hN d tc_yes) (hE : ab_CT cm_ms hp hN d tc_en) {Post : cm_K} {k s : Int32} {w : Int64} {M : cm_M} (hM : ab_ok hp hN M) (hk0 : 0 ≤ k.toInt) (hk1 : k.toInt ≤ 4) (hs0 : 0 ≤ s.toInt) (hs1 : s.toInt ≤ 63) (IH : ∀ M', ab_ok hp hN M' → ab_fr [(124, [32, 33])] M M' → cm_At cm_ms d mr_281 Post (17, [(0, .ref 124), (1, .int k), (2, .int (s + 1))], [], M')) : cm_At cm_ms d mr_281 Post (111, [(0, .ref 124), (1, .int k), (2, .int s), (3, .long w)], [], M) := by
  refine cm_At_run cm_ms_ok (k := 281) rfl (stops := [(17, [0, 1, 2])]) (J := cm_At cm_ms d mr_281 Post) (fun S hS => hS) (n := 60) ?_
  obtain ⟨fs, hfs, hall⟩ := ts_any ts_chk
  have hus : ∀ c ∈ [tc_yes, tc_en], ab_CT cm_ms hp hN d c := List.forall_mem_cons.mpr ⟨hY, List.forall_mem_cons.mpr ⟨hE, fun _ h => absurd h List.not_mem_nil⟩⟩
  refine ab_run_ok (M0 := M) hNP (ab_cl_ok cm_ms_ok cm_ms_rc hNP hus 0) (cm_ms_rc 281 mr_281 rfl) 60 _ fs _ [k, s] hfs ⟨rfl, ?_, trivial, ts_k2 hk0 hk1 hs0 hs1, hM, ab_fr_rf _ _, fun q hq => nomatch hq⟩ (fun f hf ext C' hG => ?_)
  · intro q hq
    simp only [ts_S0, List.mem_cons, List.not_mem_nil, or_false] at hq
    rcases hq with rfl | rfl | rfl | rfl
    · exact ⟨_, rfl, 124, List.mem_singleton.mpr rfl, rfl⟩
    · exact ⟨_, rfl, k, rfl, rfl⟩
    · exact ⟨_, rfl, s, rfl, rfl⟩
    · exact ⟨_, rfl, w, rfl⟩
  · have h1 := List.all_eq_true.mp hall f hf
    simp only [ts_p, Bool.and_eq_true, decide_eq_true_eq] at h1
    obtain ⟨h1, h2, h3, h4, h5⟩ := h1
    refine ⟨fun _ => ?_, fun h0 => by rw [h1] at h0; cases h0⟩
    obtain ⟨g1, g2, g3, g4, g5⟩ := hG
    obtain ⟨pc, CL, sc, M'⟩ := C'
    dsimp only at g1 g2 g3 g4 g5
    rw [h2] at g1
    subst g1
    rw [h4] at g3
    have hsc := ab_s_nil g3
    subst hsc
    rw [h3] at g2
    obtain ⟨v0, l0, c0, hc0, rfl⟩ := g2 (0, (1, 0, [124])) List.mem_cons_self
    obtain ⟨v1, l1, x1, hx1, rfl⟩ := g2 (1, (3, 0, [])) (List.mem_cons_of_mem _ List.mem_cons_self)
    obtain ⟨v2, l2, x2, hx2, rfl⟩ := g2 (2, (3, 4, [])) (List.mem_cons_of_mem _ (List.mem_cons_of_mem _ List.mem_cons_self))
    have hc0 := List.mem_singleton.mp hc0
    subst hc0
    have e1 : some k = some x1 := hx1
    cases e1
    have e2 : x2 = s + 1 := by
      cases hr : f.2.2.2.2.1[4]? with
      | none => rw [hr] at h5; cases h5
      | some r =>
        rw [hr] at h5
        have h5 : r.2.2 = (1, (3, 1, []), (0, 1, [])) := Option.some.inj h5
        have h6 := (g4.2 4 r x2 hr hx2).2
        rw [h5] at h6
        rcases h6 with h6 | ⟨y, z, a1, a2, a3⟩
        · cases h6
        · have a1 : some s = some y := a1
          have a2 : some (Int32.ofInt 1) = some z := a2
          cases a1
          cases a2
          exact a3
    subst e2
    refine ts_sub (IH M' g5.1 g5.2.1) (fun q hq => ?_)
    simp only [List.mem_cons, List.not_mem_nil, or_false] at hq
    rcases hq with rfl | rfl | rfl
    · exact l0
    · exact l1
    · exact l2
