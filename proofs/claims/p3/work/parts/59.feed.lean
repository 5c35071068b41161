/-! BY HAND: feed, exactly -/
/-- a piece of a method by AB -/
theorem hd_mid {d n : Nat} {us : List ab_Ct} (hus : ∀ c ∈ us, ab_CT cm_ms hp hN d c) {md : ab_Md} {stops : List (Nat × List Nat)} {k : Nat} {mi : ev_MI} (hk : cm_ms[k]? = some mi) {Post : cm_K} {S : ab_S} {p : Bool × ab_S → Bool} (hc : (ab_run (ab_cl cm_ms hp md us [] 0) hp md (cm_P mi) mi.2.2.2.2.2.2 stops n S).any (fun fs => fs.all p) = true) {C : cm_S} {ρ : List Int32} {M0 : cm_M} (hG : ab_G hp hN M0 md ρ S C) (H : ∀ f, p f = true → ∀ (ext : List Int32) (C' : cm_S), ab_G hp hN M0 md (ρ ++ ext) f.2 C' → f.1 = true ∧ cm_At cm_ms d mi Post C') : cm_At cm_ms d mi Post C := by
  refine cm_At_run cm_ms_ok hk (stops := stops) (J := cm_At cm_ms d mi Post) (fun S hS => hS) (n := n) ?_
  obtain ⟨fs, hfs, hall⟩ := ts_any hc
  refine ab_run_ok (M0 := M0) hNP (ab_cl_ok cm_ms_ok cm_ms_rc hNP hus 0) (cm_ms_rc k mi hk) n _ fs _ ρ hfs hG (fun f hf ext C' hG' => ?_)
  have h1 := H f (List.all_eq_true.mp hall f hf) ext C' hG'
  exact ⟨fun _ => h1.2, fun h0 => by rw [h1.1] at h0; cases h0⟩
/-- a variable that is a sum -/
theorem hd_sum {ρ : List Int32} {K : ab_K} {j u : Nat} {c : Int} {x : Int32} (hk : ab_k ρ K) (hK : (K[j]?).map (fun r => r.2.2) = some (1, (3, (u : Int), []), (0, c, []))) (hx : ρ[j]? = some x) : ∃ y, ρ[u]? = some y ∧ x = y + Int32.ofInt c := by
  cases hr : K[j]? with
  | none => rw [hr] at hK; cases hK
  | some r =>
    rw [hr] at hK
    have h5 : r.2.2 = (1, (3, (u : Int), []), (0, c, [])) := Option.some.inj hK
    have h6 := (hk.2 j r x hr hx).2
    rw [h5] at h6
    rcases h6 with h6 | ⟨y, z, a1, a2, a3⟩
    · cases h6
    · have a1 : ρ[(u : Int).toNat]? = some y := a1
      have a2 : some (Int32.ofInt c) = some z := a2
      rw [Int.toNat_natCast] at a1
      cases a2
      exact ⟨y, a1, a3⟩
def fs_F : ab_Ke := ((-2147483648), 2147483647, 0, (0, 0, []), (0, 0, []))
def fs_S : ab_S := (3, [(0, (1, 0, [0])), (1, (3, 0, [])), (2, (3, 1, []))], [], [fs_F, (0, 24, 0, (0, 0, []), (0, 0, [])), (0, 899, 0, (0, 0, []), (0, 0, []))], [(0, 1, (3, 2, []))])
def fs_p (f : Bool × ab_S) : Bool := f.1 && (decide (f.2.1 = 3) && (decide (f.2.2.1 = [(0, (1, 0, [0])), (1, (3, 0, [])), (2, (3, 7, []))]) && (decide (f.2.2.2.1 = []) && (decide ((f.2.2.2.2.1[7]?).map (fun r => r.2.2) = some (1, (3, ((1 : Nat) : Int), []), (0, -8, []))) && (decide ((f.2.2.2.2.1[6]?).map (fun r => r.2.2) = some (1, (3, ((2 : Nat) : Int), []), (0, 1, []))) && decide (f.2.2.2.2.2 = [(0, 1, (3, 6, []))]))))))
abbrev fs_md : ab_Md := [(0, [1]), (1, [])]
set_option maxRecDepth 1000000 in
theorem fs_chk : (ab_run (ab_cl cm_ms hp fs_md [] [] 0) hp fs_md (cm_P mr_94) mr_94.2.2.2.2.2.2 [(3, [0, 1, 2])] 60 fs_S).any (fun fs => fs.all fs_p) = true := by decide +kernel
theorem fs_turn {Post : cm_K} {x sh : Int32} {M : cm_M} (hM : ab_ok hp hN M) (h0 : 0 ≤ sh.toInt) (h1 : sh.toInt ≤ 24) (t0 : 0 ≤ (M.1 0 1).toInt) (t1 : (M.1 0 1).toInt ≤ 899) (IH : ∀ M', ab_ok hp hN M' → ab_fr fs_md M M' → M'.1 0 1 = M.1 0 1 + 1 → cm_At cm_ms 0 mr_94 Post (3, [(0, .ref 0), (1, .int x), (2, .int (sh + Int32.ofInt (-8)))], [], M')) : cm_At cm_ms 0 mr_94 Post (3, [(0, .ref 0), (1, .int x), (2, .int sh)], [], M) := by
  refine hd_mid (fun _ h => absurd h List.not_mem_nil) (k := 94) rfl fs_chk (ρ := [x, sh, M.1 0 1]) (M0 := M) ⟨rfl, ?_, trivial, ?_, hM, ab_fr_rf _ _, ?_⟩ (fun f hp1 ext C' hG => ?_)
  · intro q hq
    simp only [fs_S, List.mem_cons, List.not_mem_nil, or_false] at hq
    rcases hq with rfl | rfl | rfl
    · exact ⟨_, rfl, 0, List.mem_singleton.mpr rfl, rfl⟩
    · exact ⟨_, rfl, x, rfl, rfl⟩
    · exact ⟨_, rfl, sh, rfl, rfl⟩
  · refine ⟨rfl, fun j r y g1 g2 => ?_⟩
    match j with
    | 0 => cases g1; cases g2; exact ⟨ev_ful_in _, Or.inl rfl⟩
    | 1 => cases g1; cases g2; exact ⟨⟨h0, h1⟩, Or.inl rfl⟩
    | 2 => cases g1; cases g2; exact ⟨⟨t0, t1⟩, Or.inl rfl⟩
    | j + 3 => cases g1
  · intro q hq
    have hq := List.mem_singleton.mp hq
    subst hq
    rfl
  · simp only [fs_p, Bool.and_eq_true, decide_eq_true_eq] at hp1
    obtain ⟨h1, h2, h3, h4, h5, h6, h7⟩ := hp1
    refine ⟨h1, ?_⟩
    obtain ⟨g1, g2, g3, g4, g5⟩ := hG
    obtain ⟨pc, CL, sc, M'⟩ := C'
    dsimp only at g1 g2 g3 g4 g5
    rw [h2] at g1
    subst g1
    rw [h4] at g3
    have hsc := ab_s_nil g3
    subst hsc
    rw [h3] at g2
    obtain ⟨v0, l0, c0, hc0, rfl⟩ := g2 (0, (1, 0, [0])) List.mem_cons_self
    obtain ⟨v1, l1, x1, hx1, rfl⟩ := g2 (1, (3, 0, [])) (List.mem_cons_of_mem _ List.mem_cons_self)
    obtain ⟨v2, l2, x2, hx2, rfl⟩ := g2 (2, (3, 7, [])) (List.mem_cons_of_mem _ (List.mem_cons_of_mem _ List.mem_cons_self))
    have hc0 := List.mem_singleton.mp hc0
    subst hc0
    have e1 : some x = some x1 := hx1
    cases e1
    obtain ⟨y, hy, rfl⟩ := hd_sum g4 h5 hx2
    have hy : some sh = some y := hy
    cases hy
    have hca := g5.2.2 (0, 1, (3, 6, [])) (by rw [h7]; exact List.mem_singleton.mpr rfl)
    have hca : ([x, sh, M.1 0 1] ++ ext)[6]? = some (M'.1 0 1) := hca
    obtain ⟨z, hz, e⟩ := hd_sum g4 h6 hca
    have hz : some (M.1 0 1) = some z := hz
    cases hz
    refine ts_sub (IH M' g5.1 g5.2.1 e) (fun q hq => ?_)
    simp only [List.mem_cons, List.not_mem_nil, or_false] at hq
    rcases hq with rfl | rfl | rfl
    · exact l0
    · exact l1
    · exact l2
theorem fs_tr {md : ab_Md} {A B C : cm_M} (h1 : ab_fr md A B) (h2 : ab_fr md B C) : ab_fr md A C := fun c i hc => by
  obtain ⟨a1, a2, a3⟩ := h1 c i hc
  obtain ⟨b1, b2, b3⟩ := h2 c i hc
  exact ⟨b1.trans a1, b2.trans a2, b3.trans a3⟩
def fs_P (M0 : cm_M) (t : Int) : cm_K := fun v M' => v = none ∧ ab_ok hp hN M' ∧ ab_fr fs_md M0 M' ∧ (M'.1 0 1).toInt = t
theorem fs_hi {M : cm_M} (h : ab_ok hp hN M) : 0 ≤ (M.1 0 1).toInt ∧ (M.1 0 1).toInt ≤ 900 := by
  have h2 := h.1 0 1
  rw [show ab_hi hp 0 1 = (0, 900) from by decide +kernel] at h2
  exact h2
theorem fs_loop {M0 : cm_M} {t : Int} (ht : t ≤ 900) (x : Int32) : ∀ (j : Nat) (sh : Int32) (M : cm_M), j ≤ 4 → sh.toInt = 8 * (j : Int) - 8 → ab_ok hp hN M → ab_fr fs_md M0 M → (M.1 0 1).toInt + (j : Int) = t → cm_At cm_ms 0 mr_94 (fs_P M0 t) (3, [(0, .ref 0), (1, .int x), (2, .int sh)], [], M) := by
  intro j
  induction j with
  | zero =>
    intro sh M hj hsh hok hfr hs
    refine cm_At_run cm_ms_ok (k := 94) rfl (stops := []) (J := fun _ => False) (fun S hS => hS.elim) (n := 10) ?_
    show 0 ≤ _ ∧ (ev_cmp 2 sh 0 = true → _) ∧ (ev_cmp 2 sh 0 = false → _)
    refine ⟨(by decide : (0 : Int) ≤ 46), fun _ => ?_, fun hc => ?_⟩
    · show fs_P M0 t none M
      exact ⟨rfl, hok, hfr, by omega⟩
    · have h1 : ¬ sh < 0 := of_decide_eq_false hc
      rw [Int32.lt_iff_toInt_lt] at h1
      have h0 : (0 : Int32).toInt = 0 := by decide
      omega
  | succ j ih =>
    intro sh M hj hsh hok hfr hs
    have hb := fs_hi hok
    refine fs_turn hok (by omega) (by omega) hb.1 (by omega) (fun M' g1 g2 g3 => ih _ M' (by omega) ?_ g1 (fs_tr hfr g2) ?_)
    · have h8 : (Int32.ofInt (-8)).toInt = -8 := by decide
      rw [Int32.toInt_add, h8, ev_bm (by omega) (by omega)]
      omega
    · rw [g3, hd_inc (by omega)]
      omega
theorem hd_store {M : cm_M} (hok : ab_ok hp hN M) (x : Int32) {t : Int} (ht : (M.1 0 1).toInt + 4 = t) (h9 : t ≤ 900) : cm_Call cm_ms 1 94 [.ref 0, .int x] M (fs_P M t) := by
  refine cm_Call_of cm_ms_ok (k := 94) (mi := mr_94) rfl (by show 2 ≤ 3; decide) ?_
  refine cm_At_run cm_ms_ok (k := 94) rfl (stops := [(3, [0, 1, 2])]) (J := cm_At cm_ms 0 mr_94 (fs_P M t)) (fun S hS => hS) (n := 5) ?_
  show 2 < 3 ∧ _
  exact ⟨by decide, fs_loop h9 x 4 24 M (by decide) (by decide) hok (ab_fr_rf _ _) (by omega)⟩
def fd_P (M0 : cm_M) : cm_K := fun v M' => ab_ok hp hN M' ∧ ab_fr fs_md M0 M' ∧ ∃ r : Int32, v = some (.int r) ∧ ((880 < (M0.1 0 1).toInt ∧ r = -1 ∧ M'.1 0 1 = M0.1 0 1) ∨ ((M0.1 0 1).toInt ≤ 880 ∧ r = M'.1 0 1 ∧ (M'.1 0 1).toInt = (M0.1 0 1).toInt + 20))
theorem hd_feed {M : cm_M} (hok : ab_ok hp hN M) (a b c d e : Int32) : cm_Call cm_ms 2 93 [.ref 0, .int a, .int b, .int c, .int d, .int e] M (fd_P M) := by
  have hb := fs_hi hok
  have h20 : (M.1 0 1 + 20).toInt = (M.1 0 1).toInt + 20 := by
    have h1 : (20 : Int32).toInt = 20 := by decide
    rw [Int32.toInt_add, h1, ev_bm (by omega) (by omega)]
  have h900 : (900 : Int32).toInt = 900 := by decide
  refine cm_Call_of cm_ms_ok (k := 93) (mi := mr_93) rfl (by show 6 ≤ 6; decide) ?_
  refine cm_At_run cm_ms_ok (k := 93) rfl (stops := []) (J := fun _ => False) (fun S hS => hS.elim) (n := 60) ?_
  show (cm_kind 0).1 = _ ∧ _ < _ ∧ 0 ≤ _ ∧ (ev_cmp 5 (M.1 0 1 + 20) 900 = true → _) ∧ (ev_cmp 5 (M.1 0 1 + 20) 900 = false → _)
  refine ⟨by decide, by decide, (by decide : (0 : Int) ≤ 15), fun hc => ?_, fun hc => ?_⟩
  · have h1 : M.1 0 1 + 20 ≤ 900 := of_decide_eq_true hc
    rw [Int32.le_iff_toInt_le, h20, h900] at h1
    show cm_cs [] ≤ 8 ∧ ev_nar1 _ _ = true ∧ (_ → _) ∧ cm_Call cm_ms 1 94 [.ref 0, .int a] M _
    refine ⟨by decide, by decide, fun _ => Or.inr rfl, cm_Call_up (hd_store hok a rfl (by omega)) (Nat.le_refl _) (fun v M1 hv => ?_)⟩
    obtain ⟨rfl, k1, f1, t1⟩ := hv
    show cm_cs [] ≤ 8 ∧ ev_nar1 _ _ = true ∧ (_ → _) ∧ cm_Call cm_ms 1 94 [.ref 0, .int b] M1 _
    refine ⟨by decide, by decide, fun _ => Or.inr rfl, cm_Call_up (hd_store k1 b rfl (by omega)) (Nat.le_refl _) (fun v M2 hv => ?_)⟩
    obtain ⟨rfl, k2, f2, t2⟩ := hv
    show cm_cs [] ≤ 8 ∧ ev_nar1 _ _ = true ∧ (_ → _) ∧ cm_Call cm_ms 1 94 [.ref 0, .int c] M2 _
    refine ⟨by decide, by decide, fun _ => Or.inr rfl, cm_Call_up (hd_store k2 c rfl (by omega)) (Nat.le_refl _) (fun v M3 hv => ?_)⟩
    obtain ⟨rfl, k3, f3, t3⟩ := hv
    show cm_cs [] ≤ 8 ∧ ev_nar1 _ _ = true ∧ (_ → _) ∧ cm_Call cm_ms 1 94 [.ref 0, .int d] M3 _
    refine ⟨by decide, by decide, fun _ => Or.inr rfl, cm_Call_up (hd_store k3 d rfl (by omega)) (Nat.le_refl _) (fun v M4 hv => ?_)⟩
    obtain ⟨rfl, k4, f4, t4⟩ := hv
    show cm_cs [] ≤ 8 ∧ ev_nar1 _ _ = true ∧ (_ → _) ∧ cm_Call cm_ms 1 94 [.ref 0, .int e] M4 _
    refine ⟨by decide, by decide, fun _ => Or.inr rfl, cm_Call_up (hd_store k4 e rfl (by omega)) (Nat.le_refl _) (fun v M5 hv => ?_)⟩
    obtain ⟨rfl, k5, f5, t5⟩ := hv
    show (cm_kind 0).1 = _ ∧ _ < _ ∧ fd_P M (some (.int (M5.1 0 1))) M5
    exact ⟨by decide, by decide, k5, fs_tr (fs_tr (fs_tr (fs_tr f1 f2) f3) f4) f5, _, rfl, Or.inr ⟨by omega, rfl, by omega⟩⟩
  · have h1 : ¬ M.1 0 1 + 20 ≤ 900 := of_decide_eq_false hc
    rw [Int32.le_iff_toInt_le, h20, h900] at h1
    show fd_P M (some (.int (-1))) M
    exact ⟨hok, ab_fr_rf _ _, -1, rfl, Or.inl ⟨by omega, rfl, rfl⟩⟩
