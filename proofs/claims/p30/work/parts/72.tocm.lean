/-! from the start's picture to the memory -/
def tc_i (a : ev_A) : Int32 := Int32.ofInt a.2
def tc_l (a : ev_A) : Int64 := Int64.ofInt a.2
def tc_r (a : ev_A) : Option Nat := if a.1 = 1 then some a.2.toNat else none
def tc_at (w : List ev_C) (c j : Nat) : ev_A := match w[c]? with
  | some q => (match q.2[j]? with
    | some a => a
    | none => (0, 0))
  | none => (0, 0)
def tc_M (w : List ev_C) : cm_M := (fun c j => tc_i (tc_at w c j), fun c j => tc_l (tc_at w c j), fun c j => tc_r (tc_at w c j))
def tc_ok1 (ft : Nat) (a : ev_A) : Bool := match a.1 with
  | 0 => ft == 0
  | 1 => ft == 3 && decide (a.2.toNat < 137)
  | 2 => ft == 3
  | 4 => ft == 2
  | _ => false
theorem tc_v {g : ev_G} {adr : Nat → Nat} {a : ev_A} {v : Value} {ft : Nat} {M : cm_M} {k j : Nat} (hok : tc_ok1 ft a = true) (h : ev_v g a = some v) (hadr : ∀ k, k < 137 → ∀ x, g.1[k]? = some x → adr k = x) (h1 : M.1 k j = tc_i a) (h2 : M.2.1 k j = tc_l a) (h3 : M.2.2 k j = tc_r a) : v = cm_v adr (cm_rd M ft k j) := by
  obtain ⟨t, z⟩ := a
  unfold tc_ok1 at hok
  split at hok
  · rename_i e
    dsimp only at e
    subst e
    have e2 := beq_iff_eq.mp hok
    subst e2
    show v = .int (M.1 k j)
    rw [h1]
    exact (Option.some.inj h).symm
  · rename_i e
    dsimp only at e
    subst e
    simp only [Bool.and_eq_true, decide_eq_true_eq] at hok
    have e2 := beq_iff_eq.mp hok.1
    subst e2
    have h : (g.1[z.toNat]?).map Value.ref = some v := h
    show v = cm_v adr (cm_rq (M.2.2 k j))
    rw [h3]
    cases hg : g.1[z.toNat]? with
    | none => rw [hg] at h; cases h
    | some x =>
      rw [hg] at h
      have := hadr _ hok.2 x hg
      show v = .ref (adr z.toNat)
      rw [this]
      exact (Option.some.inj h).symm
  · rename_i e
    dsimp only at e
    subst e
    have e2 := beq_iff_eq.mp hok
    subst e2
    show v = cm_v adr (cm_rq (M.2.2 k j))
    rw [h3]
    exact (Option.some.inj h).symm
  · rename_i e
    dsimp only at e
    subst e
    have e2 := beq_iff_eq.mp hok
    subst e2
    show v = .long (M.2.1 k j)
    rw [h2]
    exact (Option.some.inj h).symm
  · cases hok
def tc_ft (c j : Nat) : Nat := if c < 100 then cm_ft c j else if c = 102 then 2 else if c = 103 then 3 else 0
def tc_okL (c : Nat) : Nat → List ev_A → Bool
  | _, [] => true
  | j, a :: l => tc_ok1 (tc_ft c j) a && tc_okL c (j + 1) l
theorem tc_okL_at {c : Nat} : ∀ {l : List ev_A} {i j : Nat} {a : ev_A}, tc_okL c i l = true → l[j]? = some a → tc_ok1 (tc_ft c (i + j)) a = true
  | [], i, j, a, _, h => by cases h
  | b :: l, i, 0, a, h, h1 => by
    unfold tc_okL at h
    simp only [Bool.and_eq_true] at h
    cases h1
    exact h.1
  | b :: l, i, j + 1, a, h, h1 => by
    unfold tc_okL at h
    simp only [Bool.and_eq_true] at h
    have := tc_okL_at (i := i + 1) (j := j) h.2 (by simpa using h1)
    rw [show i + (j + 1) = i + 1 + j by omega]
    exact this
def tc_okW : List ev_C → List (Nat × Nat) → Bool
  | [], [] => true
  | q :: w, c :: l => decide (q.1 = c.1) && (decide (q.2.length = c.2) && (tc_okL c.1 0 q.2 && tc_okW w l))
  | _, _ => false
theorem tc_okW_len : ∀ {w : List ev_C} {l : List (Nat × Nat)}, tc_okW w l = true → w.length = l.length
  | [], [], _ => rfl
  | [], _ :: _, h => by cases h
  | _ :: _, [], h => by cases h
  | q :: w, c :: l, h => by
    unfold tc_okW at h
    simp only [Bool.and_eq_true] at h
    simp [tc_okW_len h.2.2.2]
theorem tc_okW_at : ∀ {w : List ev_C} {l : List (Nat × Nat)} {k : Nat} {q : ev_C} {c : Nat × Nat}, tc_okW w l = true → w[k]? = some q → l[k]? = some c → q.1 = c.1 ∧ q.2.length = c.2 ∧ tc_okL c.1 0 q.2 = true
  | [], _, k, q, c, _, h, _ => by cases h
  | _ :: _, [], k, q, c, _, _, h => by cases h
  | q0 :: w, c0 :: l, 0, q, c, h, h1, h2 => by
    unfold tc_okW at h
    simp only [Bool.and_eq_true, decide_eq_true_eq] at h
    cases h1
    cases h2
    exact ⟨h.1, h.2.1, h.2.2.1⟩
  | q0 :: w, c0 :: l, k + 1, q, c, h, h1, h2 => by
    unfold tc_okW at h
    simp only [Bool.and_eq_true] at h
    exact tc_okW_at (k := k) h.2.2.2 (by simpa using h1) (by simpa using h2)
theorem tc_c {s : State} {g : ev_G} {adr : Nat → Nat} {w : List ev_C} {k : Nat} {q : ev_C} {c : Nat × Nat} {x : va_E} (hadr : ∀ k, k < 137 → ∀ x, g.1[k]? = some x → adr k = x) (hq : w[k]? = some q) (h1 : q.1 = c.1) (h2 : q.2.length = c.2) (h3 : tc_okL c.1 0 q.2 = true) (hx : ev_c s g q x) : cm_c s adr (tc_M w) k c x := by
  have hat : ∀ j a, q.2[j]? = some a → tc_at w k j = a := by
    intro j a ha
    unfold tc_at
    rw [hq]
    dsimp only
    rw [ha]
  have hv : ∀ j a v, q.2[j]? = some a → ev_v g a = some v → v = cm_v adr (cm_rd (tc_M w) (tc_ft c.1 j) k j) := by
    intro j a v ha hv
    have h5 := tc_okL_at h3 ha
    rw [Nat.zero_add] at h5
    exact tc_v h5 hv hadr (by show tc_i _ = _; rw [hat j a ha]) (by show tc_l _ = _; rw [hat j a ha]) (by show tc_r _ = _; rw [hat j a ha])
  cases x with
  | inr o =>
    obtain ⟨a1, a2, a3, a4⟩ := hx
    refine ⟨by rw [← h1, a1], by rw [← h1]; exact a2, by rw [a3, h2], fun j hj => ?_⟩
    have hj' : j < q.2.length := by rw [h2]; exact hj
    obtain ⟨v, b1, b2⟩ := a4 j _ (List.getElem?_eq_getElem hj')
    rw [b2]
    have := hv j _ v (List.getElem?_eq_getElem hj') b1
    unfold tc_ft at this
    rw [if_pos (by rw [← h1]; exact a2)] at this
    rw [this]
  | inl a =>
    obtain ⟨t, a1, a2, a3, a4, a5, a6⟩ := hx
    have ec : c.1 = 100 + t := by rw [← h1]; exact a2
    refine ⟨t, a1, ec, by rw [a3, h2], a4, a5, ?_⟩
    obtain ⟨a1', a2', arr⟩ := a
    have hf : ∀ j, tc_ft c.1 j = if t = 2 then 2 else if t = 3 then 3 else 0 := by
      intro j
      unfold tc_ft
      rw [if_neg (by omega)]
      rcases (by omega : t = 0 ∨ t = 1 ∨ t = 2 ∨ t = 3) with rfl | rfl | rfl | rfl <;> rw [ec] <;> rfl
    have hv2 : ∀ j, j < c.2 → ∀ v, (∀ a, q.2[j]? = some a → ev_v g a = some v) → v = cm_v adr (cm_rd (tc_M w) (if t = 2 then 2 else if t = 3 then 3 else 0) k j) := by
      intro j hj v h
      have hj' : j < q.2.length := by rw [h2]; exact hj
      rw [← hf j]
      exact hv j _ v (List.getElem?_eq_getElem hj') (h _ (List.getElem?_eq_getElem hj'))
    rcases arr with f | f | f | f | f
    · refine ⟨a6.1, fun j hj => ?_⟩
      have h7 := hv2 j hj (.int (f j)) (fun a ha => a6.2 j a ha)
      rw [if_neg (by have := a6.1; omega), if_neg (by have := a6.1; omega)] at h7
      exact Value.int.inj h7
    · refine ⟨a6.1, fun j hj => ?_⟩
      have h7 := hv2 j hj (.long (f j)) (fun a ha => a6.2 j a ha)
      rw [if_pos a6.1] at h7
      exact Value.long.inj h7
    · exact a6
    · exact a6
    · refine ⟨a6.1, fun j hj => ?_⟩
      have h7 := hv2 j hj (va_rf (f j)) (fun a ha => a6.2 j a ha)
      rw [if_neg (by have := a6.1; omega), if_pos a6.1] at h7
      have h7 : va_rf (f j) = cm_v adr (cm_rq ((tc_M w).2.2 k j)) := h7
      cases hm : (tc_M w).2.2 k j with
      | none =>
        rw [hm] at h7
        cases hfj : f j with
        | none => rfl
        | some y => rw [hfj] at h7; exact Value.noConfusion h7
      | some z =>
        rw [hm] at h7
        cases hfj : f j with
        | none => rw [hfj] at h7; exact Value.noConfusion h7
        | some y =>
          rw [hfj] at h7
          exact congrArg some (Value.ref.inj h7)
set_option maxRecDepth 1000000 in
theorem tc_okSt : tc_okW st_w cm_lay = true := by decide +kernel
set_option maxRecDepth 1000000 in
theorem tc_lay : cm_lay.length = 137 := by decide +kernel
theorem tc_w {s : State} {g : ev_G} {adr : Nat → Nat} {ws : va_W} (hadr : ∀ k, k < 137 → ∀ x, g.1[k]? = some x → adr k = x) (h : ev_w s g st_w ws) : cm_w s adr (tc_M st_w) ws := by
  obtain ⟨e1, e2, e3⟩ := h
  have hl := tc_okW_len tc_okSt
  refine ⟨by rw [← e2, hl], fun k c q h1 h2 => ?_⟩
  have hk : k < st_w.length := by rw [hl]; exact (List.getElem?_eq_some_iff.mp h1).1
  have h3 := List.getElem?_eq_getElem hk
  obtain ⟨b1, b2, b3⟩ := tc_okW_at tc_okSt h3 h1
  refine ⟨?_, tc_c hadr h3 b1 b2 b3 (e3 k _ q h3 h2)⟩
  have h4 : g.1[k]? = some q.1 := by rw [e1, List.getElem?_map, h2]; rfl
  exact (hadr k (by rw [← tc_lay, ← hl]; exact hk) _ h4).symm
/-- the law's locals at the loop's head -/
def law_L (i : Int32) : List (Nat × Value) := [(4, .int i), (3, .ref 136), (2, .ref 124), (1, .ref 0), (0, .ref 1000)]
set_option maxRecDepth 1000000 in
theorem law_strs : ev_strs.length = 40 := by decide +kernel
set_option maxHeartbeats 4000000 in
theorem tc_start {p : Program} {l : Launch} {e : Env} {s : State} {m : MethodId} {below : List Frame} {meth : Method} {c : Code} {b L : Nat} {xs : Nat → Int32} {Q : State → Prop} {D : va_G} {X : Nat → Nat} (C0 : lw_At p s m meth c b L xs) (hX0 : X 0 = b) (Xe : ev_X p room_1 s m #[Value.ref b] meth c code 7 "BarberMinutesLaw" false D (law_A s) 601024 7293034 (law_g X) 0)
    (hk : ∀ adr : Nat → Nat, cm_X p room_1 s m #[Value.ref b] c code 7 "BarberMinutesLaw" D (law_A s) adr 137 3193 (some (L, xs)) → cm_Go p l e room_1 s m #[Value.ref b] below meth c Q 7 D (law_A s) adr 137 3193 (23, law_L 0, [], tc_M st_w)) : ev_Go p l e room_1 s m #[Value.ref b] below meth c Q 7 D (law_A s) (law_g X) st_0 := by
  obtain ⟨hx, hb, hr, hml, hown, hts, hX, hbl, hlocks, hgv⟩ := C0
  obtain ⟨-, -, -, -, htg, hK, hA0, hN, -, hcC, hcS, hf, hlc, -⟩ := Xe
  have hfl : ∀ w ∈ law_flat, w.before #[Value.ref b] s = true := flat_of_before _ hgv
  have hA : ∀ a : Nat, a < s.heap.size → ¬ law_A s a := fun a h => Nat.not_le.mpr h
  have hel : ∀ j : Nat, j < 5 → (Term.elem (.static "BarberMinutes" "TENS" "[I") (.int (Int32.ofNat j))).eval #[Value.ref b] s none [] s = some (.int (cm_tens j))
    | 0, _ => va_eqt (hfl _ law_t50)
    | 1, _ => va_eqt (hfl _ law_t51)
    | 2, _ => va_eqt (hfl _ law_t52)
    | 3, _ => va_eqt (hfl _ law_t53)
    | 4, _ => va_eqt (hfl _ law_t54)
    | n + 5, h => absurd h (by omega)
  obtain ⟨tn, htn, hT⟩ := va_Tof (f := fun j => .int (cm_tens j)) (A := law_A s) (N := 5) (by decide) (hfl _ law_t3) (va_eqt (hfl _ law_t4)) hel hA
  obtain ⟨fm, hfm⟩ : ∃ fm : Nat, va_Z "jdk/internal/util/Preconditions" "SIOOBE_FORMATTER" "Ljava/util/function/BiFunction;" .null (law_A s) s s.heap ∨ va_Z "jdk/internal/util/Preconditions" "SIOOBE_FORMATTER" "Ljava/util/function/BiFunction;" (.ref fm) (law_A s) s s.heap := by
    rcases hN.2.2.2.2 with h | ⟨t, h⟩
    · exact ⟨0, Or.inl h⟩
    · exact ⟨t, Or.inr h⟩
  intro g ws H locs ls sc hle hR
  obtain ⟨hP, hD, hS, hW, hB, hL, hs⟩ := hR
  cases ev_s_nil hs
  have hW : ev_w s g st_w ws := hW
  obtain ⟨adr, ha1, ha2, ha3, ha4⟩ : ∃ adr : Nat → Nat, (∀ k, k < 137 → ∀ x, g.1[k]? = some x → adr k = x) ∧ (∀ j, j < 81 → adr (1000 + j) = X j) ∧ adr 1100 = tn ∧ adr 1101 = fm := by
    refine ⟨fun k => if k < 1000 then g.1.getD k 0 else if k = 1100 then tn else if k = 1101 then fm else X (k - 1000), fun k hk x hx => ?_, fun j hj => ?_, rfl, rfl⟩
    · dsimp only
      rw [if_pos (by omega), List.getD_eq_getElem?_getD, hx]
      rfl
    · dsimp only
      rw [if_neg (by omega), if_neg (by omega), if_neg (by omega), Nat.add_sub_cancel_left]
  have hb0 : adr 1000 = b := (ha2 0 (by decide)).trans hX0
  have hNc : cm_N adr (law_A s) s s.heap := by
    refine ⟨⟨hN.1, fun k r hr => ?_, ⟨fun k r hr => ?_, hN.2.2.2.1, hN.2.2.2.2⟩⟩, ?_, ?_, ?_⟩
    · have hk40 : k < 40 := by rw [← law_strs]; exact (List.getElem?_eq_some_iff.mp hr).1
      have := hN.2.1 k r hr
      dsimp only
      rw [ha2 _ (by omega)]
      exact this
    · have hk40 : k < 40 := by rw [← law_strs]; exact (List.getElem?_eq_some_iff.mp hr).1
      have := hN.2.2.1 k r hr
      dsimp only
      rw [ha2 _ (by omega), ha2 _ (by omega)]
      exact this
    · rw [ha3]
      exact va_Zref (hts _ law_t1) (hts _ law_t2) htn hA
    · rw [ha3]
      exact hT
    · rw [ha4]
      exact hfm
  have hLv : ∀ q ∈ (law_L 0).map (fun q => (q.1, cm_v adr q.2)), ls[q.1]? = some (.val q.2) := by
    obtain ⟨-, -, h3⟩ := hL
    have hg : ∀ k, k < 137 → ∃ x, g.1[k]? = some x := fun k hk => by
      have : k < g.1.length := by rw [hW.1, List.length_map, ← hW.2.1, tc_okW_len tc_okSt, tc_lay]; exact hk
      exact ⟨_, List.getElem?_eq_getElem this⟩
    have href : ∀ (i k : Nat), (i, ((1, (k : Int)) : ev_A)) ∈ st_0.2.1 → k < 137 → ls[i]? = some (.val (.ref (adr k))) := fun i k hm hk => by
      obtain ⟨v, v1, v2⟩ := h3 _ hm
      obtain ⟨x, hx⟩ := hg k hk
      have v1 : (g.1[(k : Int).toNat]?).map Value.ref = some v := v1
      rw [Int.toNat_natCast, hx] at v1
      rw [v2, ha1 k hk x hx]
      cases v1
      rfl
    intro q hq
    simp only [law_L, List.map_cons, List.map_nil, List.mem_cons, List.not_mem_nil, or_false] at hq
    rcases hq with rfl | rfl | rfl | rfl | rfl
    · obtain ⟨v, v1, v2⟩ := h3 (4, (0, 0)) List.mem_cons_self
      cases v1
      exact v2
    · exact href 3 136 (List.mem_cons_of_mem _ List.mem_cons_self) (by decide)
    · exact href 2 124 (List.mem_cons_of_mem _ (List.mem_cons_of_mem _ List.mem_cons_self)) (by decide)
    · exact href 1 0 (List.mem_cons_of_mem _ (List.mem_cons_of_mem _ (List.mem_cons_of_mem _ List.mem_cons_self))) (by decide)
    · obtain ⟨v, v1, v2⟩ := h3 (0, (5, 0)) (List.mem_cons_of_mem _ (List.mem_cons_of_mem _ (List.mem_cons_of_mem _ (List.mem_cons_of_mem _ List.mem_cons_self))))
      have v1 : some (Value.ref (g.2.1 0)) = some v := v1
      rw [v2]
      cases v1
      show some (Slot.val (.ref (g.2.1 0))) = some (.val (.ref (adr 1000)))
      rw [hle.2.1, hb0]
      show some (Slot.val (.ref (X 0))) = _
      rw [hX0]
  exact hk adr ⟨hx, hb, hml, hown, htg, hK, hA0, hNc, by rw [hcC]; decide, by rw [hcS]; decide, hf, hlc, ⟨by rw [hb0]; exact hX, by rw [hb0]; exact hbl, by rw [hb0]; exact hA b hbl⟩⟩ ws H locs ls ⟨hP, hD, hS, tc_w ha1 hW, hL.1, hL.2.1, hLv⟩
