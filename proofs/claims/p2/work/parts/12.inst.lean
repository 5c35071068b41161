/-! INSTANCES: a state is an instance of a template: the template's variables stand for values of the state -/
/-- a template's value against a state's -/
def ev_m (sg : List ev_A) (t a : ev_A) : Bool := if t.1 = 3 then (match sg[t.2.toNat]? with
  | some b => decide (b = a) && ev_isI a
  | none => false) else (decide (t = a) && !(t.1 == 6 || t.1 == 7))
def ev_ml (sg : List ev_A) : List ev_A → List ev_A → Bool
  | [], [] => true
  | t :: ts, a :: as => ev_m sg t a && ev_ml sg ts as
  | _, _ => false
def ev_mw (sg : List ev_A) : List ev_C → List ev_C → Bool
  | [], [] => true
  | t :: ts, a :: as => (t.1 == a.1 && ev_ml sg t.2 a.2) && ev_mw sg ts as
  | _, _ => false
def ev_mL (sg : List ev_A) (LT L : List (Nat × ev_A)) : Bool := LT.all (fun q => match ev_look L q.1 with
  | some a => ev_m sg q.2 a
  | none => false)
/-- the template's variables are free ones, within bounds that the state keeps -/
def ev_mk (K : ev_K) : List ev_Ke → List ev_A → Bool
  | [], [] => true
  | r :: rs, b :: bs => (r.2.2.1 == 0 && (ev_isI b && (decide (r.1 ≤ (ev_ob K b).1) && decide ((ev_ob K b).2 ≤ r.2.1)))) && ev_mk K rs bs
  | _, _ => false
def ev_inst (T S : ev_S) (sg : List ev_A) : Bool := decide (T.1 = S.1) && (ev_mL sg T.2.1 S.2.1 && (ev_ml sg T.2.2.1 S.2.2.1 && (ev_mw sg T.2.2.2.1 S.2.2.2.1 && (ev_mk S.2.2.2.2.1 T.2.2.2.2.1.1 sg && (T.2.2.2.2.1.2.isEmpty && (decide (S.2.2.2.2.2.1 ≤ T.2.2.2.2.2.1) && decide (S.2.2.2.2.2.2 ≤ T.2.2.2.2.2.2)))))))
/-- the values of the template's variables -/
def ev_ET (g : ev_G) (sg : List ev_A) : List Value := sg.map (fun b => (ev_v g b).getD .null)
theorem ev_ET_at {g : ev_G} {sg : List ev_A} {i : Nat} {b : ev_A} {v : Value} (h : sg[i]? = some b) (hv : ev_v g b = some v) : (ev_ET g sg)[i]? = some v := by
  unfold ev_ET
  rw [List.getElem?_map, h]
  simp [hv]
theorem ev_v_noE {g : ev_G} {E : List Value} {a : ev_A} {v : Value} (h3 : ¬ a.1 = 3) (h6 : ¬ a.1 = 6) (h7 : ¬ a.1 = 7) (hv : ev_v g a = some v) : ev_v (g.1, g.2.1, E) a = some v := by
  obtain ⟨t, n⟩ := a
  dsimp only at h3 h6 h7
  unfold ev_v at hv ⊢
  split at hv
  · exact hv
  · exact hv
  · exact hv
  · rename_i h; exact absurd h h3
  · exact hv
  · exact hv
  · rename_i h; exact absurd h h6
  · rename_i h; exact absurd h h7
  · cases hv
theorem ev_m_ok {g : ev_G} {sg : List ev_A} {t a : ev_A} {v : Value} (h : ev_m sg t a = true) (hv : ev_v g a = some v) : ev_v (g.1, g.2.1, ev_ET g sg) t = some v := by
  unfold ev_m at h
  split at h
  · rename_i h3
    split at h
    · rename_i b hb
      simp only [Bool.and_eq_true, decide_eq_true_eq] at h
      obtain ⟨rfl, hi⟩ := h
      obtain ⟨x, rfl⟩ := ev_vI hi hv
      obtain ⟨t1, n⟩ := t
      have h3 : t1 = 3 := h3
      subst h3
      have := ev_ET_at hb hv
      simp only [ev_v]
      rw [this]
    · cases h
  · rename_i h3
    simp only [Bool.and_eq_true, decide_eq_true_eq, Bool.not_eq_true', Bool.or_eq_false_iff, beq_eq_false_iff_ne] at h
    obtain ⟨rfl, h6, h7⟩ := h
    exact ev_v_noE h3 h6 h7 hv
theorem ev_ml_ok {g : ev_G} {sg : List ev_A} : ∀ {ts as : List ev_A}, ev_ml sg ts as = true → ts.length = as.length ∧ ∀ (j : Nat) (t : ev_A), ts[j]? = some t → ∃ a, as[j]? = some a ∧ ev_m sg t a = true
  | [], [], _ => ⟨rfl, fun j t h => by cases h⟩
  | [], _ :: _, h => by cases h
  | _ :: _, [], h => by cases h
  | t :: ts, a :: as, h => by
    unfold ev_ml at h
    simp only [Bool.and_eq_true] at h
    obtain ⟨i1, i2⟩ := ev_ml_ok (g := g) h.2
    refine ⟨by simp [i1], fun j q hq => ?_⟩
    cases j with
    | zero =>
      cases hq
      exact ⟨a, rfl, h.1⟩
    | succ j =>
      rw [List.getElem?_cons_succ] at hq
      rw [List.getElem?_cons_succ]
      exact i2 j q hq
theorem ev_mls_ok {g : ev_G} {sg : List ev_A} : ∀ {ts as : List ev_A} {sc : List Value}, ev_ml sg ts as = true → ev_s g as sc → ev_s (g.1, g.2.1, ev_ET g sg) ts sc
  | [], [], [], _, _ => trivial
  | [], [], _ :: _, _, h => h.elim
  | [], _ :: _, _, h, _ => by cases h
  | _ :: _, [], _, h, _ => by cases h
  | _ :: _, _ :: _, [], _, h => h.elim
  | t :: ts, a :: as, v :: sc, h, hs => by
    unfold ev_ml at h
    simp only [Bool.and_eq_true] at h
    exact ⟨ev_m_ok h.1 hs.1, ev_mls_ok h.2 hs.2⟩
theorem ev_mw_ok {sg : List ev_A} : ∀ {ts as : List ev_C}, ev_mw sg ts as = true → ts.length = as.length ∧ ∀ (k : Nat) (t : ev_C), ts[k]? = some t → ∃ c, as[k]? = some c ∧ t.1 = c.1 ∧ ev_ml sg t.2 c.2 = true
  | [], [], _ => ⟨rfl, fun j t h => by cases h⟩
  | [], _ :: _, h => by cases h
  | _ :: _, [], h => by cases h
  | t :: ts, a :: as, h => by
    unfold ev_mw at h
    simp only [Bool.and_eq_true, beq_iff_eq] at h
    obtain ⟨i1, i2⟩ := ev_mw_ok h.2
    refine ⟨by simp [i1], fun j q hq => ?_⟩
    cases j with
    | zero =>
      cases hq
      exact ⟨a, rfl, h.1.1, h.1.2⟩
    | succ j =>
      rw [List.getElem?_cons_succ] at hq
      rw [List.getElem?_cons_succ]
      exact i2 j q hq
theorem ev_mc_ok {s : State} {g : ev_G} {sg : List ev_A} {t c : ev_C} {x : va_E} (h1 : t.1 = c.1) (h2 : ev_ml sg t.2 c.2 = true) (hc : ev_c s g c x) : ev_c s (g.1, g.2.1, ev_ET g sg) t x := by
  obtain ⟨l1, l2⟩ := ev_ml_ok (g := g) h2
  cases x with
  | inr o =>
    obtain ⟨a1, a2, a3, a4⟩ := hc
    refine ⟨h1.trans a1, by omega, by omega, fun j a hj => ?_⟩
    obtain ⟨b, b1, b2⟩ := l2 j a hj
    obtain ⟨v, v1, v2⟩ := a4 j b b1
    exact ⟨v, ev_m_ok b2 v1, v2⟩
  | inl z =>
    obtain ⟨tt, a1, a2, a3, a4, a5, a6⟩ := hc
    refine ⟨tt, a1, by omega, by omega, a4, a5, ?_⟩
    unfold ev_ar at a6 ⊢
    split at a6
    · exact ⟨a6.1, fun j q hq => by
        obtain ⟨b, b1, b2⟩ := l2 j q hq
        exact ev_m_ok b2 (a6.2 j b b1)⟩
    · exact ⟨a6.1, fun j q hq => by
        obtain ⟨b, b1, b2⟩ := l2 j q hq
        exact ev_m_ok b2 (a6.2 j b b1)⟩
    · exact ⟨a6.1, fun j q hq => by
        obtain ⟨b, b1, b2⟩ := l2 j q hq
        exact ev_m_ok b2 (a6.2 j b b1)⟩
    · exact a6
theorem ev_mk_ok {K : ev_K} : ∀ {rs : List ev_Ke} {bs : List ev_A}, ev_mk K rs bs = true → rs.length = bs.length ∧ ∀ (k : Nat) (r : ev_Ke), rs[k]? = some r → ∃ b, bs[k]? = some b ∧ r.2.2.1 = 0 ∧ ev_isI b = true ∧ r.1 ≤ (ev_ob K b).1 ∧ (ev_ob K b).2 ≤ r.2.1
  | [], [], _ => ⟨rfl, fun j t h => by cases h⟩
  | [], _ :: _, h => by cases h
  | _ :: _, [], h => by cases h
  | r :: rs, b :: bs, h => by
    unfold ev_mk at h
    simp only [Bool.and_eq_true, beq_iff_eq, decide_eq_true_eq] at h
    obtain ⟨i1, i2⟩ := ev_mk_ok h.2
    refine ⟨by simp [i1], fun j q hq => ?_⟩
    cases j with
    | zero =>
      cases hq
      exact ⟨b, rfl, h.1.1, h.1.2.1, h.1.2.2.1, h.1.2.2.2⟩
    | succ j =>
      rw [List.getElem?_cons_succ] at hq
      rw [List.getElem?_cons_succ]
      exact i2 j q hq
/-- what stands as the state says stands as the template says -/
theorem ev_inst_ok {s : State} {A : Nat → Prop} {D : va_G} {nL : Nat} {g : ev_G} {T S : ev_S} {sg : List ev_A} {ws : va_W} {H : Heap} {locs : List Loc} {ls : Array Slot} {sc : List Value} (h : ev_inst T S sg = true) (hv : ∀ b ∈ sg, ∃ v, ev_v g b = some v) (hR : ev_R s A D nL g S ws H locs ls sc) : ev_R s A D nL (g.1, g.2.1, ev_ET g sg) T ws H locs ls sc := by
  unfold ev_inst at h
  simp only [Bool.and_eq_true, decide_eq_true_eq] at h
  obtain ⟨h1, h2, h3, h4, h5, h6, h7, h8⟩ := h
  obtain ⟨hP, hD, hS, hW, hB, hL, hs⟩ := hR
  obtain ⟨w1, w2⟩ := ev_mw_ok h4
  obtain ⟨k1, k2⟩ := ev_mk_ok h5
  refine ⟨hP, hD, hS, ⟨hW.1, w1.trans hW.2.1, fun k t q ht hq => ?_⟩, ⟨by rw [k1]; unfold ev_ET; rw [List.length_map], fun k r v hr hv2 => ?_, fun f hf => ?_⟩, ⟨hL.1, hL.2.1, fun q hq => ?_⟩, ev_mls_ok h3 hs⟩
  · obtain ⟨c, c1, c2, c3⟩ := w2 k t ht
    exact ev_mc_ok c2 c3 (hW.2.2 k c q c1 hq)
  · obtain ⟨b, b1, b2, b3, b4, b5⟩ := k2 k r hr
    obtain ⟨v', hv'⟩ := hv b (List.mem_of_getElem? b1)
    have e1 : (ev_ET g sg)[k]? = some v' := ev_ET_at b1 hv'
    have e2 : some v' = some v := e1.symm.trans hv2
    cases e2
    obtain ⟨x, rfl⟩ := ev_vI b3 hv'
    have hin := ev_ob_in hB b3 hv'
    exact ⟨fun z hz => by cases hz; exact ⟨Int.le_trans b4 hin.1, Int.le_trans hin.2 b5⟩, Or.inl b2⟩
  · rw [List.isEmpty_iff] at h6
    rw [h6] at hf
    cases hf
  · have hq1 := List.all_eq_true.mp h2 q hq
    split at hq1
    · rename_i a ha
      obtain ⟨v, v1, v2⟩ := hL.2.2 _ (ev_look_mem ha)
      exact ⟨v, ev_m_ok hq1 v1, v2⟩
    · cases hq1
