
/-- what the smaller list tells is told by the larger one; the smaller list tells each but once -/
noncomputable def cm_le (L' L : List (Nat × Value)) : Prop := (∀ q ∈ L', cm_look L' q.1 = some q.2) ∧ ∀ i v, cm_look L' i = some v → cm_look L i = some v
theorem cm_look_fl {p : Nat × Value → Bool} : ∀ {L : List (Nat × Value)} {j : Nat} {u : Value}, cm_look L j = some u → p (j, u) = true → cm_look (L.filter p) j = some u
  | [], j, u, h, _ => by cases h
  | q :: L, j, u, h, hp => by
    obtain ⟨a, b⟩ := q
    unfold cm_look at h
    by_cases ha : a = j
    · rw [if_pos ha] at h
      cases h
      subst ha
      rw [List.filter_cons_of_pos hp]
      unfold cm_look
      rw [if_pos rfl]
    · rw [if_neg ha] at h
      have ih := cm_look_fl h hp
      by_cases hq : p (a, b) = true
      · rw [List.filter_cons_of_pos hq]
        unfold cm_look
        rw [if_neg ha]
        exact ih
      · rw [List.filter_cons_of_neg hq]
        exact ih
theorem cm_le_st {p : Nat × Value → Bool} {L' L : List (Nat × Value)} {i : Nat} {v : Value} (hp : ∀ q, p q = true → q.1 ≠ i) (h : cm_le L' L) : cm_le ((i, v) :: L'.filter p) ((i, v) :: L.filter p) := by
  have key : ∀ j u, (j, u) ∈ L'.filter p → cm_look (L'.filter p) j = some u ∧ cm_look (L.filter p) j = some u ∧ j ≠ i := by
    intro j u hm
    obtain ⟨m1, m2⟩ := List.mem_filter.mp hm
    have l1 := h.1 _ m1
    exact ⟨cm_look_fl l1 m2, cm_look_fl (h.2 _ _ l1) m2, hp _ m2⟩
  refine ⟨fun q hq => ?_, fun j u hl => ?_⟩
  · rcases List.mem_cons.mp hq with rfl | hq
    · unfold cm_look
      rw [if_pos rfl]
    · obtain ⟨a, b⟩ := q
      obtain ⟨k1, -, k3⟩ := key a b hq
      unfold cm_look
      rw [if_neg (fun e => k3 e.symm)]
      exact k1
  · unfold cm_look at hl ⊢
    by_cases hj : i = j
    · rw [if_pos hj] at hl ⊢
      exact hl
    · rw [if_neg hj] at hl ⊢
      exact (key j u (cm_look_mem hl)).2.1
theorem cm_le_1 {L' L : List (Nat × Value)} (i : Nat) (v : Value) (h : cm_le L' L) : cm_le (cm_st1 L' i v) (cm_st1 L i v) := cm_le_st (fun q hq => by
  simp only [Bool.and_eq_true, Bool.not_eq_true', beq_eq_false_iff_ne] at hq
  exact hq.1) h
theorem cm_le_2 {L' L : List (Nat × Value)} (i : Nat) (v : Value) (h : cm_le L' L) : cm_le (cm_st2 L' i v) (cm_st2 L i v) := cm_le_st (fun q hq => by
  simp only [Bool.and_eq_true, Bool.not_eq_true', beq_eq_false_iff_ne] at hq
  exact hq.1) h
theorem cm_le_tr {A B C : List (Nat × Value)} (h1 : cm_le A B) (h2 : ∀ i v, cm_look B i = some v → cm_look C i = some v) : cm_le A C := ⟨h1.1, fun i v h => h2 i v (h1.2 i v h)⟩
noncomputable def cm_Lo (o : cm_O) : Prop := ∀ (E : cm_E) (P : ev_P) (t : ev_T) (pc : Nat) (L' L : List (Nat × Value)) (st : List Value) (M : cm_M) (k' k : cm_S → Prop), cm_le L' L → (∀ (pc2 : Nat) (A B : List (Nat × Value)) (st2 : List Value) (M2 : cm_M), cm_le A B → k' (pc2, A, st2, M2) → k (pc2, B, st2, M2)) → o.2 E P t (pc, L', st, M) k' → o.2 E P t (pc, L, st, M) k
theorem cl_no : cm_Lo cm_no := fun E P t pc L' L st M k' k hL hk h => h.elim
theorem cl_ld {ty n i pc : Nat} {L' L : List (Nat × Value)} {st : List Value} {M : cm_M} {k' k : cm_S → Prop} (hL : cm_le L' L) (hk : ∀ (pc2 : Nat) (A B : List (Nat × Value)) (st2 : List Value) (M2 : cm_M), cm_le A B → k' (pc2, A, st2, M2) → k (pc2, B, st2, M2)) (h : cm_ld ty n i (pc, L', st, M) k') : cm_ld ty n i (pc, L, st, M) k := by
  unfold cm_ld at h
  split at h
  · rename_i x hx
    unfold cm_ld
    dsimp only at hx ⊢
    rw [hL.2 _ _ hx]
    exact hk _ _ _ _ _ hL h
  · rename_i x hx
    unfold cm_ld
    dsimp only at hx ⊢
    rw [hL.2 _ _ hx]
    exact hk _ _ _ _ _ hL h
  · rename_i x hx
    unfold cm_ld
    dsimp only at hx ⊢
    rw [hL.2 _ _ hx]
    exact hk _ _ _ _ _ hL h
  · exact h.elim
theorem cl_sto {ty n i nL pc : Nat} {L' L : List (Nat × Value)} {st : List Value} {M : cm_M} {k' k : cm_S → Prop} (hL : cm_le L' L) (hk : ∀ (pc2 : Nat) (A B : List (Nat × Value)) (st2 : List Value) (M2 : cm_M), cm_le A B → k' (pc2, A, st2, M2) → k (pc2, B, st2, M2)) (h : cm_sto ty n i nL (pc, L', st, M) k') : cm_sto ty n i nL (pc, L, st, M) k := by
  unfold cm_sto at h
  dsimp only at h
  split at h
  · exact ⟨h.1, hk _ _ _ _ _ (cm_le_1 _ _ hL) h.2⟩
  · exact ⟨h.1, hk _ _ _ _ _ (cm_le_2 _ _ hL) h.2⟩
  · exact ⟨h.1, hk _ _ _ _ _ (cm_le_1 _ _ hL) h.2⟩
  · exact h.elim
theorem cl_iconst : cm_Lo cm_iconst := by
  intro E P t pc L' L st M k' k hL hk h
  unfold cm_iconst at h ⊢
  dsimp only at h ⊢
  first | exact h.elim | exact hk _ _ _ _ _ hL h | exact ⟨h.1, hk _ _ _ _ _ hL h.2⟩ | exact ⟨h.1, h.2.1, hk _ _ _ _ _ hL h.2.2⟩ | exact ⟨h.1, h.2.1, h.2.2.1, hk _ _ _ _ _ hL h.2.2.2⟩ | exact ⟨h.1, h.2.1, h.2.2.1, h.2.2.2.1, hk _ _ _ _ _ hL h.2.2.2.2⟩ | exact ⟨h.1, h.2.1, h.2.2.1, h.2.2.2.1, h.2.2.2.2.1, hk _ _ _ _ _ hL h.2.2.2.2.2⟩ | exact ⟨h.1, h.2.1, h.2.2.1, h.2.2.2.1, h.2.2.2.2.1, h.2.2.2.2.2.1, hk _ _ _ _ _ hL h.2.2.2.2.2.2⟩ | exact ⟨h.1, h.2.1, h.2.2.1, h.2.2.2.1, h.2.2.2.2.1, h.2.2.2.2.2.1, h.2.2.2.2.2.2.1, hk _ _ _ _ _ hL h.2.2.2.2.2.2.2⟩ | exact ⟨h.1, h.2.1, h.2.2.1, h.2.2.2.1, h.2.2.2.2.1, h.2.2.2.2.2.1, h.2.2.2.2.2.2.1, h.2.2.2.2.2.2.2.1, hk _ _ _ _ _ hL h.2.2.2.2.2.2.2.2⟩ | exact ⟨h.1, h.2.1, h.2.2.1, h.2.2.2.1, h.2.2.2.2.1, h.2.2.2.2.2.1, h.2.2.2.2.2.2.1, h.2.2.2.2.2.2.2.1, h.2.2.2.2.2.2.2.2.1, hk _ _ _ _ _ hL h.2.2.2.2.2.2.2.2.2⟩
theorem cl_bipush : cm_Lo cm_bipush := by
  intro E P t pc L' L st M k' k hL hk h
  unfold cm_bipush at h ⊢
  dsimp only at h ⊢
  first | exact h.elim | exact hk _ _ _ _ _ hL h | exact ⟨h.1, hk _ _ _ _ _ hL h.2⟩ | exact ⟨h.1, h.2.1, hk _ _ _ _ _ hL h.2.2⟩ | exact ⟨h.1, h.2.1, h.2.2.1, hk _ _ _ _ _ hL h.2.2.2⟩ | exact ⟨h.1, h.2.1, h.2.2.1, h.2.2.2.1, hk _ _ _ _ _ hL h.2.2.2.2⟩ | exact ⟨h.1, h.2.1, h.2.2.1, h.2.2.2.1, h.2.2.2.2.1, hk _ _ _ _ _ hL h.2.2.2.2.2⟩ | exact ⟨h.1, h.2.1, h.2.2.1, h.2.2.2.1, h.2.2.2.2.1, h.2.2.2.2.2.1, hk _ _ _ _ _ hL h.2.2.2.2.2.2⟩ | exact ⟨h.1, h.2.1, h.2.2.1, h.2.2.2.1, h.2.2.2.2.1, h.2.2.2.2.2.1, h.2.2.2.2.2.2.1, hk _ _ _ _ _ hL h.2.2.2.2.2.2.2⟩ | exact ⟨h.1, h.2.1, h.2.2.1, h.2.2.2.1, h.2.2.2.2.1, h.2.2.2.2.2.1, h.2.2.2.2.2.2.1, h.2.2.2.2.2.2.2.1, hk _ _ _ _ _ hL h.2.2.2.2.2.2.2.2⟩ | exact ⟨h.1, h.2.1, h.2.2.1, h.2.2.2.1, h.2.2.2.2.1, h.2.2.2.2.2.1, h.2.2.2.2.2.2.1, h.2.2.2.2.2.2.2.1, h.2.2.2.2.2.2.2.2.1, hk _ _ _ _ _ hL h.2.2.2.2.2.2.2.2.2⟩
theorem cl_sipush : cm_Lo cm_sipush := by
  intro E P t pc L' L st M k' k hL hk h
  unfold cm_sipush at h ⊢
  dsimp only at h ⊢
  first | exact h.elim | exact hk _ _ _ _ _ hL h | exact ⟨h.1, hk _ _ _ _ _ hL h.2⟩ | exact ⟨h.1, h.2.1, hk _ _ _ _ _ hL h.2.2⟩ | exact ⟨h.1, h.2.1, h.2.2.1, hk _ _ _ _ _ hL h.2.2.2⟩ | exact ⟨h.1, h.2.1, h.2.2.1, h.2.2.2.1, hk _ _ _ _ _ hL h.2.2.2.2⟩ | exact ⟨h.1, h.2.1, h.2.2.1, h.2.2.2.1, h.2.2.2.2.1, hk _ _ _ _ _ hL h.2.2.2.2.2⟩ | exact ⟨h.1, h.2.1, h.2.2.1, h.2.2.2.1, h.2.2.2.2.1, h.2.2.2.2.2.1, hk _ _ _ _ _ hL h.2.2.2.2.2.2⟩ | exact ⟨h.1, h.2.1, h.2.2.1, h.2.2.2.1, h.2.2.2.2.1, h.2.2.2.2.2.1, h.2.2.2.2.2.2.1, hk _ _ _ _ _ hL h.2.2.2.2.2.2.2⟩ | exact ⟨h.1, h.2.1, h.2.2.1, h.2.2.2.1, h.2.2.2.2.1, h.2.2.2.2.2.1, h.2.2.2.2.2.2.1, h.2.2.2.2.2.2.2.1, hk _ _ _ _ _ hL h.2.2.2.2.2.2.2.2⟩ | exact ⟨h.1, h.2.1, h.2.2.1, h.2.2.2.1, h.2.2.2.2.1, h.2.2.2.2.2.1, h.2.2.2.2.2.2.1, h.2.2.2.2.2.2.2.1, h.2.2.2.2.2.2.2.2.1, hk _ _ _ _ _ hL h.2.2.2.2.2.2.2.2.2⟩
theorem cl_lconst : cm_Lo cm_lconst := by
  intro E P t pc L' L st M k' k hL hk h
  unfold cm_lconst at h ⊢
  dsimp only at h ⊢
  first | exact h.elim | exact hk _ _ _ _ _ hL h | exact ⟨h.1, hk _ _ _ _ _ hL h.2⟩ | exact ⟨h.1, h.2.1, hk _ _ _ _ _ hL h.2.2⟩ | exact ⟨h.1, h.2.1, h.2.2.1, hk _ _ _ _ _ hL h.2.2.2⟩ | exact ⟨h.1, h.2.1, h.2.2.1, h.2.2.2.1, hk _ _ _ _ _ hL h.2.2.2.2⟩ | exact ⟨h.1, h.2.1, h.2.2.1, h.2.2.2.1, h.2.2.2.2.1, hk _ _ _ _ _ hL h.2.2.2.2.2⟩ | exact ⟨h.1, h.2.1, h.2.2.1, h.2.2.2.1, h.2.2.2.2.1, h.2.2.2.2.2.1, hk _ _ _ _ _ hL h.2.2.2.2.2.2⟩ | exact ⟨h.1, h.2.1, h.2.2.1, h.2.2.2.1, h.2.2.2.2.1, h.2.2.2.2.2.1, h.2.2.2.2.2.2.1, hk _ _ _ _ _ hL h.2.2.2.2.2.2.2⟩ | exact ⟨h.1, h.2.1, h.2.2.1, h.2.2.2.1, h.2.2.2.2.1, h.2.2.2.2.2.1, h.2.2.2.2.2.2.1, h.2.2.2.2.2.2.2.1, hk _ _ _ _ _ hL h.2.2.2.2.2.2.2.2⟩ | exact ⟨h.1, h.2.1, h.2.2.1, h.2.2.2.1, h.2.2.2.2.1, h.2.2.2.2.2.1, h.2.2.2.2.2.2.1, h.2.2.2.2.2.2.2.1, h.2.2.2.2.2.2.2.2.1, hk _ _ _ _ _ hL h.2.2.2.2.2.2.2.2.2⟩
theorem cl_iload : cm_Lo cm_iload := fun E P t pc L' L st M k' k hL hk h => cl_ld hL hk h
theorem cl_iloadn : cm_Lo cm_iloadn := fun E P t pc L' L st M k' k hL hk h => cl_ld hL hk h
theorem cl_lload : cm_Lo cm_lload := fun E P t pc L' L st M k' k hL hk h => cl_ld hL hk h
theorem cl_lloadn : cm_Lo cm_lloadn := fun E P t pc L' L st M k' k hL hk h => cl_ld hL hk h
theorem cl_aload : cm_Lo cm_aload := fun E P t pc L' L st M k' k hL hk h => cl_ld hL hk h
theorem cl_aloadn : cm_Lo cm_aloadn := fun E P t pc L' L st M k' k hL hk h => cl_ld hL hk h
theorem cl_istore : cm_Lo cm_istore := fun E P t pc L' L st M k' k hL hk h => cl_sto hL hk h
theorem cl_istoren : cm_Lo cm_istoren := fun E P t pc L' L st M k' k hL hk h => cl_sto hL hk h
theorem cl_lstore : cm_Lo cm_lstore := fun E P t pc L' L st M k' k hL hk h => cl_sto hL hk h
theorem cl_lstoren : cm_Lo cm_lstoren := fun E P t pc L' L st M k' k hL hk h => cl_sto hL hk h
theorem cl_astore : cm_Lo cm_astore := fun E P t pc L' L st M k' k hL hk h => cl_sto hL hk h
theorem cl_astoren : cm_Lo cm_astoren := fun E P t pc L' L st M k' k hL hk h => cl_sto hL hk h
theorem cl_iadd : cm_Lo cm_iadd := by
  intro E P t pc L' L st M k' k hL hk h
  unfold cm_iadd at h ⊢
  dsimp only at h ⊢
  split at h <;> (first | exact h.elim | exact hk _ _ _ _ _ hL h | exact ⟨h.1, hk _ _ _ _ _ hL h.2⟩ | exact ⟨h.1, h.2.1, hk _ _ _ _ _ hL h.2.2⟩ | exact ⟨h.1, h.2.1, h.2.2.1, hk _ _ _ _ _ hL h.2.2.2⟩ | exact ⟨h.1, h.2.1, h.2.2.1, h.2.2.2.1, hk _ _ _ _ _ hL h.2.2.2.2⟩ | exact ⟨h.1, h.2.1, h.2.2.1, h.2.2.2.1, h.2.2.2.2.1, hk _ _ _ _ _ hL h.2.2.2.2.2⟩ | exact ⟨h.1, h.2.1, h.2.2.1, h.2.2.2.1, h.2.2.2.2.1, h.2.2.2.2.2.1, hk _ _ _ _ _ hL h.2.2.2.2.2.2⟩ | exact ⟨h.1, h.2.1, h.2.2.1, h.2.2.2.1, h.2.2.2.2.1, h.2.2.2.2.2.1, h.2.2.2.2.2.2.1, hk _ _ _ _ _ hL h.2.2.2.2.2.2.2⟩ | exact ⟨h.1, h.2.1, h.2.2.1, h.2.2.2.1, h.2.2.2.2.1, h.2.2.2.2.2.1, h.2.2.2.2.2.2.1, h.2.2.2.2.2.2.2.1, hk _ _ _ _ _ hL h.2.2.2.2.2.2.2.2⟩ | exact ⟨h.1, h.2.1, h.2.2.1, h.2.2.2.1, h.2.2.2.2.1, h.2.2.2.2.2.1, h.2.2.2.2.2.2.1, h.2.2.2.2.2.2.2.1, h.2.2.2.2.2.2.2.2.1, hk _ _ _ _ _ hL h.2.2.2.2.2.2.2.2.2⟩)
theorem cl_isub : cm_Lo cm_isub := by
  intro E P t pc L' L st M k' k hL hk h
  unfold cm_isub at h ⊢
  dsimp only at h ⊢
  split at h <;> (first | exact h.elim | exact hk _ _ _ _ _ hL h | exact ⟨h.1, hk _ _ _ _ _ hL h.2⟩ | exact ⟨h.1, h.2.1, hk _ _ _ _ _ hL h.2.2⟩ | exact ⟨h.1, h.2.1, h.2.2.1, hk _ _ _ _ _ hL h.2.2.2⟩ | exact ⟨h.1, h.2.1, h.2.2.1, h.2.2.2.1, hk _ _ _ _ _ hL h.2.2.2.2⟩ | exact ⟨h.1, h.2.1, h.2.2.1, h.2.2.2.1, h.2.2.2.2.1, hk _ _ _ _ _ hL h.2.2.2.2.2⟩ | exact ⟨h.1, h.2.1, h.2.2.1, h.2.2.2.1, h.2.2.2.2.1, h.2.2.2.2.2.1, hk _ _ _ _ _ hL h.2.2.2.2.2.2⟩ | exact ⟨h.1, h.2.1, h.2.2.1, h.2.2.2.1, h.2.2.2.2.1, h.2.2.2.2.2.1, h.2.2.2.2.2.2.1, hk _ _ _ _ _ hL h.2.2.2.2.2.2.2⟩ | exact ⟨h.1, h.2.1, h.2.2.1, h.2.2.2.1, h.2.2.2.2.1, h.2.2.2.2.2.1, h.2.2.2.2.2.2.1, h.2.2.2.2.2.2.2.1, hk _ _ _ _ _ hL h.2.2.2.2.2.2.2.2⟩ | exact ⟨h.1, h.2.1, h.2.2.1, h.2.2.2.1, h.2.2.2.2.1, h.2.2.2.2.2.1, h.2.2.2.2.2.2.1, h.2.2.2.2.2.2.2.1, h.2.2.2.2.2.2.2.2.1, hk _ _ _ _ _ hL h.2.2.2.2.2.2.2.2.2⟩)
theorem cl_imul : cm_Lo cm_imul := by
  intro E P t pc L' L st M k' k hL hk h
  unfold cm_imul at h ⊢
  dsimp only at h ⊢
  split at h <;> (first | exact h.elim | exact hk _ _ _ _ _ hL h | exact ⟨h.1, hk _ _ _ _ _ hL h.2⟩ | exact ⟨h.1, h.2.1, hk _ _ _ _ _ hL h.2.2⟩ | exact ⟨h.1, h.2.1, h.2.2.1, hk _ _ _ _ _ hL h.2.2.2⟩ | exact ⟨h.1, h.2.1, h.2.2.1, h.2.2.2.1, hk _ _ _ _ _ hL h.2.2.2.2⟩ | exact ⟨h.1, h.2.1, h.2.2.1, h.2.2.2.1, h.2.2.2.2.1, hk _ _ _ _ _ hL h.2.2.2.2.2⟩ | exact ⟨h.1, h.2.1, h.2.2.1, h.2.2.2.1, h.2.2.2.2.1, h.2.2.2.2.2.1, hk _ _ _ _ _ hL h.2.2.2.2.2.2⟩ | exact ⟨h.1, h.2.1, h.2.2.1, h.2.2.2.1, h.2.2.2.2.1, h.2.2.2.2.2.1, h.2.2.2.2.2.2.1, hk _ _ _ _ _ hL h.2.2.2.2.2.2.2⟩ | exact ⟨h.1, h.2.1, h.2.2.1, h.2.2.2.1, h.2.2.2.2.1, h.2.2.2.2.2.1, h.2.2.2.2.2.2.1, h.2.2.2.2.2.2.2.1, hk _ _ _ _ _ hL h.2.2.2.2.2.2.2.2⟩ | exact ⟨h.1, h.2.1, h.2.2.1, h.2.2.2.1, h.2.2.2.2.1, h.2.2.2.2.2.1, h.2.2.2.2.2.2.1, h.2.2.2.2.2.2.2.1, h.2.2.2.2.2.2.2.2.1, hk _ _ _ _ _ hL h.2.2.2.2.2.2.2.2.2⟩)
theorem cl_iand : cm_Lo cm_iand := by
  intro E P t pc L' L st M k' k hL hk h
  unfold cm_iand at h ⊢
  dsimp only at h ⊢
  split at h <;> (first | exact h.elim | exact hk _ _ _ _ _ hL h | exact ⟨h.1, hk _ _ _ _ _ hL h.2⟩ | exact ⟨h.1, h.2.1, hk _ _ _ _ _ hL h.2.2⟩ | exact ⟨h.1, h.2.1, h.2.2.1, hk _ _ _ _ _ hL h.2.2.2⟩ | exact ⟨h.1, h.2.1, h.2.2.1, h.2.2.2.1, hk _ _ _ _ _ hL h.2.2.2.2⟩ | exact ⟨h.1, h.2.1, h.2.2.1, h.2.2.2.1, h.2.2.2.2.1, hk _ _ _ _ _ hL h.2.2.2.2.2⟩ | exact ⟨h.1, h.2.1, h.2.2.1, h.2.2.2.1, h.2.2.2.2.1, h.2.2.2.2.2.1, hk _ _ _ _ _ hL h.2.2.2.2.2.2⟩ | exact ⟨h.1, h.2.1, h.2.2.1, h.2.2.2.1, h.2.2.2.2.1, h.2.2.2.2.2.1, h.2.2.2.2.2.2.1, hk _ _ _ _ _ hL h.2.2.2.2.2.2.2⟩ | exact ⟨h.1, h.2.1, h.2.2.1, h.2.2.2.1, h.2.2.2.2.1, h.2.2.2.2.2.1, h.2.2.2.2.2.2.1, h.2.2.2.2.2.2.2.1, hk _ _ _ _ _ hL h.2.2.2.2.2.2.2.2⟩ | exact ⟨h.1, h.2.1, h.2.2.1, h.2.2.2.1, h.2.2.2.2.1, h.2.2.2.2.2.1, h.2.2.2.2.2.2.1, h.2.2.2.2.2.2.2.1, h.2.2.2.2.2.2.2.2.1, hk _ _ _ _ _ hL h.2.2.2.2.2.2.2.2.2⟩)
theorem cl_ior : cm_Lo cm_ior := by
  intro E P t pc L' L st M k' k hL hk h
  unfold cm_ior at h ⊢
  dsimp only at h ⊢
  split at h <;> (first | exact h.elim | exact hk _ _ _ _ _ hL h | exact ⟨h.1, hk _ _ _ _ _ hL h.2⟩ | exact ⟨h.1, h.2.1, hk _ _ _ _ _ hL h.2.2⟩ | exact ⟨h.1, h.2.1, h.2.2.1, hk _ _ _ _ _ hL h.2.2.2⟩ | exact ⟨h.1, h.2.1, h.2.2.1, h.2.2.2.1, hk _ _ _ _ _ hL h.2.2.2.2⟩ | exact ⟨h.1, h.2.1, h.2.2.1, h.2.2.2.1, h.2.2.2.2.1, hk _ _ _ _ _ hL h.2.2.2.2.2⟩ | exact ⟨h.1, h.2.1, h.2.2.1, h.2.2.2.1, h.2.2.2.2.1, h.2.2.2.2.2.1, hk _ _ _ _ _ hL h.2.2.2.2.2.2⟩ | exact ⟨h.1, h.2.1, h.2.2.1, h.2.2.2.1, h.2.2.2.2.1, h.2.2.2.2.2.1, h.2.2.2.2.2.2.1, hk _ _ _ _ _ hL h.2.2.2.2.2.2.2⟩ | exact ⟨h.1, h.2.1, h.2.2.1, h.2.2.2.1, h.2.2.2.2.1, h.2.2.2.2.2.1, h.2.2.2.2.2.2.1, h.2.2.2.2.2.2.2.1, hk _ _ _ _ _ hL h.2.2.2.2.2.2.2.2⟩ | exact ⟨h.1, h.2.1, h.2.2.1, h.2.2.2.1, h.2.2.2.2.1, h.2.2.2.2.2.1, h.2.2.2.2.2.2.1, h.2.2.2.2.2.2.2.1, h.2.2.2.2.2.2.2.2.1, hk _ _ _ _ _ hL h.2.2.2.2.2.2.2.2.2⟩)
theorem cl_ixor : cm_Lo cm_ixor := by
  intro E P t pc L' L st M k' k hL hk h
  unfold cm_ixor at h ⊢
  dsimp only at h ⊢
  split at h <;> (first | exact h.elim | exact hk _ _ _ _ _ hL h | exact ⟨h.1, hk _ _ _ _ _ hL h.2⟩ | exact ⟨h.1, h.2.1, hk _ _ _ _ _ hL h.2.2⟩ | exact ⟨h.1, h.2.1, h.2.2.1, hk _ _ _ _ _ hL h.2.2.2⟩ | exact ⟨h.1, h.2.1, h.2.2.1, h.2.2.2.1, hk _ _ _ _ _ hL h.2.2.2.2⟩ | exact ⟨h.1, h.2.1, h.2.2.1, h.2.2.2.1, h.2.2.2.2.1, hk _ _ _ _ _ hL h.2.2.2.2.2⟩ | exact ⟨h.1, h.2.1, h.2.2.1, h.2.2.2.1, h.2.2.2.2.1, h.2.2.2.2.2.1, hk _ _ _ _ _ hL h.2.2.2.2.2.2⟩ | exact ⟨h.1, h.2.1, h.2.2.1, h.2.2.2.1, h.2.2.2.2.1, h.2.2.2.2.2.1, h.2.2.2.2.2.2.1, hk _ _ _ _ _ hL h.2.2.2.2.2.2.2⟩ | exact ⟨h.1, h.2.1, h.2.2.1, h.2.2.2.1, h.2.2.2.2.1, h.2.2.2.2.2.1, h.2.2.2.2.2.2.1, h.2.2.2.2.2.2.2.1, hk _ _ _ _ _ hL h.2.2.2.2.2.2.2.2⟩ | exact ⟨h.1, h.2.1, h.2.2.1, h.2.2.2.1, h.2.2.2.2.1, h.2.2.2.2.2.1, h.2.2.2.2.2.2.1, h.2.2.2.2.2.2.2.1, h.2.2.2.2.2.2.2.2.1, hk _ _ _ _ _ hL h.2.2.2.2.2.2.2.2.2⟩)
theorem cl_ishl : cm_Lo cm_ishl := by
  intro E P t pc L' L st M k' k hL hk h
  unfold cm_ishl at h ⊢
  dsimp only at h ⊢
  split at h <;> (first | exact h.elim | exact hk _ _ _ _ _ hL h | exact ⟨h.1, hk _ _ _ _ _ hL h.2⟩ | exact ⟨h.1, h.2.1, hk _ _ _ _ _ hL h.2.2⟩ | exact ⟨h.1, h.2.1, h.2.2.1, hk _ _ _ _ _ hL h.2.2.2⟩ | exact ⟨h.1, h.2.1, h.2.2.1, h.2.2.2.1, hk _ _ _ _ _ hL h.2.2.2.2⟩ | exact ⟨h.1, h.2.1, h.2.2.1, h.2.2.2.1, h.2.2.2.2.1, hk _ _ _ _ _ hL h.2.2.2.2.2⟩ | exact ⟨h.1, h.2.1, h.2.2.1, h.2.2.2.1, h.2.2.2.2.1, h.2.2.2.2.2.1, hk _ _ _ _ _ hL h.2.2.2.2.2.2⟩ | exact ⟨h.1, h.2.1, h.2.2.1, h.2.2.2.1, h.2.2.2.2.1, h.2.2.2.2.2.1, h.2.2.2.2.2.2.1, hk _ _ _ _ _ hL h.2.2.2.2.2.2.2⟩ | exact ⟨h.1, h.2.1, h.2.2.1, h.2.2.2.1, h.2.2.2.2.1, h.2.2.2.2.2.1, h.2.2.2.2.2.2.1, h.2.2.2.2.2.2.2.1, hk _ _ _ _ _ hL h.2.2.2.2.2.2.2.2⟩ | exact ⟨h.1, h.2.1, h.2.2.1, h.2.2.2.1, h.2.2.2.2.1, h.2.2.2.2.2.1, h.2.2.2.2.2.2.1, h.2.2.2.2.2.2.2.1, h.2.2.2.2.2.2.2.2.1, hk _ _ _ _ _ hL h.2.2.2.2.2.2.2.2.2⟩)
theorem cl_ishr : cm_Lo cm_ishr := by
  intro E P t pc L' L st M k' k hL hk h
  unfold cm_ishr at h ⊢
  dsimp only at h ⊢
  split at h <;> (first | exact h.elim | exact hk _ _ _ _ _ hL h | exact ⟨h.1, hk _ _ _ _ _ hL h.2⟩ | exact ⟨h.1, h.2.1, hk _ _ _ _ _ hL h.2.2⟩ | exact ⟨h.1, h.2.1, h.2.2.1, hk _ _ _ _ _ hL h.2.2.2⟩ | exact ⟨h.1, h.2.1, h.2.2.1, h.2.2.2.1, hk _ _ _ _ _ hL h.2.2.2.2⟩ | exact ⟨h.1, h.2.1, h.2.2.1, h.2.2.2.1, h.2.2.2.2.1, hk _ _ _ _ _ hL h.2.2.2.2.2⟩ | exact ⟨h.1, h.2.1, h.2.2.1, h.2.2.2.1, h.2.2.2.2.1, h.2.2.2.2.2.1, hk _ _ _ _ _ hL h.2.2.2.2.2.2⟩ | exact ⟨h.1, h.2.1, h.2.2.1, h.2.2.2.1, h.2.2.2.2.1, h.2.2.2.2.2.1, h.2.2.2.2.2.2.1, hk _ _ _ _ _ hL h.2.2.2.2.2.2.2⟩ | exact ⟨h.1, h.2.1, h.2.2.1, h.2.2.2.1, h.2.2.2.2.1, h.2.2.2.2.2.1, h.2.2.2.2.2.2.1, h.2.2.2.2.2.2.2.1, hk _ _ _ _ _ hL h.2.2.2.2.2.2.2.2⟩ | exact ⟨h.1, h.2.1, h.2.2.1, h.2.2.2.1, h.2.2.2.2.1, h.2.2.2.2.2.1, h.2.2.2.2.2.2.1, h.2.2.2.2.2.2.2.1, h.2.2.2.2.2.2.2.2.1, hk _ _ _ _ _ hL h.2.2.2.2.2.2.2.2.2⟩)
theorem cl_iushr : cm_Lo cm_iushr := by
  intro E P t pc L' L st M k' k hL hk h
  unfold cm_iushr at h ⊢
  dsimp only at h ⊢
  split at h <;> (first | exact h.elim | exact hk _ _ _ _ _ hL h | exact ⟨h.1, hk _ _ _ _ _ hL h.2⟩ | exact ⟨h.1, h.2.1, hk _ _ _ _ _ hL h.2.2⟩ | exact ⟨h.1, h.2.1, h.2.2.1, hk _ _ _ _ _ hL h.2.2.2⟩ | exact ⟨h.1, h.2.1, h.2.2.1, h.2.2.2.1, hk _ _ _ _ _ hL h.2.2.2.2⟩ | exact ⟨h.1, h.2.1, h.2.2.1, h.2.2.2.1, h.2.2.2.2.1, hk _ _ _ _ _ hL h.2.2.2.2.2⟩ | exact ⟨h.1, h.2.1, h.2.2.1, h.2.2.2.1, h.2.2.2.2.1, h.2.2.2.2.2.1, hk _ _ _ _ _ hL h.2.2.2.2.2.2⟩ | exact ⟨h.1, h.2.1, h.2.2.1, h.2.2.2.1, h.2.2.2.2.1, h.2.2.2.2.2.1, h.2.2.2.2.2.2.1, hk _ _ _ _ _ hL h.2.2.2.2.2.2.2⟩ | exact ⟨h.1, h.2.1, h.2.2.1, h.2.2.2.1, h.2.2.2.2.1, h.2.2.2.2.2.1, h.2.2.2.2.2.2.1, h.2.2.2.2.2.2.2.1, hk _ _ _ _ _ hL h.2.2.2.2.2.2.2.2⟩ | exact ⟨h.1, h.2.1, h.2.2.1, h.2.2.2.1, h.2.2.2.2.1, h.2.2.2.2.2.1, h.2.2.2.2.2.2.1, h.2.2.2.2.2.2.2.1, h.2.2.2.2.2.2.2.2.1, hk _ _ _ _ _ hL h.2.2.2.2.2.2.2.2.2⟩)
theorem cl_idiv : cm_Lo cm_idiv := by
  intro E P t pc L' L st M k' k hL hk h
  unfold cm_idiv at h ⊢
  dsimp only at h ⊢
  split at h <;> (first | exact h.elim | exact hk _ _ _ _ _ hL h | exact ⟨h.1, hk _ _ _ _ _ hL h.2⟩ | exact ⟨h.1, h.2.1, hk _ _ _ _ _ hL h.2.2⟩ | exact ⟨h.1, h.2.1, h.2.2.1, hk _ _ _ _ _ hL h.2.2.2⟩ | exact ⟨h.1, h.2.1, h.2.2.1, h.2.2.2.1, hk _ _ _ _ _ hL h.2.2.2.2⟩ | exact ⟨h.1, h.2.1, h.2.2.1, h.2.2.2.1, h.2.2.2.2.1, hk _ _ _ _ _ hL h.2.2.2.2.2⟩ | exact ⟨h.1, h.2.1, h.2.2.1, h.2.2.2.1, h.2.2.2.2.1, h.2.2.2.2.2.1, hk _ _ _ _ _ hL h.2.2.2.2.2.2⟩ | exact ⟨h.1, h.2.1, h.2.2.1, h.2.2.2.1, h.2.2.2.2.1, h.2.2.2.2.2.1, h.2.2.2.2.2.2.1, hk _ _ _ _ _ hL h.2.2.2.2.2.2.2⟩ | exact ⟨h.1, h.2.1, h.2.2.1, h.2.2.2.1, h.2.2.2.2.1, h.2.2.2.2.2.1, h.2.2.2.2.2.2.1, h.2.2.2.2.2.2.2.1, hk _ _ _ _ _ hL h.2.2.2.2.2.2.2.2⟩ | exact ⟨h.1, h.2.1, h.2.2.1, h.2.2.2.1, h.2.2.2.2.1, h.2.2.2.2.2.1, h.2.2.2.2.2.2.1, h.2.2.2.2.2.2.2.1, h.2.2.2.2.2.2.2.2.1, hk _ _ _ _ _ hL h.2.2.2.2.2.2.2.2.2⟩)
theorem cl_irem : cm_Lo cm_irem := by
  intro E P t pc L' L st M k' k hL hk h
  unfold cm_irem at h ⊢
  dsimp only at h ⊢
  split at h <;> (first | exact h.elim | exact hk _ _ _ _ _ hL h | exact ⟨h.1, hk _ _ _ _ _ hL h.2⟩ | exact ⟨h.1, h.2.1, hk _ _ _ _ _ hL h.2.2⟩ | exact ⟨h.1, h.2.1, h.2.2.1, hk _ _ _ _ _ hL h.2.2.2⟩ | exact ⟨h.1, h.2.1, h.2.2.1, h.2.2.2.1, hk _ _ _ _ _ hL h.2.2.2.2⟩ | exact ⟨h.1, h.2.1, h.2.2.1, h.2.2.2.1, h.2.2.2.2.1, hk _ _ _ _ _ hL h.2.2.2.2.2⟩ | exact ⟨h.1, h.2.1, h.2.2.1, h.2.2.2.1, h.2.2.2.2.1, h.2.2.2.2.2.1, hk _ _ _ _ _ hL h.2.2.2.2.2.2⟩ | exact ⟨h.1, h.2.1, h.2.2.1, h.2.2.2.1, h.2.2.2.2.1, h.2.2.2.2.2.1, h.2.2.2.2.2.2.1, hk _ _ _ _ _ hL h.2.2.2.2.2.2.2⟩ | exact ⟨h.1, h.2.1, h.2.2.1, h.2.2.2.1, h.2.2.2.2.1, h.2.2.2.2.2.1, h.2.2.2.2.2.2.1, h.2.2.2.2.2.2.2.1, hk _ _ _ _ _ hL h.2.2.2.2.2.2.2.2⟩ | exact ⟨h.1, h.2.1, h.2.2.1, h.2.2.2.1, h.2.2.2.2.1, h.2.2.2.2.2.1, h.2.2.2.2.2.2.1, h.2.2.2.2.2.2.2.1, h.2.2.2.2.2.2.2.2.1, hk _ _ _ _ _ hL h.2.2.2.2.2.2.2.2.2⟩)
theorem cl_ineg : cm_Lo cm_ineg := by
  intro E P t pc L' L st M k' k hL hk h
  unfold cm_ineg at h ⊢
  dsimp only at h ⊢
  split at h <;> (first | exact h.elim | exact hk _ _ _ _ _ hL h | exact ⟨h.1, hk _ _ _ _ _ hL h.2⟩ | exact ⟨h.1, h.2.1, hk _ _ _ _ _ hL h.2.2⟩ | exact ⟨h.1, h.2.1, h.2.2.1, hk _ _ _ _ _ hL h.2.2.2⟩ | exact ⟨h.1, h.2.1, h.2.2.1, h.2.2.2.1, hk _ _ _ _ _ hL h.2.2.2.2⟩ | exact ⟨h.1, h.2.1, h.2.2.1, h.2.2.2.1, h.2.2.2.2.1, hk _ _ _ _ _ hL h.2.2.2.2.2⟩ | exact ⟨h.1, h.2.1, h.2.2.1, h.2.2.2.1, h.2.2.2.2.1, h.2.2.2.2.2.1, hk _ _ _ _ _ hL h.2.2.2.2.2.2⟩ | exact ⟨h.1, h.2.1, h.2.2.1, h.2.2.2.1, h.2.2.2.2.1, h.2.2.2.2.2.1, h.2.2.2.2.2.2.1, hk _ _ _ _ _ hL h.2.2.2.2.2.2.2⟩ | exact ⟨h.1, h.2.1, h.2.2.1, h.2.2.2.1, h.2.2.2.2.1, h.2.2.2.2.2.1, h.2.2.2.2.2.2.1, h.2.2.2.2.2.2.2.1, hk _ _ _ _ _ hL h.2.2.2.2.2.2.2.2⟩ | exact ⟨h.1, h.2.1, h.2.2.1, h.2.2.2.1, h.2.2.2.2.1, h.2.2.2.2.2.1, h.2.2.2.2.2.2.1, h.2.2.2.2.2.2.2.1, h.2.2.2.2.2.2.2.2.1, hk _ _ _ _ _ hL h.2.2.2.2.2.2.2.2.2⟩)
theorem cl_i2b : cm_Lo cm_i2b := by
  intro E P t pc L' L st M k' k hL hk h
  unfold cm_i2b at h ⊢
  dsimp only at h ⊢
  split at h <;> (first | exact h.elim | exact hk _ _ _ _ _ hL h | exact ⟨h.1, hk _ _ _ _ _ hL h.2⟩ | exact ⟨h.1, h.2.1, hk _ _ _ _ _ hL h.2.2⟩ | exact ⟨h.1, h.2.1, h.2.2.1, hk _ _ _ _ _ hL h.2.2.2⟩ | exact ⟨h.1, h.2.1, h.2.2.1, h.2.2.2.1, hk _ _ _ _ _ hL h.2.2.2.2⟩ | exact ⟨h.1, h.2.1, h.2.2.1, h.2.2.2.1, h.2.2.2.2.1, hk _ _ _ _ _ hL h.2.2.2.2.2⟩ | exact ⟨h.1, h.2.1, h.2.2.1, h.2.2.2.1, h.2.2.2.2.1, h.2.2.2.2.2.1, hk _ _ _ _ _ hL h.2.2.2.2.2.2⟩ | exact ⟨h.1, h.2.1, h.2.2.1, h.2.2.2.1, h.2.2.2.2.1, h.2.2.2.2.2.1, h.2.2.2.2.2.2.1, hk _ _ _ _ _ hL h.2.2.2.2.2.2.2⟩ | exact ⟨h.1, h.2.1, h.2.2.1, h.2.2.2.1, h.2.2.2.2.1, h.2.2.2.2.2.1, h.2.2.2.2.2.2.1, h.2.2.2.2.2.2.2.1, hk _ _ _ _ _ hL h.2.2.2.2.2.2.2.2⟩ | exact ⟨h.1, h.2.1, h.2.2.1, h.2.2.2.1, h.2.2.2.2.1, h.2.2.2.2.2.1, h.2.2.2.2.2.2.1, h.2.2.2.2.2.2.2.1, h.2.2.2.2.2.2.2.2.1, hk _ _ _ _ _ hL h.2.2.2.2.2.2.2.2.2⟩)
theorem cl_i2l : cm_Lo cm_i2l := by
  intro E P t pc L' L st M k' k hL hk h
  unfold cm_i2l at h ⊢
  dsimp only at h ⊢
  split at h <;> (first | exact h.elim | exact hk _ _ _ _ _ hL h | exact ⟨h.1, hk _ _ _ _ _ hL h.2⟩ | exact ⟨h.1, h.2.1, hk _ _ _ _ _ hL h.2.2⟩ | exact ⟨h.1, h.2.1, h.2.2.1, hk _ _ _ _ _ hL h.2.2.2⟩ | exact ⟨h.1, h.2.1, h.2.2.1, h.2.2.2.1, hk _ _ _ _ _ hL h.2.2.2.2⟩ | exact ⟨h.1, h.2.1, h.2.2.1, h.2.2.2.1, h.2.2.2.2.1, hk _ _ _ _ _ hL h.2.2.2.2.2⟩ | exact ⟨h.1, h.2.1, h.2.2.1, h.2.2.2.1, h.2.2.2.2.1, h.2.2.2.2.2.1, hk _ _ _ _ _ hL h.2.2.2.2.2.2⟩ | exact ⟨h.1, h.2.1, h.2.2.1, h.2.2.2.1, h.2.2.2.2.1, h.2.2.2.2.2.1, h.2.2.2.2.2.2.1, hk _ _ _ _ _ hL h.2.2.2.2.2.2.2⟩ | exact ⟨h.1, h.2.1, h.2.2.1, h.2.2.2.1, h.2.2.2.2.1, h.2.2.2.2.2.1, h.2.2.2.2.2.2.1, h.2.2.2.2.2.2.2.1, hk _ _ _ _ _ hL h.2.2.2.2.2.2.2.2⟩ | exact ⟨h.1, h.2.1, h.2.2.1, h.2.2.2.1, h.2.2.2.2.1, h.2.2.2.2.2.1, h.2.2.2.2.2.2.1, h.2.2.2.2.2.2.2.1, h.2.2.2.2.2.2.2.2.1, hk _ _ _ _ _ hL h.2.2.2.2.2.2.2.2.2⟩)
theorem cl_lcmp : cm_Lo cm_lcmp := by
  intro E P t pc L' L st M k' k hL hk h
  unfold cm_lcmp at h ⊢
  dsimp only at h ⊢
  split at h <;> (first | exact h.elim | exact hk _ _ _ _ _ hL h | exact ⟨h.1, hk _ _ _ _ _ hL h.2⟩ | exact ⟨h.1, h.2.1, hk _ _ _ _ _ hL h.2.2⟩ | exact ⟨h.1, h.2.1, h.2.2.1, hk _ _ _ _ _ hL h.2.2.2⟩ | exact ⟨h.1, h.2.1, h.2.2.1, h.2.2.2.1, hk _ _ _ _ _ hL h.2.2.2.2⟩ | exact ⟨h.1, h.2.1, h.2.2.1, h.2.2.2.1, h.2.2.2.2.1, hk _ _ _ _ _ hL h.2.2.2.2.2⟩ | exact ⟨h.1, h.2.1, h.2.2.1, h.2.2.2.1, h.2.2.2.2.1, h.2.2.2.2.2.1, hk _ _ _ _ _ hL h.2.2.2.2.2.2⟩ | exact ⟨h.1, h.2.1, h.2.2.1, h.2.2.2.1, h.2.2.2.2.1, h.2.2.2.2.2.1, h.2.2.2.2.2.2.1, hk _ _ _ _ _ hL h.2.2.2.2.2.2.2⟩ | exact ⟨h.1, h.2.1, h.2.2.1, h.2.2.2.1, h.2.2.2.2.1, h.2.2.2.2.2.1, h.2.2.2.2.2.2.1, h.2.2.2.2.2.2.2.1, hk _ _ _ _ _ hL h.2.2.2.2.2.2.2.2⟩ | exact ⟨h.1, h.2.1, h.2.2.1, h.2.2.2.1, h.2.2.2.2.1, h.2.2.2.2.2.1, h.2.2.2.2.2.2.1, h.2.2.2.2.2.2.2.1, h.2.2.2.2.2.2.2.2.1, hk _ _ _ _ _ hL h.2.2.2.2.2.2.2.2.2⟩)
theorem cl_dup : cm_Lo cm_dup := by
  intro E P t pc L' L st M k' k hL hk h
  unfold cm_dup at h ⊢
  dsimp only at h ⊢
  split at h <;> (first | exact h.elim | exact hk _ _ _ _ _ hL h | exact ⟨h.1, hk _ _ _ _ _ hL h.2⟩ | exact ⟨h.1, h.2.1, hk _ _ _ _ _ hL h.2.2⟩ | exact ⟨h.1, h.2.1, h.2.2.1, hk _ _ _ _ _ hL h.2.2.2⟩ | exact ⟨h.1, h.2.1, h.2.2.1, h.2.2.2.1, hk _ _ _ _ _ hL h.2.2.2.2⟩ | exact ⟨h.1, h.2.1, h.2.2.1, h.2.2.2.1, h.2.2.2.2.1, hk _ _ _ _ _ hL h.2.2.2.2.2⟩ | exact ⟨h.1, h.2.1, h.2.2.1, h.2.2.2.1, h.2.2.2.2.1, h.2.2.2.2.2.1, hk _ _ _ _ _ hL h.2.2.2.2.2.2⟩ | exact ⟨h.1, h.2.1, h.2.2.1, h.2.2.2.1, h.2.2.2.2.1, h.2.2.2.2.2.1, h.2.2.2.2.2.2.1, hk _ _ _ _ _ hL h.2.2.2.2.2.2.2⟩ | exact ⟨h.1, h.2.1, h.2.2.1, h.2.2.2.1, h.2.2.2.2.1, h.2.2.2.2.2.1, h.2.2.2.2.2.2.1, h.2.2.2.2.2.2.2.1, hk _ _ _ _ _ hL h.2.2.2.2.2.2.2.2⟩ | exact ⟨h.1, h.2.1, h.2.2.1, h.2.2.2.1, h.2.2.2.2.1, h.2.2.2.2.2.1, h.2.2.2.2.2.2.1, h.2.2.2.2.2.2.2.1, h.2.2.2.2.2.2.2.2.1, hk _ _ _ _ _ hL h.2.2.2.2.2.2.2.2.2⟩)
theorem cl_pop : cm_Lo cm_pop := by
  intro E P t pc L' L st M k' k hL hk h
  unfold cm_pop at h ⊢
  dsimp only at h ⊢
  split at h <;> (first | exact h.elim | exact hk _ _ _ _ _ hL h | exact ⟨h.1, hk _ _ _ _ _ hL h.2⟩ | exact ⟨h.1, h.2.1, hk _ _ _ _ _ hL h.2.2⟩ | exact ⟨h.1, h.2.1, h.2.2.1, hk _ _ _ _ _ hL h.2.2.2⟩ | exact ⟨h.1, h.2.1, h.2.2.1, h.2.2.2.1, hk _ _ _ _ _ hL h.2.2.2.2⟩ | exact ⟨h.1, h.2.1, h.2.2.1, h.2.2.2.1, h.2.2.2.2.1, hk _ _ _ _ _ hL h.2.2.2.2.2⟩ | exact ⟨h.1, h.2.1, h.2.2.1, h.2.2.2.1, h.2.2.2.2.1, h.2.2.2.2.2.1, hk _ _ _ _ _ hL h.2.2.2.2.2.2⟩ | exact ⟨h.1, h.2.1, h.2.2.1, h.2.2.2.1, h.2.2.2.2.1, h.2.2.2.2.2.1, h.2.2.2.2.2.2.1, hk _ _ _ _ _ hL h.2.2.2.2.2.2.2⟩ | exact ⟨h.1, h.2.1, h.2.2.1, h.2.2.2.1, h.2.2.2.2.1, h.2.2.2.2.2.1, h.2.2.2.2.2.2.1, h.2.2.2.2.2.2.2.1, hk _ _ _ _ _ hL h.2.2.2.2.2.2.2.2⟩ | exact ⟨h.1, h.2.1, h.2.2.1, h.2.2.2.1, h.2.2.2.2.1, h.2.2.2.2.2.1, h.2.2.2.2.2.2.1, h.2.2.2.2.2.2.2.1, h.2.2.2.2.2.2.2.2.1, hk _ _ _ _ _ hL h.2.2.2.2.2.2.2.2.2⟩)
theorem cl_dup2 : cm_Lo cm_dup2 := by
  intro E P t pc L' L st M k' k hL hk h
  unfold cm_dup2 at h ⊢
  dsimp only at h ⊢
  split at h <;> (first | exact h.elim | exact hk _ _ _ _ _ hL h | exact ⟨h.1, hk _ _ _ _ _ hL h.2⟩ | exact ⟨h.1, h.2.1, hk _ _ _ _ _ hL h.2.2⟩ | exact ⟨h.1, h.2.1, h.2.2.1, hk _ _ _ _ _ hL h.2.2.2⟩ | exact ⟨h.1, h.2.1, h.2.2.1, h.2.2.2.1, hk _ _ _ _ _ hL h.2.2.2.2⟩ | exact ⟨h.1, h.2.1, h.2.2.1, h.2.2.2.1, h.2.2.2.2.1, hk _ _ _ _ _ hL h.2.2.2.2.2⟩ | exact ⟨h.1, h.2.1, h.2.2.1, h.2.2.2.1, h.2.2.2.2.1, h.2.2.2.2.2.1, hk _ _ _ _ _ hL h.2.2.2.2.2.2⟩ | exact ⟨h.1, h.2.1, h.2.2.1, h.2.2.2.1, h.2.2.2.2.1, h.2.2.2.2.2.1, h.2.2.2.2.2.2.1, hk _ _ _ _ _ hL h.2.2.2.2.2.2.2⟩ | exact ⟨h.1, h.2.1, h.2.2.1, h.2.2.2.1, h.2.2.2.2.1, h.2.2.2.2.2.1, h.2.2.2.2.2.2.1, h.2.2.2.2.2.2.2.1, hk _ _ _ _ _ hL h.2.2.2.2.2.2.2.2⟩ | exact ⟨h.1, h.2.1, h.2.2.1, h.2.2.2.1, h.2.2.2.2.1, h.2.2.2.2.2.1, h.2.2.2.2.2.2.1, h.2.2.2.2.2.2.2.1, h.2.2.2.2.2.2.2.2.1, hk _ _ _ _ _ hL h.2.2.2.2.2.2.2.2.2⟩)
theorem cl_iinc : cm_Lo cm_iinc := by
  intro E P t pc L' L st M k' k hL hk h
  unfold cm_iinc at h ⊢
  dsimp only at h ⊢
  split at h
  · rename_i x hx
    rw [hL.2 _ _ hx]
    exact ⟨h.1, hk _ _ _ _ _ (cm_le_1 _ _ hL) h.2⟩
  · exact h.elim
theorem cl_icmp_eq : cm_Lo cm_icmp_eq := by
  intro E P t pc L' L st M k' k hL hk h
  unfold cm_icmp_eq at h ⊢
  dsimp only at h ⊢
  split at h
  · exact ⟨h.1, fun z => hk _ _ _ _ _ hL (h.2.1 z), fun z => hk _ _ _ _ _ hL (h.2.2 z)⟩
  · exact h.elim
theorem cl_icmp_ne : cm_Lo cm_icmp_ne := by
  intro E P t pc L' L st M k' k hL hk h
  unfold cm_icmp_ne at h ⊢
  dsimp only at h ⊢
  split at h
  · exact ⟨h.1, fun z => hk _ _ _ _ _ hL (h.2.1 z), fun z => hk _ _ _ _ _ hL (h.2.2 z)⟩
  · exact h.elim
theorem cl_icmp_lt : cm_Lo cm_icmp_lt := by
  intro E P t pc L' L st M k' k hL hk h
  unfold cm_icmp_lt at h ⊢
  dsimp only at h ⊢
  split at h
  · exact ⟨h.1, fun z => hk _ _ _ _ _ hL (h.2.1 z), fun z => hk _ _ _ _ _ hL (h.2.2 z)⟩
  · exact h.elim
theorem cl_icmp_ge : cm_Lo cm_icmp_ge := by
  intro E P t pc L' L st M k' k hL hk h
  unfold cm_icmp_ge at h ⊢
  dsimp only at h ⊢
  split at h
  · exact ⟨h.1, fun z => hk _ _ _ _ _ hL (h.2.1 z), fun z => hk _ _ _ _ _ hL (h.2.2 z)⟩
  · exact h.elim
theorem cl_icmp_gt : cm_Lo cm_icmp_gt := by
  intro E P t pc L' L st M k' k hL hk h
  unfold cm_icmp_gt at h ⊢
  dsimp only at h ⊢
  split at h
  · exact ⟨h.1, fun z => hk _ _ _ _ _ hL (h.2.1 z), fun z => hk _ _ _ _ _ hL (h.2.2 z)⟩
  · exact h.elim
theorem cl_icmp_le : cm_Lo cm_icmp_le := by
  intro E P t pc L' L st M k' k hL hk h
  unfold cm_icmp_le at h ⊢
  dsimp only at h ⊢
  split at h
  · exact ⟨h.1, fun z => hk _ _ _ _ _ hL (h.2.1 z), fun z => hk _ _ _ _ _ hL (h.2.2 z)⟩
  · exact h.elim
theorem cl_if_eq : cm_Lo cm_if_eq := by
  intro E P t pc L' L st M k' k hL hk h
  unfold cm_if_eq at h ⊢
  dsimp only at h ⊢
  split at h
  · exact ⟨h.1, fun z => hk _ _ _ _ _ hL (h.2.1 z), fun z => hk _ _ _ _ _ hL (h.2.2 z)⟩
  · exact h.elim
theorem cl_if_ne : cm_Lo cm_if_ne := by
  intro E P t pc L' L st M k' k hL hk h
  unfold cm_if_ne at h ⊢
  dsimp only at h ⊢
  split at h
  · exact ⟨h.1, fun z => hk _ _ _ _ _ hL (h.2.1 z), fun z => hk _ _ _ _ _ hL (h.2.2 z)⟩
  · exact h.elim
theorem cl_if_lt : cm_Lo cm_if_lt := by
  intro E P t pc L' L st M k' k hL hk h
  unfold cm_if_lt at h ⊢
  dsimp only at h ⊢
  split at h
  · exact ⟨h.1, fun z => hk _ _ _ _ _ hL (h.2.1 z), fun z => hk _ _ _ _ _ hL (h.2.2 z)⟩
  · exact h.elim
theorem cl_if_ge : cm_Lo cm_if_ge := by
  intro E P t pc L' L st M k' k hL hk h
  unfold cm_if_ge at h ⊢
  dsimp only at h ⊢
  split at h
  · exact ⟨h.1, fun z => hk _ _ _ _ _ hL (h.2.1 z), fun z => hk _ _ _ _ _ hL (h.2.2 z)⟩
  · exact h.elim
theorem cl_if_gt : cm_Lo cm_if_gt := by
  intro E P t pc L' L st M k' k hL hk h
  unfold cm_if_gt at h ⊢
  dsimp only at h ⊢
  split at h
  · exact ⟨h.1, fun z => hk _ _ _ _ _ hL (h.2.1 z), fun z => hk _ _ _ _ _ hL (h.2.2 z)⟩
  · exact h.elim
theorem cl_if_le : cm_Lo cm_if_le := by
  intro E P t pc L' L st M k' k hL hk h
  unfold cm_if_le at h ⊢
  dsimp only at h ⊢
  split at h
  · exact ⟨h.1, fun z => hk _ _ _ _ _ hL (h.2.1 z), fun z => hk _ _ _ _ _ hL (h.2.2 z)⟩
  · exact h.elim
theorem cl_goto : cm_Lo cm_goto := by
  intro E P t pc L' L st M k' k hL hk h
  unfold cm_goto at h ⊢
  dsimp only at h ⊢
  first | exact h.elim | exact hk _ _ _ _ _ hL h | exact ⟨h.1, hk _ _ _ _ _ hL h.2⟩ | exact ⟨h.1, h.2.1, hk _ _ _ _ _ hL h.2.2⟩ | exact ⟨h.1, h.2.1, h.2.2.1, hk _ _ _ _ _ hL h.2.2.2⟩ | exact ⟨h.1, h.2.1, h.2.2.1, h.2.2.2.1, hk _ _ _ _ _ hL h.2.2.2.2⟩ | exact ⟨h.1, h.2.1, h.2.2.1, h.2.2.2.1, h.2.2.2.2.1, hk _ _ _ _ _ hL h.2.2.2.2.2⟩ | exact ⟨h.1, h.2.1, h.2.2.1, h.2.2.2.1, h.2.2.2.2.1, h.2.2.2.2.2.1, hk _ _ _ _ _ hL h.2.2.2.2.2.2⟩ | exact ⟨h.1, h.2.1, h.2.2.1, h.2.2.2.1, h.2.2.2.2.1, h.2.2.2.2.2.1, h.2.2.2.2.2.2.1, hk _ _ _ _ _ hL h.2.2.2.2.2.2.2⟩ | exact ⟨h.1, h.2.1, h.2.2.1, h.2.2.2.1, h.2.2.2.2.1, h.2.2.2.2.2.1, h.2.2.2.2.2.2.1, h.2.2.2.2.2.2.2.1, hk _ _ _ _ _ hL h.2.2.2.2.2.2.2.2⟩ | exact ⟨h.1, h.2.1, h.2.2.1, h.2.2.2.1, h.2.2.2.2.1, h.2.2.2.2.2.1, h.2.2.2.2.2.2.1, h.2.2.2.2.2.2.2.1, h.2.2.2.2.2.2.2.2.1, hk _ _ _ _ _ hL h.2.2.2.2.2.2.2.2.2⟩
theorem cl_sw : cm_Lo cm_sw := by
  intro E P t pc L' L st M k' k hL hk h
  unfold cm_sw at h ⊢
  dsimp only at h ⊢
  split at h
  · exact ⟨h.1, h.2.1, h.2.2.1, fun q => hk _ _ _ _ _ hL (h.2.2.2.1 q), fun j o q1 q2 => hk _ _ _ _ _ hL (h.2.2.2.2 j o q1 q2)⟩
  · exact h.elim
theorem cl_get : cm_Lo cm_get := by
  intro E P t pc L' L st M k' k hL hk h
  unfold cm_get at h ⊢
  dsimp only at h ⊢
  split at h <;> (first | exact h.elim | exact hk _ _ _ _ _ hL h | exact ⟨h.1, hk _ _ _ _ _ hL h.2⟩ | exact ⟨h.1, h.2.1, hk _ _ _ _ _ hL h.2.2⟩ | exact ⟨h.1, h.2.1, h.2.2.1, hk _ _ _ _ _ hL h.2.2.2⟩ | exact ⟨h.1, h.2.1, h.2.2.1, h.2.2.2.1, hk _ _ _ _ _ hL h.2.2.2.2⟩ | exact ⟨h.1, h.2.1, h.2.2.1, h.2.2.2.1, h.2.2.2.2.1, hk _ _ _ _ _ hL h.2.2.2.2.2⟩ | exact ⟨h.1, h.2.1, h.2.2.1, h.2.2.2.1, h.2.2.2.2.1, h.2.2.2.2.2.1, hk _ _ _ _ _ hL h.2.2.2.2.2.2⟩ | exact ⟨h.1, h.2.1, h.2.2.1, h.2.2.2.1, h.2.2.2.2.1, h.2.2.2.2.2.1, h.2.2.2.2.2.2.1, hk _ _ _ _ _ hL h.2.2.2.2.2.2.2⟩ | exact ⟨h.1, h.2.1, h.2.2.1, h.2.2.2.1, h.2.2.2.2.1, h.2.2.2.2.2.1, h.2.2.2.2.2.2.1, h.2.2.2.2.2.2.2.1, hk _ _ _ _ _ hL h.2.2.2.2.2.2.2.2⟩ | exact ⟨h.1, h.2.1, h.2.2.1, h.2.2.2.1, h.2.2.2.2.1, h.2.2.2.2.2.1, h.2.2.2.2.2.2.1, h.2.2.2.2.2.2.2.1, h.2.2.2.2.2.2.2.2.1, hk _ _ _ _ _ hL h.2.2.2.2.2.2.2.2.2⟩)
theorem cl_put : cm_Lo cm_put := by
  intro E P t pc L' L st M k' k hL hk h
  unfold cm_put at h ⊢
  dsimp only at h ⊢
  split at h <;> (first | exact h.elim | exact hk _ _ _ _ _ hL h | exact ⟨h.1, hk _ _ _ _ _ hL h.2⟩ | exact ⟨h.1, h.2.1, hk _ _ _ _ _ hL h.2.2⟩ | exact ⟨h.1, h.2.1, h.2.2.1, hk _ _ _ _ _ hL h.2.2.2⟩ | exact ⟨h.1, h.2.1, h.2.2.1, h.2.2.2.1, hk _ _ _ _ _ hL h.2.2.2.2⟩ | exact ⟨h.1, h.2.1, h.2.2.1, h.2.2.2.1, h.2.2.2.2.1, hk _ _ _ _ _ hL h.2.2.2.2.2⟩ | exact ⟨h.1, h.2.1, h.2.2.1, h.2.2.2.1, h.2.2.2.2.1, h.2.2.2.2.2.1, hk _ _ _ _ _ hL h.2.2.2.2.2.2⟩ | exact ⟨h.1, h.2.1, h.2.2.1, h.2.2.2.1, h.2.2.2.2.1, h.2.2.2.2.2.1, h.2.2.2.2.2.2.1, hk _ _ _ _ _ hL h.2.2.2.2.2.2.2⟩ | exact ⟨h.1, h.2.1, h.2.2.1, h.2.2.2.1, h.2.2.2.2.1, h.2.2.2.2.2.1, h.2.2.2.2.2.2.1, h.2.2.2.2.2.2.2.1, hk _ _ _ _ _ hL h.2.2.2.2.2.2.2.2⟩ | exact ⟨h.1, h.2.1, h.2.2.1, h.2.2.2.1, h.2.2.2.2.1, h.2.2.2.2.2.1, h.2.2.2.2.2.2.1, h.2.2.2.2.2.2.2.1, h.2.2.2.2.2.2.2.2.1, hk _ _ _ _ _ hL h.2.2.2.2.2.2.2.2.2⟩)
theorem cl_iaload : cm_Lo cm_iaload := by
  intro E P t pc L' L st M k' k hL hk h
  unfold cm_iaload at h ⊢
  dsimp only at h ⊢
  split at h <;> (first | exact h.elim | exact hk _ _ _ _ _ hL h | exact ⟨h.1, hk _ _ _ _ _ hL h.2⟩ | exact ⟨h.1, h.2.1, hk _ _ _ _ _ hL h.2.2⟩ | exact ⟨h.1, h.2.1, h.2.2.1, hk _ _ _ _ _ hL h.2.2.2⟩ | exact ⟨h.1, h.2.1, h.2.2.1, h.2.2.2.1, hk _ _ _ _ _ hL h.2.2.2.2⟩ | exact ⟨h.1, h.2.1, h.2.2.1, h.2.2.2.1, h.2.2.2.2.1, hk _ _ _ _ _ hL h.2.2.2.2.2⟩ | exact ⟨h.1, h.2.1, h.2.2.1, h.2.2.2.1, h.2.2.2.2.1, h.2.2.2.2.2.1, hk _ _ _ _ _ hL h.2.2.2.2.2.2⟩ | exact ⟨h.1, h.2.1, h.2.2.1, h.2.2.2.1, h.2.2.2.2.1, h.2.2.2.2.2.1, h.2.2.2.2.2.2.1, hk _ _ _ _ _ hL h.2.2.2.2.2.2.2⟩ | exact ⟨h.1, h.2.1, h.2.2.1, h.2.2.2.1, h.2.2.2.2.1, h.2.2.2.2.2.1, h.2.2.2.2.2.2.1, h.2.2.2.2.2.2.2.1, hk _ _ _ _ _ hL h.2.2.2.2.2.2.2.2⟩ | exact ⟨h.1, h.2.1, h.2.2.1, h.2.2.2.1, h.2.2.2.2.1, h.2.2.2.2.2.1, h.2.2.2.2.2.2.1, h.2.2.2.2.2.2.2.1, h.2.2.2.2.2.2.2.2.1, hk _ _ _ _ _ hL h.2.2.2.2.2.2.2.2.2⟩)
theorem cl_baload : cm_Lo cm_baload := by
  intro E P t pc L' L st M k' k hL hk h
  unfold cm_baload at h ⊢
  dsimp only at h ⊢
  split at h <;> (first | exact h.elim | exact hk _ _ _ _ _ hL h | exact ⟨h.1, hk _ _ _ _ _ hL h.2⟩ | exact ⟨h.1, h.2.1, hk _ _ _ _ _ hL h.2.2⟩ | exact ⟨h.1, h.2.1, h.2.2.1, hk _ _ _ _ _ hL h.2.2.2⟩ | exact ⟨h.1, h.2.1, h.2.2.1, h.2.2.2.1, hk _ _ _ _ _ hL h.2.2.2.2⟩ | exact ⟨h.1, h.2.1, h.2.2.1, h.2.2.2.1, h.2.2.2.2.1, hk _ _ _ _ _ hL h.2.2.2.2.2⟩ | exact ⟨h.1, h.2.1, h.2.2.1, h.2.2.2.1, h.2.2.2.2.1, h.2.2.2.2.2.1, hk _ _ _ _ _ hL h.2.2.2.2.2.2⟩ | exact ⟨h.1, h.2.1, h.2.2.1, h.2.2.2.1, h.2.2.2.2.1, h.2.2.2.2.2.1, h.2.2.2.2.2.2.1, hk _ _ _ _ _ hL h.2.2.2.2.2.2.2⟩ | exact ⟨h.1, h.2.1, h.2.2.1, h.2.2.2.1, h.2.2.2.2.1, h.2.2.2.2.2.1, h.2.2.2.2.2.2.1, h.2.2.2.2.2.2.2.1, hk _ _ _ _ _ hL h.2.2.2.2.2.2.2.2⟩ | exact ⟨h.1, h.2.1, h.2.2.1, h.2.2.2.1, h.2.2.2.2.1, h.2.2.2.2.2.1, h.2.2.2.2.2.2.1, h.2.2.2.2.2.2.2.1, h.2.2.2.2.2.2.2.2.1, hk _ _ _ _ _ hL h.2.2.2.2.2.2.2.2.2⟩)
theorem cl_laload : cm_Lo cm_laload := by
  intro E P t pc L' L st M k' k hL hk h
  unfold cm_laload at h ⊢
  dsimp only at h ⊢
  split at h <;> (first | exact h.elim | exact hk _ _ _ _ _ hL h | exact ⟨h.1, hk _ _ _ _ _ hL h.2⟩ | exact ⟨h.1, h.2.1, hk _ _ _ _ _ hL h.2.2⟩ | exact ⟨h.1, h.2.1, h.2.2.1, hk _ _ _ _ _ hL h.2.2.2⟩ | exact ⟨h.1, h.2.1, h.2.2.1, h.2.2.2.1, hk _ _ _ _ _ hL h.2.2.2.2⟩ | exact ⟨h.1, h.2.1, h.2.2.1, h.2.2.2.1, h.2.2.2.2.1, hk _ _ _ _ _ hL h.2.2.2.2.2⟩ | exact ⟨h.1, h.2.1, h.2.2.1, h.2.2.2.1, h.2.2.2.2.1, h.2.2.2.2.2.1, hk _ _ _ _ _ hL h.2.2.2.2.2.2⟩ | exact ⟨h.1, h.2.1, h.2.2.1, h.2.2.2.1, h.2.2.2.2.1, h.2.2.2.2.2.1, h.2.2.2.2.2.2.1, hk _ _ _ _ _ hL h.2.2.2.2.2.2.2⟩ | exact ⟨h.1, h.2.1, h.2.2.1, h.2.2.2.1, h.2.2.2.2.1, h.2.2.2.2.2.1, h.2.2.2.2.2.2.1, h.2.2.2.2.2.2.2.1, hk _ _ _ _ _ hL h.2.2.2.2.2.2.2.2⟩ | exact ⟨h.1, h.2.1, h.2.2.1, h.2.2.2.1, h.2.2.2.2.1, h.2.2.2.2.2.1, h.2.2.2.2.2.2.1, h.2.2.2.2.2.2.2.1, h.2.2.2.2.2.2.2.2.1, hk _ _ _ _ _ hL h.2.2.2.2.2.2.2.2.2⟩)
theorem cl_aaload : cm_Lo cm_aaload := by
  intro E P t pc L' L st M k' k hL hk h
  unfold cm_aaload at h ⊢
  dsimp only at h ⊢
  split at h <;> (first | exact h.elim | exact hk _ _ _ _ _ hL h | exact ⟨h.1, hk _ _ _ _ _ hL h.2⟩ | exact ⟨h.1, h.2.1, hk _ _ _ _ _ hL h.2.2⟩ | exact ⟨h.1, h.2.1, h.2.2.1, hk _ _ _ _ _ hL h.2.2.2⟩ | exact ⟨h.1, h.2.1, h.2.2.1, h.2.2.2.1, hk _ _ _ _ _ hL h.2.2.2.2⟩ | exact ⟨h.1, h.2.1, h.2.2.1, h.2.2.2.1, h.2.2.2.2.1, hk _ _ _ _ _ hL h.2.2.2.2.2⟩ | exact ⟨h.1, h.2.1, h.2.2.1, h.2.2.2.1, h.2.2.2.2.1, h.2.2.2.2.2.1, hk _ _ _ _ _ hL h.2.2.2.2.2.2⟩ | exact ⟨h.1, h.2.1, h.2.2.1, h.2.2.2.1, h.2.2.2.2.1, h.2.2.2.2.2.1, h.2.2.2.2.2.2.1, hk _ _ _ _ _ hL h.2.2.2.2.2.2.2⟩ | exact ⟨h.1, h.2.1, h.2.2.1, h.2.2.2.1, h.2.2.2.2.1, h.2.2.2.2.2.1, h.2.2.2.2.2.2.1, h.2.2.2.2.2.2.2.1, hk _ _ _ _ _ hL h.2.2.2.2.2.2.2.2⟩ | exact ⟨h.1, h.2.1, h.2.2.1, h.2.2.2.1, h.2.2.2.2.1, h.2.2.2.2.2.1, h.2.2.2.2.2.2.1, h.2.2.2.2.2.2.2.1, h.2.2.2.2.2.2.2.2.1, hk _ _ _ _ _ hL h.2.2.2.2.2.2.2.2.2⟩)
theorem cl_iastore : cm_Lo cm_iastore := by
  intro E P t pc L' L st M k' k hL hk h
  unfold cm_iastore at h ⊢
  dsimp only at h ⊢
  split at h <;> (first | exact h.elim | exact hk _ _ _ _ _ hL h | exact ⟨h.1, hk _ _ _ _ _ hL h.2⟩ | exact ⟨h.1, h.2.1, hk _ _ _ _ _ hL h.2.2⟩ | exact ⟨h.1, h.2.1, h.2.2.1, hk _ _ _ _ _ hL h.2.2.2⟩ | exact ⟨h.1, h.2.1, h.2.2.1, h.2.2.2.1, hk _ _ _ _ _ hL h.2.2.2.2⟩ | exact ⟨h.1, h.2.1, h.2.2.1, h.2.2.2.1, h.2.2.2.2.1, hk _ _ _ _ _ hL h.2.2.2.2.2⟩ | exact ⟨h.1, h.2.1, h.2.2.1, h.2.2.2.1, h.2.2.2.2.1, h.2.2.2.2.2.1, hk _ _ _ _ _ hL h.2.2.2.2.2.2⟩ | exact ⟨h.1, h.2.1, h.2.2.1, h.2.2.2.1, h.2.2.2.2.1, h.2.2.2.2.2.1, h.2.2.2.2.2.2.1, hk _ _ _ _ _ hL h.2.2.2.2.2.2.2⟩ | exact ⟨h.1, h.2.1, h.2.2.1, h.2.2.2.1, h.2.2.2.2.1, h.2.2.2.2.2.1, h.2.2.2.2.2.2.1, h.2.2.2.2.2.2.2.1, hk _ _ _ _ _ hL h.2.2.2.2.2.2.2.2⟩ | exact ⟨h.1, h.2.1, h.2.2.1, h.2.2.2.1, h.2.2.2.2.1, h.2.2.2.2.2.1, h.2.2.2.2.2.2.1, h.2.2.2.2.2.2.2.1, h.2.2.2.2.2.2.2.2.1, hk _ _ _ _ _ hL h.2.2.2.2.2.2.2.2.2⟩)
theorem cl_bastore : cm_Lo cm_bastore := by
  intro E P t pc L' L st M k' k hL hk h
  unfold cm_bastore at h ⊢
  dsimp only at h ⊢
  split at h <;> (first | exact h.elim | exact hk _ _ _ _ _ hL h | exact ⟨h.1, hk _ _ _ _ _ hL h.2⟩ | exact ⟨h.1, h.2.1, hk _ _ _ _ _ hL h.2.2⟩ | exact ⟨h.1, h.2.1, h.2.2.1, hk _ _ _ _ _ hL h.2.2.2⟩ | exact ⟨h.1, h.2.1, h.2.2.1, h.2.2.2.1, hk _ _ _ _ _ hL h.2.2.2.2⟩ | exact ⟨h.1, h.2.1, h.2.2.1, h.2.2.2.1, h.2.2.2.2.1, hk _ _ _ _ _ hL h.2.2.2.2.2⟩ | exact ⟨h.1, h.2.1, h.2.2.1, h.2.2.2.1, h.2.2.2.2.1, h.2.2.2.2.2.1, hk _ _ _ _ _ hL h.2.2.2.2.2.2⟩ | exact ⟨h.1, h.2.1, h.2.2.1, h.2.2.2.1, h.2.2.2.2.1, h.2.2.2.2.2.1, h.2.2.2.2.2.2.1, hk _ _ _ _ _ hL h.2.2.2.2.2.2.2⟩ | exact ⟨h.1, h.2.1, h.2.2.1, h.2.2.2.1, h.2.2.2.2.1, h.2.2.2.2.2.1, h.2.2.2.2.2.2.1, h.2.2.2.2.2.2.2.1, hk _ _ _ _ _ hL h.2.2.2.2.2.2.2.2⟩ | exact ⟨h.1, h.2.1, h.2.2.1, h.2.2.2.1, h.2.2.2.2.1, h.2.2.2.2.2.1, h.2.2.2.2.2.2.1, h.2.2.2.2.2.2.2.1, h.2.2.2.2.2.2.2.2.1, hk _ _ _ _ _ hL h.2.2.2.2.2.2.2.2.2⟩)
theorem cl_alen : cm_Lo cm_alen := by
  intro E P t pc L' L st M k' k hL hk h
  unfold cm_alen at h ⊢
  dsimp only at h ⊢
  split at h
  · rename_i c st'
    by_cases hc : c = 1000
    · rw [if_pos hc] at h ⊢
      cases E with
      | none => exact h.elim
      | some q => exact hk _ _ _ _ _ hL h
    · rw [if_neg hc] at h ⊢
      exact ⟨h.1, h.2.1, hk _ _ _ _ _ hL h.2.2⟩
  · exact h.elim
theorem cl_sald : cm_Lo cm_sald := by
  intro E P t pc L' L st M k' k hL hk h
  unfold cm_sald at h ⊢
  dsimp only at h ⊢
  split at h <;> (first | exact h.elim | exact hk _ _ _ _ _ hL h | exact ⟨h.1, hk _ _ _ _ _ hL h.2⟩ | exact ⟨h.1, h.2.1, hk _ _ _ _ _ hL h.2.2⟩ | exact ⟨h.1, h.2.1, h.2.2.1, hk _ _ _ _ _ hL h.2.2.2⟩ | exact ⟨h.1, h.2.1, h.2.2.1, h.2.2.2.1, hk _ _ _ _ _ hL h.2.2.2.2⟩ | exact ⟨h.1, h.2.1, h.2.2.1, h.2.2.2.1, h.2.2.2.2.1, hk _ _ _ _ _ hL h.2.2.2.2.2⟩ | exact ⟨h.1, h.2.1, h.2.2.1, h.2.2.2.1, h.2.2.2.2.1, h.2.2.2.2.2.1, hk _ _ _ _ _ hL h.2.2.2.2.2.2⟩ | exact ⟨h.1, h.2.1, h.2.2.1, h.2.2.2.1, h.2.2.2.2.1, h.2.2.2.2.2.1, h.2.2.2.2.2.2.1, hk _ _ _ _ _ hL h.2.2.2.2.2.2.2⟩ | exact ⟨h.1, h.2.1, h.2.2.1, h.2.2.2.1, h.2.2.2.2.1, h.2.2.2.2.2.1, h.2.2.2.2.2.2.1, h.2.2.2.2.2.2.2.1, hk _ _ _ _ _ hL h.2.2.2.2.2.2.2.2⟩ | exact ⟨h.1, h.2.1, h.2.2.1, h.2.2.2.1, h.2.2.2.2.1, h.2.2.2.2.2.1, h.2.2.2.2.2.2.1, h.2.2.2.2.2.2.2.1, h.2.2.2.2.2.2.2.2.1, hk _ _ _ _ _ hL h.2.2.2.2.2.2.2.2.2⟩)
theorem cl_mmin : cm_Lo cm_mmin := by
  intro E P t pc L' L st M k' k hL hk h
  unfold cm_mmin at h ⊢
  dsimp only at h ⊢
  split at h <;> (first | exact h.elim | exact hk _ _ _ _ _ hL h | exact ⟨h.1, hk _ _ _ _ _ hL h.2⟩ | exact ⟨h.1, h.2.1, hk _ _ _ _ _ hL h.2.2⟩ | exact ⟨h.1, h.2.1, h.2.2.1, hk _ _ _ _ _ hL h.2.2.2⟩ | exact ⟨h.1, h.2.1, h.2.2.1, h.2.2.2.1, hk _ _ _ _ _ hL h.2.2.2.2⟩ | exact ⟨h.1, h.2.1, h.2.2.1, h.2.2.2.1, h.2.2.2.2.1, hk _ _ _ _ _ hL h.2.2.2.2.2⟩ | exact ⟨h.1, h.2.1, h.2.2.1, h.2.2.2.1, h.2.2.2.2.1, h.2.2.2.2.2.1, hk _ _ _ _ _ hL h.2.2.2.2.2.2⟩ | exact ⟨h.1, h.2.1, h.2.2.1, h.2.2.2.1, h.2.2.2.2.1, h.2.2.2.2.2.1, h.2.2.2.2.2.2.1, hk _ _ _ _ _ hL h.2.2.2.2.2.2.2⟩ | exact ⟨h.1, h.2.1, h.2.2.1, h.2.2.2.1, h.2.2.2.2.1, h.2.2.2.2.2.1, h.2.2.2.2.2.2.1, h.2.2.2.2.2.2.2.1, hk _ _ _ _ _ hL h.2.2.2.2.2.2.2.2⟩ | exact ⟨h.1, h.2.1, h.2.2.1, h.2.2.2.1, h.2.2.2.2.1, h.2.2.2.2.2.1, h.2.2.2.2.2.2.1, h.2.2.2.2.2.2.2.1, h.2.2.2.2.2.2.2.2.1, hk _ _ _ _ _ hL h.2.2.2.2.2.2.2.2.2⟩)
theorem cl_ldc : cm_Lo cm_ldc := by
  intro E P t pc L' L st M k' k hL hk h
  unfold cm_ldc at h ⊢
  dsimp only at h ⊢
  first | exact h.elim | exact hk _ _ _ _ _ hL h | exact ⟨h.1, hk _ _ _ _ _ hL h.2⟩ | exact ⟨h.1, h.2.1, hk _ _ _ _ _ hL h.2.2⟩ | exact ⟨h.1, h.2.1, h.2.2.1, hk _ _ _ _ _ hL h.2.2.2⟩ | exact ⟨h.1, h.2.1, h.2.2.1, h.2.2.2.1, hk _ _ _ _ _ hL h.2.2.2.2⟩ | exact ⟨h.1, h.2.1, h.2.2.1, h.2.2.2.1, h.2.2.2.2.1, hk _ _ _ _ _ hL h.2.2.2.2.2⟩ | exact ⟨h.1, h.2.1, h.2.2.1, h.2.2.2.1, h.2.2.2.2.1, h.2.2.2.2.2.1, hk _ _ _ _ _ hL h.2.2.2.2.2.2⟩ | exact ⟨h.1, h.2.1, h.2.2.1, h.2.2.2.1, h.2.2.2.2.1, h.2.2.2.2.2.1, h.2.2.2.2.2.2.1, hk _ _ _ _ _ hL h.2.2.2.2.2.2.2⟩ | exact ⟨h.1, h.2.1, h.2.2.1, h.2.2.2.1, h.2.2.2.2.1, h.2.2.2.2.2.1, h.2.2.2.2.2.2.1, h.2.2.2.2.2.2.2.1, hk _ _ _ _ _ hL h.2.2.2.2.2.2.2.2⟩ | exact ⟨h.1, h.2.1, h.2.2.1, h.2.2.2.1, h.2.2.2.2.1, h.2.2.2.2.2.1, h.2.2.2.2.2.2.1, h.2.2.2.2.2.2.2.1, h.2.2.2.2.2.2.2.2.1, hk _ _ _ _ _ hL h.2.2.2.2.2.2.2.2.2⟩
theorem cl_ldcS : cm_Lo cm_ldcS := by
  intro E P t pc L' L st M k' k hL hk h
  unfold cm_ldcS at h ⊢
  dsimp only at h ⊢
  first | exact h.elim | exact hk _ _ _ _ _ hL h | exact ⟨h.1, hk _ _ _ _ _ hL h.2⟩ | exact ⟨h.1, h.2.1, hk _ _ _ _ _ hL h.2.2⟩ | exact ⟨h.1, h.2.1, h.2.2.1, hk _ _ _ _ _ hL h.2.2.2⟩ | exact ⟨h.1, h.2.1, h.2.2.1, h.2.2.2.1, hk _ _ _ _ _ hL h.2.2.2.2⟩ | exact ⟨h.1, h.2.1, h.2.2.1, h.2.2.2.1, h.2.2.2.2.1, hk _ _ _ _ _ hL h.2.2.2.2.2⟩ | exact ⟨h.1, h.2.1, h.2.2.1, h.2.2.2.1, h.2.2.2.2.1, h.2.2.2.2.2.1, hk _ _ _ _ _ hL h.2.2.2.2.2.2⟩ | exact ⟨h.1, h.2.1, h.2.2.1, h.2.2.2.1, h.2.2.2.2.1, h.2.2.2.2.2.1, h.2.2.2.2.2.2.1, hk _ _ _ _ _ hL h.2.2.2.2.2.2.2⟩ | exact ⟨h.1, h.2.1, h.2.2.1, h.2.2.2.1, h.2.2.2.2.1, h.2.2.2.2.2.1, h.2.2.2.2.2.2.1, h.2.2.2.2.2.2.2.1, hk _ _ _ _ _ hL h.2.2.2.2.2.2.2.2⟩ | exact ⟨h.1, h.2.1, h.2.2.1, h.2.2.2.1, h.2.2.2.2.1, h.2.2.2.2.2.1, h.2.2.2.2.2.2.1, h.2.2.2.2.2.2.2.1, h.2.2.2.2.2.2.2.2.1, hk _ _ _ _ _ hL h.2.2.2.2.2.2.2.2.2⟩
theorem cl_getV : cm_Lo cm_getV := by
  intro E P t pc L' L st M k' k hL hk h
  unfold cm_getV at h ⊢
  dsimp only at h ⊢
  split at h <;> (first | exact h.elim | exact hk _ _ _ _ _ hL h | exact ⟨h.1, hk _ _ _ _ _ hL h.2⟩ | exact ⟨h.1, h.2.1, hk _ _ _ _ _ hL h.2.2⟩ | exact ⟨h.1, h.2.1, h.2.2.1, hk _ _ _ _ _ hL h.2.2.2⟩ | exact ⟨h.1, h.2.1, h.2.2.1, h.2.2.2.1, hk _ _ _ _ _ hL h.2.2.2.2⟩ | exact ⟨h.1, h.2.1, h.2.2.1, h.2.2.2.1, h.2.2.2.2.1, hk _ _ _ _ _ hL h.2.2.2.2.2⟩ | exact ⟨h.1, h.2.1, h.2.2.1, h.2.2.2.1, h.2.2.2.2.1, h.2.2.2.2.2.1, hk _ _ _ _ _ hL h.2.2.2.2.2.2⟩ | exact ⟨h.1, h.2.1, h.2.2.1, h.2.2.2.1, h.2.2.2.2.1, h.2.2.2.2.2.1, h.2.2.2.2.2.2.1, hk _ _ _ _ _ hL h.2.2.2.2.2.2.2⟩ | exact ⟨h.1, h.2.1, h.2.2.1, h.2.2.2.1, h.2.2.2.2.1, h.2.2.2.2.2.1, h.2.2.2.2.2.2.1, h.2.2.2.2.2.2.2.1, hk _ _ _ _ _ hL h.2.2.2.2.2.2.2.2⟩ | exact ⟨h.1, h.2.1, h.2.2.1, h.2.2.2.1, h.2.2.2.2.1, h.2.2.2.2.2.1, h.2.2.2.2.2.2.1, h.2.2.2.2.2.2.2.1, h.2.2.2.2.2.2.2.2.1, hk _ _ _ _ _ hL h.2.2.2.2.2.2.2.2.2⟩)
theorem cl_getC : cm_Lo cm_getC := by
  intro E P t pc L' L st M k' k hL hk h
  unfold cm_getC at h ⊢
  dsimp only at h ⊢
  split at h <;> (first | exact h.elim | exact hk _ _ _ _ _ hL h | exact ⟨h.1, hk _ _ _ _ _ hL h.2⟩ | exact ⟨h.1, h.2.1, hk _ _ _ _ _ hL h.2.2⟩ | exact ⟨h.1, h.2.1, h.2.2.1, hk _ _ _ _ _ hL h.2.2.2⟩ | exact ⟨h.1, h.2.1, h.2.2.1, h.2.2.2.1, hk _ _ _ _ _ hL h.2.2.2.2⟩ | exact ⟨h.1, h.2.1, h.2.2.1, h.2.2.2.1, h.2.2.2.2.1, hk _ _ _ _ _ hL h.2.2.2.2.2⟩ | exact ⟨h.1, h.2.1, h.2.2.1, h.2.2.2.1, h.2.2.2.2.1, h.2.2.2.2.2.1, hk _ _ _ _ _ hL h.2.2.2.2.2.2⟩ | exact ⟨h.1, h.2.1, h.2.2.1, h.2.2.2.1, h.2.2.2.2.1, h.2.2.2.2.2.1, h.2.2.2.2.2.2.1, hk _ _ _ _ _ hL h.2.2.2.2.2.2.2⟩ | exact ⟨h.1, h.2.1, h.2.2.1, h.2.2.2.1, h.2.2.2.2.1, h.2.2.2.2.2.1, h.2.2.2.2.2.2.1, h.2.2.2.2.2.2.2.1, hk _ _ _ _ _ hL h.2.2.2.2.2.2.2.2⟩ | exact ⟨h.1, h.2.1, h.2.2.1, h.2.2.2.1, h.2.2.2.2.1, h.2.2.2.2.2.1, h.2.2.2.2.2.2.1, h.2.2.2.2.2.2.2.1, h.2.2.2.2.2.2.2.2.1, hk _ _ _ _ _ hL h.2.2.2.2.2.2.2.2.2⟩)
theorem cl_gets : cm_Lo cm_gets := by
  intro E P t pc L' L st M k' k hL hk h
  unfold cm_gets at h ⊢
  dsimp only at h ⊢
  first | exact h.elim | exact hk _ _ _ _ _ hL h | exact ⟨h.1, hk _ _ _ _ _ hL h.2⟩ | exact ⟨h.1, h.2.1, hk _ _ _ _ _ hL h.2.2⟩ | exact ⟨h.1, h.2.1, h.2.2.1, hk _ _ _ _ _ hL h.2.2.2⟩ | exact ⟨h.1, h.2.1, h.2.2.1, h.2.2.2.1, hk _ _ _ _ _ hL h.2.2.2.2⟩ | exact ⟨h.1, h.2.1, h.2.2.1, h.2.2.2.1, h.2.2.2.2.1, hk _ _ _ _ _ hL h.2.2.2.2.2⟩ | exact ⟨h.1, h.2.1, h.2.2.1, h.2.2.2.1, h.2.2.2.2.1, h.2.2.2.2.2.1, hk _ _ _ _ _ hL h.2.2.2.2.2.2⟩ | exact ⟨h.1, h.2.1, h.2.2.1, h.2.2.2.1, h.2.2.2.2.1, h.2.2.2.2.2.1, h.2.2.2.2.2.2.1, hk _ _ _ _ _ hL h.2.2.2.2.2.2.2⟩ | exact ⟨h.1, h.2.1, h.2.2.1, h.2.2.2.1, h.2.2.2.2.1, h.2.2.2.2.2.1, h.2.2.2.2.2.2.1, h.2.2.2.2.2.2.2.1, hk _ _ _ _ _ hL h.2.2.2.2.2.2.2.2⟩ | exact ⟨h.1, h.2.1, h.2.2.1, h.2.2.2.1, h.2.2.2.2.1, h.2.2.2.2.2.1, h.2.2.2.2.2.2.1, h.2.2.2.2.2.2.2.1, h.2.2.2.2.2.2.2.2.1, hk _ _ _ _ _ hL h.2.2.2.2.2.2.2.2.2⟩
theorem cl_alenS : cm_Lo cm_alenS := by
  intro E P t pc L' L st M k' k hL hk h
  unfold cm_alenS at h ⊢
  dsimp only at h ⊢
  split at h
  · split at h
    · rename_i hz
      first | (first | exact h.elim | exact hk _ _ _ _ _ hL h | exact ⟨h.1, hk _ _ _ _ _ hL h.2⟩ | exact ⟨h.1, h.2.1, hk _ _ _ _ _ hL h.2.2⟩ | exact ⟨h.1, h.2.1, h.2.2.1, hk _ _ _ _ _ hL h.2.2.2⟩ | exact ⟨h.1, h.2.1, h.2.2.1, h.2.2.2.1, hk _ _ _ _ _ hL h.2.2.2.2⟩ | exact ⟨h.1, h.2.1, h.2.2.1, h.2.2.2.1, h.2.2.2.2.1, hk _ _ _ _ _ hL h.2.2.2.2.2⟩ | exact ⟨h.1, h.2.1, h.2.2.1, h.2.2.2.1, h.2.2.2.2.1, h.2.2.2.2.2.1, hk _ _ _ _ _ hL h.2.2.2.2.2.2⟩ | exact ⟨h.1, h.2.1, h.2.2.1, h.2.2.2.1, h.2.2.2.2.1, h.2.2.2.2.2.1, h.2.2.2.2.2.2.1, hk _ _ _ _ _ hL h.2.2.2.2.2.2.2⟩ | exact ⟨h.1, h.2.1, h.2.2.1, h.2.2.2.1, h.2.2.2.2.1, h.2.2.2.2.2.1, h.2.2.2.2.2.2.1, h.2.2.2.2.2.2.2.1, hk _ _ _ _ _ hL h.2.2.2.2.2.2.2.2⟩ | exact ⟨h.1, h.2.1, h.2.2.1, h.2.2.2.1, h.2.2.2.2.1, h.2.2.2.2.2.1, h.2.2.2.2.2.2.1, h.2.2.2.2.2.2.2.1, h.2.2.2.2.2.2.2.2.1, hk _ _ _ _ _ hL h.2.2.2.2.2.2.2.2.2⟩) | (dsimp only; rw [hz]; first | exact h.elim | exact hk _ _ _ _ _ hL h | exact ⟨h.1, hk _ _ _ _ _ hL h.2⟩ | exact ⟨h.1, h.2.1, hk _ _ _ _ _ hL h.2.2⟩ | exact ⟨h.1, h.2.1, h.2.2.1, hk _ _ _ _ _ hL h.2.2.2⟩ | exact ⟨h.1, h.2.1, h.2.2.1, h.2.2.2.1, hk _ _ _ _ _ hL h.2.2.2.2⟩ | exact ⟨h.1, h.2.1, h.2.2.1, h.2.2.2.1, h.2.2.2.2.1, hk _ _ _ _ _ hL h.2.2.2.2.2⟩ | exact ⟨h.1, h.2.1, h.2.2.1, h.2.2.2.1, h.2.2.2.2.1, h.2.2.2.2.2.1, hk _ _ _ _ _ hL h.2.2.2.2.2.2⟩ | exact ⟨h.1, h.2.1, h.2.2.1, h.2.2.2.1, h.2.2.2.2.1, h.2.2.2.2.2.1, h.2.2.2.2.2.2.1, hk _ _ _ _ _ hL h.2.2.2.2.2.2.2⟩ | exact ⟨h.1, h.2.1, h.2.2.1, h.2.2.2.1, h.2.2.2.2.1, h.2.2.2.2.2.1, h.2.2.2.2.2.2.1, h.2.2.2.2.2.2.2.1, hk _ _ _ _ _ hL h.2.2.2.2.2.2.2.2⟩ | exact ⟨h.1, h.2.1, h.2.2.1, h.2.2.2.1, h.2.2.2.2.1, h.2.2.2.2.2.1, h.2.2.2.2.2.2.1, h.2.2.2.2.2.2.2.1, h.2.2.2.2.2.2.2.2.1, hk _ _ _ _ _ hL h.2.2.2.2.2.2.2.2.2⟩) | (rw [hz]; first | exact h.elim | exact hk _ _ _ _ _ hL h | exact ⟨h.1, hk _ _ _ _ _ hL h.2⟩ | exact ⟨h.1, h.2.1, hk _ _ _ _ _ hL h.2.2⟩ | exact ⟨h.1, h.2.1, h.2.2.1, hk _ _ _ _ _ hL h.2.2.2⟩ | exact ⟨h.1, h.2.1, h.2.2.1, h.2.2.2.1, hk _ _ _ _ _ hL h.2.2.2.2⟩ | exact ⟨h.1, h.2.1, h.2.2.1, h.2.2.2.1, h.2.2.2.2.1, hk _ _ _ _ _ hL h.2.2.2.2.2⟩ | exact ⟨h.1, h.2.1, h.2.2.1, h.2.2.2.1, h.2.2.2.2.1, h.2.2.2.2.2.1, hk _ _ _ _ _ hL h.2.2.2.2.2.2⟩ | exact ⟨h.1, h.2.1, h.2.2.1, h.2.2.2.1, h.2.2.2.2.1, h.2.2.2.2.2.1, h.2.2.2.2.2.2.1, hk _ _ _ _ _ hL h.2.2.2.2.2.2.2⟩ | exact ⟨h.1, h.2.1, h.2.2.1, h.2.2.2.1, h.2.2.2.2.1, h.2.2.2.2.2.1, h.2.2.2.2.2.2.1, h.2.2.2.2.2.2.2.1, hk _ _ _ _ _ hL h.2.2.2.2.2.2.2.2⟩ | exact ⟨h.1, h.2.1, h.2.2.1, h.2.2.2.1, h.2.2.2.2.1, h.2.2.2.2.2.1, h.2.2.2.2.2.2.1, h.2.2.2.2.2.2.2.1, h.2.2.2.2.2.2.2.2.1, hk _ _ _ _ _ hL h.2.2.2.2.2.2.2.2.2⟩)
    · exact h.elim
  · exact h.elim
theorem cl_baloadS : cm_Lo cm_baloadS := by
  intro E P t pc L' L st M k' k hL hk h
  unfold cm_baloadS at h ⊢
  dsimp only at h ⊢
  split at h
  · split at h
    · rename_i hz
      first | (first | exact h.elim | exact hk _ _ _ _ _ hL h | exact ⟨h.1, hk _ _ _ _ _ hL h.2⟩ | exact ⟨h.1, h.2.1, hk _ _ _ _ _ hL h.2.2⟩ | exact ⟨h.1, h.2.1, h.2.2.1, hk _ _ _ _ _ hL h.2.2.2⟩ | exact ⟨h.1, h.2.1, h.2.2.1, h.2.2.2.1, hk _ _ _ _ _ hL h.2.2.2.2⟩ | exact ⟨h.1, h.2.1, h.2.2.1, h.2.2.2.1, h.2.2.2.2.1, hk _ _ _ _ _ hL h.2.2.2.2.2⟩ | exact ⟨h.1, h.2.1, h.2.2.1, h.2.2.2.1, h.2.2.2.2.1, h.2.2.2.2.2.1, hk _ _ _ _ _ hL h.2.2.2.2.2.2⟩ | exact ⟨h.1, h.2.1, h.2.2.1, h.2.2.2.1, h.2.2.2.2.1, h.2.2.2.2.2.1, h.2.2.2.2.2.2.1, hk _ _ _ _ _ hL h.2.2.2.2.2.2.2⟩ | exact ⟨h.1, h.2.1, h.2.2.1, h.2.2.2.1, h.2.2.2.2.1, h.2.2.2.2.2.1, h.2.2.2.2.2.2.1, h.2.2.2.2.2.2.2.1, hk _ _ _ _ _ hL h.2.2.2.2.2.2.2.2⟩ | exact ⟨h.1, h.2.1, h.2.2.1, h.2.2.2.1, h.2.2.2.2.1, h.2.2.2.2.2.1, h.2.2.2.2.2.2.1, h.2.2.2.2.2.2.2.1, h.2.2.2.2.2.2.2.2.1, hk _ _ _ _ _ hL h.2.2.2.2.2.2.2.2.2⟩) | (dsimp only; rw [hz]; first | exact h.elim | exact hk _ _ _ _ _ hL h | exact ⟨h.1, hk _ _ _ _ _ hL h.2⟩ | exact ⟨h.1, h.2.1, hk _ _ _ _ _ hL h.2.2⟩ | exact ⟨h.1, h.2.1, h.2.2.1, hk _ _ _ _ _ hL h.2.2.2⟩ | exact ⟨h.1, h.2.1, h.2.2.1, h.2.2.2.1, hk _ _ _ _ _ hL h.2.2.2.2⟩ | exact ⟨h.1, h.2.1, h.2.2.1, h.2.2.2.1, h.2.2.2.2.1, hk _ _ _ _ _ hL h.2.2.2.2.2⟩ | exact ⟨h.1, h.2.1, h.2.2.1, h.2.2.2.1, h.2.2.2.2.1, h.2.2.2.2.2.1, hk _ _ _ _ _ hL h.2.2.2.2.2.2⟩ | exact ⟨h.1, h.2.1, h.2.2.1, h.2.2.2.1, h.2.2.2.2.1, h.2.2.2.2.2.1, h.2.2.2.2.2.2.1, hk _ _ _ _ _ hL h.2.2.2.2.2.2.2⟩ | exact ⟨h.1, h.2.1, h.2.2.1, h.2.2.2.1, h.2.2.2.2.1, h.2.2.2.2.2.1, h.2.2.2.2.2.2.1, h.2.2.2.2.2.2.2.1, hk _ _ _ _ _ hL h.2.2.2.2.2.2.2.2⟩ | exact ⟨h.1, h.2.1, h.2.2.1, h.2.2.2.1, h.2.2.2.2.1, h.2.2.2.2.2.1, h.2.2.2.2.2.2.1, h.2.2.2.2.2.2.2.1, h.2.2.2.2.2.2.2.2.1, hk _ _ _ _ _ hL h.2.2.2.2.2.2.2.2.2⟩) | (rw [hz]; first | exact h.elim | exact hk _ _ _ _ _ hL h | exact ⟨h.1, hk _ _ _ _ _ hL h.2⟩ | exact ⟨h.1, h.2.1, hk _ _ _ _ _ hL h.2.2⟩ | exact ⟨h.1, h.2.1, h.2.2.1, hk _ _ _ _ _ hL h.2.2.2⟩ | exact ⟨h.1, h.2.1, h.2.2.1, h.2.2.2.1, hk _ _ _ _ _ hL h.2.2.2.2⟩ | exact ⟨h.1, h.2.1, h.2.2.1, h.2.2.2.1, h.2.2.2.2.1, hk _ _ _ _ _ hL h.2.2.2.2.2⟩ | exact ⟨h.1, h.2.1, h.2.2.1, h.2.2.2.1, h.2.2.2.2.1, h.2.2.2.2.2.1, hk _ _ _ _ _ hL h.2.2.2.2.2.2⟩ | exact ⟨h.1, h.2.1, h.2.2.1, h.2.2.2.1, h.2.2.2.2.1, h.2.2.2.2.2.1, h.2.2.2.2.2.2.1, hk _ _ _ _ _ hL h.2.2.2.2.2.2.2⟩ | exact ⟨h.1, h.2.1, h.2.2.1, h.2.2.2.1, h.2.2.2.2.1, h.2.2.2.2.2.1, h.2.2.2.2.2.2.1, h.2.2.2.2.2.2.2.1, hk _ _ _ _ _ hL h.2.2.2.2.2.2.2.2⟩ | exact ⟨h.1, h.2.1, h.2.2.1, h.2.2.2.1, h.2.2.2.2.1, h.2.2.2.2.2.1, h.2.2.2.2.2.2.1, h.2.2.2.2.2.2.2.1, h.2.2.2.2.2.2.2.2.1, hk _ _ _ _ _ hL h.2.2.2.2.2.2.2.2.2⟩)
    · exact h.elim
  · exact h.elim
theorem cl_i2c : cm_Lo cm_i2c := by
  intro E P t pc L' L st M k' k hL hk h
  unfold cm_i2c at h ⊢
  dsimp only at h ⊢
  split at h <;> (first | exact h.elim | exact hk _ _ _ _ _ hL h | exact ⟨h.1, hk _ _ _ _ _ hL h.2⟩ | exact ⟨h.1, h.2.1, hk _ _ _ _ _ hL h.2.2⟩ | exact ⟨h.1, h.2.1, h.2.2.1, hk _ _ _ _ _ hL h.2.2.2⟩ | exact ⟨h.1, h.2.1, h.2.2.1, h.2.2.2.1, hk _ _ _ _ _ hL h.2.2.2.2⟩ | exact ⟨h.1, h.2.1, h.2.2.1, h.2.2.2.1, h.2.2.2.2.1, hk _ _ _ _ _ hL h.2.2.2.2.2⟩ | exact ⟨h.1, h.2.1, h.2.2.1, h.2.2.2.1, h.2.2.2.2.1, h.2.2.2.2.2.1, hk _ _ _ _ _ hL h.2.2.2.2.2.2⟩ | exact ⟨h.1, h.2.1, h.2.2.1, h.2.2.2.1, h.2.2.2.2.1, h.2.2.2.2.2.1, h.2.2.2.2.2.2.1, hk _ _ _ _ _ hL h.2.2.2.2.2.2.2⟩ | exact ⟨h.1, h.2.1, h.2.2.1, h.2.2.2.1, h.2.2.2.2.1, h.2.2.2.2.2.1, h.2.2.2.2.2.2.1, h.2.2.2.2.2.2.2.1, hk _ _ _ _ _ hL h.2.2.2.2.2.2.2.2⟩ | exact ⟨h.1, h.2.1, h.2.2.1, h.2.2.2.1, h.2.2.2.2.1, h.2.2.2.2.2.1, h.2.2.2.2.2.2.1, h.2.2.2.2.2.2.2.1, h.2.2.2.2.2.2.2.2.1, hk _ _ _ _ _ hL h.2.2.2.2.2.2.2.2.2⟩)
theorem cl_ladd : cm_Lo cm_ladd := by
  intro E P t pc L' L st M k' k hL hk h
  unfold cm_ladd at h ⊢
  dsimp only at h ⊢
  split at h <;> (first | exact h.elim | exact hk _ _ _ _ _ hL h | exact ⟨h.1, hk _ _ _ _ _ hL h.2⟩ | exact ⟨h.1, h.2.1, hk _ _ _ _ _ hL h.2.2⟩ | exact ⟨h.1, h.2.1, h.2.2.1, hk _ _ _ _ _ hL h.2.2.2⟩ | exact ⟨h.1, h.2.1, h.2.2.1, h.2.2.2.1, hk _ _ _ _ _ hL h.2.2.2.2⟩ | exact ⟨h.1, h.2.1, h.2.2.1, h.2.2.2.1, h.2.2.2.2.1, hk _ _ _ _ _ hL h.2.2.2.2.2⟩ | exact ⟨h.1, h.2.1, h.2.2.1, h.2.2.2.1, h.2.2.2.2.1, h.2.2.2.2.2.1, hk _ _ _ _ _ hL h.2.2.2.2.2.2⟩ | exact ⟨h.1, h.2.1, h.2.2.1, h.2.2.2.1, h.2.2.2.2.1, h.2.2.2.2.2.1, h.2.2.2.2.2.2.1, hk _ _ _ _ _ hL h.2.2.2.2.2.2.2⟩ | exact ⟨h.1, h.2.1, h.2.2.1, h.2.2.2.1, h.2.2.2.2.1, h.2.2.2.2.2.1, h.2.2.2.2.2.2.1, h.2.2.2.2.2.2.2.1, hk _ _ _ _ _ hL h.2.2.2.2.2.2.2.2⟩ | exact ⟨h.1, h.2.1, h.2.2.1, h.2.2.2.1, h.2.2.2.2.1, h.2.2.2.2.2.1, h.2.2.2.2.2.2.1, h.2.2.2.2.2.2.2.1, h.2.2.2.2.2.2.2.2.1, hk _ _ _ _ _ hL h.2.2.2.2.2.2.2.2.2⟩)
theorem cl_lsub : cm_Lo cm_lsub := by
  intro E P t pc L' L st M k' k hL hk h
  unfold cm_lsub at h ⊢
  dsimp only at h ⊢
  split at h <;> (first | exact h.elim | exact hk _ _ _ _ _ hL h | exact ⟨h.1, hk _ _ _ _ _ hL h.2⟩ | exact ⟨h.1, h.2.1, hk _ _ _ _ _ hL h.2.2⟩ | exact ⟨h.1, h.2.1, h.2.2.1, hk _ _ _ _ _ hL h.2.2.2⟩ | exact ⟨h.1, h.2.1, h.2.2.1, h.2.2.2.1, hk _ _ _ _ _ hL h.2.2.2.2⟩ | exact ⟨h.1, h.2.1, h.2.2.1, h.2.2.2.1, h.2.2.2.2.1, hk _ _ _ _ _ hL h.2.2.2.2.2⟩ | exact ⟨h.1, h.2.1, h.2.2.1, h.2.2.2.1, h.2.2.2.2.1, h.2.2.2.2.2.1, hk _ _ _ _ _ hL h.2.2.2.2.2.2⟩ | exact ⟨h.1, h.2.1, h.2.2.1, h.2.2.2.1, h.2.2.2.2.1, h.2.2.2.2.2.1, h.2.2.2.2.2.2.1, hk _ _ _ _ _ hL h.2.2.2.2.2.2.2⟩ | exact ⟨h.1, h.2.1, h.2.2.1, h.2.2.2.1, h.2.2.2.2.1, h.2.2.2.2.2.1, h.2.2.2.2.2.2.1, h.2.2.2.2.2.2.2.1, hk _ _ _ _ _ hL h.2.2.2.2.2.2.2.2⟩ | exact ⟨h.1, h.2.1, h.2.2.1, h.2.2.2.1, h.2.2.2.2.1, h.2.2.2.2.2.1, h.2.2.2.2.2.2.1, h.2.2.2.2.2.2.2.1, h.2.2.2.2.2.2.2.2.1, hk _ _ _ _ _ hL h.2.2.2.2.2.2.2.2.2⟩)
theorem cl_lmul : cm_Lo cm_lmul := by
  intro E P t pc L' L st M k' k hL hk h
  unfold cm_lmul at h ⊢
  dsimp only at h ⊢
  split at h <;> (first | exact h.elim | exact hk _ _ _ _ _ hL h | exact ⟨h.1, hk _ _ _ _ _ hL h.2⟩ | exact ⟨h.1, h.2.1, hk _ _ _ _ _ hL h.2.2⟩ | exact ⟨h.1, h.2.1, h.2.2.1, hk _ _ _ _ _ hL h.2.2.2⟩ | exact ⟨h.1, h.2.1, h.2.2.1, h.2.2.2.1, hk _ _ _ _ _ hL h.2.2.2.2⟩ | exact ⟨h.1, h.2.1, h.2.2.1, h.2.2.2.1, h.2.2.2.2.1, hk _ _ _ _ _ hL h.2.2.2.2.2⟩ | exact ⟨h.1, h.2.1, h.2.2.1, h.2.2.2.1, h.2.2.2.2.1, h.2.2.2.2.2.1, hk _ _ _ _ _ hL h.2.2.2.2.2.2⟩ | exact ⟨h.1, h.2.1, h.2.2.1, h.2.2.2.1, h.2.2.2.2.1, h.2.2.2.2.2.1, h.2.2.2.2.2.2.1, hk _ _ _ _ _ hL h.2.2.2.2.2.2.2⟩ | exact ⟨h.1, h.2.1, h.2.2.1, h.2.2.2.1, h.2.2.2.2.1, h.2.2.2.2.2.1, h.2.2.2.2.2.2.1, h.2.2.2.2.2.2.2.1, hk _ _ _ _ _ hL h.2.2.2.2.2.2.2.2⟩ | exact ⟨h.1, h.2.1, h.2.2.1, h.2.2.2.1, h.2.2.2.2.1, h.2.2.2.2.2.1, h.2.2.2.2.2.2.1, h.2.2.2.2.2.2.2.1, h.2.2.2.2.2.2.2.2.1, hk _ _ _ _ _ hL h.2.2.2.2.2.2.2.2.2⟩)
theorem cl_ldiv : cm_Lo cm_ldiv := by
  intro E P t pc L' L st M k' k hL hk h
  unfold cm_ldiv at h ⊢
  dsimp only at h ⊢
  split at h <;> (first | exact h.elim | exact hk _ _ _ _ _ hL h | exact ⟨h.1, hk _ _ _ _ _ hL h.2⟩ | exact ⟨h.1, h.2.1, hk _ _ _ _ _ hL h.2.2⟩ | exact ⟨h.1, h.2.1, h.2.2.1, hk _ _ _ _ _ hL h.2.2.2⟩ | exact ⟨h.1, h.2.1, h.2.2.1, h.2.2.2.1, hk _ _ _ _ _ hL h.2.2.2.2⟩ | exact ⟨h.1, h.2.1, h.2.2.1, h.2.2.2.1, h.2.2.2.2.1, hk _ _ _ _ _ hL h.2.2.2.2.2⟩ | exact ⟨h.1, h.2.1, h.2.2.1, h.2.2.2.1, h.2.2.2.2.1, h.2.2.2.2.2.1, hk _ _ _ _ _ hL h.2.2.2.2.2.2⟩ | exact ⟨h.1, h.2.1, h.2.2.1, h.2.2.2.1, h.2.2.2.2.1, h.2.2.2.2.2.1, h.2.2.2.2.2.2.1, hk _ _ _ _ _ hL h.2.2.2.2.2.2.2⟩ | exact ⟨h.1, h.2.1, h.2.2.1, h.2.2.2.1, h.2.2.2.2.1, h.2.2.2.2.2.1, h.2.2.2.2.2.2.1, h.2.2.2.2.2.2.2.1, hk _ _ _ _ _ hL h.2.2.2.2.2.2.2.2⟩ | exact ⟨h.1, h.2.1, h.2.2.1, h.2.2.2.1, h.2.2.2.2.1, h.2.2.2.2.2.1, h.2.2.2.2.2.2.1, h.2.2.2.2.2.2.2.1, h.2.2.2.2.2.2.2.2.1, hk _ _ _ _ _ hL h.2.2.2.2.2.2.2.2.2⟩)
theorem cl_lrem : cm_Lo cm_lrem := by
  intro E P t pc L' L st M k' k hL hk h
  unfold cm_lrem at h ⊢
  dsimp only at h ⊢
  split at h <;> (first | exact h.elim | exact hk _ _ _ _ _ hL h | exact ⟨h.1, hk _ _ _ _ _ hL h.2⟩ | exact ⟨h.1, h.2.1, hk _ _ _ _ _ hL h.2.2⟩ | exact ⟨h.1, h.2.1, h.2.2.1, hk _ _ _ _ _ hL h.2.2.2⟩ | exact ⟨h.1, h.2.1, h.2.2.1, h.2.2.2.1, hk _ _ _ _ _ hL h.2.2.2.2⟩ | exact ⟨h.1, h.2.1, h.2.2.1, h.2.2.2.1, h.2.2.2.2.1, hk _ _ _ _ _ hL h.2.2.2.2.2⟩ | exact ⟨h.1, h.2.1, h.2.2.1, h.2.2.2.1, h.2.2.2.2.1, h.2.2.2.2.2.1, hk _ _ _ _ _ hL h.2.2.2.2.2.2⟩ | exact ⟨h.1, h.2.1, h.2.2.1, h.2.2.2.1, h.2.2.2.2.1, h.2.2.2.2.2.1, h.2.2.2.2.2.2.1, hk _ _ _ _ _ hL h.2.2.2.2.2.2.2⟩ | exact ⟨h.1, h.2.1, h.2.2.1, h.2.2.2.1, h.2.2.2.2.1, h.2.2.2.2.2.1, h.2.2.2.2.2.2.1, h.2.2.2.2.2.2.2.1, hk _ _ _ _ _ hL h.2.2.2.2.2.2.2.2⟩ | exact ⟨h.1, h.2.1, h.2.2.1, h.2.2.2.1, h.2.2.2.2.1, h.2.2.2.2.2.1, h.2.2.2.2.2.2.1, h.2.2.2.2.2.2.2.1, h.2.2.2.2.2.2.2.2.1, hk _ _ _ _ _ hL h.2.2.2.2.2.2.2.2.2⟩)
theorem cl_ldc2 : cm_Lo cm_ldc2 := by
  intro E P t pc L' L st M k' k hL hk h
  unfold cm_ldc2 at h ⊢
  dsimp only at h ⊢
  first | exact h.elim | exact hk _ _ _ _ _ hL h | exact ⟨h.1, hk _ _ _ _ _ hL h.2⟩ | exact ⟨h.1, h.2.1, hk _ _ _ _ _ hL h.2.2⟩ | exact ⟨h.1, h.2.1, h.2.2.1, hk _ _ _ _ _ hL h.2.2.2⟩ | exact ⟨h.1, h.2.1, h.2.2.1, h.2.2.2.1, hk _ _ _ _ _ hL h.2.2.2.2⟩ | exact ⟨h.1, h.2.1, h.2.2.1, h.2.2.2.1, h.2.2.2.2.1, hk _ _ _ _ _ hL h.2.2.2.2.2⟩ | exact ⟨h.1, h.2.1, h.2.2.1, h.2.2.2.1, h.2.2.2.2.1, h.2.2.2.2.2.1, hk _ _ _ _ _ hL h.2.2.2.2.2.2⟩ | exact ⟨h.1, h.2.1, h.2.2.1, h.2.2.2.1, h.2.2.2.2.1, h.2.2.2.2.2.1, h.2.2.2.2.2.2.1, hk _ _ _ _ _ hL h.2.2.2.2.2.2.2⟩ | exact ⟨h.1, h.2.1, h.2.2.1, h.2.2.2.1, h.2.2.2.2.1, h.2.2.2.2.2.1, h.2.2.2.2.2.2.1, h.2.2.2.2.2.2.2.1, hk _ _ _ _ _ hL h.2.2.2.2.2.2.2.2⟩ | exact ⟨h.1, h.2.1, h.2.2.1, h.2.2.2.1, h.2.2.2.2.1, h.2.2.2.2.2.1, h.2.2.2.2.2.2.1, h.2.2.2.2.2.2.2.1, h.2.2.2.2.2.2.2.2.1, hk _ _ _ _ _ hL h.2.2.2.2.2.2.2.2.2⟩
theorem cl_getsF : cm_Lo cm_getsF := by
  intro E P t pc L' L st M k' k hL hk h
  unfold cm_getsF at h ⊢
  dsimp only at h ⊢
  exact ⟨hk _ _ _ _ _ hL h.1, hk _ _ _ _ _ hL h.2⟩
theorem cl_ldcw : cm_Lo cm_ldcw := by
  intro E P t pc L' L st M k' k hL hk h
  unfold cm_ldcw at h ⊢
  dsimp only at h ⊢
  first | exact h.elim | exact hk _ _ _ _ _ hL h | exact ⟨h.1, hk _ _ _ _ _ hL h.2⟩ | exact ⟨h.1, h.2.1, hk _ _ _ _ _ hL h.2.2⟩ | exact ⟨h.1, h.2.1, h.2.2.1, hk _ _ _ _ _ hL h.2.2.2⟩ | exact ⟨h.1, h.2.1, h.2.2.1, h.2.2.2.1, hk _ _ _ _ _ hL h.2.2.2.2⟩ | exact ⟨h.1, h.2.1, h.2.2.1, h.2.2.2.1, h.2.2.2.2.1, hk _ _ _ _ _ hL h.2.2.2.2.2⟩ | exact ⟨h.1, h.2.1, h.2.2.1, h.2.2.2.1, h.2.2.2.2.1, h.2.2.2.2.2.1, hk _ _ _ _ _ hL h.2.2.2.2.2.2⟩ | exact ⟨h.1, h.2.1, h.2.2.1, h.2.2.2.1, h.2.2.2.2.1, h.2.2.2.2.2.1, h.2.2.2.2.2.2.1, hk _ _ _ _ _ hL h.2.2.2.2.2.2.2⟩ | exact ⟨h.1, h.2.1, h.2.2.1, h.2.2.2.1, h.2.2.2.2.1, h.2.2.2.2.2.1, h.2.2.2.2.2.2.1, h.2.2.2.2.2.2.2.1, hk _ _ _ _ _ hL h.2.2.2.2.2.2.2.2⟩ | exact ⟨h.1, h.2.1, h.2.2.1, h.2.2.2.1, h.2.2.2.2.1, h.2.2.2.2.2.1, h.2.2.2.2.2.2.1, h.2.2.2.2.2.2.2.1, h.2.2.2.2.2.2.2.2.1, hk _ _ _ _ _ hL h.2.2.2.2.2.2.2.2.2⟩
theorem cl_mmax : cm_Lo cm_mmax := by
  intro E P t pc L' L st M k' k hL hk h
  unfold cm_mmax at h ⊢
  dsimp only at h ⊢
  split at h <;> (first | exact h.elim | exact hk _ _ _ _ _ hL h | exact ⟨h.1, hk _ _ _ _ _ hL h.2⟩ | exact ⟨h.1, h.2.1, hk _ _ _ _ _ hL h.2.2⟩ | exact ⟨h.1, h.2.1, h.2.2.1, hk _ _ _ _ _ hL h.2.2.2⟩ | exact ⟨h.1, h.2.1, h.2.2.1, h.2.2.2.1, hk _ _ _ _ _ hL h.2.2.2.2⟩ | exact ⟨h.1, h.2.1, h.2.2.1, h.2.2.2.1, h.2.2.2.2.1, hk _ _ _ _ _ hL h.2.2.2.2.2⟩ | exact ⟨h.1, h.2.1, h.2.2.1, h.2.2.2.1, h.2.2.2.2.1, h.2.2.2.2.2.1, hk _ _ _ _ _ hL h.2.2.2.2.2.2⟩ | exact ⟨h.1, h.2.1, h.2.2.1, h.2.2.2.1, h.2.2.2.2.1, h.2.2.2.2.2.1, h.2.2.2.2.2.2.1, hk _ _ _ _ _ hL h.2.2.2.2.2.2.2⟩ | exact ⟨h.1, h.2.1, h.2.2.1, h.2.2.2.1, h.2.2.2.2.1, h.2.2.2.2.2.1, h.2.2.2.2.2.2.1, h.2.2.2.2.2.2.2.1, hk _ _ _ _ _ hL h.2.2.2.2.2.2.2.2⟩ | exact ⟨h.1, h.2.1, h.2.2.1, h.2.2.2.1, h.2.2.2.2.1, h.2.2.2.2.2.1, h.2.2.2.2.2.2.1, h.2.2.2.2.2.2.2.1, h.2.2.2.2.2.2.2.2.1, hk _ _ _ _ _ hL h.2.2.2.2.2.2.2.2.2⟩)
theorem cl_mabs : cm_Lo cm_mabs := by
  intro E P t pc L' L st M k' k hL hk h
  unfold cm_mabs at h ⊢
  dsimp only at h ⊢
  split at h <;> (first | exact h.elim | exact hk _ _ _ _ _ hL h | exact ⟨h.1, hk _ _ _ _ _ hL h.2⟩ | exact ⟨h.1, h.2.1, hk _ _ _ _ _ hL h.2.2⟩ | exact ⟨h.1, h.2.1, h.2.2.1, hk _ _ _ _ _ hL h.2.2.2⟩ | exact ⟨h.1, h.2.1, h.2.2.1, h.2.2.2.1, hk _ _ _ _ _ hL h.2.2.2.2⟩ | exact ⟨h.1, h.2.1, h.2.2.1, h.2.2.2.1, h.2.2.2.2.1, hk _ _ _ _ _ hL h.2.2.2.2.2⟩ | exact ⟨h.1, h.2.1, h.2.2.1, h.2.2.2.1, h.2.2.2.2.1, h.2.2.2.2.2.1, hk _ _ _ _ _ hL h.2.2.2.2.2.2⟩ | exact ⟨h.1, h.2.1, h.2.2.1, h.2.2.2.1, h.2.2.2.2.1, h.2.2.2.2.2.1, h.2.2.2.2.2.2.1, hk _ _ _ _ _ hL h.2.2.2.2.2.2.2⟩ | exact ⟨h.1, h.2.1, h.2.2.1, h.2.2.2.1, h.2.2.2.2.1, h.2.2.2.2.2.1, h.2.2.2.2.2.2.1, h.2.2.2.2.2.2.2.1, hk _ _ _ _ _ hL h.2.2.2.2.2.2.2.2⟩ | exact ⟨h.1, h.2.1, h.2.2.1, h.2.2.2.1, h.2.2.2.2.1, h.2.2.2.2.2.1, h.2.2.2.2.2.2.1, h.2.2.2.2.2.2.2.1, h.2.2.2.2.2.2.2.2.1, hk _ _ _ _ _ hL h.2.2.2.2.2.2.2.2.2⟩)
theorem cl_copyi : cm_Lo cm_copyi := by
  intro E P t pc L' L st M k' k hL hk h
  unfold cm_copyi at h ⊢
  dsimp only at h ⊢
  split at h <;> (first | exact h.elim | exact hk _ _ _ _ _ hL h | exact ⟨h.1, hk _ _ _ _ _ hL h.2⟩ | exact ⟨h.1, h.2.1, hk _ _ _ _ _ hL h.2.2⟩ | exact ⟨h.1, h.2.1, h.2.2.1, hk _ _ _ _ _ hL h.2.2.2⟩ | exact ⟨h.1, h.2.1, h.2.2.1, h.2.2.2.1, hk _ _ _ _ _ hL h.2.2.2.2⟩ | exact ⟨h.1, h.2.1, h.2.2.1, h.2.2.2.1, h.2.2.2.2.1, hk _ _ _ _ _ hL h.2.2.2.2.2⟩ | exact ⟨h.1, h.2.1, h.2.2.1, h.2.2.2.1, h.2.2.2.2.1, h.2.2.2.2.2.1, hk _ _ _ _ _ hL h.2.2.2.2.2.2⟩ | exact ⟨h.1, h.2.1, h.2.2.1, h.2.2.2.1, h.2.2.2.2.1, h.2.2.2.2.2.1, h.2.2.2.2.2.2.1, hk _ _ _ _ _ hL h.2.2.2.2.2.2.2⟩ | exact ⟨h.1, h.2.1, h.2.2.1, h.2.2.2.1, h.2.2.2.2.1, h.2.2.2.2.2.1, h.2.2.2.2.2.2.1, h.2.2.2.2.2.2.2.1, hk _ _ _ _ _ hL h.2.2.2.2.2.2.2.2⟩ | exact ⟨h.1, h.2.1, h.2.2.1, h.2.2.2.1, h.2.2.2.2.1, h.2.2.2.2.2.1, h.2.2.2.2.2.2.1, h.2.2.2.2.2.2.2.1, h.2.2.2.2.2.2.2.2.1, hk _ _ _ _ _ hL h.2.2.2.2.2.2.2.2.2⟩)
theorem cl_getT : cm_Lo cm_getT := by
  intro E P t pc L' L st M k' k hL hk h
  unfold cm_getT at h ⊢
  dsimp only at h ⊢
  first | exact h.elim | exact hk _ _ _ _ _ hL h | exact ⟨h.1, hk _ _ _ _ _ hL h.2⟩ | exact ⟨h.1, h.2.1, hk _ _ _ _ _ hL h.2.2⟩ | exact ⟨h.1, h.2.1, h.2.2.1, hk _ _ _ _ _ hL h.2.2.2⟩ | exact ⟨h.1, h.2.1, h.2.2.1, h.2.2.2.1, hk _ _ _ _ _ hL h.2.2.2.2⟩ | exact ⟨h.1, h.2.1, h.2.2.1, h.2.2.2.1, h.2.2.2.2.1, hk _ _ _ _ _ hL h.2.2.2.2.2⟩ | exact ⟨h.1, h.2.1, h.2.2.1, h.2.2.2.1, h.2.2.2.2.1, h.2.2.2.2.2.1, hk _ _ _ _ _ hL h.2.2.2.2.2.2⟩ | exact ⟨h.1, h.2.1, h.2.2.1, h.2.2.2.1, h.2.2.2.2.1, h.2.2.2.2.2.1, h.2.2.2.2.2.2.1, hk _ _ _ _ _ hL h.2.2.2.2.2.2.2⟩ | exact ⟨h.1, h.2.1, h.2.2.1, h.2.2.2.1, h.2.2.2.2.1, h.2.2.2.2.2.1, h.2.2.2.2.2.2.1, h.2.2.2.2.2.2.2.1, hk _ _ _ _ _ hL h.2.2.2.2.2.2.2.2⟩ | exact ⟨h.1, h.2.1, h.2.2.1, h.2.2.2.1, h.2.2.2.2.1, h.2.2.2.2.2.1, h.2.2.2.2.2.2.1, h.2.2.2.2.2.2.2.1, h.2.2.2.2.2.2.2.2.1, hk _ _ _ _ _ hL h.2.2.2.2.2.2.2.2.2⟩
theorem cl_tald : cm_Lo cm_tald := by
  intro E P t pc L' L st M k' k hL hk h
  unfold cm_tald at h ⊢
  dsimp only at h ⊢
  split at h <;> (first | exact h.elim | exact hk _ _ _ _ _ hL h | exact ⟨h.1, hk _ _ _ _ _ hL h.2⟩ | exact ⟨h.1, h.2.1, hk _ _ _ _ _ hL h.2.2⟩ | exact ⟨h.1, h.2.1, h.2.2.1, hk _ _ _ _ _ hL h.2.2.2⟩ | exact ⟨h.1, h.2.1, h.2.2.1, h.2.2.2.1, hk _ _ _ _ _ hL h.2.2.2.2⟩ | exact ⟨h.1, h.2.1, h.2.2.1, h.2.2.2.1, h.2.2.2.2.1, hk _ _ _ _ _ hL h.2.2.2.2.2⟩ | exact ⟨h.1, h.2.1, h.2.2.1, h.2.2.2.1, h.2.2.2.2.1, h.2.2.2.2.2.1, hk _ _ _ _ _ hL h.2.2.2.2.2.2⟩ | exact ⟨h.1, h.2.1, h.2.2.1, h.2.2.2.1, h.2.2.2.2.1, h.2.2.2.2.2.1, h.2.2.2.2.2.2.1, hk _ _ _ _ _ hL h.2.2.2.2.2.2.2⟩ | exact ⟨h.1, h.2.1, h.2.2.1, h.2.2.2.1, h.2.2.2.2.1, h.2.2.2.2.2.1, h.2.2.2.2.2.2.1, h.2.2.2.2.2.2.2.1, hk _ _ _ _ _ hL h.2.2.2.2.2.2.2.2⟩ | exact ⟨h.1, h.2.1, h.2.2.1, h.2.2.2.1, h.2.2.2.2.1, h.2.2.2.2.2.1, h.2.2.2.2.2.2.1, h.2.2.2.2.2.2.2.1, h.2.2.2.2.2.2.2.2.1, hk _ _ _ _ _ hL h.2.2.2.2.2.2.2.2.2⟩)
theorem cl_alenT : cm_Lo cm_alenT := by
  intro E P t pc L' L st M k' k hL hk h
  unfold cm_alenT at h ⊢
  dsimp only at h ⊢
  split at h <;> (first | exact h.elim | exact hk _ _ _ _ _ hL h | exact ⟨h.1, hk _ _ _ _ _ hL h.2⟩ | exact ⟨h.1, h.2.1, hk _ _ _ _ _ hL h.2.2⟩ | exact ⟨h.1, h.2.1, h.2.2.1, hk _ _ _ _ _ hL h.2.2.2⟩ | exact ⟨h.1, h.2.1, h.2.2.1, h.2.2.2.1, hk _ _ _ _ _ hL h.2.2.2.2⟩ | exact ⟨h.1, h.2.1, h.2.2.1, h.2.2.2.1, h.2.2.2.2.1, hk _ _ _ _ _ hL h.2.2.2.2.2⟩ | exact ⟨h.1, h.2.1, h.2.2.1, h.2.2.2.1, h.2.2.2.2.1, h.2.2.2.2.2.1, hk _ _ _ _ _ hL h.2.2.2.2.2.2⟩ | exact ⟨h.1, h.2.1, h.2.2.1, h.2.2.2.1, h.2.2.2.2.1, h.2.2.2.2.2.1, h.2.2.2.2.2.2.1, hk _ _ _ _ _ hL h.2.2.2.2.2.2.2⟩ | exact ⟨h.1, h.2.1, h.2.2.1, h.2.2.2.1, h.2.2.2.2.1, h.2.2.2.2.2.1, h.2.2.2.2.2.2.1, h.2.2.2.2.2.2.2.1, hk _ _ _ _ _ hL h.2.2.2.2.2.2.2.2⟩ | exact ⟨h.1, h.2.1, h.2.2.1, h.2.2.2.1, h.2.2.2.2.1, h.2.2.2.2.2.1, h.2.2.2.2.2.2.1, h.2.2.2.2.2.2.2.1, h.2.2.2.2.2.2.2.2.1, hk _ _ _ _ _ hL h.2.2.2.2.2.2.2.2.2⟩)
theorem cl_lastore : cm_Lo cm_lastore := by
  intro E P t pc L' L st M k' k hL hk h
  unfold cm_lastore at h ⊢
  dsimp only at h ⊢
  split at h <;> (first | exact h.elim | exact hk _ _ _ _ _ hL h | exact ⟨h.1, hk _ _ _ _ _ hL h.2⟩ | exact ⟨h.1, h.2.1, hk _ _ _ _ _ hL h.2.2⟩ | exact ⟨h.1, h.2.1, h.2.2.1, hk _ _ _ _ _ hL h.2.2.2⟩ | exact ⟨h.1, h.2.1, h.2.2.1, h.2.2.2.1, hk _ _ _ _ _ hL h.2.2.2.2⟩ | exact ⟨h.1, h.2.1, h.2.2.1, h.2.2.2.1, h.2.2.2.2.1, hk _ _ _ _ _ hL h.2.2.2.2.2⟩ | exact ⟨h.1, h.2.1, h.2.2.1, h.2.2.2.1, h.2.2.2.2.1, h.2.2.2.2.2.1, hk _ _ _ _ _ hL h.2.2.2.2.2.2⟩ | exact ⟨h.1, h.2.1, h.2.2.1, h.2.2.2.1, h.2.2.2.2.1, h.2.2.2.2.2.1, h.2.2.2.2.2.2.1, hk _ _ _ _ _ hL h.2.2.2.2.2.2.2⟩ | exact ⟨h.1, h.2.1, h.2.2.1, h.2.2.2.1, h.2.2.2.2.1, h.2.2.2.2.2.1, h.2.2.2.2.2.2.1, h.2.2.2.2.2.2.2.1, hk _ _ _ _ _ hL h.2.2.2.2.2.2.2.2⟩ | exact ⟨h.1, h.2.1, h.2.2.1, h.2.2.2.1, h.2.2.2.2.1, h.2.2.2.2.2.1, h.2.2.2.2.2.2.1, h.2.2.2.2.2.2.2.1, h.2.2.2.2.2.2.2.2.1, hk _ _ _ _ _ hL h.2.2.2.2.2.2.2.2.2⟩)
theorem cl_pop2 : cm_Lo cm_pop2 := by
  intro E P t pc L' L st M k' k hL hk h
  unfold cm_pop2 at h ⊢
  dsimp only at h ⊢
  split at h <;> (first | exact h.elim | exact hk _ _ _ _ _ hL h | exact ⟨h.1, hk _ _ _ _ _ hL h.2⟩ | exact ⟨h.1, h.2.1, hk _ _ _ _ _ hL h.2.2⟩ | exact ⟨h.1, h.2.1, h.2.2.1, hk _ _ _ _ _ hL h.2.2.2⟩ | exact ⟨h.1, h.2.1, h.2.2.1, h.2.2.2.1, hk _ _ _ _ _ hL h.2.2.2.2⟩ | exact ⟨h.1, h.2.1, h.2.2.1, h.2.2.2.1, h.2.2.2.2.1, hk _ _ _ _ _ hL h.2.2.2.2.2⟩ | exact ⟨h.1, h.2.1, h.2.2.1, h.2.2.2.1, h.2.2.2.2.1, h.2.2.2.2.2.1, hk _ _ _ _ _ hL h.2.2.2.2.2.2⟩ | exact ⟨h.1, h.2.1, h.2.2.1, h.2.2.2.1, h.2.2.2.2.1, h.2.2.2.2.2.1, h.2.2.2.2.2.2.1, hk _ _ _ _ _ hL h.2.2.2.2.2.2.2⟩ | exact ⟨h.1, h.2.1, h.2.2.1, h.2.2.2.1, h.2.2.2.2.1, h.2.2.2.2.2.1, h.2.2.2.2.2.2.1, h.2.2.2.2.2.2.2.1, hk _ _ _ _ _ hL h.2.2.2.2.2.2.2.2⟩ | exact ⟨h.1, h.2.1, h.2.2.1, h.2.2.2.1, h.2.2.2.2.1, h.2.2.2.2.2.1, h.2.2.2.2.2.2.1, h.2.2.2.2.2.2.2.1, h.2.2.2.2.2.2.2.2.1, hk _ _ _ _ _ hL h.2.2.2.2.2.2.2.2.2⟩)
theorem cl_1 {o : cm_O} {l : List cm_O} (h : cm_Lo o) (h2 : ∀ o ∈ l, cm_Lo o) : ∀ o' ∈ o :: l, cm_Lo o' := List.forall_mem_cons.mpr ⟨h, h2⟩
theorem cl_ops : ∀ o ∈ cm_ops, cm_Lo o := cl_1 cl_iconst (cl_1 cl_bipush (cl_1 cl_sipush (cl_1 cl_lconst (cl_1 cl_iload (cl_1 cl_iloadn (cl_1 cl_lload (cl_1 cl_lloadn (cl_1 cl_aload (cl_1 cl_aloadn (cl_1 cl_istore (cl_1 cl_istoren (cl_1 cl_lstore (cl_1 cl_lstoren (cl_1 cl_astore (cl_1 cl_astoren (cl_1 cl_iadd (cl_1 cl_isub (cl_1 cl_imul (cl_1 cl_iand (cl_1 cl_ior (cl_1 cl_ixor (cl_1 cl_ishl (cl_1 cl_ishr (cl_1 cl_iushr (cl_1 cl_idiv (cl_1 cl_irem (cl_1 cl_ineg (cl_1 cl_i2b (cl_1 cl_i2l (cl_1 cl_lcmp (cl_1 cl_dup (cl_1 cl_pop (cl_1 cl_dup2 (cl_1 cl_iinc (cl_1 cl_icmp_eq (cl_1 cl_icmp_ne (cl_1 cl_icmp_lt (cl_1 cl_icmp_ge (cl_1 cl_icmp_gt (cl_1 cl_icmp_le (cl_1 cl_if_eq (cl_1 cl_if_ne (cl_1 cl_if_lt (cl_1 cl_if_ge (cl_1 cl_if_gt (cl_1 cl_if_le (cl_1 cl_goto (cl_1 cl_sw (cl_1 cl_get (cl_1 cl_put (cl_1 cl_no (cl_1 cl_iaload (cl_1 cl_baload (cl_1 cl_laload (cl_1 cl_aaload (cl_1 cl_iastore (cl_1 cl_bastore (cl_1 cl_no (cl_1 cl_no (cl_1 cl_no (cl_1 cl_no (cl_1 cl_no (cl_1 cl_no (cl_1 cl_alen (cl_1 cl_sald (cl_1 cl_no (cl_1 cl_mmin (cl_1 cl_ldc (cl_1 cl_ldcS (cl_1 cl_getV (cl_1 cl_getC (cl_1 cl_gets (cl_1 cl_alenS (cl_1 cl_baloadS (cl_1 cl_i2c (cl_1 cl_ladd (cl_1 cl_lsub (cl_1 cl_lmul (cl_1 cl_ldiv (cl_1 cl_lrem (cl_1 cl_ldc2 (cl_1 cl_getsF (cl_1 cl_ldcw (cl_1 cl_mmax (cl_1 cl_mabs (cl_1 cl_copyi (cl_1 cl_getT (cl_1 cl_tald (cl_1 cl_alenT (cl_1 cl_lastore (cl_1 cl_pop2 (fun _ h => absurd h List.not_mem_nil))))))))))))))))))))))))))))))))))))))))))))))))))))))))))))))))))))))))))))))))))))))))))))
theorem cm_take_ok {recv : Bool} {n : Nat} {st as rest : List Value} (h : cm_take recv n st = some (as, rest)) : ∃ xs : List Value, xs.length = n ∧ ((recv = true ∧ ∃ v, as = v :: xs ∧ st = xs.reverse ++ v :: rest) ∨ (recv = false ∧ as = xs ∧ st = xs.reverse ++ rest)) := by
  have hsp : st = st.take n ++ st.drop n := (List.take_append_drop n st).symm
  unfold cm_take at h
  split at h
  · rename_i hr
    split at h
    · rename_i x rest' hd
      split at h
      · rename_i hl
        cases h
        exact ⟨(st.take n).reverse, by rw [List.length_reverse]; exact hl, Or.inl ⟨hr, x, rfl, by rw [List.reverse_reverse, ← hd]; exact hsp⟩⟩
      · cases h
    · cases h
  · rename_i hr
    split at h
    · rename_i hl
      cases h
      exact ⟨(st.take n).reverse, by rw [List.length_reverse]; exact hl, Or.inr ⟨by simpa using hr, rfl, by rw [List.reverse_reverse]; exact hsp⟩⟩
    · cases h
theorem cm_callW {p : Program} {l : Launch} {e : Env} {R : Room} {s : State} {m : MethodId} {args : Array Value} {below : List Frame} {meth : Method} {c : Code} {H : Heap} {locs : List Loc} {ce sl pc : Nat} {ls : Array Slot} {rest st0 : List Value} {a : Array Value} {A A1 : Nat → Prop} {H0 : Heap} {free : Addr → Prop} {Q : State → Prop} {D : va_G} {adr : Nat → Nat} {P0 : cm_K}
    (hr : va_Run p l e R s m args below meth c H locs ce sl 0 0 (F0 m pc ls st0) rest (cm_Q D adr A1 P0 a) free) (hS : va_S A H0 H locs) (hA : ∀ q, A1 q → A q) (hf : ∀ q, free q → A q)
    (kk : ∀ (v : Option Value) (M' : cm_M) (ws' : va_W) (t : State) (H1 : Heap) (locs1 : List Loc), P0 v M' → t.heap = H1 → s.vm.Alike t.vm → va_P D vwCl ws' H1 → va_D A1 ws' → cm_w t adr M' ws' → va_S A H0 H1 locs1 → W p l e R s m args below meth c H1 locs1 ce sl Q (F0 m (pc + 3) ls ((v.map (cm_v adr)).toList ++ rest))) :
    W p l e R s m args below meth c H locs ce sl Q (F0 m pc ls st0) := by
  intro T hT X
  obtain ⟨v, st₀, t, T', L, h0, X', hL, e1, e2, ⟨⟨v', M', ws', hv0, hv, hP, hD, hw⟩, hz, hk⟩, st⟩ := hr T hT X
  cases hv
  rw [h0] at hz hk
  obtain ⟨t2, a1, b1⟩ := kk v' M' ws' t T'.heap (locs ++ L) hv0 e1.symm (by rw [← e2]; exact X'.warmed.alike) (by rw [e1]; exact hP) hD hw
    ⟨Nat.le_trans hS.1 (by rw [e1]; exact hz), fun q h1 h2 => by rw [e1, hk q (Nat.lt_of_lt_of_le h1 hS.1) (fun z => h2 (hA q z))]; exact hS.2.1 q h1 h2, fun q hq => by
      rcases List.mem_append.mp hq with h | h
      · exact hS.2.2 q h
      · exact hf _ (hL q h)⟩ T' rfl X'
  exact ⟨t2, st t2 a1, b1⟩
theorem cm_Pb_blind {D : va_G} {adr : Nat → Nat} {ws : va_W} {sz : Nat} {M : cm_M} {asc : List Value} : FrameBlind (va_Pc asc (cm_Pb D adr ws sz M)) := fun a U gf mk q => by
  obtain ⟨q0, q1, q2, q3, q4, q5, q6⟩ := q
  exact ⟨q0, q1, q2, va_K.moved (u := U) (U := U.calling gf mk a) (Vm.Alike.refl U.vm) q3, q4, cm_w_moved (u := U) (U := U.calling gf mk a) (Vm.Alike.refl U.vm) q5, cm_N_same (u := U) (U := U.calling gf mk a) rfl q6⟩
theorem cm_rowI_op {ms : List ev_MI} {P : ev_P} {r : ev_Row} (h : r.1 < 200) : cm_rowI ms P r = (match cm_ops[r.1]? with
    | some o => o.1 P r.2
    | none => none) := by
  unfold cm_rowI
  split
  · omega
  · omega
  · omega
  · omega
  · omega
  · omega
  · rfl
section CMS
variable {p : Program} {l : Launch} {e : Env} {R : Room} {s : State} {m : MethodId} {args : Array Value} {below : List Frame} {meth : Method} {c : Code} {cc : ByteArray} {Q : State → Prop} {D : va_G} {A : Nat → Prop} {adr : Nat → Nat} {ce sl : Nat} {E : cm_E} {P : ev_P} {ms : List ev_MI} {d : Nat}
set_option maxHeartbeats 4000000 in
theorem cm_inv_ok (hMS : ∀ (k : Nat) (mi : ev_MI), ms[k]? = some mi → cm_MOK ms mi) (hRm : d + 1 ≤ R.frames ∧ 40 * (d + 1) ≤ R.locals) (X : cm_X p R s m args c cc P.2.2.2.2.1 P.2.2.2.1 D A adr ce sl E)
    {q : Nat × ev_Row} (hq : cm_RowOK ms P cc q) (h200 : 200 ≤ q.2.1) (h210 : q.2.1 < 210) {S : cm_S} (hpc : S.1 = q.1) (h : cm_inv ms (cm_Call0 ms d) q.2 S (cm_Go p l e R s m args below meth c Q P.2.2.2.2.1 D A adr ce sl)) : cm_Go p l e R s m args below meth c Q P.2.2.2.2.1 D A adr ce sl S := by
  intro ws H locs ls hR
  obtain ⟨hx, hb, hml, hown, hts, hK, hA, hN, hcC, hcS, hf, hlc, hscr⟩ := X
  obtain ⟨pc, L, st, M⟩ := S
  obtain ⟨qpc, op, t1, t2, t3, t4⟩ := q
  have hpc : pc = qpc := hpc
  subst hpc
  obtain ⟨i, n, cs, hi, hd, hw⟩ := hq
  dsimp only at hi hd h200 h210
  unfold cm_inv at h
  dsimp only at h
  split at h
  rotate_left
  · exact h.elim
  rename_i mi hmi
  obtain ⟨hpl, hcd, hnL, hmh, -⟩ := hMS _ mi hmi
  split at h
  rotate_left
  · exact h.elim
  rename_i as rest htk
  obtain ⟨hc1, hc4, hc5, mi', d', P0, hmi', hdd, hP0, hM⟩ := h
  rw [hmi] at hmi'
  cases hmi'
  obtain ⟨hP, hD, hS, hW, hL⟩ := hR
  have hnp : (parseMethodDescriptor mi.1.desc).map (fun d => d.parameters.length) = some t3.toNat := by simpa [ev_nar1] using hc4
  have hroom : (cm_rm d').frames + 1 ≤ R.frames ∧ 8 + (mi.2.2.1 + 11) + (cm_rm d').locals ≤ R.locals := by
    simp only [cm_rm]
    omega
  have hG : GoodIn lw_good (Cond.code mi.1 mi.2.1 mi.2.2.1 mi.2.2.2.1 :: lw_good) := lw_good_good (fun w h => by
    rcases List.mem_cons.mp h with rfl | h
    · exact hcd
    · exact h)
  have hcap : ce + 0 ≤ R.cells ∧ sl + 0 ≤ R.slots := ⟨hcC, hcS⟩
  have hfree : ∀ q, va_A ws H.size q → A q := by
    intro q h
    rcases h with ⟨k, e, h⟩ | h
    · exact hD.2 k (q, e) h
    · exact hA q (Nat.le_trans hS.1 h)
  obtain ⟨xs, hxl, hor⟩ := cm_take_ok htk
  have hsum : ((rest.map (cm_v adr)).map fun v => v.category).sum ≤ 8 := by rw [cm_v_cats]; exact hc1
  have hkk : ∀ (v : Option Value) (M' : cm_M) (ws' : va_W) (t : State) (H1 : Heap) (locs1 : List Loc), P0 v M' → t.heap = H1 → s.vm.Alike t.vm → va_P D vwCl ws' H1 → va_D (va_A ws H.size) ws' → cm_w t adr M' ws' → va_S A s.heap H1 locs1 → W p l e R s m args below meth c H1 locs1 ce sl Q (F0 m (pc + 3) ls ((v.map (cm_v adr)).toList ++ rest.map (cm_v adr))) := by
    intro v M' ws' t H1 locs1 ho ht hvm hP1 hD1 hw1 hS1
    have := hP0 v M' ho ws' H1 locs1 ls ⟨hP1, hD1.weaken (fun _ _ _ h => hfree _ h), hS1, cm_w_moved hvm.symm hw1, hL⟩
    have e1 : (v.toList ++ rest).map (cm_v adr) = (v.map (cm_v adr)).toList ++ rest.map (cm_v adr) := by
      rw [List.map_append]
      cases v <;> rfl
    rw [← e1]
    exact this
  have hpre : ∀ (asc : List Value), ∀ U : State, U.heap = H → s.WarmedH U.vm → va_Pc asc (cm_Pb D adr ws H.size M) asc.toArray U := fun asc U hU hWm =>
    ⟨rfl, by rw [hU], by rw [hU]; exact hP, va_K.moved hWm.alike hK, hD.weaken (fun _ _ _ _ => trivial), cm_w_moved hWm.alike hW, cm_N_call hWm hU hS hfree hN⟩
  have h4 : op = 200 ∨ op = 201 ∨ 201 < op := by omega
  rcases h4 with rfl | rfl | hbig
  · have hi : some ((.invokevirtual t2.toNat : Instr), (3 : Nat), ([.methodLink P.2.2.2.1 t2.toNat mi.1, .instanceMethod mi.1, .selects mi.1.cls mi.1 mi.1, .initialized mi.1.cls] : List Cond)) = some (i, n, cs) := by
      simpa [cm_rowI, hmi] using hi
    cases hi
    rcases hor with ⟨-, v, rfl, rfl⟩ | ⟨hf0, -⟩
    rotate_left
    · cases hf0
    have hGV : GoodIn lw_good (wsV P.2.2.2.1 t2.toNat mi.1.cls mi.1 (Cond.code mi.1 mi.2.1 mi.2.2.1 mi.2.2.2.1 :: lw_good)) := lw_good_good (fun w h => by
      unfold wsV at h
      rcases List.mem_append.mp h with h | h
      · exact hw w h
      · exact (hG w h).1)
    have hmap : (xs.reverse ++ v :: rest).map (cm_v adr) = (xs.map (cm_v adr)).reverse ++ cm_v adr v :: rest.map (cm_v adr) := by
      rw [List.map_append, List.map_reverse, List.map_cons]
    have h5 := hc5 rfl
    cases v with
    | ref cn =>
      show W p l e R s m args below meth c H locs ce sl Q (F0 m pc ls ((xs.reverse ++ Value.ref cn :: rest).map (cm_v adr)))
      rw [hmap]
      rcases h5 with ⟨h51, h52, h53, h54⟩ | h5
      · obtain ⟨r, -, a1, -⟩ := cm_str hN h51 h52
        obtain ⟨cell, k1, k2, k3, k4⟩ := va_O.kept (a1 h53).2.2 hS.2.1
        exact cm_callW (va_runV (As := xs.map (cm_v adr)) (rest := rest.map (cm_v adr)) ⟨hx, hb, hml, hown, hts⟩ (hM l D adr ws H.size) (cwV t3.toNat hts hGV rfl rfl rfl ⟨rfl, hmh.1, hmh.2, hnp⟩ hroom) ⟨cm_Pb_blind, ⟨cell, k1, k2, by rw [h54]; exact k3⟩, fun U hU hWm => hpre _ U hU hWm⟩ rfl (by rw [List.length_map]; exact hxl) hL.1 rfl (lv_room hsum) hd hcap) hS (fun q h => hfree q h) hfree hkk
      · obtain ⟨r, hr1, hr2⟩ : ∃ r, vwCl[(cm_kind cn).1]? = some r ∧ r.1 = mi.1.cls := by
          cases hz : vwCl[(cm_kind cn).1]? with
          | none => rw [hz] at h5; cases h5
          | some r => rw [hz] at h5; exact ⟨r, rfl, Option.some.inj h5⟩
        have hlt : (cm_kind cn).1 < 10 := (List.getElem?_eq_some_iff.mp hr1).1
        obtain ⟨fs, e1, e2, e3⟩ := cm_obj hW (show cm_kind cn = ((cm_kind cn).1, (cm_kind cn).2) from rfl) (by omega)
        have hrecv := va_recv hK hP hr1 e1
        rw [hr2] at hrecv
        exact cm_callW (va_runV (As := xs.map (cm_v adr)) (rest := rest.map (cm_v adr)) ⟨hx, hb, hml, hown, hts⟩ (hM l D adr ws H.size) (cwV t3.toNat hts hGV rfl rfl rfl ⟨rfl, hmh.1, hmh.2, hnp⟩ hroom) ⟨cm_Pb_blind, hrecv, fun U hU hWm => hpre _ U hU hWm⟩ rfl (by rw [List.length_map]; exact hxl) hL.1 rfl (lv_room hsum) hd hcap) hS (fun q h => hfree q h) hfree hkk
    | _ => exact h5.elim
  · have hi : some ((.invokestatic t2.toNat : Instr), (3 : Nat), ([.methodLink P.2.2.2.1 t2.toNat mi.1, .static mi.1, .initialized mi.1.cls] : List Cond)) = some (i, n, cs) := by
      simpa [cm_rowI, hmi] using hi
    cases hi
    rcases hor with ⟨hf0, -⟩ | ⟨-, rfl, rfl⟩
    · cases hf0
    · have hGS : GoodIn lw_good (va_wsS P.2.2.2.1 t2.toNat mi.1 (Cond.code mi.1 mi.2.1 mi.2.2.1 mi.2.2.2.1 :: lw_good)) := lw_good_good (fun w h => by
        unfold va_wsS at h
        rcases List.mem_append.mp h with h | h
        · exact hw w h
        · exact (hG w h).1)
      have hmap : (as.reverse ++ rest).map (cm_v adr) = (as.map (cm_v adr)).reverse ++ rest.map (cm_v adr) := by
        rw [List.map_append, List.map_reverse]
      show W p l e R s m args below meth c H locs ce sl Q (F0 m pc ls ((as.reverse ++ rest).map (cm_v adr)))
      rw [hmap]
      exact cm_callW (va_runS (As := as.map (cm_v adr)) (rest := rest.map (cm_v adr)) ⟨hx, hb, hml, hown, hts⟩ (hM l D adr ws H.size) (va_cwS t3.toNat hts hGS rfl rfl rfl ⟨hmh.1, hmh.2, hnp⟩ hroom) ⟨cm_Pb_blind, fun U hU hWm => hpre _ U hU hWm⟩ rfl (by rw [List.length_map]; exact hxl) hL.1 rfl (lv_room hsum) hd hcap) hS (fun q h => hfree q h) hfree hkk
  · exfalso
    have : cm_rowI ms P (op, t1, t2, t3, t4) = none := by
      unfold cm_rowI
      split
      · omega
      · omega
      · omega
      · omega
      · omega
      · omega
      · have : cm_ops[op]? = none := by
          apply List.getElem?_eq_none
          have : cm_ops.length = 92 := rfl
          omega
        simp [this]
    rw [this] at hi
    cases hi
theorem cm_pick_mem : ∀ {L L' : List (Nat × Value)} {live : List Nat}, cm_pick L live = some L' → ∀ q ∈ L', q ∈ L
  | L, L', [], h => by cases h; exact fun q hq => nomatch hq
  | L, L', i :: r, h => by
    unfold cm_pick at h
    split at h
    · rename_i v l h1 h2
      cases h
      intro q hq
      rcases List.mem_cons.mp hq with rfl | hq
      · exact cm_look_mem h1
      · exact cm_pick_mem h2 q hq
    · cases h
theorem cm_inv_im {C : cm_C} {r : ev_Row} {S : cm_S} {k1 k2 : cm_S → Prop} (hC : ∀ k as M P1 P2, (∀ v M', P1 v M' → P2 v M') → C k as M P1 → C k as M P2) (h : cm_inv ms C r S k1) (hk : ∀ S, k1 S → k2 S) : cm_inv ms C r S k2 := by
  unfold cm_inv at h ⊢
  split at h
  · split at h
    · exact ⟨h.1, h.2.1, h.2.2.1, hC _ _ _ _ _ (fun v M' q => hk _ q) h.2.2.2⟩
    · exact h
  · exact h
/-- from a good run back to its start -/
theorem cm_wp_ok (hMS : ∀ (k : Nat) (mi : ev_MI), ms[k]? = some mi → cm_MOK ms mi) (hRm : d + 1 ≤ R.frames ∧ 40 * (d + 1) ≤ R.locals) (X : cm_X p R s m args c cc P.2.2.2.2.1 P.2.2.2.1 D A adr ce sl E) {rows : List (Nat × ev_Row)} (hrows : ∀ q ∈ rows, cm_RowOK ms P cc q) {stops : List (Nat × List Nat)} {J : cm_S → Prop} {Z : Nat → cm_S → Prop}
    (hJ : ∀ S, J S → cm_Go p l e R s m args below meth c Q P.2.2.2.2.1 D A adr ce sl S) (hZ : ∀ (r : ev_Row) (S : cm_S), ev_at rows S.1 = some r → 210 ≤ r.1 → Z r.1 S → cm_Go p l e R s m args below meth c Q P.2.2.2.2.1 D A adr ce sl S) : ∀ (n : Nat) (S : cm_S), cm_wp ms (cm_Call0 ms d) E P rows stops J Z n S → cm_Go p l e R s m args below meth c Q P.2.2.2.2.1 D A adr ce sl S
  | 0, S, h => h.elim
  | n + 1, S, h => by
    have hst : ∀ S', cm_stop stops J (cm_wp ms (cm_Call0 ms d) E P rows stops J Z n) S' → cm_Go p l e R s m args below meth c Q P.2.2.2.2.1 D A adr ce sl S' := by
      intro S' h'
      unfold cm_stop at h'
      split at h'
      · exact cm_wp_ok hMS hRm X hrows hJ hZ n S' h'
      · split at h'
        · rename_i L' hL'
          exact cm_Go_sub (L' := L') (hJ _ h') (cm_pick_mem hL')
        · exact h'.elim
    unfold cm_wp at h
    split at h
    · exact h.elim
    · rename_i r hr
      have hq := hrows _ (ev_at_mem hr)
      split at h
      · rename_i h210
        exact hZ r S hr h210 h
      · rename_i h210
        split at h
        · rename_i h200
          exact cm_inv_ok hMS hRm X hq h200 (by dsimp only; omega) rfl (cm_inv_im (fun k as M P1 P2 hp hc => cm_Call_up0 hc (Nat.le_refl _) hp) h hst)
        · split at h
          · rename_i o ho
            obtain ⟨i, k, cs, hi, hd, hw⟩ := hq
            rw [cm_rowI_op (by dsimp only; omega)] at hi
            dsimp only at hi hd
            rw [ho] at hi
            exact cm_ops_ok o (List.mem_of_getElem? ho) p l e R s m args below meth c cc Q D A adr ce sl E P r.2 S i k cs X hi hd hw (cm_ops_im o (List.mem_of_getElem? ho) E P r.2 S _ _ h hst)
          · exact h.elim
end CMS
/-- from this state the method ends as wanted -/
noncomputable def cm_At0 (d : Nat) (mi : ev_MI) (Post : cm_K) (S : cm_S) : Prop := ∀ (p : Program) (l : Launch) (e : Env) (s : State) (m : MethodId) (args : Array Value) (below : List Frame) (meth : Method) (c : Code) (D : va_G) (adr : Nat → Nat) (ws0 : va_W),
  cm_X p (cm_rm d) s m args c mi.2.1 mi.2.2.1 mi.1.cls D (va_A ws0 s.heap.size) adr 0 0 none → meth.sig.returnType = mi.2.2.2.1 → meth.locks = false → cm_Go p l e (cm_rm d) s m args below meth c (MQ below (cm_Q D adr (va_A ws0 s.heap.size) Post) args s 0 0 (va_A ws0 s.heap.size)) mi.2.2.1 D (va_A ws0 s.heap.size) adr 0 0 S
theorem cm_ret_ok {ms : List ev_MI} {d : Nat} {mi : ev_MI} (hM : cm_MOK ms mi) {Post : cm_K} {r : ev_Row} {S : cm_S} (hr : ev_at mi.2.2.2.2.2.2 S.1 = some r) (h : cm_ret mi.2.2.2.1 Post r.1 S) : cm_At0 d mi Post S := by
  intro p l e s m args below meth c D adr ws0 X hrt hlocks ws H locs ls hR
  obtain ⟨hx, hb, hml, hown, hts, hK, hA, hN, hcC, hcS, hf, hlc, hscr⟩ := X
  obtain ⟨hP, hD, hS, hW, hL⟩ := hR
  obtain ⟨pc, L, st, M⟩ := S
  obtain ⟨i, n, cs, hi, hd, -⟩ := hM.2.2.2.2 _ (ev_at_mem hr)
  dsimp only at hi hd
  have qq : ∀ (v : Option Value) (t : State), t.heap = H → s.WarmedH t.vm → Post v M → cm_Q D adr (va_A ws0 s.heap.size) Post args s (.returned (v.map (cm_v adr))) t := by
    intro v t ht hWm hv
    exact ⟨⟨v, M, ws, hv, rfl, by rw [ht]; exact hP, hD, cm_w_moved hWm.alike hW⟩, hS.F ht⟩
  unfold cm_ret at h
  split at h
  · rename_i x e1 e2 e3
    have hi : some ((.ireturn : Instr), (1 : Nat), ([] : List Cond)) = some (i, n, cs) := by simpa [cm_rowI, e1] using hi
    cases hi
    dsimp only at e3 h
    subst e3
    exact W.zret hx hb (hrt.trans e2) rfl (fun t ht hWm => qq (some (.int x)) t ht hWm h) hS.2.2 hd
  · rename_i x e1 e2 e3
    have hi : some ((.ireturn : Instr), (1 : Nat), ([] : List Cond)) = some (i, n, cs) := by simpa [cm_rowI, e1] using hi
    cases hi
    dsimp only at e3 h
    subst e3
    refine W.zret hx hb (hrt.trans e2) ?_ (fun t ht hWm => qq (some (.int x)) t ht hWm h.2) hS.2.2 hd
    rcases h.1 with rfl | rfl <;> decide
  · rename_i x e1 e2 e3
    have hi : some ((.ireturn : Instr), (1 : Nat), ([] : List Cond)) = some (i, n, cs) := by simpa [cm_rowI, e1] using hi
    cases hi
    dsimp only at e3 h
    subst e3
    obtain ⟨h0, h1, h2⟩ := h
    refine W.zret hx hb (hrt.trans e2) ?_ (fun t ht hWm => qq (some (.int x)) t ht hWm h2) hS.2.2 hd
    have e : x = nI x.toInt.toNat := by
      apply Int32.toInt_inj.mp
      rw [nI_toInt (by omega)]
      omega
    rw [e]
    exact (pk_charN (by omega)).1
  · rename_i x e1 e2 e3
    have hi : some ((.ireturn : Instr), (1 : Nat), ([] : List Cond)) = some (i, n, cs) := by simpa [cm_rowI, e1] using hi
    cases hi
    dsimp only at e3 h
    subst e3
    obtain ⟨rfl, h2⟩ := h
    exact W.zret hx hb (hrt.trans e2) (by decide) (fun t ht hWm => qq (some (.int 0)) t ht hWm h2) hS.2.2 hd
  · rename_i x e1 e2 e3
    have hi : some ((.lreturn : Instr), (1 : Nat), ([] : List Cond)) = some (i, n, cs) := by simpa [cm_rowI, e1] using hi
    cases hi
    dsimp only at e3 h
    subst e3
    exact W.lret hx hb (hrt.trans e2) (fun t ht hWm => qq (some (.long x)) t ht hWm h) hS.2.2 hd
  · rename_i nm x e1 e2 e3
    have hi : some ((.areturn : Instr), (1 : Nat), ([] : List Cond)) = some (i, n, cs) := by simpa [cm_rowI, e1] using hi
    cases hi
    dsimp only at e3 h
    subst e3
    exact W.aret hx hb (hrt.trans e2) (Or.inl ⟨_, rfl⟩) (Or.inr ⟨_, rfl⟩) (fun t ht hWm => qq (some (.ref x)) t ht hWm h) hS.2.2 hd
  · rename_i e1 e2 e3
    have hi : some ((.return_ : Instr), (1 : Nat), ([] : List Cond)) = some (i, n, cs) := by simpa [cm_rowI, e1] using hi
    cases hi
    dsimp only at e3 h
    subst e3
    exact W.vret hx hb (hrt.trans e2) (fun t ht hWm => qq none t ht hWm h) hS.2.2 hd
  · exact h.elim
theorem cm_sl_len (adr : Nat → Nat) : ∀ as : List Value, (lg_sl (as.map (cm_v adr))).length = cm_cs as
  | [] => rfl
  | a :: as => by
    have ih := cm_sl_len adr as
    simp only [lg_sl, List.map_cons, List.flatMap_cons, List.length_append, cm_cs, List.sum_cons] at ih ⊢
    rw [ih]
    cases a <;> rfl
theorem cm_args_ok (adr : Nat → Nat) : ∀ (as : List Value) (i : Nat), ∀ q ∈ cm_args i as, (q.1, cm_v adr q.2) ∈ lv_args i (as.map (cm_v adr))
  | [], i, q, hq => nomatch hq
  | a :: as, i, q, hq => by
    unfold cm_args at hq
    rw [List.map_cons]
    unfold lv_args
    rcases List.mem_cons.mp hq with rfl | hq
    · exact List.mem_cons_self
    · refine List.mem_cons_of_mem _ ?_
      have := cm_args_ok adr as _ q hq
      rw [cm_v_cat]
      by_cases h2 : a.category = 2
      · rw [if_pos h2]; rw [h2] at this; exact this
      · have h1 : a.category = 1 := by cases a <;> first | rfl | exact absurd rfl h2
        rw [if_neg h2]; rw [h1] at this; exact this
theorem cm_Call_of0 {ms : List ev_MI} (hMS : ∀ (k : Nat) (mi : ev_MI), ms[k]? = some mi → cm_MOK ms mi) {d k : Nat} {mi : ev_MI} (hk : ms[k]? = some mi) {as : List Value} {M : cm_M} {Post : cm_K} (hcs : cm_cs as ≤ mi.2.2.1) (h : cm_At0 d mi Post (0, cm_args 0 as, [], M)) : cm_Call0 ms (d + 1) k as M Post := by
  refine ⟨mi, d, Post, hk, Nat.le_refl _, fun _ _ q => q, fun l D adr ws sz => ?_⟩
  obtain ⟨hpl, hcd, hnL, hmh, hrows⟩ := hMS k mi hk
  refine Met.ofW (cc := mi.2.1) (maxL := mi.2.2.1) (ret := mi.2.2.2.1) hpl rfl ?_
  intro p e s m args below meth c s₁ B hml hv
  obtain ⟨rfl, hsz, hP, hK, hD0, hW, hN⟩ := hv
  subst hsz
  have hD : va_D (va_A ws s.heap.size) ws := hD0.self (sz := s.heap.size)
  have hts : ∀ w ∈ lw_good, w.before (as.map (cm_v adr)).toArray s = true := fun w hw => atoms_spec (ws := Cond.code mi.1 mi.2.1 mi.2.2.1 mi.2.2.2.1 :: lw_good) B.pre w (List.mem_cons_of_mem _ hw)
  have X : cm_X p (cm_rm d) s m (as.map (cm_v adr)).toArray c mi.2.1 mi.2.2.1 mi.1.cls D (va_A ws s.heap.size) adr 0 0 none :=
    ⟨B.exec, B.bytes, hml, findClass_of_methodNamed B.named, hts, hK, fun q h => Or.inr h, hN, Nat.le_refl _, Nat.le_refl _, by simp [cm_rm], by simp only [cm_rm]; omega, trivial⟩
  have hlen : (lg_sl (as.map (cm_v adr))).length ≤ mi.2.2.1 := by rw [cm_sl_len]; exact hcs
  have hl := lv_entry (as.map (cm_v adr)) (n := mi.2.2.1) hlen
  rw [lg_entry_eq]
  refine h p l e s m _ below meth c D adr ws X B.returns B.notSynchronized ws s.heap [] _ ⟨hP, hD, va_S.rf, hW, hl.1, hl.2.1, fun q hq => ?_⟩
  obtain ⟨r, hr, rfl⟩ := List.mem_map.mp hq
  exact hl.2.2 _ (cm_args_ok adr as 0 r hr)
/-- one step; what must hold behind it -/
noncomputable def cm_F (ms : List ev_MI) (C : cm_C) (E : cm_E) (P : ev_P) (rows : List (Nat × ev_Row)) (Z : Nat → cm_S → Prop) (X : cm_S → Prop) (S : cm_S) : Prop := match ev_at rows S.1 with
  | none => False
  | some r =>
    if 210 ≤ r.1 then Z r.1 S
    else if 200 ≤ r.1 then cm_inv ms C r S X
    else (match cm_ops[r.1]? with
      | some o => o.2 E P r.2 S X
      | none => False)
/-- it comes to an end with Z: the least such -/
noncomputable def cm_lf (ms : List ev_MI) (C : cm_C) (E : cm_E) (P : ev_P) (rows : List (Nat × ev_Row)) (Z : Nat → cm_S → Prop) (S : cm_S) : Prop := ∀ X : cm_S → Prop, (∀ S, cm_F ms C E P rows Z X S → X S) → X S
/-- calls grow with what is wanted -/
noncomputable def cm_CM (C1 C2 : cm_C) : Prop := ∀ (k : Nat) (as : List Value) (M : cm_M) (P1 P2 : cm_K), (∀ v M', P1 v M' → P2 v M') → C1 k as M P1 → C2 k as M P2
section PURE
variable {ms : List ev_MI} {C C1 C2 : cm_C} {E : cm_E} {P : ev_P} {rows : List (Nat × ev_Row)} {Z Z1 Z2 : Nat → cm_S → Prop} {X X1 X2 : cm_S → Prop}
theorem cm_inv_im2 {r : ev_Row} {S : cm_S} (hC : cm_CM C1 C2) (hX : ∀ S, X1 S → X2 S) (h : cm_inv ms C1 r S X1) : cm_inv ms C2 r S X2 := by
  unfold cm_inv at h ⊢
  split at h
  · split at h
    · exact ⟨h.1, h.2.1, h.2.2.1, hC _ _ _ _ _ (fun v M' q => hX _ q) h.2.2.2⟩
    · exact h
  · exact h
theorem cm_F_im {S : cm_S} (hC : cm_CM C1 C2) (hZ : ∀ op S, Z1 op S → Z2 op S) (hX : ∀ S, X1 S → X2 S) (h : cm_F ms C1 E P rows Z1 X1 S) : cm_F ms C2 E P rows Z2 X2 S := by
  unfold cm_F at h ⊢
  split at h
  · exact h
  · split at h
    · rename_i h1
      rw [if_pos h1]
      exact hZ _ _ h
    · rename_i h1
      rw [if_neg h1]
      split at h
      · rename_i h2
        rw [if_pos h2]
        exact cm_inv_im2 hC hX h
      · rename_i h2
        rw [if_neg h2]
        split at h
        · rename_i o ho
          exact cm_ops_im o (List.mem_of_getElem? ho) _ _ _ _ _ _ h hX
        · exact h
theorem cm_lf_F {S : cm_S} (hC : cm_CM C C) (h : cm_F ms C E P rows Z (cm_lf ms C E P rows Z) S) : cm_lf ms C E P rows Z S := fun X hX => hX S (cm_F_im hC (fun _ _ h => h) (fun S h => h X hX) h)
theorem cm_lf_im {S : cm_S} (hC : cm_CM C1 C2) (hC2 : cm_CM C2 C2) (hZ : ∀ op S, Z1 op S → Z2 op S) (h : cm_lf ms C1 E P rows Z1 S) : cm_lf ms C2 E P rows Z2 S :=
  h (cm_lf ms C2 E P rows Z2) (fun S hS => cm_lf_F hC2 (cm_F_im hC hZ (fun _ h => h) hS))
/-- Z doesn't look at the locals -/
noncomputable def cm_ZL (Z : Nat → cm_S → Prop) : Prop := ∀ op pc L L' st M, Z op (pc, L, st, M) → Z op (pc, L', st, M)
theorem cm_lf_le (hC : cm_CM C C) (hZ : cm_ZL Z) {pc : Nat} {L' L : List (Nat × Value)} {st : List Value} {M : cm_M} (hL : cm_le L' L) (h : cm_lf ms C E P rows Z (pc, L', st, M)) : cm_lf ms C E P rows Z (pc, L, st, M) := by
  refine h (fun S => ∀ B, cm_le S.2.1 B → cm_lf ms C E P rows Z (S.1, B, S.2.2)) ?_ L hL
  intro S hS B hB
  obtain ⟨pc, A, st, M⟩ := S
  refine cm_lf_F hC ?_
  unfold cm_F at hS ⊢
  dsimp only at hS hB ⊢
  split at hS
  · exact hS
  · split at hS
    · rename_i h1
      rw [if_pos h1]
      exact hZ _ _ _ _ _ _ hS
    · rename_i h1
      rw [if_neg h1]
      split at hS
      · rename_i h2
        rw [if_pos h2]
        unfold cm_inv at hS ⊢
        dsimp only at hS ⊢
        split at hS
        · split at hS
          · exact ⟨hS.1, hS.2.1, hS.2.2.1, hC _ _ _ _ _ (fun v M' q => q B hB) hS.2.2.2⟩
          · exact hS
        · exact hS
      · rename_i h2
        rw [if_neg h2]
        split at hS
        · rename_i o ho
          exact cl_ops o (List.mem_of_getElem? ho) _ _ _ _ _ _ _ _ _ _ hB (fun pc2 A B st2 M2 hAB q => q B hAB) hS
        · exact hS
/-- runs with stops -/
theorem cm_pick_look : ∀ {L L' : List (Nat × Value)} {live : List Nat}, cm_pick L live = some L' → ∀ q ∈ L', cm_look L q.1 = some q.2
  | L, L', [], h => by
    cases h
    exact fun q hq => nomatch hq
  | L, L', i :: r, h => by
    unfold cm_pick at h
    split at h
    · rename_i v l h1 h2
      cases h
      intro q hq
      rcases List.mem_cons.mp hq with rfl | hq
      · exact h1
      · exact cm_pick_look h2 q hq
    · cases h
theorem cm_look_of {L' : List (Nat × Value)} {i : Nat} : ∀ {L : List (Nat × Value)}, (∀ q ∈ L', cm_look L q.1 = some q.2) → ∀ v, (i, v) ∈ L' → cm_look L' i = some v := by
  intro L h v hm
  induction L' with
  | nil => cases hm
  | cons q L' ih =>
    obtain ⟨a, b⟩ := q
    unfold cm_look
    by_cases ha : a = i
    · rw [if_pos ha]
      have e1 := h _ List.mem_cons_self
      have e2 := h _ hm
      dsimp only at e1 e2
      rw [ha, e2] at e1
      exact e1.symm
    · rw [if_neg ha]
      rcases List.mem_cons.mp hm with e | hm
      · cases e
        exact absurd rfl ha
      · exact ih (fun q hq => h q (List.mem_cons_of_mem _ hq)) hm
theorem cm_le_of {L' L : List (Nat × Value)} (h : ∀ q ∈ L', cm_look L q.1 = some q.2) : cm_le L' L := ⟨fun q hq => cm_look_of h q.2 hq, fun i v hl => h _ (cm_look_mem hl)⟩
theorem cm_wp_lf (hC : cm_CM C C) (hZ : cm_ZL Z) {stops : List (Nat × List Nat)} {J : cm_S → Prop} (hJ : ∀ S, J S → cm_lf ms C E P rows Z S) : ∀ (n : Nat) (S : cm_S), cm_wp ms C E P rows stops J Z n S → cm_lf ms C E P rows Z S
  | 0, S, h => h.elim
  | n + 1, S, h => by
    refine cm_lf_F hC (cm_F_im (X1 := cm_stop stops J (cm_wp ms C E P rows stops J Z n)) hC (fun _ _ h => h) (fun S' h' => ?_) h)
    unfold cm_stop at h'
    split at h'
    · exact cm_wp_lf hC hZ hJ n S' h'
    · split at h'
      · rename_i L' hL'
        obtain ⟨pc, L, st, M⟩ := S'
        exact cm_lf_le hC hZ (cm_le_of (cm_pick_look hL')) (hJ _ h')
      · exact h'.elim
theorem cm_wp_im {stops : List (Nat × List Nat)} {J1 J2 : cm_S → Prop} (hC : cm_CM C1 C2) (hJ : ∀ S, J1 S → J2 S) (hZ : ∀ op S, Z1 op S → Z2 op S) : ∀ (n : Nat) (S : cm_S), cm_wp ms C1 E P rows stops J1 Z1 n S → cm_wp ms C2 E P rows stops J2 Z2 n S
  | 0, S, h => h
  | n + 1, S, h => by
    refine cm_F_im (X1 := cm_stop stops J1 (cm_wp ms C1 E P rows stops J1 Z1 n)) (X2 := cm_stop stops J2 (cm_wp ms C2 E P rows stops J2 Z2 n)) hC hZ (fun S' h' => ?_) h
    unfold cm_stop at h' ⊢
    split at h'
    · exact cm_wp_im hC hJ hZ n S' h'
    · split at h'
      · exact hJ _ h'
      · exact h'
end PURE
theorem cm_ret_im {ret : Option FieldType} {P1 P2 : cm_K} (h : ∀ v M, P1 v M → P2 v M) {op : Nat} {S : cm_S} (hr : cm_ret ret P1 op S) : cm_ret ret P2 op S := by
  unfold cm_ret at hr ⊢
  split at hr
  · exact h _ _ hr
  · exact ⟨hr.1, h _ _ hr.2⟩
  · exact ⟨hr.1, hr.2.1, h _ _ hr.2.2⟩
  · exact ⟨hr.1, h _ _ hr.2⟩
  · exact h _ _ hr
  · exact h _ _ hr
  · exact h _ _ hr
  · exact hr
theorem cm_ret_L {ret : Option FieldType} {Post : cm_K} : cm_ZL (cm_ret ret Post) := fun op pc L L' st M h => h
/-- a call, at a depth -/
noncomputable def cm_Call (ms : List ev_MI) : Nat → cm_C
  | 0 => fun _ _ _ _ => False
  | d + 1 => fun k as M Post => ∃ mi, ms[k]? = some mi ∧ cm_cs as ≤ mi.2.2.1 ∧ cm_lf ms (cm_Call ms d) none (cm_P mi) mi.2.2.2.2.2.2 (cm_ret mi.2.2.2.1 Post) (0, cm_args 0 as, [], M)
theorem cm_Call_M (ms : List ev_MI) : ∀ (d e : Nat), d ≤ e → cm_CM (cm_Call ms d) (cm_Call ms e)
  | 0, e, _ => fun k as M P1 P2 hp h => h.elim
  | d + 1, 0, h => absurd h (by omega)
  | d + 1, e + 1, hde => fun k as M P1 P2 hp h => by
    obtain ⟨mi, h1, h2, h3⟩ := h
    exact ⟨mi, h1, h2, cm_lf_im (cm_Call_M ms d e (by omega)) (cm_Call_M ms e e (Nat.le_refl _)) (fun _ _ q => cm_ret_im hp q) h3⟩
theorem cm_Call_up {ms : List ev_MI} {d e k : Nat} {as : List Value} {M : cm_M} {Post Post' : cm_K} (h : cm_Call ms d k as M Post) (hd : d ≤ e) (hp : ∀ v M', Post v M' → Post' v M') : cm_Call ms e k as M Post' := cm_Call_M ms d e hd k as M Post Post' hp h
/-- from this state the method ends as wanted -/
noncomputable def cm_At (ms : List ev_MI) (d : Nat) (mi : ev_MI) (Post : cm_K) (S : cm_S) : Prop := cm_lf ms (cm_Call ms d) none (cm_P mi) mi.2.2.2.2.2.2 (cm_ret mi.2.2.2.1 Post) S
theorem cm_At_run {ms : List ev_MI} (_ : ∀ (k : Nat) (mi : ev_MI), ms[k]? = some mi → cm_MOK ms mi) {d k : Nat} {mi : ev_MI} (_ : ms[k]? = some mi) {Post : cm_K} {stops : List (Nat × List Nat)} {J : cm_S → Prop} (hJ : ∀ S, J S → cm_At ms d mi Post S) {n : Nat} {S : cm_S} (h : cm_wp ms (cm_Call ms d) none (cm_P mi) mi.2.2.2.2.2.2 stops J (cm_ret mi.2.2.2.1 Post) n S) : cm_At ms d mi Post S :=
  cm_wp_lf (cm_Call_M ms d d (Nat.le_refl _)) cm_ret_L hJ n S h
theorem cm_Call_of {ms : List ev_MI} (_ : ∀ (k : Nat) (mi : ev_MI), ms[k]? = some mi → cm_MOK ms mi) {d k : Nat} {mi : ev_MI} (hk : ms[k]? = some mi) {as : List Value} {M : cm_M} {Post : cm_K} (hcs : cm_cs as ≤ mi.2.2.1) (h : cm_At ms d mi Post (0, cm_args 0 as, [], M)) : cm_Call ms (d + 1) k as M Post := ⟨mi, hk, hcs, h⟩
theorem cm_At_sub {ms : List ev_MI} {d : Nat} {mi : ev_MI} {Post : cm_K} {pc : Nat} {L L' : List (Nat × Value)} {st : List Value} {M : cm_M} (h : cm_At ms d mi Post (pc, L', st, M)) (hL : ∀ q ∈ L', cm_look L q.1 = some q.2) : cm_At ms d mi Post (pc, L, st, M) := cm_lf_le (cm_Call_M ms d d (Nat.le_refl _)) cm_ret_L (cm_le_of hL) h
theorem cm_At_im {ms : List ev_MI} {d : Nat} {mi : ev_MI} {P1 P2 : cm_K} {S : cm_S} (h : cm_At ms d mi P1 S) (hp : ∀ v M, P1 v M → P2 v M) : cm_At ms d mi P2 S := cm_lf_im (cm_Call_M ms d d (Nat.le_refl _)) (cm_Call_M ms d d (Nat.le_refl _)) (fun _ _ q => cm_ret_im hp q) h
theorem cm_Call_M0 (ms : List ev_MI) (d : Nat) : cm_CM (cm_Call0 ms d) (cm_Call0 ms d) := fun k as M P1 P2 hp h => cm_Call_up0 h (Nat.le_refl _) hp
section REAL
variable {p : Program} {l : Launch} {e : Env} {R : Room} {s : State} {m : MethodId} {args : Array Value} {below : List Frame} {meth : Method} {c : Code} {cc : ByteArray} {Q : State → Prop} {D : va_G} {A : Nat → Prop} {adr : Nat → Nat} {ce sl d : Nat} {E : cm_E} {P : ev_P} {ms : List ev_MI}
theorem cm_F_ok (hMS : ∀ (k : Nat) (mi : ev_MI), ms[k]? = some mi → cm_MOK ms mi) (hRm : d + 1 ≤ R.frames ∧ 40 * (d + 1) ≤ R.locals) (X : cm_X p R s m args c cc P.2.2.2.2.1 P.2.2.2.1 D A adr ce sl E) {rows : List (Nat × ev_Row)} (hrows : ∀ q ∈ rows, cm_RowOK ms P cc q) {Z : Nat → cm_S → Prop} {Y : cm_S → Prop}
    (hY : ∀ S, Y S → cm_Go p l e R s m args below meth c Q P.2.2.2.2.1 D A adr ce sl S) (hZ : ∀ (r : ev_Row) (S : cm_S), ev_at rows S.1 = some r → 210 ≤ r.1 → Z r.1 S → cm_Go p l e R s m args below meth c Q P.2.2.2.2.1 D A adr ce sl S) {S : cm_S} (h : cm_F ms (cm_Call0 ms d) E P rows Z Y S) : cm_Go p l e R s m args below meth c Q P.2.2.2.2.1 D A adr ce sl S := by
  unfold cm_F at h
  split at h
  · exact h.elim
  · rename_i r hr
    have hq := hrows _ (ev_at_mem hr)
    split at h
    · rename_i h210
      exact hZ r S hr h210 h
    · rename_i h210
      split at h
      · rename_i h200
        exact cm_inv_ok hMS hRm X hq h200 (by dsimp only; omega) rfl (cm_inv_im (fun k as M P1 P2 hp hc => cm_Call_up0 hc (Nat.le_refl _) hp) h hY)
      · split at h
        · rename_i o ho
          obtain ⟨i, k, cs, hi, hd, hw⟩ := hq
          rw [cm_rowI_op (by dsimp only; omega)] at hi
          dsimp only at hi hd
          rw [ho] at hi
          exact cm_ops_ok o (List.mem_of_getElem? ho) p l e R s m args below meth c cc Q D A adr ce sl E P r.2 S i k cs X hi hd hw (cm_ops_im o (List.mem_of_getElem? ho) E P r.2 S _ _ h hY)
        · exact h.elim
end REAL
theorem cm_real {ms : List ev_MI} (hMS : ∀ (k : Nat) (mi : ev_MI), ms[k]? = some mi → cm_MOK ms mi) : ∀ (d : Nat), cm_CM (cm_Call ms d) (cm_Call0 ms d)
  | 0 => fun k as M P1 P2 hp h => h.elim
  | d + 1 => fun k as M P1 P2 hp h => by
    obtain ⟨mi, h1, h2, h3⟩ := h
    refine cm_Call_of0 hMS h1 h2 ?_
    have h4 := cm_lf_im (cm_real hMS d) (cm_Call_M0 ms d) (fun _ _ q => cm_ret_im hp q) h3
    refine h4 (cm_At0 d mi P2) (fun S hS => ?_)
    intro p l e s m args below meth c D adr ws0 X hrt hlocks
    exact cm_F_ok (P := cm_P mi) hMS ⟨Nat.le_refl _, Nat.le_refl _⟩ X (hMS k mi h1).2.2.2.2 (fun S hS => hS p l e s m args below meth c D adr ws0 X hrt hlocks) (fun r S hr _ hZ => cm_ret_ok (hMS k mi h1) hr hZ p l e s m args below meth c D adr ws0 X hrt hlocks) hS
theorem cm_wp_real {ms : List ev_MI} (hMS : ∀ (k : Nat) (mi : ev_MI), ms[k]? = some mi → cm_MOK ms mi) {d : Nat} {E : cm_E} {P : ev_P} {rows : List (Nat × ev_Row)} {Z : Nat → cm_S → Prop} {stops : List (Nat × List Nat)} {J : cm_S → Prop} {n : Nat} {S : cm_S} (h : cm_wp ms (cm_Call ms d) E P rows stops J Z n S) : cm_wp ms (cm_Call0 ms d) E P rows stops J Z n S := cm_wp_im (cm_real hMS d) (fun _ h => h) (fun _ _ h => h) n S h
/-- what holds of every answer of a call -/
noncomputable def cm_Lc (ms : List ev_MI) (k : Nat) (as : List Value) (M : cm_M) (R : cm_K) : Prop := ∀ (d : Nat) (Post : cm_K), cm_Call ms d k as M Post → cm_Call ms d k as M (fun v M' => Post v M' ∧ R v M')
theorem cm_Lc_im {ms : List ev_MI} {k : Nat} {as : List Value} {M : cm_M} {R R' : cm_K} (h : cm_Lc ms k as M R) (hr : ∀ v M', R v M' → R' v M') : cm_Lc ms k as M R' := fun d Post hc => cm_Call_up (h d Post hc) (Nat.le_refl _) (fun v M' q => ⟨q.1, hr v M' q.2⟩)
/-- a contract holds of every answer, where it can be had at all -/
theorem cm_Lc_use {ms : List ev_MI} {d k : Nat} {as : List Value} {M : cm_M} {Post R : cm_K} (hc : cm_Call ms d k as M Post) (h : cm_Lc ms k as M R) : cm_Call ms d k as M (fun v M' => Post v M' ∧ R v M') := h d Post hc
theorem cm_pick_le {A B : List (Nat × Value)} (h : cm_le A B) : ∀ {live : List Nat} {L1 : List (Nat × Value)}, cm_pick A live = some L1 → cm_pick B live = some L1
  | [], L1, e => e
  | i :: r, L1, e => by
    unfold cm_pick at e ⊢
    split at e
    · rename_i v l h1 h2
      cases e
      rw [h.2 _ _ h1, cm_pick_le h h2]
    · cases e
section LIB
variable {ms : List ev_MI} {E : cm_E} {P : ev_P} {rows : List (Nat × ev_Row)} {stops : List (Nat × List Nat)} {J : cm_S → Prop} {Z Z1 Z2 : Nat → cm_S → Prop}
end LIB
/-- a method's end, of which R is to be said -/
noncomputable def cm_rl (R : cm_K) (op : Nat) (S : cm_S) : Prop := match op, S.2.2.1 with
  | 210, [.int x] => R (some (.int x)) S.2.2.2
  | 211, [.long x] => R (some (.long x)) S.2.2.2
  | 212, [.ref x] => R (some (.ref x)) S.2.2.2
  | 213, [] => R none S.2.2.2
  | _, _ => True
theorem cm_rl_L {R : cm_K} : cm_ZL (cm_rl R) := fun op pc L L' st M h => h
theorem cm_rl_ret {ret : Option FieldType} {Post R : cm_K} {op : Nat} {S : cm_S} (h : cm_ret ret Post op S) (h2 : cm_rl R op S) : cm_ret ret (fun v M => Post v M ∧ R v M) op S := by
  obtain ⟨pc, L, st, M⟩ := S
  unfold cm_ret at h ⊢
  dsimp only at h ⊢
  split at h
  · exact ⟨h, h2⟩
  · exact ⟨h.1, h.2, h2⟩
  · exact ⟨h.1, h.2.1, h.2.2, h2⟩
  · exact ⟨h.1, h.2, h2⟩
  · exact ⟨h, h2⟩
  · exact ⟨h, h2⟩
  · exact ⟨h, h2⟩
  · exact h
/-- what is checked of a call's row once -/
noncomputable def ab_RC (ms : List ev_MI) (q : Nat × ev_Row) : Prop := 200 ≤ q.2.1 → q.2.1 < 210 → ∃ mi, ms[q.2.2.1.toNat]? = some mi ∧ ev_nar1 mi.1 q.2.2.2.2.1.toNat = true ∧ (q.2.1 = 200 → ∀ ci, q.2.2.2.2.2 = [ci] → (ci = 99 ∧ mi.1.cls = "java/lang/String") ∨ (ci ≠ 99 ∧ (vwCl[ci.toNat]?).map (fun r => r.1) = some mi.1.cls))
