/-! CM: more locals told do no harm -/
/-- what the smaller list tells is told by the larger one; the smaller list tells each but once -/
def cm_le (L' L : List (Nat × Value)) : Prop := (∀ q ∈ L', cm_look L' q.1 = some q.2) ∧ ∀ i v, cm_look L' i = some v → cm_look L i = some v
theorem cm_look_fl {p : Nat × Value → Bool} : ∀ {L : List (Nat × Value)} {j : Nat} {u : Value}, cm_look L j = some u → p (j, u) = true → cm_look (L.filter p) j = some u
  | [], j, u, h, _ => by cases h
  | q :: L, j, u, h, hp => by
    obtain ⟨a, b⟩ := q
    unfold cm_look at h
    by_cases ha : a = j
    · rw [if_pos ha] at h
      cases h
      subst ha
      rw [List.filter_cons_of_pos hp]
      unfold cm_look
      rw [if_pos rfl]
    · rw [if_neg ha] at h
      have ih := cm_look_fl h hp
      by_cases hq : p (a, b) = true
      · rw [List.filter_cons_of_pos hq]
        unfold cm_look
        rw [if_neg ha]
        exact ih
      · rw [List.filter_cons_of_neg hq]
        exact ih
theorem cm_le_st {p : Nat × Value → Bool} {L' L : List (Nat × Value)} {i : Nat} {v : Value} (hp : ∀ q, p q = true → q.1 ≠ i) (h : cm_le L' L) : cm_le ((i, v) :: L'.filter p) ((i, v) :: L.filter p) := by
  have key : ∀ j u, (j, u) ∈ L'.filter p → cm_look (L'.filter p) j = some u ∧ cm_look (L.filter p) j = some u ∧ j ≠ i := by
    intro j u hm
    obtain ⟨m1, m2⟩ := List.mem_filter.mp hm
    have l1 := h.1 _ m1
    exact ⟨cm_look_fl l1 m2, cm_look_fl (h.2 _ _ l1) m2, hp _ m2⟩
  refine ⟨fun q hq => ?_, fun j u hl => ?_⟩
  · rcases List.mem_cons.mp hq with rfl | hq
    · unfold cm_look
      rw [if_pos rfl]
    · obtain ⟨a, b⟩ := q
      obtain ⟨k1, -, k3⟩ := key a b hq
      unfold cm_look
      rw [if_neg (fun e => k3 e.symm)]
      exact k1
  · unfold cm_look at hl ⊢
    by_cases hj : i = j
    · rw [if_pos hj] at hl ⊢
      exact hl
    · rw [if_neg hj] at hl ⊢
      exact (key j u (cm_look_mem hl)).2.1
theorem cm_le_1 {L' L : List (Nat × Value)} (i : Nat) (v : Value) (h : cm_le L' L) : cm_le (cm_st1 L' i v) (cm_st1 L i v) := cm_le_st (fun q hq => by
  simp only [Bool.and_eq_true, Bool.not_eq_true', beq_eq_false_iff_ne] at hq
  exact hq.1) h
theorem cm_le_2 {L' L : List (Nat × Value)} (i : Nat) (v : Value) (h : cm_le L' L) : cm_le (cm_st2 L' i v) (cm_st2 L i v) := cm_le_st (fun q hq => by
  simp only [Bool.and_eq_true, Bool.not_eq_true', beq_eq_false_iff_ne] at hq
  exact hq.1) h
theorem cm_le_tr {A B C : List (Nat × Value)} (h1 : cm_le A B) (h2 : ∀ i v, cm_look B i = some v → cm_look C i = some v) : cm_le A C := ⟨h1.1, fun i v h => h2 i v (h1.2 i v h)⟩
def cm_Lo (o : cm_O) : Prop := ∀ (E : cm_E) (P : ev_P) (t : ev_T) (pc : Nat) (L' L : List (Nat × Value)) (st : List Value) (M : cm_M) (k' k : cm_S → Prop), cm_le L' L → (∀ (pc2 : Nat) (A B : List (Nat × Value)) (st2 : List Value) (M2 : cm_M), cm_le A B → k' (pc2, A, st2, M2) → k (pc2, B, st2, M2)) → o.2 E P t (pc, L', st, M) k' → o.2 E P t (pc, L, st, M) k
def cx_Lo (x : cm_F1) : Prop := ∀ (E : cm_E) (P : ev_P) (t : ev_T) (pc : Nat) (L' L : List (Nat × Value)) (st : List Value) (M : cm_M) (S1 : cm_S), cm_le L' L → x E P t (pc, L', st, M) = some S1 → ∃ B, cm_le S1.2.1 B ∧ x E P t (pc, L, st, M) = some (S1.1, B, S1.2.2)
theorem cl_no : cm_Lo cm_no := fun E P t pc L' L st M k' k hL hk h => h.elim
theorem cy_no : cx_Lo cx_no := fun E P t pc L' L st M S1 hL h => by cases h
theorem cl_ld {ty n i pc : Nat} {L' L : List (Nat × Value)} {st : List Value} {M : cm_M} {k' k : cm_S → Prop} (hL : cm_le L' L) (hk : ∀ (pc2 : Nat) (A B : List (Nat × Value)) (st2 : List Value) (M2 : cm_M), cm_le A B → k' (pc2, A, st2, M2) → k (pc2, B, st2, M2)) (h : cm_ld ty n i (pc, L', st, M) k') : cm_ld ty n i (pc, L, st, M) k := by
  unfold cm_ld at h
  split at h
  · rename_i x hx
    unfold cm_ld
    dsimp only at hx ⊢
    rw [hL.2 _ _ hx]
    exact hk _ _ _ _ _ hL h
  · rename_i x hx
    unfold cm_ld
    dsimp only at hx ⊢
    rw [hL.2 _ _ hx]
    exact hk _ _ _ _ _ hL h
  · rename_i x hx
    unfold cm_ld
    dsimp only at hx ⊢
    rw [hL.2 _ _ hx]
    exact hk _ _ _ _ _ hL h
  · exact h.elim
theorem cy_ld {ty n i pc : Nat} {L' L : List (Nat × Value)} {st : List Value} {M : cm_M} {S1 : cm_S} (hL : cm_le L' L) (h : cx_ld ty n i (pc, L', st, M) = some S1) : ∃ B, cm_le S1.2.1 B ∧ cx_ld ty n i (pc, L, st, M) = some (S1.1, B, S1.2.2) := by
  unfold cx_ld at h
  split at h
  · rename_i x hx
    cases h
    exact ⟨L, hL, by unfold cx_ld; dsimp only at hx ⊢; rw [hL.2 _ _ hx]; rfl⟩
  · rename_i x hx
    cases h
    exact ⟨L, hL, by unfold cx_ld; dsimp only at hx ⊢; rw [hL.2 _ _ hx]; rfl⟩
  · rename_i x hx
    cases h
    exact ⟨L, hL, by unfold cx_ld; dsimp only at hx ⊢; rw [hL.2 _ _ hx]; rfl⟩
  · cases h
theorem cl_sto {ty n i nL pc : Nat} {L' L : List (Nat × Value)} {st : List Value} {M : cm_M} {k' k : cm_S → Prop} (hL : cm_le L' L) (hk : ∀ (pc2 : Nat) (A B : List (Nat × Value)) (st2 : List Value) (M2 : cm_M), cm_le A B → k' (pc2, A, st2, M2) → k (pc2, B, st2, M2)) (h : cm_sto ty n i nL (pc, L', st, M) k') : cm_sto ty n i nL (pc, L, st, M) k := by
  unfold cm_sto at h
  dsimp only at h
  split at h
  · exact ⟨h.1, hk _ _ _ _ _ (cm_le_1 _ _ hL) h.2⟩
  · exact ⟨h.1, hk _ _ _ _ _ (cm_le_2 _ _ hL) h.2⟩
  · exact ⟨h.1, hk _ _ _ _ _ (cm_le_1 _ _ hL) h.2⟩
  · exact h.elim
theorem cy_sto {ty n i pc : Nat} {L' L : List (Nat × Value)} {st : List Value} {M : cm_M} {S1 : cm_S} (hL : cm_le L' L) (h : cx_sto ty n i (pc, L', st, M) = some S1) : ∃ B, cm_le S1.2.1 B ∧ cx_sto ty n i (pc, L, st, M) = some (S1.1, B, S1.2.2) := by
  unfold cx_sto at h
  dsimp only at h
  split at h
  · cases h; exact ⟨_, cm_le_1 _ _ hL, rfl⟩
  · cases h; exact ⟨_, cm_le_2 _ _ hL, rfl⟩
  · cases h; exact ⟨_, cm_le_1 _ _ hL, rfl⟩
  · cases h
theorem cl_iconst : cm_Lo cm_iconst := by
  intro E P t pc L' L st M k' k hL hk h
  unfold cm_iconst at h ⊢
  dsimp only at h ⊢
  first | exact h.elim | exact hk _ _ _ _ _ hL h | exact ⟨h.1, hk _ _ _ _ _ hL h.2⟩ | exact ⟨h.1, h.2.1, hk _ _ _ _ _ hL h.2.2⟩ | exact ⟨h.1, h.2.1, h.2.2.1, hk _ _ _ _ _ hL h.2.2.2⟩ | exact ⟨h.1, h.2.1, h.2.2.1, h.2.2.2.1, hk _ _ _ _ _ hL h.2.2.2.2⟩ | exact ⟨h.1, h.2.1, h.2.2.1, h.2.2.2.1, h.2.2.2.2.1, hk _ _ _ _ _ hL h.2.2.2.2.2⟩ | exact ⟨h.1, h.2.1, h.2.2.1, h.2.2.2.1, h.2.2.2.2.1, h.2.2.2.2.2.1, hk _ _ _ _ _ hL h.2.2.2.2.2.2⟩ | exact ⟨h.1, h.2.1, h.2.2.1, h.2.2.2.1, h.2.2.2.2.1, h.2.2.2.2.2.1, h.2.2.2.2.2.2.1, hk _ _ _ _ _ hL h.2.2.2.2.2.2.2⟩ | exact ⟨h.1, h.2.1, h.2.2.1, h.2.2.2.1, h.2.2.2.2.1, h.2.2.2.2.2.1, h.2.2.2.2.2.2.1, h.2.2.2.2.2.2.2.1, hk _ _ _ _ _ hL h.2.2.2.2.2.2.2.2⟩ | exact ⟨h.1, h.2.1, h.2.2.1, h.2.2.2.1, h.2.2.2.2.1, h.2.2.2.2.2.1, h.2.2.2.2.2.2.1, h.2.2.2.2.2.2.2.1, h.2.2.2.2.2.2.2.2.1, hk _ _ _ _ _ hL h.2.2.2.2.2.2.2.2.2⟩
theorem cy_iconst : cx_Lo cx_iconst := by
  intro E P t pc L' L st M S1 hL h
  have h : some _ = some S1 := h
  cases h
  exact ⟨_, hL, rfl⟩
theorem cl_bipush : cm_Lo cm_bipush := by
  intro E P t pc L' L st M k' k hL hk h
  unfold cm_bipush at h ⊢
  dsimp only at h ⊢
  first | exact h.elim | exact hk _ _ _ _ _ hL h | exact ⟨h.1, hk _ _ _ _ _ hL h.2⟩ | exact ⟨h.1, h.2.1, hk _ _ _ _ _ hL h.2.2⟩ | exact ⟨h.1, h.2.1, h.2.2.1, hk _ _ _ _ _ hL h.2.2.2⟩ | exact ⟨h.1, h.2.1, h.2.2.1, h.2.2.2.1, hk _ _ _ _ _ hL h.2.2.2.2⟩ | exact ⟨h.1, h.2.1, h.2.2.1, h.2.2.2.1, h.2.2.2.2.1, hk _ _ _ _ _ hL h.2.2.2.2.2⟩ | exact ⟨h.1, h.2.1, h.2.2.1, h.2.2.2.1, h.2.2.2.2.1, h.2.2.2.2.2.1, hk _ _ _ _ _ hL h.2.2.2.2.2.2⟩ | exact ⟨h.1, h.2.1, h.2.2.1, h.2.2.2.1, h.2.2.2.2.1, h.2.2.2.2.2.1, h.2.2.2.2.2.2.1, hk _ _ _ _ _ hL h.2.2.2.2.2.2.2⟩ | exact ⟨h.1, h.2.1, h.2.2.1, h.2.2.2.1, h.2.2.2.2.1, h.2.2.2.2.2.1, h.2.2.2.2.2.2.1, h.2.2.2.2.2.2.2.1, hk _ _ _ _ _ hL h.2.2.2.2.2.2.2.2⟩ | exact ⟨h.1, h.2.1, h.2.2.1, h.2.2.2.1, h.2.2.2.2.1, h.2.2.2.2.2.1, h.2.2.2.2.2.2.1, h.2.2.2.2.2.2.2.1, h.2.2.2.2.2.2.2.2.1, hk _ _ _ _ _ hL h.2.2.2.2.2.2.2.2.2⟩
theorem cy_bipush : cx_Lo cx_bipush := by
  intro E P t pc L' L st M S1 hL h
  have h : some _ = some S1 := h
  cases h
  exact ⟨_, hL, rfl⟩
theorem cl_sipush : cm_Lo cm_sipush := by
  intro E P t pc L' L st M k' k hL hk h
  unfold cm_sipush at h ⊢
  dsimp only at h ⊢
  first | exact h.elim | exact hk _ _ _ _ _ hL h | exact ⟨h.1, hk _ _ _ _ _ hL h.2⟩ | exact ⟨h.1, h.2.1, hk _ _ _ _ _ hL h.2.2⟩ | exact ⟨h.1, h.2.1, h.2.2.1, hk _ _ _ _ _ hL h.2.2.2⟩ | exact ⟨h.1, h.2.1, h.2.2.1, h.2.2.2.1, hk _ _ _ _ _ hL h.2.2.2.2⟩ | exact ⟨h.1, h.2.1, h.2.2.1, h.2.2.2.1, h.2.2.2.2.1, hk _ _ _ _ _ hL h.2.2.2.2.2⟩ | exact ⟨h.1, h.2.1, h.2.2.1, h.2.2.2.1, h.2.2.2.2.1, h.2.2.2.2.2.1, hk _ _ _ _ _ hL h.2.2.2.2.2.2⟩ | exact ⟨h.1, h.2.1, h.2.2.1, h.2.2.2.1, h.2.2.2.2.1, h.2.2.2.2.2.1, h.2.2.2.2.2.2.1, hk _ _ _ _ _ hL h.2.2.2.2.2.2.2⟩ | exact ⟨h.1, h.2.1, h.2.2.1, h.2.2.2.1, h.2.2.2.2.1, h.2.2.2.2.2.1, h.2.2.2.2.2.2.1, h.2.2.2.2.2.2.2.1, hk _ _ _ _ _ hL h.2.2.2.2.2.2.2.2⟩ | exact ⟨h.1, h.2.1, h.2.2.1, h.2.2.2.1, h.2.2.2.2.1, h.2.2.2.2.2.1, h.2.2.2.2.2.2.1, h.2.2.2.2.2.2.2.1, h.2.2.2.2.2.2.2.2.1, hk _ _ _ _ _ hL h.2.2.2.2.2.2.2.2.2⟩
theorem cy_sipush : cx_Lo cx_sipush := by
  intro E P t pc L' L st M S1 hL h
  have h : some _ = some S1 := h
  cases h
  exact ⟨_, hL, rfl⟩
theorem cl_lconst : cm_Lo cm_lconst := by
  intro E P t pc L' L st M k' k hL hk h
  unfold cm_lconst at h ⊢
  dsimp only at h ⊢
  first | exact h.elim | exact hk _ _ _ _ _ hL h | exact ⟨h.1, hk _ _ _ _ _ hL h.2⟩ | exact ⟨h.1, h.2.1, hk _ _ _ _ _ hL h.2.2⟩ | exact ⟨h.1, h.2.1, h.2.2.1, hk _ _ _ _ _ hL h.2.2.2⟩ | exact ⟨h.1, h.2.1, h.2.2.1, h.2.2.2.1, hk _ _ _ _ _ hL h.2.2.2.2⟩ | exact ⟨h.1, h.2.1, h.2.2.1, h.2.2.2.1, h.2.2.2.2.1, hk _ _ _ _ _ hL h.2.2.2.2.2⟩ | exact ⟨h.1, h.2.1, h.2.2.1, h.2.2.2.1, h.2.2.2.2.1, h.2.2.2.2.2.1, hk _ _ _ _ _ hL h.2.2.2.2.2.2⟩ | exact ⟨h.1, h.2.1, h.2.2.1, h.2.2.2.1, h.2.2.2.2.1, h.2.2.2.2.2.1, h.2.2.2.2.2.2.1, hk _ _ _ _ _ hL h.2.2.2.2.2.2.2⟩ | exact ⟨h.1, h.2.1, h.2.2.1, h.2.2.2.1, h.2.2.2.2.1, h.2.2.2.2.2.1, h.2.2.2.2.2.2.1, h.2.2.2.2.2.2.2.1, hk _ _ _ _ _ hL h.2.2.2.2.2.2.2.2⟩ | exact ⟨h.1, h.2.1, h.2.2.1, h.2.2.2.1, h.2.2.2.2.1, h.2.2.2.2.2.1, h.2.2.2.2.2.2.1, h.2.2.2.2.2.2.2.1, h.2.2.2.2.2.2.2.2.1, hk _ _ _ _ _ hL h.2.2.2.2.2.2.2.2.2⟩
theorem cy_lconst : cx_Lo cx_lconst := by
  intro E P t pc L' L st M S1 hL h
  have h : some _ = some S1 := h
  cases h
  exact ⟨_, hL, rfl⟩
theorem cl_iload : cm_Lo cm_iload := fun E P t pc L' L st M k' k hL hk h => cl_ld hL hk h
theorem cy_iload : cx_Lo cx_iload := fun E P t pc L' L st M S1 hL h => cy_ld hL h
theorem cl_iloadn : cm_Lo cm_iloadn := fun E P t pc L' L st M k' k hL hk h => cl_ld hL hk h
theorem cy_iloadn : cx_Lo cx_iloadn := fun E P t pc L' L st M S1 hL h => cy_ld hL h
theorem cl_lload : cm_Lo cm_lload := fun E P t pc L' L st M k' k hL hk h => cl_ld hL hk h
theorem cy_lload : cx_Lo cx_lload := fun E P t pc L' L st M S1 hL h => cy_ld hL h
theorem cl_lloadn : cm_Lo cm_lloadn := fun E P t pc L' L st M k' k hL hk h => cl_ld hL hk h
theorem cy_lloadn : cx_Lo cx_lloadn := fun E P t pc L' L st M S1 hL h => cy_ld hL h
theorem cl_aload : cm_Lo cm_aload := fun E P t pc L' L st M k' k hL hk h => cl_ld hL hk h
theorem cy_aload : cx_Lo cx_aload := fun E P t pc L' L st M S1 hL h => cy_ld hL h
theorem cl_aloadn : cm_Lo cm_aloadn := fun E P t pc L' L st M k' k hL hk h => cl_ld hL hk h
theorem cy_aloadn : cx_Lo cx_aloadn := fun E P t pc L' L st M S1 hL h => cy_ld hL h
theorem cl_istore : cm_Lo cm_istore := fun E P t pc L' L st M k' k hL hk h => cl_sto hL hk h
theorem cy_istore : cx_Lo cx_istore := fun E P t pc L' L st M S1 hL h => cy_sto hL h
theorem cl_istoren : cm_Lo cm_istoren := fun E P t pc L' L st M k' k hL hk h => cl_sto hL hk h
theorem cy_istoren : cx_Lo cx_istoren := fun E P t pc L' L st M S1 hL h => cy_sto hL h
theorem cl_lstore : cm_Lo cm_lstore := fun E P t pc L' L st M k' k hL hk h => cl_sto hL hk h
theorem cy_lstore : cx_Lo cx_lstore := fun E P t pc L' L st M S1 hL h => cy_sto hL h
theorem cl_lstoren : cm_Lo cm_lstoren := fun E P t pc L' L st M k' k hL hk h => cl_sto hL hk h
theorem cy_lstoren : cx_Lo cx_lstoren := fun E P t pc L' L st M S1 hL h => cy_sto hL h
theorem cl_astore : cm_Lo cm_astore := fun E P t pc L' L st M k' k hL hk h => cl_sto hL hk h
theorem cy_astore : cx_Lo cx_astore := fun E P t pc L' L st M S1 hL h => cy_sto hL h
theorem cl_astoren : cm_Lo cm_astoren := fun E P t pc L' L st M k' k hL hk h => cl_sto hL hk h
theorem cy_astoren : cx_Lo cx_astoren := fun E P t pc L' L st M S1 hL h => cy_sto hL h
theorem cl_iadd : cm_Lo cm_iadd := by
  intro E P t pc L' L st M k' k hL hk h
  unfold cm_iadd at h ⊢
  dsimp only at h ⊢
  split at h <;> (first | exact h.elim | exact hk _ _ _ _ _ hL h | exact ⟨h.1, hk _ _ _ _ _ hL h.2⟩ | exact ⟨h.1, h.2.1, hk _ _ _ _ _ hL h.2.2⟩ | exact ⟨h.1, h.2.1, h.2.2.1, hk _ _ _ _ _ hL h.2.2.2⟩ | exact ⟨h.1, h.2.1, h.2.2.1, h.2.2.2.1, hk _ _ _ _ _ hL h.2.2.2.2⟩ | exact ⟨h.1, h.2.1, h.2.2.1, h.2.2.2.1, h.2.2.2.2.1, hk _ _ _ _ _ hL h.2.2.2.2.2⟩ | exact ⟨h.1, h.2.1, h.2.2.1, h.2.2.2.1, h.2.2.2.2.1, h.2.2.2.2.2.1, hk _ _ _ _ _ hL h.2.2.2.2.2.2⟩ | exact ⟨h.1, h.2.1, h.2.2.1, h.2.2.2.1, h.2.2.2.2.1, h.2.2.2.2.2.1, h.2.2.2.2.2.2.1, hk _ _ _ _ _ hL h.2.2.2.2.2.2.2⟩ | exact ⟨h.1, h.2.1, h.2.2.1, h.2.2.2.1, h.2.2.2.2.1, h.2.2.2.2.2.1, h.2.2.2.2.2.2.1, h.2.2.2.2.2.2.2.1, hk _ _ _ _ _ hL h.2.2.2.2.2.2.2.2⟩ | exact ⟨h.1, h.2.1, h.2.2.1, h.2.2.2.1, h.2.2.2.2.1, h.2.2.2.2.2.1, h.2.2.2.2.2.2.1, h.2.2.2.2.2.2.2.1, h.2.2.2.2.2.2.2.2.1, hk _ _ _ _ _ hL h.2.2.2.2.2.2.2.2.2⟩)
theorem cy_iadd : cx_Lo cx_iadd := by
  intro E P t pc L' L st M S1 hL h
  unfold cx_iadd at h ⊢
  dsimp only at h ⊢
  split at h <;> (first | (cases h; done) | (cases h; exact ⟨_, hL, rfl⟩))
theorem cl_isub : cm_Lo cm_isub := by
  intro E P t pc L' L st M k' k hL hk h
  unfold cm_isub at h ⊢
  dsimp only at h ⊢
  split at h <;> (first | exact h.elim | exact hk _ _ _ _ _ hL h | exact ⟨h.1, hk _ _ _ _ _ hL h.2⟩ | exact ⟨h.1, h.2.1, hk _ _ _ _ _ hL h.2.2⟩ | exact ⟨h.1, h.2.1, h.2.2.1, hk _ _ _ _ _ hL h.2.2.2⟩ | exact ⟨h.1, h.2.1, h.2.2.1, h.2.2.2.1, hk _ _ _ _ _ hL h.2.2.2.2⟩ | exact ⟨h.1, h.2.1, h.2.2.1, h.2.2.2.1, h.2.2.2.2.1, hk _ _ _ _ _ hL h.2.2.2.2.2⟩ | exact ⟨h.1, h.2.1, h.2.2.1, h.2.2.2.1, h.2.2.2.2.1, h.2.2.2.2.2.1, hk _ _ _ _ _ hL h.2.2.2.2.2.2⟩ | exact ⟨h.1, h.2.1, h.2.2.1, h.2.2.2.1, h.2.2.2.2.1, h.2.2.2.2.2.1, h.2.2.2.2.2.2.1, hk _ _ _ _ _ hL h.2.2.2.2.2.2.2⟩ | exact ⟨h.1, h.2.1, h.2.2.1, h.2.2.2.1, h.2.2.2.2.1, h.2.2.2.2.2.1, h.2.2.2.2.2.2.1, h.2.2.2.2.2.2.2.1, hk _ _ _ _ _ hL h.2.2.2.2.2.2.2.2⟩ | exact ⟨h.1, h.2.1, h.2.2.1, h.2.2.2.1, h.2.2.2.2.1, h.2.2.2.2.2.1, h.2.2.2.2.2.2.1, h.2.2.2.2.2.2.2.1, h.2.2.2.2.2.2.2.2.1, hk _ _ _ _ _ hL h.2.2.2.2.2.2.2.2.2⟩)
theorem cy_isub : cx_Lo cx_isub := by
  intro E P t pc L' L st M S1 hL h
  unfold cx_isub at h ⊢
  dsimp only at h ⊢
  split at h <;> (first | (cases h; done) | (cases h; exact ⟨_, hL, rfl⟩))
theorem cl_imul : cm_Lo cm_imul := by
  intro E P t pc L' L st M k' k hL hk h
  unfold cm_imul at h ⊢
  dsimp only at h ⊢
  split at h <;> (first | exact h.elim | exact hk _ _ _ _ _ hL h | exact ⟨h.1, hk _ _ _ _ _ hL h.2⟩ | exact ⟨h.1, h.2.1, hk _ _ _ _ _ hL h.2.2⟩ | exact ⟨h.1, h.2.1, h.2.2.1, hk _ _ _ _ _ hL h.2.2.2⟩ | exact ⟨h.1, h.2.1, h.2.2.1, h.2.2.2.1, hk _ _ _ _ _ hL h.2.2.2.2⟩ | exact ⟨h.1, h.2.1, h.2.2.1, h.2.2.2.1, h.2.2.2.2.1, hk _ _ _ _ _ hL h.2.2.2.2.2⟩ | exact ⟨h.1, h.2.1, h.2.2.1, h.2.2.2.1, h.2.2.2.2.1, h.2.2.2.2.2.1, hk _ _ _ _ _ hL h.2.2.2.2.2.2⟩ | exact ⟨h.1, h.2.1, h.2.2.1, h.2.2.2.1, h.2.2.2.2.1, h.2.2.2.2.2.1, h.2.2.2.2.2.2.1, hk _ _ _ _ _ hL h.2.2.2.2.2.2.2⟩ | exact ⟨h.1, h.2.1, h.2.2.1, h.2.2.2.1, h.2.2.2.2.1, h.2.2.2.2.2.1, h.2.2.2.2.2.2.1, h.2.2.2.2.2.2.2.1, hk _ _ _ _ _ hL h.2.2.2.2.2.2.2.2⟩ | exact ⟨h.1, h.2.1, h.2.2.1, h.2.2.2.1, h.2.2.2.2.1, h.2.2.2.2.2.1, h.2.2.2.2.2.2.1, h.2.2.2.2.2.2.2.1, h.2.2.2.2.2.2.2.2.1, hk _ _ _ _ _ hL h.2.2.2.2.2.2.2.2.2⟩)
theorem cy_imul : cx_Lo cx_imul := by
  intro E P t pc L' L st M S1 hL h
  unfold cx_imul at h ⊢
  dsimp only at h ⊢
  split at h <;> (first | (cases h; done) | (cases h; exact ⟨_, hL, rfl⟩))
theorem cl_iand : cm_Lo cm_iand := by
  intro E P t pc L' L st M k' k hL hk h
  unfold cm_iand at h ⊢
  dsimp only at h ⊢
  split at h <;> (first | exact h.elim | exact hk _ _ _ _ _ hL h | exact ⟨h.1, hk _ _ _ _ _ hL h.2⟩ | exact ⟨h.1, h.2.1, hk _ _ _ _ _ hL h.2.2⟩ | exact ⟨h.1, h.2.1, h.2.2.1, hk _ _ _ _ _ hL h.2.2.2⟩ | exact ⟨h.1, h.2.1, h.2.2.1, h.2.2.2.1, hk _ _ _ _ _ hL h.2.2.2.2⟩ | exact ⟨h.1, h.2.1, h.2.2.1, h.2.2.2.1, h.2.2.2.2.1, hk _ _ _ _ _ hL h.2.2.2.2.2⟩ | exact ⟨h.1, h.2.1, h.2.2.1, h.2.2.2.1, h.2.2.2.2.1, h.2.2.2.2.2.1, hk _ _ _ _ _ hL h.2.2.2.2.2.2⟩ | exact ⟨h.1, h.2.1, h.2.2.1, h.2.2.2.1, h.2.2.2.2.1, h.2.2.2.2.2.1, h.2.2.2.2.2.2.1, hk _ _ _ _ _ hL h.2.2.2.2.2.2.2⟩ | exact ⟨h.1, h.2.1, h.2.2.1, h.2.2.2.1, h.2.2.2.2.1, h.2.2.2.2.2.1, h.2.2.2.2.2.2.1, h.2.2.2.2.2.2.2.1, hk _ _ _ _ _ hL h.2.2.2.2.2.2.2.2⟩ | exact ⟨h.1, h.2.1, h.2.2.1, h.2.2.2.1, h.2.2.2.2.1, h.2.2.2.2.2.1, h.2.2.2.2.2.2.1, h.2.2.2.2.2.2.2.1, h.2.2.2.2.2.2.2.2.1, hk _ _ _ _ _ hL h.2.2.2.2.2.2.2.2.2⟩)
theorem cy_iand : cx_Lo cx_iand := by
  intro E P t pc L' L st M S1 hL h
  unfold cx_iand at h ⊢
  dsimp only at h ⊢
  split at h <;> (first | (cases h; done) | (cases h; exact ⟨_, hL, rfl⟩))
theorem cl_ior : cm_Lo cm_ior := by
  intro E P t pc L' L st M k' k hL hk h
  unfold cm_ior at h ⊢
  dsimp only at h ⊢
  split at h <;> (first | exact h.elim | exact hk _ _ _ _ _ hL h | exact ⟨h.1, hk _ _ _ _ _ hL h.2⟩ | exact ⟨h.1, h.2.1, hk _ _ _ _ _ hL h.2.2⟩ | exact ⟨h.1, h.2.1, h.2.2.1, hk _ _ _ _ _ hL h.2.2.2⟩ | exact ⟨h.1, h.2.1, h.2.2.1, h.2.2.2.1, hk _ _ _ _ _ hL h.2.2.2.2⟩ | exact ⟨h.1, h.2.1, h.2.2.1, h.2.2.2.1, h.2.2.2.2.1, hk _ _ _ _ _ hL h.2.2.2.2.2⟩ | exact ⟨h.1, h.2.1, h.2.2.1, h.2.2.2.1, h.2.2.2.2.1, h.2.2.2.2.2.1, hk _ _ _ _ _ hL h.2.2.2.2.2.2⟩ | exact ⟨h.1, h.2.1, h.2.2.1, h.2.2.2.1, h.2.2.2.2.1, h.2.2.2.2.2.1, h.2.2.2.2.2.2.1, hk _ _ _ _ _ hL h.2.2.2.2.2.2.2⟩ | exact ⟨h.1, h.2.1, h.2.2.1, h.2.2.2.1, h.2.2.2.2.1, h.2.2.2.2.2.1, h.2.2.2.2.2.2.1, h.2.2.2.2.2.2.2.1, hk _ _ _ _ _ hL h.2.2.2.2.2.2.2.2⟩ | exact ⟨h.1, h.2.1, h.2.2.1, h.2.2.2.1, h.2.2.2.2.1, h.2.2.2.2.2.1, h.2.2.2.2.2.2.1, h.2.2.2.2.2.2.2.1, h.2.2.2.2.2.2.2.2.1, hk _ _ _ _ _ hL h.2.2.2.2.2.2.2.2.2⟩)
theorem cy_ior : cx_Lo cx_ior := by
  intro E P t pc L' L st M S1 hL h
  unfold cx_ior at h ⊢
  dsimp only at h ⊢
  split at h <;> (first | (cases h; done) | (cases h; exact ⟨_, hL, rfl⟩))
theorem cl_ixor : cm_Lo cm_ixor := by
  intro E P t pc L' L st M k' k hL hk h
  unfold cm_ixor at h ⊢
  dsimp only at h ⊢
  split at h <;> (first | exact h.elim | exact hk _ _ _ _ _ hL h | exact ⟨h.1, hk _ _ _ _ _ hL h.2⟩ | exact ⟨h.1, h.2.1, hk _ _ _ _ _ hL h.2.2⟩ | exact ⟨h.1, h.2.1, h.2.2.1, hk _ _ _ _ _ hL h.2.2.2⟩ | exact ⟨h.1, h.2.1, h.2.2.1, h.2.2.2.1, hk _ _ _ _ _ hL h.2.2.2.2⟩ | exact ⟨h.1, h.2.1, h.2.2.1, h.2.2.2.1, h.2.2.2.2.1, hk _ _ _ _ _ hL h.2.2.2.2.2⟩ | exact ⟨h.1, h.2.1, h.2.2.1, h.2.2.2.1, h.2.2.2.2.1, h.2.2.2.2.2.1, hk _ _ _ _ _ hL h.2.2.2.2.2.2⟩ | exact ⟨h.1, h.2.1, h.2.2.1, h.2.2.2.1, h.2.2.2.2.1, h.2.2.2.2.2.1, h.2.2.2.2.2.2.1, hk _ _ _ _ _ hL h.2.2.2.2.2.2.2⟩ | exact ⟨h.1, h.2.1, h.2.2.1, h.2.2.2.1, h.2.2.2.2.1, h.2.2.2.2.2.1, h.2.2.2.2.2.2.1, h.2.2.2.2.2.2.2.1, hk _ _ _ _ _ hL h.2.2.2.2.2.2.2.2⟩ | exact ⟨h.1, h.2.1, h.2.2.1, h.2.2.2.1, h.2.2.2.2.1, h.2.2.2.2.2.1, h.2.2.2.2.2.2.1, h.2.2.2.2.2.2.2.1, h.2.2.2.2.2.2.2.2.1, hk _ _ _ _ _ hL h.2.2.2.2.2.2.2.2.2⟩)
theorem cy_ixor : cx_Lo cx_ixor := by
  intro E P t pc L' L st M S1 hL h
  unfold cx_ixor at h ⊢
  dsimp only at h ⊢
  split at h <;> (first | (cases h; done) | (cases h; exact ⟨_, hL, rfl⟩))
theorem cl_ishl : cm_Lo cm_ishl := by
  intro E P t pc L' L st M k' k hL hk h
  unfold cm_ishl at h ⊢
  dsimp only at h ⊢
  split at h <;> (first | exact h.elim | exact hk _ _ _ _ _ hL h | exact ⟨h.1, hk _ _ _ _ _ hL h.2⟩ | exact ⟨h.1, h.2.1, hk _ _ _ _ _ hL h.2.2⟩ | exact ⟨h.1, h.2.1, h.2.2.1, hk _ _ _ _ _ hL h.2.2.2⟩ | exact ⟨h.1, h.2.1, h.2.2.1, h.2.2.2.1, hk _ _ _ _ _ hL h.2.2.2.2⟩ | exact ⟨h.1, h.2.1, h.2.2.1, h.2.2.2.1, h.2.2.2.2.1, hk _ _ _ _ _ hL h.2.2.2.2.2⟩ | exact ⟨h.1, h.2.1, h.2.2.1, h.2.2.2.1, h.2.2.2.2.1, h.2.2.2.2.2.1, hk _ _ _ _ _ hL h.2.2.2.2.2.2⟩ | exact ⟨h.1, h.2.1, h.2.2.1, h.2.2.2.1, h.2.2.2.2.1, h.2.2.2.2.2.1, h.2.2.2.2.2.2.1, hk _ _ _ _ _ hL h.2.2.2.2.2.2.2⟩ | exact ⟨h.1, h.2.1, h.2.2.1, h.2.2.2.1, h.2.2.2.2.1, h.2.2.2.2.2.1, h.2.2.2.2.2.2.1, h.2.2.2.2.2.2.2.1, hk _ _ _ _ _ hL h.2.2.2.2.2.2.2.2⟩ | exact ⟨h.1, h.2.1, h.2.2.1, h.2.2.2.1, h.2.2.2.2.1, h.2.2.2.2.2.1, h.2.2.2.2.2.2.1, h.2.2.2.2.2.2.2.1, h.2.2.2.2.2.2.2.2.1, hk _ _ _ _ _ hL h.2.2.2.2.2.2.2.2.2⟩)
theorem cy_ishl : cx_Lo cx_ishl := by
  intro E P t pc L' L st M S1 hL h
  unfold cx_ishl at h ⊢
  dsimp only at h ⊢
  split at h <;> (first | (cases h; done) | (cases h; exact ⟨_, hL, rfl⟩))
theorem cl_ishr : cm_Lo cm_ishr := by
  intro E P t pc L' L st M k' k hL hk h
  unfold cm_ishr at h ⊢
  dsimp only at h ⊢
  split at h <;> (first | exact h.elim | exact hk _ _ _ _ _ hL h | exact ⟨h.1, hk _ _ _ _ _ hL h.2⟩ | exact ⟨h.1, h.2.1, hk _ _ _ _ _ hL h.2.2⟩ | exact ⟨h.1, h.2.1, h.2.2.1, hk _ _ _ _ _ hL h.2.2.2⟩ | exact ⟨h.1, h.2.1, h.2.2.1, h.2.2.2.1, hk _ _ _ _ _ hL h.2.2.2.2⟩ | exact ⟨h.1, h.2.1, h.2.2.1, h.2.2.2.1, h.2.2.2.2.1, hk _ _ _ _ _ hL h.2.2.2.2.2⟩ | exact ⟨h.1, h.2.1, h.2.2.1, h.2.2.2.1, h.2.2.2.2.1, h.2.2.2.2.2.1, hk _ _ _ _ _ hL h.2.2.2.2.2.2⟩ | exact ⟨h.1, h.2.1, h.2.2.1, h.2.2.2.1, h.2.2.2.2.1, h.2.2.2.2.2.1, h.2.2.2.2.2.2.1, hk _ _ _ _ _ hL h.2.2.2.2.2.2.2⟩ | exact ⟨h.1, h.2.1, h.2.2.1, h.2.2.2.1, h.2.2.2.2.1, h.2.2.2.2.2.1, h.2.2.2.2.2.2.1, h.2.2.2.2.2.2.2.1, hk _ _ _ _ _ hL h.2.2.2.2.2.2.2.2⟩ | exact ⟨h.1, h.2.1, h.2.2.1, h.2.2.2.1, h.2.2.2.2.1, h.2.2.2.2.2.1, h.2.2.2.2.2.2.1, h.2.2.2.2.2.2.2.1, h.2.2.2.2.2.2.2.2.1, hk _ _ _ _ _ hL h.2.2.2.2.2.2.2.2.2⟩)
theorem cy_ishr : cx_Lo cx_ishr := by
  intro E P t pc L' L st M S1 hL h
  unfold cx_ishr at h ⊢
  dsimp only at h ⊢
  split at h <;> (first | (cases h; done) | (cases h; exact ⟨_, hL, rfl⟩))
theorem cl_iushr : cm_Lo cm_iushr := by
  intro E P t pc L' L st M k' k hL hk h
  unfold cm_iushr at h ⊢
  dsimp only at h ⊢
  split at h <;> (first | exact h.elim | exact hk _ _ _ _ _ hL h | exact ⟨h.1, hk _ _ _ _ _ hL h.2⟩ | exact ⟨h.1, h.2.1, hk _ _ _ _ _ hL h.2.2⟩ | exact ⟨h.1, h.2.1, h.2.2.1, hk _ _ _ _ _ hL h.2.2.2⟩ | exact ⟨h.1, h.2.1, h.2.2.1, h.2.2.2.1, hk _ _ _ _ _ hL h.2.2.2.2⟩ | exact ⟨h.1, h.2.1, h.2.2.1, h.2.2.2.1, h.2.2.2.2.1, hk _ _ _ _ _ hL h.2.2.2.2.2⟩ | exact ⟨h.1, h.2.1, h.2.2.1, h.2.2.2.1, h.2.2.2.2.1, h.2.2.2.2.2.1, hk _ _ _ _ _ hL h.2.2.2.2.2.2⟩ | exact ⟨h.1, h.2.1, h.2.2.1, h.2.2.2.1, h.2.2.2.2.1, h.2.2.2.2.2.1, h.2.2.2.2.2.2.1, hk _ _ _ _ _ hL h.2.2.2.2.2.2.2⟩ | exact ⟨h.1, h.2.1, h.2.2.1, h.2.2.2.1, h.2.2.2.2.1, h.2.2.2.2.2.1, h.2.2.2.2.2.2.1, h.2.2.2.2.2.2.2.1, hk _ _ _ _ _ hL h.2.2.2.2.2.2.2.2⟩ | exact ⟨h.1, h.2.1, h.2.2.1, h.2.2.2.1, h.2.2.2.2.1, h.2.2.2.2.2.1, h.2.2.2.2.2.2.1, h.2.2.2.2.2.2.2.1, h.2.2.2.2.2.2.2.2.1, hk _ _ _ _ _ hL h.2.2.2.2.2.2.2.2.2⟩)
theorem cy_iushr : cx_Lo cx_iushr := by
  intro E P t pc L' L st M S1 hL h
  unfold cx_iushr at h ⊢
  dsimp only at h ⊢
  split at h <;> (first | (cases h; done) | (cases h; exact ⟨_, hL, rfl⟩))
theorem cl_idiv : cm_Lo cm_idiv := by
  intro E P t pc L' L st M k' k hL hk h
  unfold cm_idiv at h ⊢
  dsimp only at h ⊢
  split at h <;> (first | exact h.elim | exact hk _ _ _ _ _ hL h | exact ⟨h.1, hk _ _ _ _ _ hL h.2⟩ | exact ⟨h.1, h.2.1, hk _ _ _ _ _ hL h.2.2⟩ | exact ⟨h.1, h.2.1, h.2.2.1, hk _ _ _ _ _ hL h.2.2.2⟩ | exact ⟨h.1, h.2.1, h.2.2.1, h.2.2.2.1, hk _ _ _ _ _ hL h.2.2.2.2⟩ | exact ⟨h.1, h.2.1, h.2.2.1, h.2.2.2.1, h.2.2.2.2.1, hk _ _ _ _ _ hL h.2.2.2.2.2⟩ | exact ⟨h.1, h.2.1, h.2.2.1, h.2.2.2.1, h.2.2.2.2.1, h.2.2.2.2.2.1, hk _ _ _ _ _ hL h.2.2.2.2.2.2⟩ | exact ⟨h.1, h.2.1, h.2.2.1, h.2.2.2.1, h.2.2.2.2.1, h.2.2.2.2.2.1, h.2.2.2.2.2.2.1, hk _ _ _ _ _ hL h.2.2.2.2.2.2.2⟩ | exact ⟨h.1, h.2.1, h.2.2.1, h.2.2.2.1, h.2.2.2.2.1, h.2.2.2.2.2.1, h.2.2.2.2.2.2.1, h.2.2.2.2.2.2.2.1, hk _ _ _ _ _ hL h.2.2.2.2.2.2.2.2⟩ | exact ⟨h.1, h.2.1, h.2.2.1, h.2.2.2.1, h.2.2.2.2.1, h.2.2.2.2.2.1, h.2.2.2.2.2.2.1, h.2.2.2.2.2.2.2.1, h.2.2.2.2.2.2.2.2.1, hk _ _ _ _ _ hL h.2.2.2.2.2.2.2.2.2⟩)
theorem cy_idiv : cx_Lo cx_idiv := by
  intro E P t pc L' L st M S1 hL h
  unfold cx_idiv at h ⊢
  dsimp only at h ⊢
  split at h <;> (first | (cases h; done) | (cases h; exact ⟨_, hL, rfl⟩))
theorem cl_irem : cm_Lo cm_irem := by
  intro E P t pc L' L st M k' k hL hk h
  unfold cm_irem at h ⊢
  dsimp only at h ⊢
  split at h <;> (first | exact h.elim | exact hk _ _ _ _ _ hL h | exact ⟨h.1, hk _ _ _ _ _ hL h.2⟩ | exact ⟨h.1, h.2.1, hk _ _ _ _ _ hL h.2.2⟩ | exact ⟨h.1, h.2.1, h.2.2.1, hk _ _ _ _ _ hL h.2.2.2⟩ | exact ⟨h.1, h.2.1, h.2.2.1, h.2.2.2.1, hk _ _ _ _ _ hL h.2.2.2.2⟩ | exact ⟨h.1, h.2.1, h.2.2.1, h.2.2.2.1, h.2.2.2.2.1, hk _ _ _ _ _ hL h.2.2.2.2.2⟩ | exact ⟨h.1, h.2.1, h.2.2.1, h.2.2.2.1, h.2.2.2.2.1, h.2.2.2.2.2.1, hk _ _ _ _ _ hL h.2.2.2.2.2.2⟩ | exact ⟨h.1, h.2.1, h.2.2.1, h.2.2.2.1, h.2.2.2.2.1, h.2.2.2.2.2.1, h.2.2.2.2.2.2.1, hk _ _ _ _ _ hL h.2.2.2.2.2.2.2⟩ | exact ⟨h.1, h.2.1, h.2.2.1, h.2.2.2.1, h.2.2.2.2.1, h.2.2.2.2.2.1, h.2.2.2.2.2.2.1, h.2.2.2.2.2.2.2.1, hk _ _ _ _ _ hL h.2.2.2.2.2.2.2.2⟩ | exact ⟨h.1, h.2.1, h.2.2.1, h.2.2.2.1, h.2.2.2.2.1, h.2.2.2.2.2.1, h.2.2.2.2.2.2.1, h.2.2.2.2.2.2.2.1, h.2.2.2.2.2.2.2.2.1, hk _ _ _ _ _ hL h.2.2.2.2.2.2.2.2.2⟩)
theorem cy_irem : cx_Lo cx_irem := by
  intro E P t pc L' L st M S1 hL h
  unfold cx_irem at h ⊢
  dsimp only at h ⊢
  split at h <;> (first | (cases h; done) | (cases h; exact ⟨_, hL, rfl⟩))
theorem cl_ineg : cm_Lo cm_ineg := by
  intro E P t pc L' L st M k' k hL hk h
  unfold cm_ineg at h ⊢
  dsimp only at h ⊢
  split at h <;> (first | exact h.elim | exact hk _ _ _ _ _ hL h | exact ⟨h.1, hk _ _ _ _ _ hL h.2⟩ | exact ⟨h.1, h.2.1, hk _ _ _ _ _ hL h.2.2⟩ | exact ⟨h.1, h.2.1, h.2.2.1, hk _ _ _ _ _ hL h.2.2.2⟩ | exact ⟨h.1, h.2.1, h.2.2.1, h.2.2.2.1, hk _ _ _ _ _ hL h.2.2.2.2⟩ | exact ⟨h.1, h.2.1, h.2.2.1, h.2.2.2.1, h.2.2.2.2.1, hk _ _ _ _ _ hL h.2.2.2.2.2⟩ | exact ⟨h.1, h.2.1, h.2.2.1, h.2.2.2.1, h.2.2.2.2.1, h.2.2.2.2.2.1, hk _ _ _ _ _ hL h.2.2.2.2.2.2⟩ | exact ⟨h.1, h.2.1, h.2.2.1, h.2.2.2.1, h.2.2.2.2.1, h.2.2.2.2.2.1, h.2.2.2.2.2.2.1, hk _ _ _ _ _ hL h.2.2.2.2.2.2.2⟩ | exact ⟨h.1, h.2.1, h.2.2.1, h.2.2.2.1, h.2.2.2.2.1, h.2.2.2.2.2.1, h.2.2.2.2.2.2.1, h.2.2.2.2.2.2.2.1, hk _ _ _ _ _ hL h.2.2.2.2.2.2.2.2⟩ | exact ⟨h.1, h.2.1, h.2.2.1, h.2.2.2.1, h.2.2.2.2.1, h.2.2.2.2.2.1, h.2.2.2.2.2.2.1, h.2.2.2.2.2.2.2.1, h.2.2.2.2.2.2.2.2.1, hk _ _ _ _ _ hL h.2.2.2.2.2.2.2.2.2⟩)
theorem cy_ineg : cx_Lo cx_ineg := by
  intro E P t pc L' L st M S1 hL h
  unfold cx_ineg at h ⊢
  dsimp only at h ⊢
  split at h <;> (first | (cases h; done) | (cases h; exact ⟨_, hL, rfl⟩))
theorem cl_i2b : cm_Lo cm_i2b := by
  intro E P t pc L' L st M k' k hL hk h
  unfold cm_i2b at h ⊢
  dsimp only at h ⊢
  split at h <;> (first | exact h.elim | exact hk _ _ _ _ _ hL h | exact ⟨h.1, hk _ _ _ _ _ hL h.2⟩ | exact ⟨h.1, h.2.1, hk _ _ _ _ _ hL h.2.2⟩ | exact ⟨h.1, h.2.1, h.2.2.1, hk _ _ _ _ _ hL h.2.2.2⟩ | exact ⟨h.1, h.2.1, h.2.2.1, h.2.2.2.1, hk _ _ _ _ _ hL h.2.2.2.2⟩ | exact ⟨h.1, h.2.1, h.2.2.1, h.2.2.2.1, h.2.2.2.2.1, hk _ _ _ _ _ hL h.2.2.2.2.2⟩ | exact ⟨h.1, h.2.1, h.2.2.1, h.2.2.2.1, h.2.2.2.2.1, h.2.2.2.2.2.1, hk _ _ _ _ _ hL h.2.2.2.2.2.2⟩ | exact ⟨h.1, h.2.1, h.2.2.1, h.2.2.2.1, h.2.2.2.2.1, h.2.2.2.2.2.1, h.2.2.2.2.2.2.1, hk _ _ _ _ _ hL h.2.2.2.2.2.2.2⟩ | exact ⟨h.1, h.2.1, h.2.2.1, h.2.2.2.1, h.2.2.2.2.1, h.2.2.2.2.2.1, h.2.2.2.2.2.2.1, h.2.2.2.2.2.2.2.1, hk _ _ _ _ _ hL h.2.2.2.2.2.2.2.2⟩ | exact ⟨h.1, h.2.1, h.2.2.1, h.2.2.2.1, h.2.2.2.2.1, h.2.2.2.2.2.1, h.2.2.2.2.2.2.1, h.2.2.2.2.2.2.2.1, h.2.2.2.2.2.2.2.2.1, hk _ _ _ _ _ hL h.2.2.2.2.2.2.2.2.2⟩)
theorem cy_i2b : cx_Lo cx_i2b := by
  intro E P t pc L' L st M S1 hL h
  unfold cx_i2b at h ⊢
  dsimp only at h ⊢
  split at h <;> (first | (cases h; done) | (cases h; exact ⟨_, hL, rfl⟩))
theorem cl_i2l : cm_Lo cm_i2l := by
  intro E P t pc L' L st M k' k hL hk h
  unfold cm_i2l at h ⊢
  dsimp only at h ⊢
  split at h <;> (first | exact h.elim | exact hk _ _ _ _ _ hL h | exact ⟨h.1, hk _ _ _ _ _ hL h.2⟩ | exact ⟨h.1, h.2.1, hk _ _ _ _ _ hL h.2.2⟩ | exact ⟨h.1, h.2.1, h.2.2.1, hk _ _ _ _ _ hL h.2.2.2⟩ | exact ⟨h.1, h.2.1, h.2.2.1, h.2.2.2.1, hk _ _ _ _ _ hL h.2.2.2.2⟩ | exact ⟨h.1, h.2.1, h.2.2.1, h.2.2.2.1, h.2.2.2.2.1, hk _ _ _ _ _ hL h.2.2.2.2.2⟩ | exact ⟨h.1, h.2.1, h.2.2.1, h.2.2.2.1, h.2.2.2.2.1, h.2.2.2.2.2.1, hk _ _ _ _ _ hL h.2.2.2.2.2.2⟩ | exact ⟨h.1, h.2.1, h.2.2.1, h.2.2.2.1, h.2.2.2.2.1, h.2.2.2.2.2.1, h.2.2.2.2.2.2.1, hk _ _ _ _ _ hL h.2.2.2.2.2.2.2⟩ | exact ⟨h.1, h.2.1, h.2.2.1, h.2.2.2.1, h.2.2.2.2.1, h.2.2.2.2.2.1, h.2.2.2.2.2.2.1, h.2.2.2.2.2.2.2.1, hk _ _ _ _ _ hL h.2.2.2.2.2.2.2.2⟩ | exact ⟨h.1, h.2.1, h.2.2.1, h.2.2.2.1, h.2.2.2.2.1, h.2.2.2.2.2.1, h.2.2.2.2.2.2.1, h.2.2.2.2.2.2.2.1, h.2.2.2.2.2.2.2.2.1, hk _ _ _ _ _ hL h.2.2.2.2.2.2.2.2.2⟩)
theorem cy_i2l : cx_Lo cx_i2l := by
  intro E P t pc L' L st M S1 hL h
  unfold cx_i2l at h ⊢
  dsimp only at h ⊢
  split at h <;> (first | (cases h; done) | (cases h; exact ⟨_, hL, rfl⟩))
theorem cl_lcmp : cm_Lo cm_lcmp := by
  intro E P t pc L' L st M k' k hL hk h
  unfold cm_lcmp at h ⊢
  dsimp only at h ⊢
  split at h <;> (first | exact h.elim | exact hk _ _ _ _ _ hL h | exact ⟨h.1, hk _ _ _ _ _ hL h.2⟩ | exact ⟨h.1, h.2.1, hk _ _ _ _ _ hL h.2.2⟩ | exact ⟨h.1, h.2.1, h.2.2.1, hk _ _ _ _ _ hL h.2.2.2⟩ | exact ⟨h.1, h.2.1, h.2.2.1, h.2.2.2.1, hk _ _ _ _ _ hL h.2.2.2.2⟩ | exact ⟨h.1, h.2.1, h.2.2.1, h.2.2.2.1, h.2.2.2.2.1, hk _ _ _ _ _ hL h.2.2.2.2.2⟩ | exact ⟨h.1, h.2.1, h.2.2.1, h.2.2.2.1, h.2.2.2.2.1, h.2.2.2.2.2.1, hk _ _ _ _ _ hL h.2.2.2.2.2.2⟩ | exact ⟨h.1, h.2.1, h.2.2.1, h.2.2.2.1, h.2.2.2.2.1, h.2.2.2.2.2.1, h.2.2.2.2.2.2.1, hk _ _ _ _ _ hL h.2.2.2.2.2.2.2⟩ | exact ⟨h.1, h.2.1, h.2.2.1, h.2.2.2.1, h.2.2.2.2.1, h.2.2.2.2.2.1, h.2.2.2.2.2.2.1, h.2.2.2.2.2.2.2.1, hk _ _ _ _ _ hL h.2.2.2.2.2.2.2.2⟩ | exact ⟨h.1, h.2.1, h.2.2.1, h.2.2.2.1, h.2.2.2.2.1, h.2.2.2.2.2.1, h.2.2.2.2.2.2.1, h.2.2.2.2.2.2.2.1, h.2.2.2.2.2.2.2.2.1, hk _ _ _ _ _ hL h.2.2.2.2.2.2.2.2.2⟩)
theorem cy_lcmp : cx_Lo cx_lcmp := by
  intro E P t pc L' L st M S1 hL h
  unfold cx_lcmp at h ⊢
  dsimp only at h ⊢
  split at h <;> (first | (cases h; done) | (cases h; exact ⟨_, hL, rfl⟩))
theorem cl_dup : cm_Lo cm_dup := by
  intro E P t pc L' L st M k' k hL hk h
  unfold cm_dup at h ⊢
  dsimp only at h ⊢
  split at h <;> (first | exact h.elim | exact hk _ _ _ _ _ hL h | exact ⟨h.1, hk _ _ _ _ _ hL h.2⟩ | exact ⟨h.1, h.2.1, hk _ _ _ _ _ hL h.2.2⟩ | exact ⟨h.1, h.2.1, h.2.2.1, hk _ _ _ _ _ hL h.2.2.2⟩ | exact ⟨h.1, h.2.1, h.2.2.1, h.2.2.2.1, hk _ _ _ _ _ hL h.2.2.2.2⟩ | exact ⟨h.1, h.2.1, h.2.2.1, h.2.2.2.1, h.2.2.2.2.1, hk _ _ _ _ _ hL h.2.2.2.2.2⟩ | exact ⟨h.1, h.2.1, h.2.2.1, h.2.2.2.1, h.2.2.2.2.1, h.2.2.2.2.2.1, hk _ _ _ _ _ hL h.2.2.2.2.2.2⟩ | exact ⟨h.1, h.2.1, h.2.2.1, h.2.2.2.1, h.2.2.2.2.1, h.2.2.2.2.2.1, h.2.2.2.2.2.2.1, hk _ _ _ _ _ hL h.2.2.2.2.2.2.2⟩ | exact ⟨h.1, h.2.1, h.2.2.1, h.2.2.2.1, h.2.2.2.2.1, h.2.2.2.2.2.1, h.2.2.2.2.2.2.1, h.2.2.2.2.2.2.2.1, hk _ _ _ _ _ hL h.2.2.2.2.2.2.2.2⟩ | exact ⟨h.1, h.2.1, h.2.2.1, h.2.2.2.1, h.2.2.2.2.1, h.2.2.2.2.2.1, h.2.2.2.2.2.2.1, h.2.2.2.2.2.2.2.1, h.2.2.2.2.2.2.2.2.1, hk _ _ _ _ _ hL h.2.2.2.2.2.2.2.2.2⟩)
theorem cy_dup : cx_Lo cx_dup := by
  intro E P t pc L' L st M S1 hL h
  unfold cx_dup at h ⊢
  dsimp only at h ⊢
  split at h <;> (first | (cases h; done) | (cases h; exact ⟨_, hL, rfl⟩))
theorem cl_pop : cm_Lo cm_pop := by
  intro E P t pc L' L st M k' k hL hk h
  unfold cm_pop at h ⊢
  dsimp only at h ⊢
  split at h <;> (first | exact h.elim | exact hk _ _ _ _ _ hL h | exact ⟨h.1, hk _ _ _ _ _ hL h.2⟩ | exact ⟨h.1, h.2.1, hk _ _ _ _ _ hL h.2.2⟩ | exact ⟨h.1, h.2.1, h.2.2.1, hk _ _ _ _ _ hL h.2.2.2⟩ | exact ⟨h.1, h.2.1, h.2.2.1, h.2.2.2.1, hk _ _ _ _ _ hL h.2.2.2.2⟩ | exact ⟨h.1, h.2.1, h.2.2.1, h.2.2.2.1, h.2.2.2.2.1, hk _ _ _ _ _ hL h.2.2.2.2.2⟩ | exact ⟨h.1, h.2.1, h.2.2.1, h.2.2.2.1, h.2.2.2.2.1, h.2.2.2.2.2.1, hk _ _ _ _ _ hL h.2.2.2.2.2.2⟩ | exact ⟨h.1, h.2.1, h.2.2.1, h.2.2.2.1, h.2.2.2.2.1, h.2.2.2.2.2.1, h.2.2.2.2.2.2.1, hk _ _ _ _ _ hL h.2.2.2.2.2.2.2⟩ | exact ⟨h.1, h.2.1, h.2.2.1, h.2.2.2.1, h.2.2.2.2.1, h.2.2.2.2.2.1, h.2.2.2.2.2.2.1, h.2.2.2.2.2.2.2.1, hk _ _ _ _ _ hL h.2.2.2.2.2.2.2.2⟩ | exact ⟨h.1, h.2.1, h.2.2.1, h.2.2.2.1, h.2.2.2.2.1, h.2.2.2.2.2.1, h.2.2.2.2.2.2.1, h.2.2.2.2.2.2.2.1, h.2.2.2.2.2.2.2.2.1, hk _ _ _ _ _ hL h.2.2.2.2.2.2.2.2.2⟩)
theorem cy_pop : cx_Lo cx_pop := by
  intro E P t pc L' L st M S1 hL h
  unfold cx_pop at h ⊢
  dsimp only at h ⊢
  split at h <;> (first | (cases h; done) | (cases h; exact ⟨_, hL, rfl⟩))
theorem cl_dup2 : cm_Lo cm_dup2 := by
  intro E P t pc L' L st M k' k hL hk h
  unfold cm_dup2 at h ⊢
  dsimp only at h ⊢
  split at h <;> (first | exact h.elim | exact hk _ _ _ _ _ hL h | exact ⟨h.1, hk _ _ _ _ _ hL h.2⟩ | exact ⟨h.1, h.2.1, hk _ _ _ _ _ hL h.2.2⟩ | exact ⟨h.1, h.2.1, h.2.2.1, hk _ _ _ _ _ hL h.2.2.2⟩ | exact ⟨h.1, h.2.1, h.2.2.1, h.2.2.2.1, hk _ _ _ _ _ hL h.2.2.2.2⟩ | exact ⟨h.1, h.2.1, h.2.2.1, h.2.2.2.1, h.2.2.2.2.1, hk _ _ _ _ _ hL h.2.2.2.2.2⟩ | exact ⟨h.1, h.2.1, h.2.2.1, h.2.2.2.1, h.2.2.2.2.1, h.2.2.2.2.2.1, hk _ _ _ _ _ hL h.2.2.2.2.2.2⟩ | exact ⟨h.1, h.2.1, h.2.2.1, h.2.2.2.1, h.2.2.2.2.1, h.2.2.2.2.2.1, h.2.2.2.2.2.2.1, hk _ _ _ _ _ hL h.2.2.2.2.2.2.2⟩ | exact ⟨h.1, h.2.1, h.2.2.1, h.2.2.2.1, h.2.2.2.2.1, h.2.2.2.2.2.1, h.2.2.2.2.2.2.1, h.2.2.2.2.2.2.2.1, hk _ _ _ _ _ hL h.2.2.2.2.2.2.2.2⟩ | exact ⟨h.1, h.2.1, h.2.2.1, h.2.2.2.1, h.2.2.2.2.1, h.2.2.2.2.2.1, h.2.2.2.2.2.2.1, h.2.2.2.2.2.2.2.1, h.2.2.2.2.2.2.2.2.1, hk _ _ _ _ _ hL h.2.2.2.2.2.2.2.2.2⟩)
theorem cy_dup2 : cx_Lo cx_dup2 := by
  intro E P t pc L' L st M S1 hL h
  unfold cx_dup2 at h ⊢
  dsimp only at h ⊢
  split at h <;> (first | (cases h; done) | (cases h; exact ⟨_, hL, rfl⟩))
theorem cl_iinc : cm_Lo cm_iinc := by
  intro E P t pc L' L st M k' k hL hk h
  unfold cm_iinc at h ⊢
  dsimp only at h ⊢
  split at h
  · rename_i x hx
    rw [hL.2 _ _ hx]
    exact ⟨h.1, hk _ _ _ _ _ (cm_le_1 _ _ hL) h.2⟩
  · exact h.elim
theorem cy_iinc : cx_Lo cx_iinc := by
  intro E P t pc L' L st M S1 hL h
  unfold cx_iinc at h ⊢
  dsimp only at h ⊢
  split at h
  · rename_i x hx
    cases h
    rw [hL.2 _ _ hx]
    exact ⟨_, cm_le_1 _ _ hL, rfl⟩
  · cases h
theorem cl_icmp_eq : cm_Lo cm_icmp_eq := by
  intro E P t pc L' L st M k' k hL hk h
  unfold cm_icmp_eq at h ⊢
  dsimp only at h ⊢
  split at h
  · exact ⟨h.1, fun z => hk _ _ _ _ _ hL (h.2.1 z), fun z => hk _ _ _ _ _ hL (h.2.2 z)⟩
  · exact h.elim
theorem cy_icmp_eq : cx_Lo cx_icmp_eq := by
  intro E P t pc L' L st M S1 hL h
  unfold cx_icmp_eq at h ⊢
  dsimp only at h ⊢
  split at h
  · rename_i y x st'
    cases hc : ev_cmp 0 x y with
    | true =>
      rw [hc, if_pos rfl] at h
      cases h
      exact ⟨L, hL, by rw [if_pos rfl]⟩
    | false =>
      rw [hc, if_neg (by decide)] at h
      cases h
      exact ⟨L, hL, by rw [if_neg (by decide)]⟩
  · cases h
theorem cl_icmp_ne : cm_Lo cm_icmp_ne := by
  intro E P t pc L' L st M k' k hL hk h
  unfold cm_icmp_ne at h ⊢
  dsimp only at h ⊢
  split at h
  · exact ⟨h.1, fun z => hk _ _ _ _ _ hL (h.2.1 z), fun z => hk _ _ _ _ _ hL (h.2.2 z)⟩
  · exact h.elim
theorem cy_icmp_ne : cx_Lo cx_icmp_ne := by
  intro E P t pc L' L st M S1 hL h
  unfold cx_icmp_ne at h ⊢
  dsimp only at h ⊢
  split at h
  · rename_i y x st'
    cases hc : ev_cmp 1 x y with
    | true =>
      rw [hc, if_pos rfl] at h
      cases h
      exact ⟨L, hL, by rw [if_pos rfl]⟩
    | false =>
      rw [hc, if_neg (by decide)] at h
      cases h
      exact ⟨L, hL, by rw [if_neg (by decide)]⟩
  · cases h
theorem cl_icmp_lt : cm_Lo cm_icmp_lt := by
  intro E P t pc L' L st M k' k hL hk h
  unfold cm_icmp_lt at h ⊢
  dsimp only at h ⊢
  split at h
  · exact ⟨h.1, fun z => hk _ _ _ _ _ hL (h.2.1 z), fun z => hk _ _ _ _ _ hL (h.2.2 z)⟩
  · exact h.elim
theorem cy_icmp_lt : cx_Lo cx_icmp_lt := by
  intro E P t pc L' L st M S1 hL h
  unfold cx_icmp_lt at h ⊢
  dsimp only at h ⊢
  split at h
  · rename_i y x st'
    cases hc : ev_cmp 2 x y with
    | true =>
      rw [hc, if_pos rfl] at h
      cases h
      exact ⟨L, hL, by rw [if_pos rfl]⟩
    | false =>
      rw [hc, if_neg (by decide)] at h
      cases h
      exact ⟨L, hL, by rw [if_neg (by decide)]⟩
  · cases h
theorem cl_icmp_ge : cm_Lo cm_icmp_ge := by
  intro E P t pc L' L st M k' k hL hk h
  unfold cm_icmp_ge at h ⊢
  dsimp only at h ⊢
  split at h
  · exact ⟨h.1, fun z => hk _ _ _ _ _ hL (h.2.1 z), fun z => hk _ _ _ _ _ hL (h.2.2 z)⟩
  · exact h.elim
theorem cy_icmp_ge : cx_Lo cx_icmp_ge := by
  intro E P t pc L' L st M S1 hL h
  unfold cx_icmp_ge at h ⊢
  dsimp only at h ⊢
  split at h
  · rename_i y x st'
    cases hc : ev_cmp 3 x y with
    | true =>
      rw [hc, if_pos rfl] at h
      cases h
      exact ⟨L, hL, by rw [if_pos rfl]⟩
    | false =>
      rw [hc, if_neg (by decide)] at h
      cases h
      exact ⟨L, hL, by rw [if_neg (by decide)]⟩
  · cases h
theorem cl_icmp_gt : cm_Lo cm_icmp_gt := by
  intro E P t pc L' L st M k' k hL hk h
  unfold cm_icmp_gt at h ⊢
  dsimp only at h ⊢
  split at h
  · exact ⟨h.1, fun z => hk _ _ _ _ _ hL (h.2.1 z), fun z => hk _ _ _ _ _ hL (h.2.2 z)⟩
  · exact h.elim
theorem cy_icmp_gt : cx_Lo cx_icmp_gt := by
  intro E P t pc L' L st M S1 hL h
  unfold cx_icmp_gt at h ⊢
  dsimp only at h ⊢
  split at h
  · rename_i y x st'
    cases hc : ev_cmp 4 x y with
    | true =>
      rw [hc, if_pos rfl] at h
      cases h
      exact ⟨L, hL, by rw [if_pos rfl]⟩
    | false =>
      rw [hc, if_neg (by decide)] at h
      cases h
      exact ⟨L, hL, by rw [if_neg (by decide)]⟩
  · cases h
theorem cl_icmp_le : cm_Lo cm_icmp_le := by
  intro E P t pc L' L st M k' k hL hk h
  unfold cm_icmp_le at h ⊢
  dsimp only at h ⊢
  split at h
  · exact ⟨h.1, fun z => hk _ _ _ _ _ hL (h.2.1 z), fun z => hk _ _ _ _ _ hL (h.2.2 z)⟩
  · exact h.elim
theorem cy_icmp_le : cx_Lo cx_icmp_le := by
  intro E P t pc L' L st M S1 hL h
  unfold cx_icmp_le at h ⊢
  dsimp only at h ⊢
  split at h
  · rename_i y x st'
    cases hc : ev_cmp 5 x y with
    | true =>
      rw [hc, if_pos rfl] at h
      cases h
      exact ⟨L, hL, by rw [if_pos rfl]⟩
    | false =>
      rw [hc, if_neg (by decide)] at h
      cases h
      exact ⟨L, hL, by rw [if_neg (by decide)]⟩
  · cases h
theorem cl_if_eq : cm_Lo cm_if_eq := by
  intro E P t pc L' L st M k' k hL hk h
  unfold cm_if_eq at h ⊢
  dsimp only at h ⊢
  split at h
  · exact ⟨h.1, fun z => hk _ _ _ _ _ hL (h.2.1 z), fun z => hk _ _ _ _ _ hL (h.2.2 z)⟩
  · exact h.elim
theorem cy_if_eq : cx_Lo cx_if_eq := by
  intro E P t pc L' L st M S1 hL h
  unfold cx_if_eq at h ⊢
  dsimp only at h ⊢
  split at h
  · rename_i x st'
    cases hc : ev_cmp 0 x 0 with
    | true =>
      rw [hc, if_pos rfl] at h
      cases h
      exact ⟨L, hL, by rw [if_pos rfl]⟩
    | false =>
      rw [hc, if_neg (by decide)] at h
      cases h
      exact ⟨L, hL, by rw [if_neg (by decide)]⟩
  · cases h
theorem cl_if_ne : cm_Lo cm_if_ne := by
  intro E P t pc L' L st M k' k hL hk h
  unfold cm_if_ne at h ⊢
  dsimp only at h ⊢
  split at h
  · exact ⟨h.1, fun z => hk _ _ _ _ _ hL (h.2.1 z), fun z => hk _ _ _ _ _ hL (h.2.2 z)⟩
  · exact h.elim
theorem cy_if_ne : cx_Lo cx_if_ne := by
  intro E P t pc L' L st M S1 hL h
  unfold cx_if_ne at h ⊢
  dsimp only at h ⊢
  split at h
  · rename_i x st'
    cases hc : ev_cmp 1 x 0 with
    | true =>
      rw [hc, if_pos rfl] at h
      cases h
      exact ⟨L, hL, by rw [if_pos rfl]⟩
    | false =>
      rw [hc, if_neg (by decide)] at h
      cases h
      exact ⟨L, hL, by rw [if_neg (by decide)]⟩
  · cases h
theorem cl_if_lt : cm_Lo cm_if_lt := by
  intro E P t pc L' L st M k' k hL hk h
  unfold cm_if_lt at h ⊢
  dsimp only at h ⊢
  split at h
  · exact ⟨h.1, fun z => hk _ _ _ _ _ hL (h.2.1 z), fun z => hk _ _ _ _ _ hL (h.2.2 z)⟩
  · exact h.elim
theorem cy_if_lt : cx_Lo cx_if_lt := by
  intro E P t pc L' L st M S1 hL h
  unfold cx_if_lt at h ⊢
  dsimp only at h ⊢
  split at h
  · rename_i x st'
    cases hc : ev_cmp 2 x 0 with
    | true =>
      rw [hc, if_pos rfl] at h
      cases h
      exact ⟨L, hL, by rw [if_pos rfl]⟩
    | false =>
      rw [hc, if_neg (by decide)] at h
      cases h
      exact ⟨L, hL, by rw [if_neg (by decide)]⟩
  · cases h
theorem cl_if_ge : cm_Lo cm_if_ge := by
  intro E P t pc L' L st M k' k hL hk h
  unfold cm_if_ge at h ⊢
  dsimp only at h ⊢
  split at h
  · exact ⟨h.1, fun z => hk _ _ _ _ _ hL (h.2.1 z), fun z => hk _ _ _ _ _ hL (h.2.2 z)⟩
  · exact h.elim
theorem cy_if_ge : cx_Lo cx_if_ge := by
  intro E P t pc L' L st M S1 hL h
  unfold cx_if_ge at h ⊢
  dsimp only at h ⊢
  split at h
  · rename_i x st'
    cases hc : ev_cmp 3 x 0 with
    | true =>
      rw [hc, if_pos rfl] at h
      cases h
      exact ⟨L, hL, by rw [if_pos rfl]⟩
    | false =>
      rw [hc, if_neg (by decide)] at h
      cases h
      exact ⟨L, hL, by rw [if_neg (by decide)]⟩
  · cases h
theorem cl_if_gt : cm_Lo cm_if_gt := by
  intro E P t pc L' L st M k' k hL hk h
  unfold cm_if_gt at h ⊢
  dsimp only at h ⊢
  split at h
  · exact ⟨h.1, fun z => hk _ _ _ _ _ hL (h.2.1 z), fun z => hk _ _ _ _ _ hL (h.2.2 z)⟩
  · exact h.elim
theorem cy_if_gt : cx_Lo cx_if_gt := by
  intro E P t pc L' L st M S1 hL h
  unfold cx_if_gt at h ⊢
  dsimp only at h ⊢
  split at h
  · rename_i x st'
    cases hc : ev_cmp 4 x 0 with
    | true =>
      rw [hc, if_pos rfl] at h
      cases h
      exact ⟨L, hL, by rw [if_pos rfl]⟩
    | false =>
      rw [hc, if_neg (by decide)] at h
      cases h
      exact ⟨L, hL, by rw [if_neg (by decide)]⟩
  · cases h
theorem cl_if_le : cm_Lo cm_if_le := by
  intro E P t pc L' L st M k' k hL hk h
  unfold cm_if_le at h ⊢
  dsimp only at h ⊢
  split at h
  · exact ⟨h.1, fun z => hk _ _ _ _ _ hL (h.2.1 z), fun z => hk _ _ _ _ _ hL (h.2.2 z)⟩
  · exact h.elim
theorem cy_if_le : cx_Lo cx_if_le := by
  intro E P t pc L' L st M S1 hL h
  unfold cx_if_le at h ⊢
  dsimp only at h ⊢
  split at h
  · rename_i x st'
    cases hc : ev_cmp 5 x 0 with
    | true =>
      rw [hc, if_pos rfl] at h
      cases h
      exact ⟨L, hL, by rw [if_pos rfl]⟩
    | false =>
      rw [hc, if_neg (by decide)] at h
      cases h
      exact ⟨L, hL, by rw [if_neg (by decide)]⟩
  · cases h
theorem cl_goto : cm_Lo cm_goto := by
  intro E P t pc L' L st M k' k hL hk h
  unfold cm_goto at h ⊢
  dsimp only at h ⊢
  first | exact h.elim | exact hk _ _ _ _ _ hL h | exact ⟨h.1, hk _ _ _ _ _ hL h.2⟩ | exact ⟨h.1, h.2.1, hk _ _ _ _ _ hL h.2.2⟩ | exact ⟨h.1, h.2.1, h.2.2.1, hk _ _ _ _ _ hL h.2.2.2⟩ | exact ⟨h.1, h.2.1, h.2.2.1, h.2.2.2.1, hk _ _ _ _ _ hL h.2.2.2.2⟩ | exact ⟨h.1, h.2.1, h.2.2.1, h.2.2.2.1, h.2.2.2.2.1, hk _ _ _ _ _ hL h.2.2.2.2.2⟩ | exact ⟨h.1, h.2.1, h.2.2.1, h.2.2.2.1, h.2.2.2.2.1, h.2.2.2.2.2.1, hk _ _ _ _ _ hL h.2.2.2.2.2.2⟩ | exact ⟨h.1, h.2.1, h.2.2.1, h.2.2.2.1, h.2.2.2.2.1, h.2.2.2.2.2.1, h.2.2.2.2.2.2.1, hk _ _ _ _ _ hL h.2.2.2.2.2.2.2⟩ | exact ⟨h.1, h.2.1, h.2.2.1, h.2.2.2.1, h.2.2.2.2.1, h.2.2.2.2.2.1, h.2.2.2.2.2.2.1, h.2.2.2.2.2.2.2.1, hk _ _ _ _ _ hL h.2.2.2.2.2.2.2.2⟩ | exact ⟨h.1, h.2.1, h.2.2.1, h.2.2.2.1, h.2.2.2.2.1, h.2.2.2.2.2.1, h.2.2.2.2.2.2.1, h.2.2.2.2.2.2.2.1, h.2.2.2.2.2.2.2.2.1, hk _ _ _ _ _ hL h.2.2.2.2.2.2.2.2.2⟩
theorem cy_goto : cx_Lo cx_goto := by
  intro E P t pc L' L st M S1 hL h
  have h : some _ = some S1 := h
  cases h
  exact ⟨_, hL, rfl⟩
theorem cl_sw : cm_Lo cm_sw := by
  intro E P t pc L' L st M k' k hL hk h
  unfold cm_sw at h ⊢
  dsimp only at h ⊢
  split at h
  · exact ⟨h.1, h.2.1, h.2.2.1, fun q => hk _ _ _ _ _ hL (h.2.2.2.1 q), fun j o q1 q2 => hk _ _ _ _ _ hL (h.2.2.2.2 j o q1 q2)⟩
  · exact h.elim
theorem cy_sw : cx_Lo cx_sw := by
  intro E P t pc L' L st M S1 hL h
  unfold cx_sw at h ⊢
  dsimp only at h ⊢
  split at h
  · rename_i y offs x st' ht
    by_cases hc : x.toInt < t.2.1 ∨ t.2.2.1 < x.toInt
    · rw [if_pos hc] at h
      cases h
      exact ⟨L, hL, by (try rw [ht]); (try dsimp only); rw [if_pos hc]⟩
    · rw [if_neg hc] at h
      split at h
      · rename_i o ho
        cases h
        exact ⟨L, hL, by (try rw [ht]); (try dsimp only); rw [if_neg hc]⟩
      · cases h
  · cases h
theorem cl_get : cm_Lo cm_get := by
  intro E P t pc L' L st M k' k hL hk h
  unfold cm_get at h ⊢
  dsimp only at h ⊢
  split at h <;> (first | exact h.elim | exact hk _ _ _ _ _ hL h | exact ⟨h.1, hk _ _ _ _ _ hL h.2⟩ | exact ⟨h.1, h.2.1, hk _ _ _ _ _ hL h.2.2⟩ | exact ⟨h.1, h.2.1, h.2.2.1, hk _ _ _ _ _ hL h.2.2.2⟩ | exact ⟨h.1, h.2.1, h.2.2.1, h.2.2.2.1, hk _ _ _ _ _ hL h.2.2.2.2⟩ | exact ⟨h.1, h.2.1, h.2.2.1, h.2.2.2.1, h.2.2.2.2.1, hk _ _ _ _ _ hL h.2.2.2.2.2⟩ | exact ⟨h.1, h.2.1, h.2.2.1, h.2.2.2.1, h.2.2.2.2.1, h.2.2.2.2.2.1, hk _ _ _ _ _ hL h.2.2.2.2.2.2⟩ | exact ⟨h.1, h.2.1, h.2.2.1, h.2.2.2.1, h.2.2.2.2.1, h.2.2.2.2.2.1, h.2.2.2.2.2.2.1, hk _ _ _ _ _ hL h.2.2.2.2.2.2.2⟩ | exact ⟨h.1, h.2.1, h.2.2.1, h.2.2.2.1, h.2.2.2.2.1, h.2.2.2.2.2.1, h.2.2.2.2.2.2.1, h.2.2.2.2.2.2.2.1, hk _ _ _ _ _ hL h.2.2.2.2.2.2.2.2⟩ | exact ⟨h.1, h.2.1, h.2.2.1, h.2.2.2.1, h.2.2.2.2.1, h.2.2.2.2.2.1, h.2.2.2.2.2.2.1, h.2.2.2.2.2.2.2.1, h.2.2.2.2.2.2.2.2.1, hk _ _ _ _ _ hL h.2.2.2.2.2.2.2.2.2⟩)
theorem cy_get : cx_Lo cx_get := by
  intro E P t pc L' L st M S1 hL h
  unfold cx_get at h ⊢
  dsimp only at h ⊢
  split at h <;> (first | (cases h; done) | (cases h; exact ⟨_, hL, rfl⟩))
theorem cl_put : cm_Lo cm_put := by
  intro E P t pc L' L st M k' k hL hk h
  unfold cm_put at h ⊢
  dsimp only at h ⊢
  split at h <;> (first | exact h.elim | exact hk _ _ _ _ _ hL h | exact ⟨h.1, hk _ _ _ _ _ hL h.2⟩ | exact ⟨h.1, h.2.1, hk _ _ _ _ _ hL h.2.2⟩ | exact ⟨h.1, h.2.1, h.2.2.1, hk _ _ _ _ _ hL h.2.2.2⟩ | exact ⟨h.1, h.2.1, h.2.2.1, h.2.2.2.1, hk _ _ _ _ _ hL h.2.2.2.2⟩ | exact ⟨h.1, h.2.1, h.2.2.1, h.2.2.2.1, h.2.2.2.2.1, hk _ _ _ _ _ hL h.2.2.2.2.2⟩ | exact ⟨h.1, h.2.1, h.2.2.1, h.2.2.2.1, h.2.2.2.2.1, h.2.2.2.2.2.1, hk _ _ _ _ _ hL h.2.2.2.2.2.2⟩ | exact ⟨h.1, h.2.1, h.2.2.1, h.2.2.2.1, h.2.2.2.2.1, h.2.2.2.2.2.1, h.2.2.2.2.2.2.1, hk _ _ _ _ _ hL h.2.2.2.2.2.2.2⟩ | exact ⟨h.1, h.2.1, h.2.2.1, h.2.2.2.1, h.2.2.2.2.1, h.2.2.2.2.2.1, h.2.2.2.2.2.2.1, h.2.2.2.2.2.2.2.1, hk _ _ _ _ _ hL h.2.2.2.2.2.2.2.2⟩ | exact ⟨h.1, h.2.1, h.2.2.1, h.2.2.2.1, h.2.2.2.2.1, h.2.2.2.2.2.1, h.2.2.2.2.2.2.1, h.2.2.2.2.2.2.2.1, h.2.2.2.2.2.2.2.2.1, hk _ _ _ _ _ hL h.2.2.2.2.2.2.2.2.2⟩)
theorem cy_put : cx_Lo cx_put := by
  intro E P t pc L' L st M S1 hL h
  unfold cx_put at h ⊢
  dsimp only at h ⊢
  split at h <;> (first | (cases h; done) | (cases h; exact ⟨_, hL, rfl⟩))
theorem cl_iaload : cm_Lo cm_iaload := by
  intro E P t pc L' L st M k' k hL hk h
  unfold cm_iaload at h ⊢
  dsimp only at h ⊢
  split at h <;> (first | exact h.elim | exact hk _ _ _ _ _ hL h | exact ⟨h.1, hk _ _ _ _ _ hL h.2⟩ | exact ⟨h.1, h.2.1, hk _ _ _ _ _ hL h.2.2⟩ | exact ⟨h.1, h.2.1, h.2.2.1, hk _ _ _ _ _ hL h.2.2.2⟩ | exact ⟨h.1, h.2.1, h.2.2.1, h.2.2.2.1, hk _ _ _ _ _ hL h.2.2.2.2⟩ | exact ⟨h.1, h.2.1, h.2.2.1, h.2.2.2.1, h.2.2.2.2.1, hk _ _ _ _ _ hL h.2.2.2.2.2⟩ | exact ⟨h.1, h.2.1, h.2.2.1, h.2.2.2.1, h.2.2.2.2.1, h.2.2.2.2.2.1, hk _ _ _ _ _ hL h.2.2.2.2.2.2⟩ | exact ⟨h.1, h.2.1, h.2.2.1, h.2.2.2.1, h.2.2.2.2.1, h.2.2.2.2.2.1, h.2.2.2.2.2.2.1, hk _ _ _ _ _ hL h.2.2.2.2.2.2.2⟩ | exact ⟨h.1, h.2.1, h.2.2.1, h.2.2.2.1, h.2.2.2.2.1, h.2.2.2.2.2.1, h.2.2.2.2.2.2.1, h.2.2.2.2.2.2.2.1, hk _ _ _ _ _ hL h.2.2.2.2.2.2.2.2⟩ | exact ⟨h.1, h.2.1, h.2.2.1, h.2.2.2.1, h.2.2.2.2.1, h.2.2.2.2.2.1, h.2.2.2.2.2.2.1, h.2.2.2.2.2.2.2.1, h.2.2.2.2.2.2.2.2.1, hk _ _ _ _ _ hL h.2.2.2.2.2.2.2.2.2⟩)
theorem cy_iaload : cx_Lo cx_iaload := by
  intro E P t pc L' L st M S1 hL h
  unfold cx_iaload at h ⊢
  dsimp only at h ⊢
  split at h <;> (first | (cases h; done) | (cases h; exact ⟨_, hL, rfl⟩))
theorem cl_baload : cm_Lo cm_baload := by
  intro E P t pc L' L st M k' k hL hk h
  unfold cm_baload at h ⊢
  dsimp only at h ⊢
  split at h <;> (first | exact h.elim | exact hk _ _ _ _ _ hL h | exact ⟨h.1, hk _ _ _ _ _ hL h.2⟩ | exact ⟨h.1, h.2.1, hk _ _ _ _ _ hL h.2.2⟩ | exact ⟨h.1, h.2.1, h.2.2.1, hk _ _ _ _ _ hL h.2.2.2⟩ | exact ⟨h.1, h.2.1, h.2.2.1, h.2.2.2.1, hk _ _ _ _ _ hL h.2.2.2.2⟩ | exact ⟨h.1, h.2.1, h.2.2.1, h.2.2.2.1, h.2.2.2.2.1, hk _ _ _ _ _ hL h.2.2.2.2.2⟩ | exact ⟨h.1, h.2.1, h.2.2.1, h.2.2.2.1, h.2.2.2.2.1, h.2.2.2.2.2.1, hk _ _ _ _ _ hL h.2.2.2.2.2.2⟩ | exact ⟨h.1, h.2.1, h.2.2.1, h.2.2.2.1, h.2.2.2.2.1, h.2.2.2.2.2.1, h.2.2.2.2.2.2.1, hk _ _ _ _ _ hL h.2.2.2.2.2.2.2⟩ | exact ⟨h.1, h.2.1, h.2.2.1, h.2.2.2.1, h.2.2.2.2.1, h.2.2.2.2.2.1, h.2.2.2.2.2.2.1, h.2.2.2.2.2.2.2.1, hk _ _ _ _ _ hL h.2.2.2.2.2.2.2.2⟩ | exact ⟨h.1, h.2.1, h.2.2.1, h.2.2.2.1, h.2.2.2.2.1, h.2.2.2.2.2.1, h.2.2.2.2.2.2.1, h.2.2.2.2.2.2.2.1, h.2.2.2.2.2.2.2.2.1, hk _ _ _ _ _ hL h.2.2.2.2.2.2.2.2.2⟩)
theorem cy_baload : cx_Lo cx_baload := by
  intro E P t pc L' L st M S1 hL h
  unfold cx_baload at h ⊢
  dsimp only at h ⊢
  split at h <;> (first | (cases h; done) | (cases h; exact ⟨_, hL, rfl⟩))
theorem cl_laload : cm_Lo cm_laload := by
  intro E P t pc L' L st M k' k hL hk h
  unfold cm_laload at h ⊢
  dsimp only at h ⊢
  split at h <;> (first | exact h.elim | exact hk _ _ _ _ _ hL h | exact ⟨h.1, hk _ _ _ _ _ hL h.2⟩ | exact ⟨h.1, h.2.1, hk _ _ _ _ _ hL h.2.2⟩ | exact ⟨h.1, h.2.1, h.2.2.1, hk _ _ _ _ _ hL h.2.2.2⟩ | exact ⟨h.1, h.2.1, h.2.2.1, h.2.2.2.1, hk _ _ _ _ _ hL h.2.2.2.2⟩ | exact ⟨h.1, h.2.1, h.2.2.1, h.2.2.2.1, h.2.2.2.2.1, hk _ _ _ _ _ hL h.2.2.2.2.2⟩ | exact ⟨h.1, h.2.1, h.2.2.1, h.2.2.2.1, h.2.2.2.2.1, h.2.2.2.2.2.1, hk _ _ _ _ _ hL h.2.2.2.2.2.2⟩ | exact ⟨h.1, h.2.1, h.2.2.1, h.2.2.2.1, h.2.2.2.2.1, h.2.2.2.2.2.1, h.2.2.2.2.2.2.1, hk _ _ _ _ _ hL h.2.2.2.2.2.2.2⟩ | exact ⟨h.1, h.2.1, h.2.2.1, h.2.2.2.1, h.2.2.2.2.1, h.2.2.2.2.2.1, h.2.2.2.2.2.2.1, h.2.2.2.2.2.2.2.1, hk _ _ _ _ _ hL h.2.2.2.2.2.2.2.2⟩ | exact ⟨h.1, h.2.1, h.2.2.1, h.2.2.2.1, h.2.2.2.2.1, h.2.2.2.2.2.1, h.2.2.2.2.2.2.1, h.2.2.2.2.2.2.2.1, h.2.2.2.2.2.2.2.2.1, hk _ _ _ _ _ hL h.2.2.2.2.2.2.2.2.2⟩)
theorem cy_laload : cx_Lo cx_laload := by
  intro E P t pc L' L st M S1 hL h
  unfold cx_laload at h ⊢
  dsimp only at h ⊢
  split at h <;> (first | (cases h; done) | (cases h; exact ⟨_, hL, rfl⟩))
theorem cl_aaload : cm_Lo cm_aaload := by
  intro E P t pc L' L st M k' k hL hk h
  unfold cm_aaload at h ⊢
  dsimp only at h ⊢
  split at h <;> (first | exact h.elim | exact hk _ _ _ _ _ hL h | exact ⟨h.1, hk _ _ _ _ _ hL h.2⟩ | exact ⟨h.1, h.2.1, hk _ _ _ _ _ hL h.2.2⟩ | exact ⟨h.1, h.2.1, h.2.2.1, hk _ _ _ _ _ hL h.2.2.2⟩ | exact ⟨h.1, h.2.1, h.2.2.1, h.2.2.2.1, hk _ _ _ _ _ hL h.2.2.2.2⟩ | exact ⟨h.1, h.2.1, h.2.2.1, h.2.2.2.1, h.2.2.2.2.1, hk _ _ _ _ _ hL h.2.2.2.2.2⟩ | exact ⟨h.1, h.2.1, h.2.2.1, h.2.2.2.1, h.2.2.2.2.1, h.2.2.2.2.2.1, hk _ _ _ _ _ hL h.2.2.2.2.2.2⟩ | exact ⟨h.1, h.2.1, h.2.2.1, h.2.2.2.1, h.2.2.2.2.1, h.2.2.2.2.2.1, h.2.2.2.2.2.2.1, hk _ _ _ _ _ hL h.2.2.2.2.2.2.2⟩ | exact ⟨h.1, h.2.1, h.2.2.1, h.2.2.2.1, h.2.2.2.2.1, h.2.2.2.2.2.1, h.2.2.2.2.2.2.1, h.2.2.2.2.2.2.2.1, hk _ _ _ _ _ hL h.2.2.2.2.2.2.2.2⟩ | exact ⟨h.1, h.2.1, h.2.2.1, h.2.2.2.1, h.2.2.2.2.1, h.2.2.2.2.2.1, h.2.2.2.2.2.2.1, h.2.2.2.2.2.2.2.1, h.2.2.2.2.2.2.2.2.1, hk _ _ _ _ _ hL h.2.2.2.2.2.2.2.2.2⟩)
theorem cy_aaload : cx_Lo cx_aaload := by
  intro E P t pc L' L st M S1 hL h
  unfold cx_aaload at h ⊢
  dsimp only at h ⊢
  split at h <;> (first | (cases h; done) | (cases h; exact ⟨_, hL, rfl⟩))
theorem cl_iastore : cm_Lo cm_iastore := by
  intro E P t pc L' L st M k' k hL hk h
  unfold cm_iastore at h ⊢
  dsimp only at h ⊢
  split at h <;> (first | exact h.elim | exact hk _ _ _ _ _ hL h | exact ⟨h.1, hk _ _ _ _ _ hL h.2⟩ | exact ⟨h.1, h.2.1, hk _ _ _ _ _ hL h.2.2⟩ | exact ⟨h.1, h.2.1, h.2.2.1, hk _ _ _ _ _ hL h.2.2.2⟩ | exact ⟨h.1, h.2.1, h.2.2.1, h.2.2.2.1, hk _ _ _ _ _ hL h.2.2.2.2⟩ | exact ⟨h.1, h.2.1, h.2.2.1, h.2.2.2.1, h.2.2.2.2.1, hk _ _ _ _ _ hL h.2.2.2.2.2⟩ | exact ⟨h.1, h.2.1, h.2.2.1, h.2.2.2.1, h.2.2.2.2.1, h.2.2.2.2.2.1, hk _ _ _ _ _ hL h.2.2.2.2.2.2⟩ | exact ⟨h.1, h.2.1, h.2.2.1, h.2.2.2.1, h.2.2.2.2.1, h.2.2.2.2.2.1, h.2.2.2.2.2.2.1, hk _ _ _ _ _ hL h.2.2.2.2.2.2.2⟩ | exact ⟨h.1, h.2.1, h.2.2.1, h.2.2.2.1, h.2.2.2.2.1, h.2.2.2.2.2.1, h.2.2.2.2.2.2.1, h.2.2.2.2.2.2.2.1, hk _ _ _ _ _ hL h.2.2.2.2.2.2.2.2⟩ | exact ⟨h.1, h.2.1, h.2.2.1, h.2.2.2.1, h.2.2.2.2.1, h.2.2.2.2.2.1, h.2.2.2.2.2.2.1, h.2.2.2.2.2.2.2.1, h.2.2.2.2.2.2.2.2.1, hk _ _ _ _ _ hL h.2.2.2.2.2.2.2.2.2⟩)
theorem cy_iastore : cx_Lo cx_iastore := by
  intro E P t pc L' L st M S1 hL h
  unfold cx_iastore at h ⊢
  dsimp only at h ⊢
  split at h <;> (first | (cases h; done) | (cases h; exact ⟨_, hL, rfl⟩))
theorem cl_bastore : cm_Lo cm_bastore := by
  intro E P t pc L' L st M k' k hL hk h
  unfold cm_bastore at h ⊢
  dsimp only at h ⊢
  split at h <;> (first | exact h.elim | exact hk _ _ _ _ _ hL h | exact ⟨h.1, hk _ _ _ _ _ hL h.2⟩ | exact ⟨h.1, h.2.1, hk _ _ _ _ _ hL h.2.2⟩ | exact ⟨h.1, h.2.1, h.2.2.1, hk _ _ _ _ _ hL h.2.2.2⟩ | exact ⟨h.1, h.2.1, h.2.2.1, h.2.2.2.1, hk _ _ _ _ _ hL h.2.2.2.2⟩ | exact ⟨h.1, h.2.1, h.2.2.1, h.2.2.2.1, h.2.2.2.2.1, hk _ _ _ _ _ hL h.2.2.2.2.2⟩ | exact ⟨h.1, h.2.1, h.2.2.1, h.2.2.2.1, h.2.2.2.2.1, h.2.2.2.2.2.1, hk _ _ _ _ _ hL h.2.2.2.2.2.2⟩ | exact ⟨h.1, h.2.1, h.2.2.1, h.2.2.2.1, h.2.2.2.2.1, h.2.2.2.2.2.1, h.2.2.2.2.2.2.1, hk _ _ _ _ _ hL h.2.2.2.2.2.2.2⟩ | exact ⟨h.1, h.2.1, h.2.2.1, h.2.2.2.1, h.2.2.2.2.1, h.2.2.2.2.2.1, h.2.2.2.2.2.2.1, h.2.2.2.2.2.2.2.1, hk _ _ _ _ _ hL h.2.2.2.2.2.2.2.2⟩ | exact ⟨h.1, h.2.1, h.2.2.1, h.2.2.2.1, h.2.2.2.2.1, h.2.2.2.2.2.1, h.2.2.2.2.2.2.1, h.2.2.2.2.2.2.2.1, h.2.2.2.2.2.2.2.2.1, hk _ _ _ _ _ hL h.2.2.2.2.2.2.2.2.2⟩)
theorem cy_bastore : cx_Lo cx_bastore := by
  intro E P t pc L' L st M S1 hL h
  unfold cx_bastore at h ⊢
  dsimp only at h ⊢
  split at h <;> (first | (cases h; done) | (cases h; exact ⟨_, hL, rfl⟩))
theorem cl_alen : cm_Lo cm_alen := by
  intro E P t pc L' L st M k' k hL hk h
  unfold cm_alen at h ⊢
  dsimp only at h ⊢
  split at h
  · rename_i c st'
    by_cases hc : c = 1000
    · rw [if_pos hc] at h ⊢
      cases E with
      | none => exact h.elim
      | some q => exact hk _ _ _ _ _ hL h
    · rw [if_neg hc] at h ⊢
      exact ⟨h.1, h.2.1, hk _ _ _ _ _ hL h.2.2⟩
  · exact h.elim
theorem cy_alen : cx_Lo cx_alen := by
  intro E P t pc L' L st M S1 hL h
  unfold cx_alen at h ⊢
  dsimp only at h ⊢
  split at h
  · rename_i c st'
    by_cases hc : c = 1000
    · rw [if_pos hc] at h
      cases E with
      | none => cases h
      | some q =>
        cases h
        exact ⟨L, hL, by (try dsimp only); rw [if_pos hc]; rfl⟩
    · rw [if_neg hc] at h
      cases h
      exact ⟨L, hL, by (try dsimp only); rw [if_neg hc]; rfl⟩
  · cases h
theorem cl_sald : cm_Lo cm_sald := by
  intro E P t pc L' L st M k' k hL hk h
  unfold cm_sald at h ⊢
  dsimp only at h ⊢
  split at h <;> (first | exact h.elim | exact hk _ _ _ _ _ hL h | exact ⟨h.1, hk _ _ _ _ _ hL h.2⟩ | exact ⟨h.1, h.2.1, hk _ _ _ _ _ hL h.2.2⟩ | exact ⟨h.1, h.2.1, h.2.2.1, hk _ _ _ _ _ hL h.2.2.2⟩ | exact ⟨h.1, h.2.1, h.2.2.1, h.2.2.2.1, hk _ _ _ _ _ hL h.2.2.2.2⟩ | exact ⟨h.1, h.2.1, h.2.2.1, h.2.2.2.1, h.2.2.2.2.1, hk _ _ _ _ _ hL h.2.2.2.2.2⟩ | exact ⟨h.1, h.2.1, h.2.2.1, h.2.2.2.1, h.2.2.2.2.1, h.2.2.2.2.2.1, hk _ _ _ _ _ hL h.2.2.2.2.2.2⟩ | exact ⟨h.1, h.2.1, h.2.2.1, h.2.2.2.1, h.2.2.2.2.1, h.2.2.2.2.2.1, h.2.2.2.2.2.2.1, hk _ _ _ _ _ hL h.2.2.2.2.2.2.2⟩ | exact ⟨h.1, h.2.1, h.2.2.1, h.2.2.2.1, h.2.2.2.2.1, h.2.2.2.2.2.1, h.2.2.2.2.2.2.1, h.2.2.2.2.2.2.2.1, hk _ _ _ _ _ hL h.2.2.2.2.2.2.2.2⟩ | exact ⟨h.1, h.2.1, h.2.2.1, h.2.2.2.1, h.2.2.2.2.1, h.2.2.2.2.2.1, h.2.2.2.2.2.2.1, h.2.2.2.2.2.2.2.1, h.2.2.2.2.2.2.2.2.1, hk _ _ _ _ _ hL h.2.2.2.2.2.2.2.2.2⟩)
theorem cy_sald : cx_Lo cx_sald := by
  intro E P t pc L' L st M S1 hL h
  unfold cx_sald at h ⊢
  dsimp only at h ⊢
  split at h <;> (first | (cases h; done) | (cases h; exact ⟨_, hL, rfl⟩))
theorem cl_mmin : cm_Lo cm_mmin := by
  intro E P t pc L' L st M k' k hL hk h
  unfold cm_mmin at h ⊢
  dsimp only at h ⊢
  split at h <;> (first | exact h.elim | exact hk _ _ _ _ _ hL h | exact ⟨h.1, hk _ _ _ _ _ hL h.2⟩ | exact ⟨h.1, h.2.1, hk _ _ _ _ _ hL h.2.2⟩ | exact ⟨h.1, h.2.1, h.2.2.1, hk _ _ _ _ _ hL h.2.2.2⟩ | exact ⟨h.1, h.2.1, h.2.2.1, h.2.2.2.1, hk _ _ _ _ _ hL h.2.2.2.2⟩ | exact ⟨h.1, h.2.1, h.2.2.1, h.2.2.2.1, h.2.2.2.2.1, hk _ _ _ _ _ hL h.2.2.2.2.2⟩ | exact ⟨h.1, h.2.1, h.2.2.1, h.2.2.2.1, h.2.2.2.2.1, h.2.2.2.2.2.1, hk _ _ _ _ _ hL h.2.2.2.2.2.2⟩ | exact ⟨h.1, h.2.1, h.2.2.1, h.2.2.2.1, h.2.2.2.2.1, h.2.2.2.2.2.1, h.2.2.2.2.2.2.1, hk _ _ _ _ _ hL h.2.2.2.2.2.2.2⟩ | exact ⟨h.1, h.2.1, h.2.2.1, h.2.2.2.1, h.2.2.2.2.1, h.2.2.2.2.2.1, h.2.2.2.2.2.2.1, h.2.2.2.2.2.2.2.1, hk _ _ _ _ _ hL h.2.2.2.2.2.2.2.2⟩ | exact ⟨h.1, h.2.1, h.2.2.1, h.2.2.2.1, h.2.2.2.2.1, h.2.2.2.2.2.1, h.2.2.2.2.2.2.1, h.2.2.2.2.2.2.2.1, h.2.2.2.2.2.2.2.2.1, hk _ _ _ _ _ hL h.2.2.2.2.2.2.2.2.2⟩)
theorem cy_mmin : cx_Lo cx_mmin := by
  intro E P t pc L' L st M S1 hL h
  unfold cx_mmin at h ⊢
  dsimp only at h ⊢
  split at h <;> (first | (cases h; done) | (cases h; exact ⟨_, hL, rfl⟩))
theorem cl_ldc : cm_Lo cm_ldc := by
  intro E P t pc L' L st M k' k hL hk h
  unfold cm_ldc at h ⊢
  dsimp only at h ⊢
  first | exact h.elim | exact hk _ _ _ _ _ hL h | exact ⟨h.1, hk _ _ _ _ _ hL h.2⟩ | exact ⟨h.1, h.2.1, hk _ _ _ _ _ hL h.2.2⟩ | exact ⟨h.1, h.2.1, h.2.2.1, hk _ _ _ _ _ hL h.2.2.2⟩ | exact ⟨h.1, h.2.1, h.2.2.1, h.2.2.2.1, hk _ _ _ _ _ hL h.2.2.2.2⟩ | exact ⟨h.1, h.2.1, h.2.2.1, h.2.2.2.1, h.2.2.2.2.1, hk _ _ _ _ _ hL h.2.2.2.2.2⟩ | exact ⟨h.1, h.2.1, h.2.2.1, h.2.2.2.1, h.2.2.2.2.1, h.2.2.2.2.2.1, hk _ _ _ _ _ hL h.2.2.2.2.2.2⟩ | exact ⟨h.1, h.2.1, h.2.2.1, h.2.2.2.1, h.2.2.2.2.1, h.2.2.2.2.2.1, h.2.2.2.2.2.2.1, hk _ _ _ _ _ hL h.2.2.2.2.2.2.2⟩ | exact ⟨h.1, h.2.1, h.2.2.1, h.2.2.2.1, h.2.2.2.2.1, h.2.2.2.2.2.1, h.2.2.2.2.2.2.1, h.2.2.2.2.2.2.2.1, hk _ _ _ _ _ hL h.2.2.2.2.2.2.2.2⟩ | exact ⟨h.1, h.2.1, h.2.2.1, h.2.2.2.1, h.2.2.2.2.1, h.2.2.2.2.2.1, h.2.2.2.2.2.2.1, h.2.2.2.2.2.2.2.1, h.2.2.2.2.2.2.2.2.1, hk _ _ _ _ _ hL h.2.2.2.2.2.2.2.2.2⟩
theorem cy_ldc : cx_Lo cx_ldc := by
  intro E P t pc L' L st M S1 hL h
  have h : some _ = some S1 := h
  cases h
  exact ⟨_, hL, rfl⟩
theorem cl_ldcS : cm_Lo cm_ldcS := by
  intro E P t pc L' L st M k' k hL hk h
  unfold cm_ldcS at h ⊢
  dsimp only at h ⊢
  first | exact h.elim | exact hk _ _ _ _ _ hL h | exact ⟨h.1, hk _ _ _ _ _ hL h.2⟩ | exact ⟨h.1, h.2.1, hk _ _ _ _ _ hL h.2.2⟩ | exact ⟨h.1, h.2.1, h.2.2.1, hk _ _ _ _ _ hL h.2.2.2⟩ | exact ⟨h.1, h.2.1, h.2.2.1, h.2.2.2.1, hk _ _ _ _ _ hL h.2.2.2.2⟩ | exact ⟨h.1, h.2.1, h.2.2.1, h.2.2.2.1, h.2.2.2.2.1, hk _ _ _ _ _ hL h.2.2.2.2.2⟩ | exact ⟨h.1, h.2.1, h.2.2.1, h.2.2.2.1, h.2.2.2.2.1, h.2.2.2.2.2.1, hk _ _ _ _ _ hL h.2.2.2.2.2.2⟩ | exact ⟨h.1, h.2.1, h.2.2.1, h.2.2.2.1, h.2.2.2.2.1, h.2.2.2.2.2.1, h.2.2.2.2.2.2.1, hk _ _ _ _ _ hL h.2.2.2.2.2.2.2⟩ | exact ⟨h.1, h.2.1, h.2.2.1, h.2.2.2.1, h.2.2.2.2.1, h.2.2.2.2.2.1, h.2.2.2.2.2.2.1, h.2.2.2.2.2.2.2.1, hk _ _ _ _ _ hL h.2.2.2.2.2.2.2.2⟩ | exact ⟨h.1, h.2.1, h.2.2.1, h.2.2.2.1, h.2.2.2.2.1, h.2.2.2.2.2.1, h.2.2.2.2.2.2.1, h.2.2.2.2.2.2.2.1, h.2.2.2.2.2.2.2.2.1, hk _ _ _ _ _ hL h.2.2.2.2.2.2.2.2.2⟩
theorem cy_ldcS : cx_Lo cx_ldcS := by
  intro E P t pc L' L st M S1 hL h
  have h : some _ = some S1 := h
  cases h
  exact ⟨_, hL, rfl⟩
theorem cl_getV : cm_Lo cm_getV := by
  intro E P t pc L' L st M k' k hL hk h
  unfold cm_getV at h ⊢
  dsimp only at h ⊢
  split at h <;> (first | exact h.elim | exact hk _ _ _ _ _ hL h | exact ⟨h.1, hk _ _ _ _ _ hL h.2⟩ | exact ⟨h.1, h.2.1, hk _ _ _ _ _ hL h.2.2⟩ | exact ⟨h.1, h.2.1, h.2.2.1, hk _ _ _ _ _ hL h.2.2.2⟩ | exact ⟨h.1, h.2.1, h.2.2.1, h.2.2.2.1, hk _ _ _ _ _ hL h.2.2.2.2⟩ | exact ⟨h.1, h.2.1, h.2.2.1, h.2.2.2.1, h.2.2.2.2.1, hk _ _ _ _ _ hL h.2.2.2.2.2⟩ | exact ⟨h.1, h.2.1, h.2.2.1, h.2.2.2.1, h.2.2.2.2.1, h.2.2.2.2.2.1, hk _ _ _ _ _ hL h.2.2.2.2.2.2⟩ | exact ⟨h.1, h.2.1, h.2.2.1, h.2.2.2.1, h.2.2.2.2.1, h.2.2.2.2.2.1, h.2.2.2.2.2.2.1, hk _ _ _ _ _ hL h.2.2.2.2.2.2.2⟩ | exact ⟨h.1, h.2.1, h.2.2.1, h.2.2.2.1, h.2.2.2.2.1, h.2.2.2.2.2.1, h.2.2.2.2.2.2.1, h.2.2.2.2.2.2.2.1, hk _ _ _ _ _ hL h.2.2.2.2.2.2.2.2⟩ | exact ⟨h.1, h.2.1, h.2.2.1, h.2.2.2.1, h.2.2.2.2.1, h.2.2.2.2.2.1, h.2.2.2.2.2.2.1, h.2.2.2.2.2.2.2.1, h.2.2.2.2.2.2.2.2.1, hk _ _ _ _ _ hL h.2.2.2.2.2.2.2.2.2⟩)
theorem cy_getV : cx_Lo cx_getV := by
  intro E P t pc L' L st M S1 hL h
  unfold cx_getV at h ⊢
  dsimp only at h ⊢
  split at h <;> (first | (cases h; done) | (cases h; exact ⟨_, hL, rfl⟩))
theorem cl_getC : cm_Lo cm_getC := by
  intro E P t pc L' L st M k' k hL hk h
  unfold cm_getC at h ⊢
  dsimp only at h ⊢
  split at h <;> (first | exact h.elim | exact hk _ _ _ _ _ hL h | exact ⟨h.1, hk _ _ _ _ _ hL h.2⟩ | exact ⟨h.1, h.2.1, hk _ _ _ _ _ hL h.2.2⟩ | exact ⟨h.1, h.2.1, h.2.2.1, hk _ _ _ _ _ hL h.2.2.2⟩ | exact ⟨h.1, h.2.1, h.2.2.1, h.2.2.2.1, hk _ _ _ _ _ hL h.2.2.2.2⟩ | exact ⟨h.1, h.2.1, h.2.2.1, h.2.2.2.1, h.2.2.2.2.1, hk _ _ _ _ _ hL h.2.2.2.2.2⟩ | exact ⟨h.1, h.2.1, h.2.2.1, h.2.2.2.1, h.2.2.2.2.1, h.2.2.2.2.2.1, hk _ _ _ _ _ hL h.2.2.2.2.2.2⟩ | exact ⟨h.1, h.2.1, h.2.2.1, h.2.2.2.1, h.2.2.2.2.1, h.2.2.2.2.2.1, h.2.2.2.2.2.2.1, hk _ _ _ _ _ hL h.2.2.2.2.2.2.2⟩ | exact ⟨h.1, h.2.1, h.2.2.1, h.2.2.2.1, h.2.2.2.2.1, h.2.2.2.2.2.1, h.2.2.2.2.2.2.1, h.2.2.2.2.2.2.2.1, hk _ _ _ _ _ hL h.2.2.2.2.2.2.2.2⟩ | exact ⟨h.1, h.2.1, h.2.2.1, h.2.2.2.1, h.2.2.2.2.1, h.2.2.2.2.2.1, h.2.2.2.2.2.2.1, h.2.2.2.2.2.2.2.1, h.2.2.2.2.2.2.2.2.1, hk _ _ _ _ _ hL h.2.2.2.2.2.2.2.2.2⟩)
theorem cy_getC : cx_Lo cx_getC := by
  intro E P t pc L' L st M S1 hL h
  unfold cx_getC at h ⊢
  dsimp only at h ⊢
  split at h <;> (first | (cases h; done) | (cases h; exact ⟨_, hL, rfl⟩))
theorem cl_gets : cm_Lo cm_gets := by
  intro E P t pc L' L st M k' k hL hk h
  unfold cm_gets at h ⊢
  dsimp only at h ⊢
  first | exact h.elim | exact hk _ _ _ _ _ hL h | exact ⟨h.1, hk _ _ _ _ _ hL h.2⟩ | exact ⟨h.1, h.2.1, hk _ _ _ _ _ hL h.2.2⟩ | exact ⟨h.1, h.2.1, h.2.2.1, hk _ _ _ _ _ hL h.2.2.2⟩ | exact ⟨h.1, h.2.1, h.2.2.1, h.2.2.2.1, hk _ _ _ _ _ hL h.2.2.2.2⟩ | exact ⟨h.1, h.2.1, h.2.2.1, h.2.2.2.1, h.2.2.2.2.1, hk _ _ _ _ _ hL h.2.2.2.2.2⟩ | exact ⟨h.1, h.2.1, h.2.2.1, h.2.2.2.1, h.2.2.2.2.1, h.2.2.2.2.2.1, hk _ _ _ _ _ hL h.2.2.2.2.2.2⟩ | exact ⟨h.1, h.2.1, h.2.2.1, h.2.2.2.1, h.2.2.2.2.1, h.2.2.2.2.2.1, h.2.2.2.2.2.2.1, hk _ _ _ _ _ hL h.2.2.2.2.2.2.2⟩ | exact ⟨h.1, h.2.1, h.2.2.1, h.2.2.2.1, h.2.2.2.2.1, h.2.2.2.2.2.1, h.2.2.2.2.2.2.1, h.2.2.2.2.2.2.2.1, hk _ _ _ _ _ hL h.2.2.2.2.2.2.2.2⟩ | exact ⟨h.1, h.2.1, h.2.2.1, h.2.2.2.1, h.2.2.2.2.1, h.2.2.2.2.2.1, h.2.2.2.2.2.2.1, h.2.2.2.2.2.2.2.1, h.2.2.2.2.2.2.2.2.1, hk _ _ _ _ _ hL h.2.2.2.2.2.2.2.2.2⟩
theorem cy_gets : cx_Lo cx_gets := by
  intro E P t pc L' L st M S1 hL h
  have h : some _ = some S1 := h
  cases h
  exact ⟨_, hL, rfl⟩
theorem cl_alenS : cm_Lo cm_alenS := by
  intro E P t pc L' L st M k' k hL hk h
  unfold cm_alenS at h ⊢
  dsimp only at h ⊢
  split at h
  · split at h
    · rename_i hz
      first | (first | exact h.elim | exact hk _ _ _ _ _ hL h | exact ⟨h.1, hk _ _ _ _ _ hL h.2⟩ | exact ⟨h.1, h.2.1, hk _ _ _ _ _ hL h.2.2⟩ | exact ⟨h.1, h.2.1, h.2.2.1, hk _ _ _ _ _ hL h.2.2.2⟩ | exact ⟨h.1, h.2.1, h.2.2.1, h.2.2.2.1, hk _ _ _ _ _ hL h.2.2.2.2⟩ | exact ⟨h.1, h.2.1, h.2.2.1, h.2.2.2.1, h.2.2.2.2.1, hk _ _ _ _ _ hL h.2.2.2.2.2⟩ | exact ⟨h.1, h.2.1, h.2.2.1, h.2.2.2.1, h.2.2.2.2.1, h.2.2.2.2.2.1, hk _ _ _ _ _ hL h.2.2.2.2.2.2⟩ | exact ⟨h.1, h.2.1, h.2.2.1, h.2.2.2.1, h.2.2.2.2.1, h.2.2.2.2.2.1, h.2.2.2.2.2.2.1, hk _ _ _ _ _ hL h.2.2.2.2.2.2.2⟩ | exact ⟨h.1, h.2.1, h.2.2.1, h.2.2.2.1, h.2.2.2.2.1, h.2.2.2.2.2.1, h.2.2.2.2.2.2.1, h.2.2.2.2.2.2.2.1, hk _ _ _ _ _ hL h.2.2.2.2.2.2.2.2⟩ | exact ⟨h.1, h.2.1, h.2.2.1, h.2.2.2.1, h.2.2.2.2.1, h.2.2.2.2.2.1, h.2.2.2.2.2.2.1, h.2.2.2.2.2.2.2.1, h.2.2.2.2.2.2.2.2.1, hk _ _ _ _ _ hL h.2.2.2.2.2.2.2.2.2⟩) | (dsimp only; rw [hz]; first | exact h.elim | exact hk _ _ _ _ _ hL h | exact ⟨h.1, hk _ _ _ _ _ hL h.2⟩ | exact ⟨h.1, h.2.1, hk _ _ _ _ _ hL h.2.2⟩ | exact ⟨h.1, h.2.1, h.2.2.1, hk _ _ _ _ _ hL h.2.2.2⟩ | exact ⟨h.1, h.2.1, h.2.2.1, h.2.2.2.1, hk _ _ _ _ _ hL h.2.2.2.2⟩ | exact ⟨h.1, h.2.1, h.2.2.1, h.2.2.2.1, h.2.2.2.2.1, hk _ _ _ _ _ hL h.2.2.2.2.2⟩ | exact ⟨h.1, h.2.1, h.2.2.1, h.2.2.2.1, h.2.2.2.2.1, h.2.2.2.2.2.1, hk _ _ _ _ _ hL h.2.2.2.2.2.2⟩ | exact ⟨h.1, h.2.1, h.2.2.1, h.2.2.2.1, h.2.2.2.2.1, h.2.2.2.2.2.1, h.2.2.2.2.2.2.1, hk _ _ _ _ _ hL h.2.2.2.2.2.2.2⟩ | exact ⟨h.1, h.2.1, h.2.2.1, h.2.2.2.1, h.2.2.2.2.1, h.2.2.2.2.2.1, h.2.2.2.2.2.2.1, h.2.2.2.2.2.2.2.1, hk _ _ _ _ _ hL h.2.2.2.2.2.2.2.2⟩ | exact ⟨h.1, h.2.1, h.2.2.1, h.2.2.2.1, h.2.2.2.2.1, h.2.2.2.2.2.1, h.2.2.2.2.2.2.1, h.2.2.2.2.2.2.2.1, h.2.2.2.2.2.2.2.2.1, hk _ _ _ _ _ hL h.2.2.2.2.2.2.2.2.2⟩) | (rw [hz]; first | exact h.elim | exact hk _ _ _ _ _ hL h | exact ⟨h.1, hk _ _ _ _ _ hL h.2⟩ | exact ⟨h.1, h.2.1, hk _ _ _ _ _ hL h.2.2⟩ | exact ⟨h.1, h.2.1, h.2.2.1, hk _ _ _ _ _ hL h.2.2.2⟩ | exact ⟨h.1, h.2.1, h.2.2.1, h.2.2.2.1, hk _ _ _ _ _ hL h.2.2.2.2⟩ | exact ⟨h.1, h.2.1, h.2.2.1, h.2.2.2.1, h.2.2.2.2.1, hk _ _ _ _ _ hL h.2.2.2.2.2⟩ | exact ⟨h.1, h.2.1, h.2.2.1, h.2.2.2.1, h.2.2.2.2.1, h.2.2.2.2.2.1, hk _ _ _ _ _ hL h.2.2.2.2.2.2⟩ | exact ⟨h.1, h.2.1, h.2.2.1, h.2.2.2.1, h.2.2.2.2.1, h.2.2.2.2.2.1, h.2.2.2.2.2.2.1, hk _ _ _ _ _ hL h.2.2.2.2.2.2.2⟩ | exact ⟨h.1, h.2.1, h.2.2.1, h.2.2.2.1, h.2.2.2.2.1, h.2.2.2.2.2.1, h.2.2.2.2.2.2.1, h.2.2.2.2.2.2.2.1, hk _ _ _ _ _ hL h.2.2.2.2.2.2.2.2⟩ | exact ⟨h.1, h.2.1, h.2.2.1, h.2.2.2.1, h.2.2.2.2.1, h.2.2.2.2.2.1, h.2.2.2.2.2.2.1, h.2.2.2.2.2.2.2.1, h.2.2.2.2.2.2.2.2.1, hk _ _ _ _ _ hL h.2.2.2.2.2.2.2.2.2⟩)
    · exact h.elim
  · exact h.elim
theorem cy_alenS : cx_Lo cx_alenS := by
  intro E P t pc L' L st M S1 hL h
  unfold cx_alenS at h ⊢
  dsimp only at h ⊢
  split at h
  · split at h
    · rename_i hz
      cases h
      exact ⟨L, hL, by first | rfl | (rw [hz]; rfl) | (dsimp only; rw [hz]; rfl)⟩
    · cases h
  · cases h
theorem cl_baloadS : cm_Lo cm_baloadS := by
  intro E P t pc L' L st M k' k hL hk h
  unfold cm_baloadS at h ⊢
  dsimp only at h ⊢
  split at h
  · split at h
    · rename_i hz
      first | (first | exact h.elim | exact hk _ _ _ _ _ hL h | exact ⟨h.1, hk _ _ _ _ _ hL h.2⟩ | exact ⟨h.1, h.2.1, hk _ _ _ _ _ hL h.2.2⟩ | exact ⟨h.1, h.2.1, h.2.2.1, hk _ _ _ _ _ hL h.2.2.2⟩ | exact ⟨h.1, h.2.1, h.2.2.1, h.2.2.2.1, hk _ _ _ _ _ hL h.2.2.2.2⟩ | exact ⟨h.1, h.2.1, h.2.2.1, h.2.2.2.1, h.2.2.2.2.1, hk _ _ _ _ _ hL h.2.2.2.2.2⟩ | exact ⟨h.1, h.2.1, h.2.2.1, h.2.2.2.1, h.2.2.2.2.1, h.2.2.2.2.2.1, hk _ _ _ _ _ hL h.2.2.2.2.2.2⟩ | exact ⟨h.1, h.2.1, h.2.2.1, h.2.2.2.1, h.2.2.2.2.1, h.2.2.2.2.2.1, h.2.2.2.2.2.2.1, hk _ _ _ _ _ hL h.2.2.2.2.2.2.2⟩ | exact ⟨h.1, h.2.1, h.2.2.1, h.2.2.2.1, h.2.2.2.2.1, h.2.2.2.2.2.1, h.2.2.2.2.2.2.1, h.2.2.2.2.2.2.2.1, hk _ _ _ _ _ hL h.2.2.2.2.2.2.2.2⟩ | exact ⟨h.1, h.2.1, h.2.2.1, h.2.2.2.1, h.2.2.2.2.1, h.2.2.2.2.2.1, h.2.2.2.2.2.2.1, h.2.2.2.2.2.2.2.1, h.2.2.2.2.2.2.2.2.1, hk _ _ _ _ _ hL h.2.2.2.2.2.2.2.2.2⟩) | (dsimp only; rw [hz]; first | exact h.elim | exact hk _ _ _ _ _ hL h | exact ⟨h.1, hk _ _ _ _ _ hL h.2⟩ | exact ⟨h.1, h.2.1, hk _ _ _ _ _ hL h.2.2⟩ | exact ⟨h.1, h.2.1, h.2.2.1, hk _ _ _ _ _ hL h.2.2.2⟩ | exact ⟨h.1, h.2.1, h.2.2.1, h.2.2.2.1, hk _ _ _ _ _ hL h.2.2.2.2⟩ | exact ⟨h.1, h.2.1, h.2.2.1, h.2.2.2.1, h.2.2.2.2.1, hk _ _ _ _ _ hL h.2.2.2.2.2⟩ | exact ⟨h.1, h.2.1, h.2.2.1, h.2.2.2.1, h.2.2.2.2.1, h.2.2.2.2.2.1, hk _ _ _ _ _ hL h.2.2.2.2.2.2⟩ | exact ⟨h.1, h.2.1, h.2.2.1, h.2.2.2.1, h.2.2.2.2.1, h.2.2.2.2.2.1, h.2.2.2.2.2.2.1, hk _ _ _ _ _ hL h.2.2.2.2.2.2.2⟩ | exact ⟨h.1, h.2.1, h.2.2.1, h.2.2.2.1, h.2.2.2.2.1, h.2.2.2.2.2.1, h.2.2.2.2.2.2.1, h.2.2.2.2.2.2.2.1, hk _ _ _ _ _ hL h.2.2.2.2.2.2.2.2⟩ | exact ⟨h.1, h.2.1, h.2.2.1, h.2.2.2.1, h.2.2.2.2.1, h.2.2.2.2.2.1, h.2.2.2.2.2.2.1, h.2.2.2.2.2.2.2.1, h.2.2.2.2.2.2.2.2.1, hk _ _ _ _ _ hL h.2.2.2.2.2.2.2.2.2⟩) | (rw [hz]; first | exact h.elim | exact hk _ _ _ _ _ hL h | exact ⟨h.1, hk _ _ _ _ _ hL h.2⟩ | exact ⟨h.1, h.2.1, hk _ _ _ _ _ hL h.2.2⟩ | exact ⟨h.1, h.2.1, h.2.2.1, hk _ _ _ _ _ hL h.2.2.2⟩ | exact ⟨h.1, h.2.1, h.2.2.1, h.2.2.2.1, hk _ _ _ _ _ hL h.2.2.2.2⟩ | exact ⟨h.1, h.2.1, h.2.2.1, h.2.2.2.1, h.2.2.2.2.1, hk _ _ _ _ _ hL h.2.2.2.2.2⟩ | exact ⟨h.1, h.2.1, h.2.2.1, h.2.2.2.1, h.2.2.2.2.1, h.2.2.2.2.2.1, hk _ _ _ _ _ hL h.2.2.2.2.2.2⟩ | exact ⟨h.1, h.2.1, h.2.2.1, h.2.2.2.1, h.2.2.2.2.1, h.2.2.2.2.2.1, h.2.2.2.2.2.2.1, hk _ _ _ _ _ hL h.2.2.2.2.2.2.2⟩ | exact ⟨h.1, h.2.1, h.2.2.1, h.2.2.2.1, h.2.2.2.2.1, h.2.2.2.2.2.1, h.2.2.2.2.2.2.1, h.2.2.2.2.2.2.2.1, hk _ _ _ _ _ hL h.2.2.2.2.2.2.2.2⟩ | exact ⟨h.1, h.2.1, h.2.2.1, h.2.2.2.1, h.2.2.2.2.1, h.2.2.2.2.2.1, h.2.2.2.2.2.2.1, h.2.2.2.2.2.2.2.1, h.2.2.2.2.2.2.2.2.1, hk _ _ _ _ _ hL h.2.2.2.2.2.2.2.2.2⟩)
    · exact h.elim
  · exact h.elim
theorem cy_baloadS : cx_Lo cx_baloadS := by
  intro E P t pc L' L st M S1 hL h
  unfold cx_baloadS at h ⊢
  dsimp only at h ⊢
  split at h
  · split at h
    · rename_i hz
      cases h
      exact ⟨L, hL, by first | rfl | (rw [hz]; rfl) | (dsimp only; rw [hz]; rfl)⟩
    · cases h
  · cases h
theorem cl_i2c : cm_Lo cm_i2c := by
  intro E P t pc L' L st M k' k hL hk h
  unfold cm_i2c at h ⊢
  dsimp only at h ⊢
  split at h <;> (first | exact h.elim | exact hk _ _ _ _ _ hL h | exact ⟨h.1, hk _ _ _ _ _ hL h.2⟩ | exact ⟨h.1, h.2.1, hk _ _ _ _ _ hL h.2.2⟩ | exact ⟨h.1, h.2.1, h.2.2.1, hk _ _ _ _ _ hL h.2.2.2⟩ | exact ⟨h.1, h.2.1, h.2.2.1, h.2.2.2.1, hk _ _ _ _ _ hL h.2.2.2.2⟩ | exact ⟨h.1, h.2.1, h.2.2.1, h.2.2.2.1, h.2.2.2.2.1, hk _ _ _ _ _ hL h.2.2.2.2.2⟩ | exact ⟨h.1, h.2.1, h.2.2.1, h.2.2.2.1, h.2.2.2.2.1, h.2.2.2.2.2.1, hk _ _ _ _ _ hL h.2.2.2.2.2.2⟩ | exact ⟨h.1, h.2.1, h.2.2.1, h.2.2.2.1, h.2.2.2.2.1, h.2.2.2.2.2.1, h.2.2.2.2.2.2.1, hk _ _ _ _ _ hL h.2.2.2.2.2.2.2⟩ | exact ⟨h.1, h.2.1, h.2.2.1, h.2.2.2.1, h.2.2.2.2.1, h.2.2.2.2.2.1, h.2.2.2.2.2.2.1, h.2.2.2.2.2.2.2.1, hk _ _ _ _ _ hL h.2.2.2.2.2.2.2.2⟩ | exact ⟨h.1, h.2.1, h.2.2.1, h.2.2.2.1, h.2.2.2.2.1, h.2.2.2.2.2.1, h.2.2.2.2.2.2.1, h.2.2.2.2.2.2.2.1, h.2.2.2.2.2.2.2.2.1, hk _ _ _ _ _ hL h.2.2.2.2.2.2.2.2.2⟩)
theorem cy_i2c : cx_Lo cx_i2c := by
  intro E P t pc L' L st M S1 hL h
  unfold cx_i2c at h ⊢
  dsimp only at h ⊢
  split at h <;> (first | (cases h; done) | (cases h; exact ⟨_, hL, rfl⟩))
theorem cl_ladd : cm_Lo cm_ladd := by
  intro E P t pc L' L st M k' k hL hk h
  unfold cm_ladd at h ⊢
  dsimp only at h ⊢
  split at h <;> (first | exact h.elim | exact hk _ _ _ _ _ hL h | exact ⟨h.1, hk _ _ _ _ _ hL h.2⟩ | exact ⟨h.1, h.2.1, hk _ _ _ _ _ hL h.2.2⟩ | exact ⟨h.1, h.2.1, h.2.2.1, hk _ _ _ _ _ hL h.2.2.2⟩ | exact ⟨h.1, h.2.1, h.2.2.1, h.2.2.2.1, hk _ _ _ _ _ hL h.2.2.2.2⟩ | exact ⟨h.1, h.2.1, h.2.2.1, h.2.2.2.1, h.2.2.2.2.1, hk _ _ _ _ _ hL h.2.2.2.2.2⟩ | exact ⟨h.1, h.2.1, h.2.2.1, h.2.2.2.1, h.2.2.2.2.1, h.2.2.2.2.2.1, hk _ _ _ _ _ hL h.2.2.2.2.2.2⟩ | exact ⟨h.1, h.2.1, h.2.2.1, h.2.2.2.1, h.2.2.2.2.1, h.2.2.2.2.2.1, h.2.2.2.2.2.2.1, hk _ _ _ _ _ hL h.2.2.2.2.2.2.2⟩ | exact ⟨h.1, h.2.1, h.2.2.1, h.2.2.2.1, h.2.2.2.2.1, h.2.2.2.2.2.1, h.2.2.2.2.2.2.1, h.2.2.2.2.2.2.2.1, hk _ _ _ _ _ hL h.2.2.2.2.2.2.2.2⟩ | exact ⟨h.1, h.2.1, h.2.2.1, h.2.2.2.1, h.2.2.2.2.1, h.2.2.2.2.2.1, h.2.2.2.2.2.2.1, h.2.2.2.2.2.2.2.1, h.2.2.2.2.2.2.2.2.1, hk _ _ _ _ _ hL h.2.2.2.2.2.2.2.2.2⟩)
theorem cy_ladd : cx_Lo cx_ladd := by
  intro E P t pc L' L st M S1 hL h
  unfold cx_ladd at h ⊢
  dsimp only at h ⊢
  split at h <;> (first | (cases h; done) | (cases h; exact ⟨_, hL, rfl⟩))
theorem cl_lsub : cm_Lo cm_lsub := by
  intro E P t pc L' L st M k' k hL hk h
  unfold cm_lsub at h ⊢
  dsimp only at h ⊢
  split at h <;> (first | exact h.elim | exact hk _ _ _ _ _ hL h | exact ⟨h.1, hk _ _ _ _ _ hL h.2⟩ | exact ⟨h.1, h.2.1, hk _ _ _ _ _ hL h.2.2⟩ | exact ⟨h.1, h.2.1, h.2.2.1, hk _ _ _ _ _ hL h.2.2.2⟩ | exact ⟨h.1, h.2.1, h.2.2.1, h.2.2.2.1, hk _ _ _ _ _ hL h.2.2.2.2⟩ | exact ⟨h.1, h.2.1, h.2.2.1, h.2.2.2.1, h.2.2.2.2.1, hk _ _ _ _ _ hL h.2.2.2.2.2⟩ | exact ⟨h.1, h.2.1, h.2.2.1, h.2.2.2.1, h.2.2.2.2.1, h.2.2.2.2.2.1, hk _ _ _ _ _ hL h.2.2.2.2.2.2⟩ | exact ⟨h.1, h.2.1, h.2.2.1, h.2.2.2.1, h.2.2.2.2.1, h.2.2.2.2.2.1, h.2.2.2.2.2.2.1, hk _ _ _ _ _ hL h.2.2.2.2.2.2.2⟩ | exact ⟨h.1, h.2.1, h.2.2.1, h.2.2.2.1, h.2.2.2.2.1, h.2.2.2.2.2.1, h.2.2.2.2.2.2.1, h.2.2.2.2.2.2.2.1, hk _ _ _ _ _ hL h.2.2.2.2.2.2.2.2⟩ | exact ⟨h.1, h.2.1, h.2.2.1, h.2.2.2.1, h.2.2.2.2.1, h.2.2.2.2.2.1, h.2.2.2.2.2.2.1, h.2.2.2.2.2.2.2.1, h.2.2.2.2.2.2.2.2.1, hk _ _ _ _ _ hL h.2.2.2.2.2.2.2.2.2⟩)
theorem cy_lsub : cx_Lo cx_lsub := by
  intro E P t pc L' L st M S1 hL h
  unfold cx_lsub at h ⊢
  dsimp only at h ⊢
  split at h <;> (first | (cases h; done) | (cases h; exact ⟨_, hL, rfl⟩))
theorem cl_lmul : cm_Lo cm_lmul := by
  intro E P t pc L' L st M k' k hL hk h
  unfold cm_lmul at h ⊢
  dsimp only at h ⊢
  split at h <;> (first | exact h.elim | exact hk _ _ _ _ _ hL h | exact ⟨h.1, hk _ _ _ _ _ hL h.2⟩ | exact ⟨h.1, h.2.1, hk _ _ _ _ _ hL h.2.2⟩ | exact ⟨h.1, h.2.1, h.2.2.1, hk _ _ _ _ _ hL h.2.2.2⟩ | exact ⟨h.1, h.2.1, h.2.2.1, h.2.2.2.1, hk _ _ _ _ _ hL h.2.2.2.2⟩ | exact ⟨h.1, h.2.1, h.2.2.1, h.2.2.2.1, h.2.2.2.2.1, hk _ _ _ _ _ hL h.2.2.2.2.2⟩ | exact ⟨h.1, h.2.1, h.2.2.1, h.2.2.2.1, h.2.2.2.2.1, h.2.2.2.2.2.1, hk _ _ _ _ _ hL h.2.2.2.2.2.2⟩ | exact ⟨h.1, h.2.1, h.2.2.1, h.2.2.2.1, h.2.2.2.2.1, h.2.2.2.2.2.1, h.2.2.2.2.2.2.1, hk _ _ _ _ _ hL h.2.2.2.2.2.2.2⟩ | exact ⟨h.1, h.2.1, h.2.2.1, h.2.2.2.1, h.2.2.2.2.1, h.2.2.2.2.2.1, h.2.2.2.2.2.2.1, h.2.2.2.2.2.2.2.1, hk _ _ _ _ _ hL h.2.2.2.2.2.2.2.2⟩ | exact ⟨h.1, h.2.1, h.2.2.1, h.2.2.2.1, h.2.2.2.2.1, h.2.2.2.2.2.1, h.2.2.2.2.2.2.1, h.2.2.2.2.2.2.2.1, h.2.2.2.2.2.2.2.2.1, hk _ _ _ _ _ hL h.2.2.2.2.2.2.2.2.2⟩)
theorem cy_lmul : cx_Lo cx_lmul := by
  intro E P t pc L' L st M S1 hL h
  unfold cx_lmul at h ⊢
  dsimp only at h ⊢
  split at h <;> (first | (cases h; done) | (cases h; exact ⟨_, hL, rfl⟩))
theorem cl_ldiv : cm_Lo cm_ldiv := by
  intro E P t pc L' L st M k' k hL hk h
  unfold cm_ldiv at h ⊢
  dsimp only at h ⊢
  split at h <;> (first | exact h.elim | exact hk _ _ _ _ _ hL h | exact ⟨h.1, hk _ _ _ _ _ hL h.2⟩ | exact ⟨h.1, h.2.1, hk _ _ _ _ _ hL h.2.2⟩ | exact ⟨h.1, h.2.1, h.2.2.1, hk _ _ _ _ _ hL h.2.2.2⟩ | exact ⟨h.1, h.2.1, h.2.2.1, h.2.2.2.1, hk _ _ _ _ _ hL h.2.2.2.2⟩ | exact ⟨h.1, h.2.1, h.2.2.1, h.2.2.2.1, h.2.2.2.2.1, hk _ _ _ _ _ hL h.2.2.2.2.2⟩ | exact ⟨h.1, h.2.1, h.2.2.1, h.2.2.2.1, h.2.2.2.2.1, h.2.2.2.2.2.1, hk _ _ _ _ _ hL h.2.2.2.2.2.2⟩ | exact ⟨h.1, h.2.1, h.2.2.1, h.2.2.2.1, h.2.2.2.2.1, h.2.2.2.2.2.1, h.2.2.2.2.2.2.1, hk _ _ _ _ _ hL h.2.2.2.2.2.2.2⟩ | exact ⟨h.1, h.2.1, h.2.2.1, h.2.2.2.1, h.2.2.2.2.1, h.2.2.2.2.2.1, h.2.2.2.2.2.2.1, h.2.2.2.2.2.2.2.1, hk _ _ _ _ _ hL h.2.2.2.2.2.2.2.2⟩ | exact ⟨h.1, h.2.1, h.2.2.1, h.2.2.2.1, h.2.2.2.2.1, h.2.2.2.2.2.1, h.2.2.2.2.2.2.1, h.2.2.2.2.2.2.2.1, h.2.2.2.2.2.2.2.2.1, hk _ _ _ _ _ hL h.2.2.2.2.2.2.2.2.2⟩)
theorem cy_ldiv : cx_Lo cx_ldiv := by
  intro E P t pc L' L st M S1 hL h
  unfold cx_ldiv at h ⊢
  dsimp only at h ⊢
  split at h <;> (first | (cases h; done) | (cases h; exact ⟨_, hL, rfl⟩))
theorem cl_lrem : cm_Lo cm_lrem := by
  intro E P t pc L' L st M k' k hL hk h
  unfold cm_lrem at h ⊢
  dsimp only at h ⊢
  split at h <;> (first | exact h.elim | exact hk _ _ _ _ _ hL h | exact ⟨h.1, hk _ _ _ _ _ hL h.2⟩ | exact ⟨h.1, h.2.1, hk _ _ _ _ _ hL h.2.2⟩ | exact ⟨h.1, h.2.1, h.2.2.1, hk _ _ _ _ _ hL h.2.2.2⟩ | exact ⟨h.1, h.2.1, h.2.2.1, h.2.2.2.1, hk _ _ _ _ _ hL h.2.2.2.2⟩ | exact ⟨h.1, h.2.1, h.2.2.1, h.2.2.2.1, h.2.2.2.2.1, hk _ _ _ _ _ hL h.2.2.2.2.2⟩ | exact ⟨h.1, h.2.1, h.2.2.1, h.2.2.2.1, h.2.2.2.2.1, h.2.2.2.2.2.1, hk _ _ _ _ _ hL h.2.2.2.2.2.2⟩ | exact ⟨h.1, h.2.1, h.2.2.1, h.2.2.2.1, h.2.2.2.2.1, h.2.2.2.2.2.1, h.2.2.2.2.2.2.1, hk _ _ _ _ _ hL h.2.2.2.2.2.2.2⟩ | exact ⟨h.1, h.2.1, h.2.2.1, h.2.2.2.1, h.2.2.2.2.1, h.2.2.2.2.2.1, h.2.2.2.2.2.2.1, h.2.2.2.2.2.2.2.1, hk _ _ _ _ _ hL h.2.2.2.2.2.2.2.2⟩ | exact ⟨h.1, h.2.1, h.2.2.1, h.2.2.2.1, h.2.2.2.2.1, h.2.2.2.2.2.1, h.2.2.2.2.2.2.1, h.2.2.2.2.2.2.2.1, h.2.2.2.2.2.2.2.2.1, hk _ _ _ _ _ hL h.2.2.2.2.2.2.2.2.2⟩)
theorem cy_lrem : cx_Lo cx_lrem := by
  intro E P t pc L' L st M S1 hL h
  unfold cx_lrem at h ⊢
  dsimp only at h ⊢
  split at h <;> (first | (cases h; done) | (cases h; exact ⟨_, hL, rfl⟩))
theorem cl_ldc2 : cm_Lo cm_ldc2 := by
  intro E P t pc L' L st M k' k hL hk h
  unfold cm_ldc2 at h ⊢
  dsimp only at h ⊢
  first | exact h.elim | exact hk _ _ _ _ _ hL h | exact ⟨h.1, hk _ _ _ _ _ hL h.2⟩ | exact ⟨h.1, h.2.1, hk _ _ _ _ _ hL h.2.2⟩ | exact ⟨h.1, h.2.1, h.2.2.1, hk _ _ _ _ _ hL h.2.2.2⟩ | exact ⟨h.1, h.2.1, h.2.2.1, h.2.2.2.1, hk _ _ _ _ _ hL h.2.2.2.2⟩ | exact ⟨h.1, h.2.1, h.2.2.1, h.2.2.2.1, h.2.2.2.2.1, hk _ _ _ _ _ hL h.2.2.2.2.2⟩ | exact ⟨h.1, h.2.1, h.2.2.1, h.2.2.2.1, h.2.2.2.2.1, h.2.2.2.2.2.1, hk _ _ _ _ _ hL h.2.2.2.2.2.2⟩ | exact ⟨h.1, h.2.1, h.2.2.1, h.2.2.2.1, h.2.2.2.2.1, h.2.2.2.2.2.1, h.2.2.2.2.2.2.1, hk _ _ _ _ _ hL h.2.2.2.2.2.2.2⟩ | exact ⟨h.1, h.2.1, h.2.2.1, h.2.2.2.1, h.2.2.2.2.1, h.2.2.2.2.2.1, h.2.2.2.2.2.2.1, h.2.2.2.2.2.2.2.1, hk _ _ _ _ _ hL h.2.2.2.2.2.2.2.2⟩ | exact ⟨h.1, h.2.1, h.2.2.1, h.2.2.2.1, h.2.2.2.2.1, h.2.2.2.2.2.1, h.2.2.2.2.2.2.1, h.2.2.2.2.2.2.2.1, h.2.2.2.2.2.2.2.2.1, hk _ _ _ _ _ hL h.2.2.2.2.2.2.2.2.2⟩
theorem cy_ldc2 : cx_Lo cx_ldc2 := by
  intro E P t pc L' L st M S1 hL h
  have h : some _ = some S1 := h
  cases h
  exact ⟨_, hL, rfl⟩
theorem cl_getsF : cm_Lo cm_getsF := by
  intro E P t pc L' L st M k' k hL hk h
  unfold cm_getsF at h ⊢
  dsimp only at h ⊢
  exact ⟨hk _ _ _ _ _ hL h.1, hk _ _ _ _ _ hL h.2⟩
theorem cy_getsF : cx_Lo cx_getsF := by
  intro E P t pc L' L st M S1 hL h
  cases h
theorem cl_ldcw : cm_Lo cm_ldcw := by
  intro E P t pc L' L st M k' k hL hk h
  unfold cm_ldcw at h ⊢
  dsimp only at h ⊢
  first | exact h.elim | exact hk _ _ _ _ _ hL h | exact ⟨h.1, hk _ _ _ _ _ hL h.2⟩ | exact ⟨h.1, h.2.1, hk _ _ _ _ _ hL h.2.2⟩ | exact ⟨h.1, h.2.1, h.2.2.1, hk _ _ _ _ _ hL h.2.2.2⟩ | exact ⟨h.1, h.2.1, h.2.2.1, h.2.2.2.1, hk _ _ _ _ _ hL h.2.2.2.2⟩ | exact ⟨h.1, h.2.1, h.2.2.1, h.2.2.2.1, h.2.2.2.2.1, hk _ _ _ _ _ hL h.2.2.2.2.2⟩ | exact ⟨h.1, h.2.1, h.2.2.1, h.2.2.2.1, h.2.2.2.2.1, h.2.2.2.2.2.1, hk _ _ _ _ _ hL h.2.2.2.2.2.2⟩ | exact ⟨h.1, h.2.1, h.2.2.1, h.2.2.2.1, h.2.2.2.2.1, h.2.2.2.2.2.1, h.2.2.2.2.2.2.1, hk _ _ _ _ _ hL h.2.2.2.2.2.2.2⟩ | exact ⟨h.1, h.2.1, h.2.2.1, h.2.2.2.1, h.2.2.2.2.1, h.2.2.2.2.2.1, h.2.2.2.2.2.2.1, h.2.2.2.2.2.2.2.1, hk _ _ _ _ _ hL h.2.2.2.2.2.2.2.2⟩ | exact ⟨h.1, h.2.1, h.2.2.1, h.2.2.2.1, h.2.2.2.2.1, h.2.2.2.2.2.1, h.2.2.2.2.2.2.1, h.2.2.2.2.2.2.2.1, h.2.2.2.2.2.2.2.2.1, hk _ _ _ _ _ hL h.2.2.2.2.2.2.2.2.2⟩
theorem cy_ldcw : cx_Lo cx_ldcw := by
  intro E P t pc L' L st M S1 hL h
  have h : some _ = some S1 := h
  cases h
  exact ⟨_, hL, rfl⟩
theorem cl_mmax : cm_Lo cm_mmax := by
  intro E P t pc L' L st M k' k hL hk h
  unfold cm_mmax at h ⊢
  dsimp only at h ⊢
  split at h <;> (first | exact h.elim | exact hk _ _ _ _ _ hL h | exact ⟨h.1, hk _ _ _ _ _ hL h.2⟩ | exact ⟨h.1, h.2.1, hk _ _ _ _ _ hL h.2.2⟩ | exact ⟨h.1, h.2.1, h.2.2.1, hk _ _ _ _ _ hL h.2.2.2⟩ | exact ⟨h.1, h.2.1, h.2.2.1, h.2.2.2.1, hk _ _ _ _ _ hL h.2.2.2.2⟩ | exact ⟨h.1, h.2.1, h.2.2.1, h.2.2.2.1, h.2.2.2.2.1, hk _ _ _ _ _ hL h.2.2.2.2.2⟩ | exact ⟨h.1, h.2.1, h.2.2.1, h.2.2.2.1, h.2.2.2.2.1, h.2.2.2.2.2.1, hk _ _ _ _ _ hL h.2.2.2.2.2.2⟩ | exact ⟨h.1, h.2.1, h.2.2.1, h.2.2.2.1, h.2.2.2.2.1, h.2.2.2.2.2.1, h.2.2.2.2.2.2.1, hk _ _ _ _ _ hL h.2.2.2.2.2.2.2⟩ | exact ⟨h.1, h.2.1, h.2.2.1, h.2.2.2.1, h.2.2.2.2.1, h.2.2.2.2.2.1, h.2.2.2.2.2.2.1, h.2.2.2.2.2.2.2.1, hk _ _ _ _ _ hL h.2.2.2.2.2.2.2.2⟩ | exact ⟨h.1, h.2.1, h.2.2.1, h.2.2.2.1, h.2.2.2.2.1, h.2.2.2.2.2.1, h.2.2.2.2.2.2.1, h.2.2.2.2.2.2.2.1, h.2.2.2.2.2.2.2.2.1, hk _ _ _ _ _ hL h.2.2.2.2.2.2.2.2.2⟩)
theorem cy_mmax : cx_Lo cx_mmax := by
  intro E P t pc L' L st M S1 hL h
  unfold cx_mmax at h ⊢
  dsimp only at h ⊢
  split at h <;> (first | (cases h; done) | (cases h; exact ⟨_, hL, rfl⟩))
theorem cl_mabs : cm_Lo cm_mabs := by
  intro E P t pc L' L st M k' k hL hk h
  unfold cm_mabs at h ⊢
  dsimp only at h ⊢
  split at h <;> (first | exact h.elim | exact hk _ _ _ _ _ hL h | exact ⟨h.1, hk _ _ _ _ _ hL h.2⟩ | exact ⟨h.1, h.2.1, hk _ _ _ _ _ hL h.2.2⟩ | exact ⟨h.1, h.2.1, h.2.2.1, hk _ _ _ _ _ hL h.2.2.2⟩ | exact ⟨h.1, h.2.1, h.2.2.1, h.2.2.2.1, hk _ _ _ _ _ hL h.2.2.2.2⟩ | exact ⟨h.1, h.2.1, h.2.2.1, h.2.2.2.1, h.2.2.2.2.1, hk _ _ _ _ _ hL h.2.2.2.2.2⟩ | exact ⟨h.1, h.2.1, h.2.2.1, h.2.2.2.1, h.2.2.2.2.1, h.2.2.2.2.2.1, hk _ _ _ _ _ hL h.2.2.2.2.2.2⟩ | exact ⟨h.1, h.2.1, h.2.2.1, h.2.2.2.1, h.2.2.2.2.1, h.2.2.2.2.2.1, h.2.2.2.2.2.2.1, hk _ _ _ _ _ hL h.2.2.2.2.2.2.2⟩ | exact ⟨h.1, h.2.1, h.2.2.1, h.2.2.2.1, h.2.2.2.2.1, h.2.2.2.2.2.1, h.2.2.2.2.2.2.1, h.2.2.2.2.2.2.2.1, hk _ _ _ _ _ hL h.2.2.2.2.2.2.2.2⟩ | exact ⟨h.1, h.2.1, h.2.2.1, h.2.2.2.1, h.2.2.2.2.1, h.2.2.2.2.2.1, h.2.2.2.2.2.2.1, h.2.2.2.2.2.2.2.1, h.2.2.2.2.2.2.2.2.1, hk _ _ _ _ _ hL h.2.2.2.2.2.2.2.2.2⟩)
theorem cy_mabs : cx_Lo cx_mabs := by
  intro E P t pc L' L st M S1 hL h
  unfold cx_mabs at h ⊢
  dsimp only at h ⊢
  split at h <;> (first | (cases h; done) | (cases h; exact ⟨_, hL, rfl⟩))
theorem cl_copyi : cm_Lo cm_copyi := by
  intro E P t pc L' L st M k' k hL hk h
  unfold cm_copyi at h ⊢
  dsimp only at h ⊢
  split at h <;> (first | exact h.elim | exact hk _ _ _ _ _ hL h | exact ⟨h.1, hk _ _ _ _ _ hL h.2⟩ | exact ⟨h.1, h.2.1, hk _ _ _ _ _ hL h.2.2⟩ | exact ⟨h.1, h.2.1, h.2.2.1, hk _ _ _ _ _ hL h.2.2.2⟩ | exact ⟨h.1, h.2.1, h.2.2.1, h.2.2.2.1, hk _ _ _ _ _ hL h.2.2.2.2⟩ | exact ⟨h.1, h.2.1, h.2.2.1, h.2.2.2.1, h.2.2.2.2.1, hk _ _ _ _ _ hL h.2.2.2.2.2⟩ | exact ⟨h.1, h.2.1, h.2.2.1, h.2.2.2.1, h.2.2.2.2.1, h.2.2.2.2.2.1, hk _ _ _ _ _ hL h.2.2.2.2.2.2⟩ | exact ⟨h.1, h.2.1, h.2.2.1, h.2.2.2.1, h.2.2.2.2.1, h.2.2.2.2.2.1, h.2.2.2.2.2.2.1, hk _ _ _ _ _ hL h.2.2.2.2.2.2.2⟩ | exact ⟨h.1, h.2.1, h.2.2.1, h.2.2.2.1, h.2.2.2.2.1, h.2.2.2.2.2.1, h.2.2.2.2.2.2.1, h.2.2.2.2.2.2.2.1, hk _ _ _ _ _ hL h.2.2.2.2.2.2.2.2⟩ | exact ⟨h.1, h.2.1, h.2.2.1, h.2.2.2.1, h.2.2.2.2.1, h.2.2.2.2.2.1, h.2.2.2.2.2.2.1, h.2.2.2.2.2.2.2.1, h.2.2.2.2.2.2.2.2.1, hk _ _ _ _ _ hL h.2.2.2.2.2.2.2.2.2⟩)
theorem cy_copyi : cx_Lo cx_copyi := by
  intro E P t pc L' L st M S1 hL h
  unfold cx_copyi at h ⊢
  dsimp only at h ⊢
  split at h <;> (first | (cases h; done) | (cases h; exact ⟨_, hL, rfl⟩))
theorem cl_getT : cm_Lo cm_getT := by
  intro E P t pc L' L st M k' k hL hk h
  unfold cm_getT at h ⊢
  dsimp only at h ⊢
  first | exact h.elim | exact hk _ _ _ _ _ hL h | exact ⟨h.1, hk _ _ _ _ _ hL h.2⟩ | exact ⟨h.1, h.2.1, hk _ _ _ _ _ hL h.2.2⟩ | exact ⟨h.1, h.2.1, h.2.2.1, hk _ _ _ _ _ hL h.2.2.2⟩ | exact ⟨h.1, h.2.1, h.2.2.1, h.2.2.2.1, hk _ _ _ _ _ hL h.2.2.2.2⟩ | exact ⟨h.1, h.2.1, h.2.2.1, h.2.2.2.1, h.2.2.2.2.1, hk _ _ _ _ _ hL h.2.2.2.2.2⟩ | exact ⟨h.1, h.2.1, h.2.2.1, h.2.2.2.1, h.2.2.2.2.1, h.2.2.2.2.2.1, hk _ _ _ _ _ hL h.2.2.2.2.2.2⟩ | exact ⟨h.1, h.2.1, h.2.2.1, h.2.2.2.1, h.2.2.2.2.1, h.2.2.2.2.2.1, h.2.2.2.2.2.2.1, hk _ _ _ _ _ hL h.2.2.2.2.2.2.2⟩ | exact ⟨h.1, h.2.1, h.2.2.1, h.2.2.2.1, h.2.2.2.2.1, h.2.2.2.2.2.1, h.2.2.2.2.2.2.1, h.2.2.2.2.2.2.2.1, hk _ _ _ _ _ hL h.2.2.2.2.2.2.2.2⟩ | exact ⟨h.1, h.2.1, h.2.2.1, h.2.2.2.1, h.2.2.2.2.1, h.2.2.2.2.2.1, h.2.2.2.2.2.2.1, h.2.2.2.2.2.2.2.1, h.2.2.2.2.2.2.2.2.1, hk _ _ _ _ _ hL h.2.2.2.2.2.2.2.2.2⟩
theorem cy_getT : cx_Lo cx_getT := by
  intro E P t pc L' L st M S1 hL h
  have h : some _ = some S1 := h
  cases h
  exact ⟨_, hL, rfl⟩
theorem cl_tald : cm_Lo cm_tald := by
  intro E P t pc L' L st M k' k hL hk h
  unfold cm_tald at h ⊢
  dsimp only at h ⊢
  split at h <;> (first | exact h.elim | exact hk _ _ _ _ _ hL h | exact ⟨h.1, hk _ _ _ _ _ hL h.2⟩ | exact ⟨h.1, h.2.1, hk _ _ _ _ _ hL h.2.2⟩ | exact ⟨h.1, h.2.1, h.2.2.1, hk _ _ _ _ _ hL h.2.2.2⟩ | exact ⟨h.1, h.2.1, h.2.2.1, h.2.2.2.1, hk _ _ _ _ _ hL h.2.2.2.2⟩ | exact ⟨h.1, h.2.1, h.2.2.1, h.2.2.2.1, h.2.2.2.2.1, hk _ _ _ _ _ hL h.2.2.2.2.2⟩ | exact ⟨h.1, h.2.1, h.2.2.1, h.2.2.2.1, h.2.2.2.2.1, h.2.2.2.2.2.1, hk _ _ _ _ _ hL h.2.2.2.2.2.2⟩ | exact ⟨h.1, h.2.1, h.2.2.1, h.2.2.2.1, h.2.2.2.2.1, h.2.2.2.2.2.1, h.2.2.2.2.2.2.1, hk _ _ _ _ _ hL h.2.2.2.2.2.2.2⟩ | exact ⟨h.1, h.2.1, h.2.2.1, h.2.2.2.1, h.2.2.2.2.1, h.2.2.2.2.2.1, h.2.2.2.2.2.2.1, h.2.2.2.2.2.2.2.1, hk _ _ _ _ _ hL h.2.2.2.2.2.2.2.2⟩ | exact ⟨h.1, h.2.1, h.2.2.1, h.2.2.2.1, h.2.2.2.2.1, h.2.2.2.2.2.1, h.2.2.2.2.2.2.1, h.2.2.2.2.2.2.2.1, h.2.2.2.2.2.2.2.2.1, hk _ _ _ _ _ hL h.2.2.2.2.2.2.2.2.2⟩)
theorem cy_tald : cx_Lo cx_tald := by
  intro E P t pc L' L st M S1 hL h
  unfold cx_tald at h ⊢
  dsimp only at h ⊢
  split at h <;> (first | (cases h; done) | (cases h; exact ⟨_, hL, rfl⟩))
theorem cl_alenT : cm_Lo cm_alenT := by
  intro E P t pc L' L st M k' k hL hk h
  unfold cm_alenT at h ⊢
  dsimp only at h ⊢
  split at h <;> (first | exact h.elim | exact hk _ _ _ _ _ hL h | exact ⟨h.1, hk _ _ _ _ _ hL h.2⟩ | exact ⟨h.1, h.2.1, hk _ _ _ _ _ hL h.2.2⟩ | exact ⟨h.1, h.2.1, h.2.2.1, hk _ _ _ _ _ hL h.2.2.2⟩ | exact ⟨h.1, h.2.1, h.2.2.1, h.2.2.2.1, hk _ _ _ _ _ hL h.2.2.2.2⟩ | exact ⟨h.1, h.2.1, h.2.2.1, h.2.2.2.1, h.2.2.2.2.1, hk _ _ _ _ _ hL h.2.2.2.2.2⟩ | exact ⟨h.1, h.2.1, h.2.2.1, h.2.2.2.1, h.2.2.2.2.1, h.2.2.2.2.2.1, hk _ _ _ _ _ hL h.2.2.2.2.2.2⟩ | exact ⟨h.1, h.2.1, h.2.2.1, h.2.2.2.1, h.2.2.2.2.1, h.2.2.2.2.2.1, h.2.2.2.2.2.2.1, hk _ _ _ _ _ hL h.2.2.2.2.2.2.2⟩ | exact ⟨h.1, h.2.1, h.2.2.1, h.2.2.2.1, h.2.2.2.2.1, h.2.2.2.2.2.1, h.2.2.2.2.2.2.1, h.2.2.2.2.2.2.2.1, hk _ _ _ _ _ hL h.2.2.2.2.2.2.2.2⟩ | exact ⟨h.1, h.2.1, h.2.2.1, h.2.2.2.1, h.2.2.2.2.1, h.2.2.2.2.2.1, h.2.2.2.2.2.2.1, h.2.2.2.2.2.2.2.1, h.2.2.2.2.2.2.2.2.1, hk _ _ _ _ _ hL h.2.2.2.2.2.2.2.2.2⟩)
theorem cy_alenT : cx_Lo cx_alenT := by
  intro E P t pc L' L st M S1 hL h
  unfold cx_alenT at h ⊢
  dsimp only at h ⊢
  split at h <;> (first | (cases h; done) | (cases h; exact ⟨_, hL, rfl⟩))
theorem cl_lastore : cm_Lo cm_lastore := by
  intro E P t pc L' L st M k' k hL hk h
  unfold cm_lastore at h ⊢
  dsimp only at h ⊢
  split at h <;> (first | exact h.elim | exact hk _ _ _ _ _ hL h | exact ⟨h.1, hk _ _ _ _ _ hL h.2⟩ | exact ⟨h.1, h.2.1, hk _ _ _ _ _ hL h.2.2⟩ | exact ⟨h.1, h.2.1, h.2.2.1, hk _ _ _ _ _ hL h.2.2.2⟩ | exact ⟨h.1, h.2.1, h.2.2.1, h.2.2.2.1, hk _ _ _ _ _ hL h.2.2.2.2⟩ | exact ⟨h.1, h.2.1, h.2.2.1, h.2.2.2.1, h.2.2.2.2.1, hk _ _ _ _ _ hL h.2.2.2.2.2⟩ | exact ⟨h.1, h.2.1, h.2.2.1, h.2.2.2.1, h.2.2.2.2.1, h.2.2.2.2.2.1, hk _ _ _ _ _ hL h.2.2.2.2.2.2⟩ | exact ⟨h.1, h.2.1, h.2.2.1, h.2.2.2.1, h.2.2.2.2.1, h.2.2.2.2.2.1, h.2.2.2.2.2.2.1, hk _ _ _ _ _ hL h.2.2.2.2.2.2.2⟩ | exact ⟨h.1, h.2.1, h.2.2.1, h.2.2.2.1, h.2.2.2.2.1, h.2.2.2.2.2.1, h.2.2.2.2.2.2.1, h.2.2.2.2.2.2.2.1, hk _ _ _ _ _ hL h.2.2.2.2.2.2.2.2⟩ | exact ⟨h.1, h.2.1, h.2.2.1, h.2.2.2.1, h.2.2.2.2.1, h.2.2.2.2.2.1, h.2.2.2.2.2.2.1, h.2.2.2.2.2.2.2.1, h.2.2.2.2.2.2.2.2.1, hk _ _ _ _ _ hL h.2.2.2.2.2.2.2.2.2⟩)
theorem cy_lastore : cx_Lo cx_lastore := by
  intro E P t pc L' L st M S1 hL h
  unfold cx_lastore at h ⊢
  dsimp only at h ⊢
  split at h <;> (first | (cases h; done) | (cases h; exact ⟨_, hL, rfl⟩))
theorem cl_pop2 : cm_Lo cm_pop2 := by
  intro E P t pc L' L st M k' k hL hk h
  unfold cm_pop2 at h ⊢
  dsimp only at h ⊢
  split at h <;> (first | exact h.elim | exact hk _ _ _ _ _ hL h | exact ⟨h.1, hk _ _ _ _ _ hL h.2⟩ | exact ⟨h.1, h.2.1, hk _ _ _ _ _ hL h.2.2⟩ | exact ⟨h.1, h.2.1, h.2.2.1, hk _ _ _ _ _ hL h.2.2.2⟩ | exact ⟨h.1, h.2.1, h.2.2.1, h.2.2.2.1, hk _ _ _ _ _ hL h.2.2.2.2⟩ | exact ⟨h.1, h.2.1, h.2.2.1, h.2.2.2.1, h.2.2.2.2.1, hk _ _ _ _ _ hL h.2.2.2.2.2⟩ | exact ⟨h.1, h.2.1, h.2.2.1, h.2.2.2.1, h.2.2.2.2.1, h.2.2.2.2.2.1, hk _ _ _ _ _ hL h.2.2.2.2.2.2⟩ | exact ⟨h.1, h.2.1, h.2.2.1, h.2.2.2.1, h.2.2.2.2.1, h.2.2.2.2.2.1, h.2.2.2.2.2.2.1, hk _ _ _ _ _ hL h.2.2.2.2.2.2.2⟩ | exact ⟨h.1, h.2.1, h.2.2.1, h.2.2.2.1, h.2.2.2.2.1, h.2.2.2.2.2.1, h.2.2.2.2.2.2.1, h.2.2.2.2.2.2.2.1, hk _ _ _ _ _ hL h.2.2.2.2.2.2.2.2⟩ | exact ⟨h.1, h.2.1, h.2.2.1, h.2.2.2.1, h.2.2.2.2.1, h.2.2.2.2.2.1, h.2.2.2.2.2.2.1, h.2.2.2.2.2.2.2.1, h.2.2.2.2.2.2.2.2.1, hk _ _ _ _ _ hL h.2.2.2.2.2.2.2.2.2⟩)
theorem cy_pop2 : cx_Lo cx_pop2 := by
  intro E P t pc L' L st M S1 hL h
  unfold cx_pop2 at h ⊢
  dsimp only at h ⊢
  split at h <;> (first | (cases h; done) | (cases h; exact ⟨_, hL, rfl⟩))
theorem cl_1 {o : cm_O} {l : List cm_O} (h : cm_Lo o) (h2 : ∀ o ∈ l, cm_Lo o) : ∀ o' ∈ o :: l, cm_Lo o' := List.forall_mem_cons.mpr ⟨h, h2⟩
theorem cy_1 {o : cm_F1} {l : List cm_F1} (h : cx_Lo o) (h2 : ∀ o ∈ l, cx_Lo o) : ∀ o' ∈ o :: l, cx_Lo o' := List.forall_mem_cons.mpr ⟨h, h2⟩
theorem cl_ops : ∀ o ∈ cm_ops, cm_Lo o := cl_1 cl_iconst (cl_1 cl_bipush (cl_1 cl_sipush (cl_1 cl_lconst (cl_1 cl_iload (cl_1 cl_iloadn (cl_1 cl_lload (cl_1 cl_lloadn (cl_1 cl_aload (cl_1 cl_aloadn (cl_1 cl_istore (cl_1 cl_istoren (cl_1 cl_lstore (cl_1 cl_lstoren (cl_1 cl_astore (cl_1 cl_astoren (cl_1 cl_iadd (cl_1 cl_isub (cl_1 cl_imul (cl_1 cl_iand (cl_1 cl_ior (cl_1 cl_ixor (cl_1 cl_ishl (cl_1 cl_ishr (cl_1 cl_iushr (cl_1 cl_idiv (cl_1 cl_irem (cl_1 cl_ineg (cl_1 cl_i2b (cl_1 cl_i2l (cl_1 cl_lcmp (cl_1 cl_dup (cl_1 cl_pop (cl_1 cl_dup2 (cl_1 cl_iinc (cl_1 cl_icmp_eq (cl_1 cl_icmp_ne (cl_1 cl_icmp_lt (cl_1 cl_icmp_ge (cl_1 cl_icmp_gt (cl_1 cl_icmp_le (cl_1 cl_if_eq (cl_1 cl_if_ne (cl_1 cl_if_lt (cl_1 cl_if_ge (cl_1 cl_if_gt (cl_1 cl_if_le (cl_1 cl_goto (cl_1 cl_sw (cl_1 cl_get (cl_1 cl_put (cl_1 cl_no (cl_1 cl_iaload (cl_1 cl_baload (cl_1 cl_laload (cl_1 cl_aaload (cl_1 cl_iastore (cl_1 cl_bastore (cl_1 cl_no (cl_1 cl_no (cl_1 cl_no (cl_1 cl_no (cl_1 cl_no (cl_1 cl_no (cl_1 cl_alen (cl_1 cl_sald (cl_1 cl_no (cl_1 cl_mmin (cl_1 cl_ldc (cl_1 cl_ldcS (cl_1 cl_getV (cl_1 cl_getC (cl_1 cl_gets (cl_1 cl_alenS (cl_1 cl_baloadS (cl_1 cl_i2c (cl_1 cl_ladd (cl_1 cl_lsub (cl_1 cl_lmul (cl_1 cl_ldiv (cl_1 cl_lrem (cl_1 cl_ldc2 (cl_1 cl_getsF (cl_1 cl_ldcw (cl_1 cl_mmax (cl_1 cl_mabs (cl_1 cl_copyi (cl_1 cl_getT (cl_1 cl_tald (cl_1 cl_alenT (cl_1 cl_lastore (cl_1 cl_pop2 (fun _ h => absurd h List.not_mem_nil))))))))))))))))))))))))))))))))))))))))))))))))))))))))))))))))))))))))))))))))))))))))))))
theorem cy_ops : ∀ o ∈ cx_ops, cx_Lo o := cy_1 cy_iconst (cy_1 cy_bipush (cy_1 cy_sipush (cy_1 cy_lconst (cy_1 cy_iload (cy_1 cy_iloadn (cy_1 cy_lload (cy_1 cy_lloadn (cy_1 cy_aload (cy_1 cy_aloadn (cy_1 cy_istore (cy_1 cy_istoren (cy_1 cy_lstore (cy_1 cy_lstoren (cy_1 cy_astore (cy_1 cy_astoren (cy_1 cy_iadd (cy_1 cy_isub (cy_1 cy_imul (cy_1 cy_iand (cy_1 cy_ior (cy_1 cy_ixor (cy_1 cy_ishl (cy_1 cy_ishr (cy_1 cy_iushr (cy_1 cy_idiv (cy_1 cy_irem (cy_1 cy_ineg (cy_1 cy_i2b (cy_1 cy_i2l (cy_1 cy_lcmp (cy_1 cy_dup (cy_1 cy_pop (cy_1 cy_dup2 (cy_1 cy_iinc (cy_1 cy_icmp_eq (cy_1 cy_icmp_ne (cy_1 cy_icmp_lt (cy_1 cy_icmp_ge (cy_1 cy_icmp_gt (cy_1 cy_icmp_le (cy_1 cy_if_eq (cy_1 cy_if_ne (cy_1 cy_if_lt (cy_1 cy_if_ge (cy_1 cy_if_gt (cy_1 cy_if_le (cy_1 cy_goto (cy_1 cy_sw (cy_1 cy_get (cy_1 cy_put (cy_1 cy_no (cy_1 cy_iaload (cy_1 cy_baload (cy_1 cy_laload (cy_1 cy_aaload (cy_1 cy_iastore (cy_1 cy_bastore (cy_1 cy_no (cy_1 cy_no (cy_1 cy_no (cy_1 cy_no (cy_1 cy_no (cy_1 cy_no (cy_1 cy_alen (cy_1 cy_sald (cy_1 cy_no (cy_1 cy_mmin (cy_1 cy_ldc (cy_1 cy_ldcS (cy_1 cy_getV (cy_1 cy_getC (cy_1 cy_gets (cy_1 cy_alenS (cy_1 cy_baloadS (cy_1 cy_i2c (cy_1 cy_ladd (cy_1 cy_lsub (cy_1 cy_lmul (cy_1 cy_ldiv (cy_1 cy_lrem (cy_1 cy_ldc2 (cy_1 cy_getsF (cy_1 cy_ldcw (cy_1 cy_mmax (cy_1 cy_mabs (cy_1 cy_copyi (cy_1 cy_getT (cy_1 cy_tald (cy_1 cy_alenT (cy_1 cy_lastore (cy_1 cy_pop2 (fun _ h => absurd h List.not_mem_nil))))))))))))))))))))))))))))))))))))))))))))))))))))))))))))))))))))))))))))))))))))))))))))
