/-! CM: LIBERAL RUNS: operations without side conditions -/
/-- places, as numbers -/
def adL (a n : Nat) : Nat := match a with
  | 0 => 0 + n
  | m + 1 => (m + 1) + n
def jmL (a : Nat) (o : Int) : Nat := match a with
  | 0 => (((0 : Nat) : Int) + o).toNat
  | m + 1 => (((m + 1 : Nat) : Int) + o).toNat
theorem adL_eq (a n : Nat) : adL a n = a + n := by cases a <;> rfl
theorem jmL_eq (a : Nat) (o : Int) : jmL a o = ((a : Int) + o).toNat := by cases a <;> rfl
def cq_adv (S : cm_S) (n : Nat) (st : List Value) : cm_S := (adL S.1 n, S.2.1, st, S.2.2.2)
theorem cq_adv_eq (S : cm_S) (n : Nat) (st : List Value) : cq_adv S n st = cm_adv S n st := by
  unfold cq_adv
  rw [adL_eq]
  rfl
abbrev cm_T1 : Type := cm_E → ev_P → ev_T → cm_S → (cm_S → Prop) → Prop
def cq_no : cm_T1 := fun _ _ _ _ _ => False
def cq_ld (ty : Nat) (n i : Nat) (S : cm_S) (k : cm_S → Prop) : Prop := match ty, cm_look S.2.1 i with
  | 0, some (.int x) => k (cq_adv S n (.int x :: S.2.2.1))
  | 1, some (.long x) => k (cq_adv S n (.long x :: S.2.2.1))
  | 2, some (.ref x) => k (cq_adv S n (.ref x :: S.2.2.1))
  | _, _ => False
def cq_sto (ty : Nat) (n i : Nat) (S : cm_S) (k : cm_S → Prop) : Prop := match ty, S.2.2.1 with
  | 0, .int x :: st => k (adL S.1 n, cm_st1 S.2.1 i (.int x), st, S.2.2.2)
  | 1, .long x :: st => k (adL S.1 n, cm_st2 S.2.1 i (.long x), st, S.2.2.2)
  | 2, .ref x :: st => k (adL S.1 n, cm_st1 S.2.1 i (.ref x), st, S.2.2.2)
  | _, _ => False
/-- both together -/
def cm_Cj (o : cm_O) (x : cm_T1) : Prop := ∀ (E : cm_E) (P : ev_P) (t : ev_T) (S : cm_S) (k1 k2 : cm_S → Prop), o.2 E P t S k1 → x E P t S k2 → o.2 E P t S (fun S => k1 S ∧ k2 S)
def cq_Lo (o : cm_T1) : Prop := ∀ (E : cm_E) (P : ev_P) (t : ev_T) (pc : Nat) (L' L : List (Nat × Value)) (st : List Value) (M : cm_M) (k' k : cm_S → Prop), cm_le L' L → (∀ (pc2 : Nat) (A B : List (Nat × Value)) (st2 : List Value) (M2 : cm_M), cm_le A B → k' (pc2, A, st2, M2) → k (pc2, B, st2, M2)) → o E P t (pc, L', st, M) k' → o E P t (pc, L, st, M) k
theorem cj_no : cm_Cj cm_no cq_no := fun E P t S k1 k2 h _ => h.elim
theorem cp_no : cq_Lo cq_no := fun E P t pc L' L st M k' k hL hk h => h.elim
theorem cj_ld {ty n i : Nat} {S : cm_S} {k1 k2 : cm_S → Prop} (h : cm_ld ty n i S k1) (g : cq_ld ty n i S k2) : cm_ld ty n i S (fun S => k1 S ∧ k2 S) := by
  unfold cm_ld at h ⊢
  unfold cq_ld at g
  try simp only [cq_adv_eq, adL_eq, jmL_eq] at g
  split at h
  · rename_i x hx
    first | exact ⟨h, g⟩ | (rw [hx] at g; exact ⟨h, g⟩)
  · rename_i x hx
    first | exact ⟨h, g⟩ | (rw [hx] at g; exact ⟨h, g⟩)
  · rename_i x hx
    first | exact ⟨h, g⟩ | (rw [hx] at g; exact ⟨h, g⟩)
  · exact h.elim
theorem cj_sto {ty n i nL : Nat} {S : cm_S} {k1 k2 : cm_S → Prop} (h : cm_sto ty n i nL S k1) (g : cq_sto ty n i S k2) : cm_sto ty n i nL S (fun S => k1 S ∧ k2 S) := by
  obtain ⟨pc, L, st, M⟩ := S
  unfold cm_sto at h ⊢
  unfold cq_sto at g
  try simp only [cq_adv_eq, adL_eq, jmL_eq] at g
  dsimp only at h g ⊢
  split at h
  · exact ⟨h.1, h.2, g⟩
  · exact ⟨h.1, h.2, g⟩
  · exact ⟨h.1, h.2, g⟩
  · exact h.elim
theorem cp_ld {ty n i pc : Nat} {L' L : List (Nat × Value)} {st : List Value} {M : cm_M} {k' k : cm_S → Prop} (hL : cm_le L' L) (hk : ∀ (pc2 : Nat) (A B : List (Nat × Value)) (st2 : List Value) (M2 : cm_M), cm_le A B → k' (pc2, A, st2, M2) → k (pc2, B, st2, M2)) (h : cq_ld ty n i (pc, L', st, M) k') : cq_ld ty n i (pc, L, st, M) k := by
  unfold cq_ld at h
  split at h
  · rename_i x hx
    unfold cq_ld
    dsimp only at hx ⊢
    rw [hL.2 _ _ hx]
    exact hk _ _ _ _ _ hL h
  · rename_i x hx
    unfold cq_ld
    dsimp only at hx ⊢
    rw [hL.2 _ _ hx]
    exact hk _ _ _ _ _ hL h
  · rename_i x hx
    unfold cq_ld
    dsimp only at hx ⊢
    rw [hL.2 _ _ hx]
    exact hk _ _ _ _ _ hL h
  · exact h.elim
theorem cp_sto {ty n i pc : Nat} {L' L : List (Nat × Value)} {st : List Value} {M : cm_M} {k' k : cm_S → Prop} (hL : cm_le L' L) (hk : ∀ (pc2 : Nat) (A B : List (Nat × Value)) (st2 : List Value) (M2 : cm_M), cm_le A B → k' (pc2, A, st2, M2) → k (pc2, B, st2, M2)) (h : cq_sto ty n i (pc, L', st, M) k') : cq_sto ty n i (pc, L, st, M) k := by
  unfold cq_sto at h
  dsimp only at h
  split at h
  · exact hk _ _ _ _ _ (cm_le_1 _ _ hL) h
  · exact hk _ _ _ _ _ (cm_le_2 _ _ hL) h
  · exact hk _ _ _ _ _ (cm_le_1 _ _ hL) h
  · exact h.elim
def cq_iconst : cm_T1 := fun E P t S k => k (cq_adv S 1 (.int (Int32.ofInt t.1) :: S.2.2.1))
theorem cj_iconst : cm_Cj cm_iconst cq_iconst := by
  intro E P t S k1 k2 h g
  obtain ⟨pc, L, st, M⟩ := S
  unfold cm_iconst at h ⊢
  unfold cq_iconst at g
  try simp only [cq_adv_eq, adL_eq, jmL_eq] at g
  dsimp only at h g ⊢
  first | exact h.elim | exact ⟨h, g⟩ | exact ⟨h.1, h.2, g⟩ | exact ⟨h.1, h.2.1, h.2.2, g⟩ | exact ⟨h.1, h.2.1, h.2.2.1, h.2.2.2, g⟩ | exact ⟨h.1, h.2.1, h.2.2.1, h.2.2.2.1, h.2.2.2.2, g⟩ | exact ⟨h.1, h.2.1, h.2.2.1, h.2.2.2.1, h.2.2.2.2.1, h.2.2.2.2.2, g⟩ | exact ⟨h.1, h.2.1, h.2.2.1, h.2.2.2.1, h.2.2.2.2.1, h.2.2.2.2.2.1, h.2.2.2.2.2.2, g⟩ | exact ⟨h.1, h.2.1, h.2.2.1, h.2.2.2.1, h.2.2.2.2.1, h.2.2.2.2.2.1, h.2.2.2.2.2.2.1, h.2.2.2.2.2.2.2, g⟩ | exact ⟨h.1, h.2.1, h.2.2.1, h.2.2.2.1, h.2.2.2.2.1, h.2.2.2.2.2.1, h.2.2.2.2.2.2.1, h.2.2.2.2.2.2.2.1, h.2.2.2.2.2.2.2.2, g⟩ | exact ⟨h.1, h.2.1, h.2.2.1, h.2.2.2.1, h.2.2.2.2.1, h.2.2.2.2.2.1, h.2.2.2.2.2.2.1, h.2.2.2.2.2.2.2.1, h.2.2.2.2.2.2.2.2.1, h.2.2.2.2.2.2.2.2.2, g⟩
theorem cp_iconst : cq_Lo cq_iconst := by
  intro E P t pc L' L st M k' k hL hk h
  unfold cq_iconst at h ⊢
  dsimp only at h ⊢
  exact hk _ _ _ _ _ hL h
def cq_bipush : cm_T1 := fun E P t S k => k (cq_adv S 2 (.int ((Int8.ofInt t.1).toInt32) :: S.2.2.1))
theorem cj_bipush : cm_Cj cm_bipush cq_bipush := by
  intro E P t S k1 k2 h g
  obtain ⟨pc, L, st, M⟩ := S
  unfold cm_bipush at h ⊢
  unfold cq_bipush at g
  try simp only [cq_adv_eq, adL_eq, jmL_eq] at g
  dsimp only at h g ⊢
  first | exact h.elim | exact ⟨h, g⟩ | exact ⟨h.1, h.2, g⟩ | exact ⟨h.1, h.2.1, h.2.2, g⟩ | exact ⟨h.1, h.2.1, h.2.2.1, h.2.2.2, g⟩ | exact ⟨h.1, h.2.1, h.2.2.1, h.2.2.2.1, h.2.2.2.2, g⟩ | exact ⟨h.1, h.2.1, h.2.2.1, h.2.2.2.1, h.2.2.2.2.1, h.2.2.2.2.2, g⟩ | exact ⟨h.1, h.2.1, h.2.2.1, h.2.2.2.1, h.2.2.2.2.1, h.2.2.2.2.2.1, h.2.2.2.2.2.2, g⟩ | exact ⟨h.1, h.2.1, h.2.2.1, h.2.2.2.1, h.2.2.2.2.1, h.2.2.2.2.2.1, h.2.2.2.2.2.2.1, h.2.2.2.2.2.2.2, g⟩ | exact ⟨h.1, h.2.1, h.2.2.1, h.2.2.2.1, h.2.2.2.2.1, h.2.2.2.2.2.1, h.2.2.2.2.2.2.1, h.2.2.2.2.2.2.2.1, h.2.2.2.2.2.2.2.2, g⟩ | exact ⟨h.1, h.2.1, h.2.2.1, h.2.2.2.1, h.2.2.2.2.1, h.2.2.2.2.2.1, h.2.2.2.2.2.2.1, h.2.2.2.2.2.2.2.1, h.2.2.2.2.2.2.2.2.1, h.2.2.2.2.2.2.2.2.2, g⟩
theorem cp_bipush : cq_Lo cq_bipush := by
  intro E P t pc L' L st M k' k hL hk h
  unfold cq_bipush at h ⊢
  dsimp only at h ⊢
  exact hk _ _ _ _ _ hL h
def cq_sipush : cm_T1 := fun E P t S k => k (cq_adv S 3 (.int ((Int16.ofInt t.1).toInt32) :: S.2.2.1))
theorem cj_sipush : cm_Cj cm_sipush cq_sipush := by
  intro E P t S k1 k2 h g
  obtain ⟨pc, L, st, M⟩ := S
  unfold cm_sipush at h ⊢
  unfold cq_sipush at g
  try simp only [cq_adv_eq, adL_eq, jmL_eq] at g
  dsimp only at h g ⊢
  first | exact h.elim | exact ⟨h, g⟩ | exact ⟨h.1, h.2, g⟩ | exact ⟨h.1, h.2.1, h.2.2, g⟩ | exact ⟨h.1, h.2.1, h.2.2.1, h.2.2.2, g⟩ | exact ⟨h.1, h.2.1, h.2.2.1, h.2.2.2.1, h.2.2.2.2, g⟩ | exact ⟨h.1, h.2.1, h.2.2.1, h.2.2.2.1, h.2.2.2.2.1, h.2.2.2.2.2, g⟩ | exact ⟨h.1, h.2.1, h.2.2.1, h.2.2.2.1, h.2.2.2.2.1, h.2.2.2.2.2.1, h.2.2.2.2.2.2, g⟩ | exact ⟨h.1, h.2.1, h.2.2.1, h.2.2.2.1, h.2.2.2.2.1, h.2.2.2.2.2.1, h.2.2.2.2.2.2.1, h.2.2.2.2.2.2.2, g⟩ | exact ⟨h.1, h.2.1, h.2.2.1, h.2.2.2.1, h.2.2.2.2.1, h.2.2.2.2.2.1, h.2.2.2.2.2.2.1, h.2.2.2.2.2.2.2.1, h.2.2.2.2.2.2.2.2, g⟩ | exact ⟨h.1, h.2.1, h.2.2.1, h.2.2.2.1, h.2.2.2.2.1, h.2.2.2.2.2.1, h.2.2.2.2.2.2.1, h.2.2.2.2.2.2.2.1, h.2.2.2.2.2.2.2.2.1, h.2.2.2.2.2.2.2.2.2, g⟩
theorem cp_sipush : cq_Lo cq_sipush := by
  intro E P t pc L' L st M k' k hL hk h
  unfold cq_sipush at h ⊢
  dsimp only at h ⊢
  exact hk _ _ _ _ _ hL h
def cq_lconst : cm_T1 := fun E P t S k => k (cq_adv S 1 (.long (Int64.ofNat t.1.toNat) :: S.2.2.1))
theorem cj_lconst : cm_Cj cm_lconst cq_lconst := by
  intro E P t S k1 k2 h g
  obtain ⟨pc, L, st, M⟩ := S
  unfold cm_lconst at h ⊢
  unfold cq_lconst at g
  try simp only [cq_adv_eq, adL_eq, jmL_eq] at g
  dsimp only at h g ⊢
  first | exact h.elim | exact ⟨h, g⟩ | exact ⟨h.1, h.2, g⟩ | exact ⟨h.1, h.2.1, h.2.2, g⟩ | exact ⟨h.1, h.2.1, h.2.2.1, h.2.2.2, g⟩ | exact ⟨h.1, h.2.1, h.2.2.1, h.2.2.2.1, h.2.2.2.2, g⟩ | exact ⟨h.1, h.2.1, h.2.2.1, h.2.2.2.1, h.2.2.2.2.1, h.2.2.2.2.2, g⟩ | exact ⟨h.1, h.2.1, h.2.2.1, h.2.2.2.1, h.2.2.2.2.1, h.2.2.2.2.2.1, h.2.2.2.2.2.2, g⟩ | exact ⟨h.1, h.2.1, h.2.2.1, h.2.2.2.1, h.2.2.2.2.1, h.2.2.2.2.2.1, h.2.2.2.2.2.2.1, h.2.2.2.2.2.2.2, g⟩ | exact ⟨h.1, h.2.1, h.2.2.1, h.2.2.2.1, h.2.2.2.2.1, h.2.2.2.2.2.1, h.2.2.2.2.2.2.1, h.2.2.2.2.2.2.2.1, h.2.2.2.2.2.2.2.2, g⟩ | exact ⟨h.1, h.2.1, h.2.2.1, h.2.2.2.1, h.2.2.2.2.1, h.2.2.2.2.2.1, h.2.2.2.2.2.2.1, h.2.2.2.2.2.2.2.1, h.2.2.2.2.2.2.2.2.1, h.2.2.2.2.2.2.2.2.2, g⟩
theorem cp_lconst : cq_Lo cq_lconst := by
  intro E P t pc L' L st M k' k hL hk h
  unfold cq_lconst at h ⊢
  dsimp only at h ⊢
  exact hk _ _ _ _ _ hL h
def cq_iload : cm_T1 := fun E P t S k => cq_ld 0 2 t.1.toNat S k
theorem cj_iload : cm_Cj cm_iload cq_iload := fun E P t S k1 k2 h g => cj_ld h g
theorem cp_iload : cq_Lo cq_iload := fun E P t pc L' L st M k' k hL hk h => cp_ld hL hk h
def cq_iloadn : cm_T1 := fun E P t S k => cq_ld 0 1 t.1.toNat S k
theorem cj_iloadn : cm_Cj cm_iloadn cq_iloadn := fun E P t S k1 k2 h g => cj_ld h g
theorem cp_iloadn : cq_Lo cq_iloadn := fun E P t pc L' L st M k' k hL hk h => cp_ld hL hk h
def cq_lload : cm_T1 := fun E P t S k => cq_ld 1 2 t.1.toNat S k
theorem cj_lload : cm_Cj cm_lload cq_lload := fun E P t S k1 k2 h g => cj_ld h g
theorem cp_lload : cq_Lo cq_lload := fun E P t pc L' L st M k' k hL hk h => cp_ld hL hk h
def cq_lloadn : cm_T1 := fun E P t S k => cq_ld 1 1 t.1.toNat S k
theorem cj_lloadn : cm_Cj cm_lloadn cq_lloadn := fun E P t S k1 k2 h g => cj_ld h g
theorem cp_lloadn : cq_Lo cq_lloadn := fun E P t pc L' L st M k' k hL hk h => cp_ld hL hk h
def cq_aload : cm_T1 := fun E P t S k => cq_ld 2 2 t.1.toNat S k
theorem cj_aload : cm_Cj cm_aload cq_aload := fun E P t S k1 k2 h g => cj_ld h g
theorem cp_aload : cq_Lo cq_aload := fun E P t pc L' L st M k' k hL hk h => cp_ld hL hk h
def cq_aloadn : cm_T1 := fun E P t S k => cq_ld 2 1 t.1.toNat S k
theorem cj_aloadn : cm_Cj cm_aloadn cq_aloadn := fun E P t S k1 k2 h g => cj_ld h g
theorem cp_aloadn : cq_Lo cq_aloadn := fun E P t pc L' L st M k' k hL hk h => cp_ld hL hk h
def cq_istore : cm_T1 := fun E P t S k => cq_sto 0 2 t.1.toNat S k
theorem cj_istore : cm_Cj cm_istore cq_istore := fun E P t S k1 k2 h g => cj_sto h g
theorem cp_istore : cq_Lo cq_istore := fun E P t pc L' L st M k' k hL hk h => cp_sto hL hk h
def cq_istoren : cm_T1 := fun E P t S k => cq_sto 0 1 t.1.toNat S k
theorem cj_istoren : cm_Cj cm_istoren cq_istoren := fun E P t S k1 k2 h g => cj_sto h g
theorem cp_istoren : cq_Lo cq_istoren := fun E P t pc L' L st M k' k hL hk h => cp_sto hL hk h
def cq_lstore : cm_T1 := fun E P t S k => cq_sto 1 2 t.1.toNat S k
theorem cj_lstore : cm_Cj cm_lstore cq_lstore := fun E P t S k1 k2 h g => cj_sto h g
theorem cp_lstore : cq_Lo cq_lstore := fun E P t pc L' L st M k' k hL hk h => cp_sto hL hk h
def cq_lstoren : cm_T1 := fun E P t S k => cq_sto 1 1 t.1.toNat S k
theorem cj_lstoren : cm_Cj cm_lstoren cq_lstoren := fun E P t S k1 k2 h g => cj_sto h g
theorem cp_lstoren : cq_Lo cq_lstoren := fun E P t pc L' L st M k' k hL hk h => cp_sto hL hk h
def cq_astore : cm_T1 := fun E P t S k => cq_sto 2 2 t.1.toNat S k
theorem cj_astore : cm_Cj cm_astore cq_astore := fun E P t S k1 k2 h g => cj_sto h g
theorem cp_astore : cq_Lo cq_astore := fun E P t pc L' L st M k' k hL hk h => cp_sto hL hk h
def cq_astoren : cm_T1 := fun E P t S k => cq_sto 2 1 t.1.toNat S k
theorem cj_astoren : cm_Cj cm_astoren cq_astoren := fun E P t S k1 k2 h g => cj_sto h g
theorem cp_astoren : cq_Lo cq_astoren := fun E P t pc L' L st M k' k hL hk h => cp_sto hL hk h
def cq_iadd : cm_T1 := fun E P t S k => match S.2.2.1 with
  | .int y :: .int x :: st => k (cq_adv S 1 (.int (x + y) :: st))
  | _ => False
theorem cj_iadd : cm_Cj cm_iadd cq_iadd := by
  intro E P t S k1 k2 h g
  obtain ⟨pc, L, st, M⟩ := S
  unfold cm_iadd at h ⊢
  unfold cq_iadd at g
  try simp only [cq_adv_eq, adL_eq, jmL_eq] at g
  dsimp only at h g ⊢
  split at h <;> (first | exact h.elim | exact ⟨h, g⟩ | exact ⟨h.1, h.2, g⟩ | exact ⟨h.1, h.2.1, h.2.2, g⟩ | exact ⟨h.1, h.2.1, h.2.2.1, h.2.2.2, g⟩ | exact ⟨h.1, h.2.1, h.2.2.1, h.2.2.2.1, h.2.2.2.2, g⟩ | exact ⟨h.1, h.2.1, h.2.2.1, h.2.2.2.1, h.2.2.2.2.1, h.2.2.2.2.2, g⟩ | exact ⟨h.1, h.2.1, h.2.2.1, h.2.2.2.1, h.2.2.2.2.1, h.2.2.2.2.2.1, h.2.2.2.2.2.2, g⟩ | exact ⟨h.1, h.2.1, h.2.2.1, h.2.2.2.1, h.2.2.2.2.1, h.2.2.2.2.2.1, h.2.2.2.2.2.2.1, h.2.2.2.2.2.2.2, g⟩ | exact ⟨h.1, h.2.1, h.2.2.1, h.2.2.2.1, h.2.2.2.2.1, h.2.2.2.2.2.1, h.2.2.2.2.2.2.1, h.2.2.2.2.2.2.2.1, h.2.2.2.2.2.2.2.2, g⟩ | exact ⟨h.1, h.2.1, h.2.2.1, h.2.2.2.1, h.2.2.2.2.1, h.2.2.2.2.2.1, h.2.2.2.2.2.2.1, h.2.2.2.2.2.2.2.1, h.2.2.2.2.2.2.2.2.1, h.2.2.2.2.2.2.2.2.2, g⟩)
theorem cp_iadd : cq_Lo cq_iadd := by
  intro E P t pc L' L st M k' k hL hk h
  unfold cq_iadd at h ⊢
  dsimp only at h ⊢
  split at h <;> (first | exact h.elim | exact hk _ _ _ _ _ hL h)
def cq_isub : cm_T1 := fun E P t S k => match S.2.2.1 with
  | .int y :: .int x :: st => k (cq_adv S 1 (.int (x - y) :: st))
  | _ => False
theorem cj_isub : cm_Cj cm_isub cq_isub := by
  intro E P t S k1 k2 h g
  obtain ⟨pc, L, st, M⟩ := S
  unfold cm_isub at h ⊢
  unfold cq_isub at g
  try simp only [cq_adv_eq, adL_eq, jmL_eq] at g
  dsimp only at h g ⊢
  split at h <;> (first | exact h.elim | exact ⟨h, g⟩ | exact ⟨h.1, h.2, g⟩ | exact ⟨h.1, h.2.1, h.2.2, g⟩ | exact ⟨h.1, h.2.1, h.2.2.1, h.2.2.2, g⟩ | exact ⟨h.1, h.2.1, h.2.2.1, h.2.2.2.1, h.2.2.2.2, g⟩ | exact ⟨h.1, h.2.1, h.2.2.1, h.2.2.2.1, h.2.2.2.2.1, h.2.2.2.2.2, g⟩ | exact ⟨h.1, h.2.1, h.2.2.1, h.2.2.2.1, h.2.2.2.2.1, h.2.2.2.2.2.1, h.2.2.2.2.2.2, g⟩ | exact ⟨h.1, h.2.1, h.2.2.1, h.2.2.2.1, h.2.2.2.2.1, h.2.2.2.2.2.1, h.2.2.2.2.2.2.1, h.2.2.2.2.2.2.2, g⟩ | exact ⟨h.1, h.2.1, h.2.2.1, h.2.2.2.1, h.2.2.2.2.1, h.2.2.2.2.2.1, h.2.2.2.2.2.2.1, h.2.2.2.2.2.2.2.1, h.2.2.2.2.2.2.2.2, g⟩ | exact ⟨h.1, h.2.1, h.2.2.1, h.2.2.2.1, h.2.2.2.2.1, h.2.2.2.2.2.1, h.2.2.2.2.2.2.1, h.2.2.2.2.2.2.2.1, h.2.2.2.2.2.2.2.2.1, h.2.2.2.2.2.2.2.2.2, g⟩)
theorem cp_isub : cq_Lo cq_isub := by
  intro E P t pc L' L st M k' k hL hk h
  unfold cq_isub at h ⊢
  dsimp only at h ⊢
  split at h <;> (first | exact h.elim | exact hk _ _ _ _ _ hL h)
def cq_imul : cm_T1 := fun E P t S k => match S.2.2.1 with
  | .int y :: .int x :: st => k (cq_adv S 1 (.int (x * y) :: st))
  | _ => False
theorem cj_imul : cm_Cj cm_imul cq_imul := by
  intro E P t S k1 k2 h g
  obtain ⟨pc, L, st, M⟩ := S
  unfold cm_imul at h ⊢
  unfold cq_imul at g
  try simp only [cq_adv_eq, adL_eq, jmL_eq] at g
  dsimp only at h g ⊢
  split at h <;> (first | exact h.elim | exact ⟨h, g⟩ | exact ⟨h.1, h.2, g⟩ | exact ⟨h.1, h.2.1, h.2.2, g⟩ | exact ⟨h.1, h.2.1, h.2.2.1, h.2.2.2, g⟩ | exact ⟨h.1, h.2.1, h.2.2.1, h.2.2.2.1, h.2.2.2.2, g⟩ | exact ⟨h.1, h.2.1, h.2.2.1, h.2.2.2.1, h.2.2.2.2.1, h.2.2.2.2.2, g⟩ | exact ⟨h.1, h.2.1, h.2.2.1, h.2.2.2.1, h.2.2.2.2.1, h.2.2.2.2.2.1, h.2.2.2.2.2.2, g⟩ | exact ⟨h.1, h.2.1, h.2.2.1, h.2.2.2.1, h.2.2.2.2.1, h.2.2.2.2.2.1, h.2.2.2.2.2.2.1, h.2.2.2.2.2.2.2, g⟩ | exact ⟨h.1, h.2.1, h.2.2.1, h.2.2.2.1, h.2.2.2.2.1, h.2.2.2.2.2.1, h.2.2.2.2.2.2.1, h.2.2.2.2.2.2.2.1, h.2.2.2.2.2.2.2.2, g⟩ | exact ⟨h.1, h.2.1, h.2.2.1, h.2.2.2.1, h.2.2.2.2.1, h.2.2.2.2.2.1, h.2.2.2.2.2.2.1, h.2.2.2.2.2.2.2.1, h.2.2.2.2.2.2.2.2.1, h.2.2.2.2.2.2.2.2.2, g⟩)
theorem cp_imul : cq_Lo cq_imul := by
  intro E P t pc L' L st M k' k hL hk h
  unfold cq_imul at h ⊢
  dsimp only at h ⊢
  split at h <;> (first | exact h.elim | exact hk _ _ _ _ _ hL h)
def cq_iand : cm_T1 := fun E P t S k => match S.2.2.1 with
  | .int y :: .int x :: st => k (cq_adv S 1 (.int (x &&& y) :: st))
  | _ => False
theorem cj_iand : cm_Cj cm_iand cq_iand := by
  intro E P t S k1 k2 h g
  obtain ⟨pc, L, st, M⟩ := S
  unfold cm_iand at h ⊢
  unfold cq_iand at g
  try simp only [cq_adv_eq, adL_eq, jmL_eq] at g
  dsimp only at h g ⊢
  split at h <;> (first | exact h.elim | exact ⟨h, g⟩ | exact ⟨h.1, h.2, g⟩ | exact ⟨h.1, h.2.1, h.2.2, g⟩ | exact ⟨h.1, h.2.1, h.2.2.1, h.2.2.2, g⟩ | exact ⟨h.1, h.2.1, h.2.2.1, h.2.2.2.1, h.2.2.2.2, g⟩ | exact ⟨h.1, h.2.1, h.2.2.1, h.2.2.2.1, h.2.2.2.2.1, h.2.2.2.2.2, g⟩ | exact ⟨h.1, h.2.1, h.2.2.1, h.2.2.2.1, h.2.2.2.2.1, h.2.2.2.2.2.1, h.2.2.2.2.2.2, g⟩ | exact ⟨h.1, h.2.1, h.2.2.1, h.2.2.2.1, h.2.2.2.2.1, h.2.2.2.2.2.1, h.2.2.2.2.2.2.1, h.2.2.2.2.2.2.2, g⟩ | exact ⟨h.1, h.2.1, h.2.2.1, h.2.2.2.1, h.2.2.2.2.1, h.2.2.2.2.2.1, h.2.2.2.2.2.2.1, h.2.2.2.2.2.2.2.1, h.2.2.2.2.2.2.2.2, g⟩ | exact ⟨h.1, h.2.1, h.2.2.1, h.2.2.2.1, h.2.2.2.2.1, h.2.2.2.2.2.1, h.2.2.2.2.2.2.1, h.2.2.2.2.2.2.2.1, h.2.2.2.2.2.2.2.2.1, h.2.2.2.2.2.2.2.2.2, g⟩)
theorem cp_iand : cq_Lo cq_iand := by
  intro E P t pc L' L st M k' k hL hk h
  unfold cq_iand at h ⊢
  dsimp only at h ⊢
  split at h <;> (first | exact h.elim | exact hk _ _ _ _ _ hL h)
def cq_ior : cm_T1 := fun E P t S k => match S.2.2.1 with
  | .int y :: .int x :: st => k (cq_adv S 1 (.int (x ||| y) :: st))
  | _ => False
theorem cj_ior : cm_Cj cm_ior cq_ior := by
  intro E P t S k1 k2 h g
  obtain ⟨pc, L, st, M⟩ := S
  unfold cm_ior at h ⊢
  unfold cq_ior at g
  try simp only [cq_adv_eq, adL_eq, jmL_eq] at g
  dsimp only at h g ⊢
  split at h <;> (first | exact h.elim | exact ⟨h, g⟩ | exact ⟨h.1, h.2, g⟩ | exact ⟨h.1, h.2.1, h.2.2, g⟩ | exact ⟨h.1, h.2.1, h.2.2.1, h.2.2.2, g⟩ | exact ⟨h.1, h.2.1, h.2.2.1, h.2.2.2.1, h.2.2.2.2, g⟩ | exact ⟨h.1, h.2.1, h.2.2.1, h.2.2.2.1, h.2.2.2.2.1, h.2.2.2.2.2, g⟩ | exact ⟨h.1, h.2.1, h.2.2.1, h.2.2.2.1, h.2.2.2.2.1, h.2.2.2.2.2.1, h.2.2.2.2.2.2, g⟩ | exact ⟨h.1, h.2.1, h.2.2.1, h.2.2.2.1, h.2.2.2.2.1, h.2.2.2.2.2.1, h.2.2.2.2.2.2.1, h.2.2.2.2.2.2.2, g⟩ | exact ⟨h.1, h.2.1, h.2.2.1, h.2.2.2.1, h.2.2.2.2.1, h.2.2.2.2.2.1, h.2.2.2.2.2.2.1, h.2.2.2.2.2.2.2.1, h.2.2.2.2.2.2.2.2, g⟩ | exact ⟨h.1, h.2.1, h.2.2.1, h.2.2.2.1, h.2.2.2.2.1, h.2.2.2.2.2.1, h.2.2.2.2.2.2.1, h.2.2.2.2.2.2.2.1, h.2.2.2.2.2.2.2.2.1, h.2.2.2.2.2.2.2.2.2, g⟩)
theorem cp_ior : cq_Lo cq_ior := by
  intro E P t pc L' L st M k' k hL hk h
  unfold cq_ior at h ⊢
  dsimp only at h ⊢
  split at h <;> (first | exact h.elim | exact hk _ _ _ _ _ hL h)
def cq_ixor : cm_T1 := fun E P t S k => match S.2.2.1 with
  | .int y :: .int x :: st => k (cq_adv S 1 (.int (x ^^^ y) :: st))
  | _ => False
theorem cj_ixor : cm_Cj cm_ixor cq_ixor := by
  intro E P t S k1 k2 h g
  obtain ⟨pc, L, st, M⟩ := S
  unfold cm_ixor at h ⊢
  unfold cq_ixor at g
  try simp only [cq_adv_eq, adL_eq, jmL_eq] at g
  dsimp only at h g ⊢
  split at h <;> (first | exact h.elim | exact ⟨h, g⟩ | exact ⟨h.1, h.2, g⟩ | exact ⟨h.1, h.2.1, h.2.2, g⟩ | exact ⟨h.1, h.2.1, h.2.2.1, h.2.2.2, g⟩ | exact ⟨h.1, h.2.1, h.2.2.1, h.2.2.2.1, h.2.2.2.2, g⟩ | exact ⟨h.1, h.2.1, h.2.2.1, h.2.2.2.1, h.2.2.2.2.1, h.2.2.2.2.2, g⟩ | exact ⟨h.1, h.2.1, h.2.2.1, h.2.2.2.1, h.2.2.2.2.1, h.2.2.2.2.2.1, h.2.2.2.2.2.2, g⟩ | exact ⟨h.1, h.2.1, h.2.2.1, h.2.2.2.1, h.2.2.2.2.1, h.2.2.2.2.2.1, h.2.2.2.2.2.2.1, h.2.2.2.2.2.2.2, g⟩ | exact ⟨h.1, h.2.1, h.2.2.1, h.2.2.2.1, h.2.2.2.2.1, h.2.2.2.2.2.1, h.2.2.2.2.2.2.1, h.2.2.2.2.2.2.2.1, h.2.2.2.2.2.2.2.2, g⟩ | exact ⟨h.1, h.2.1, h.2.2.1, h.2.2.2.1, h.2.2.2.2.1, h.2.2.2.2.2.1, h.2.2.2.2.2.2.1, h.2.2.2.2.2.2.2.1, h.2.2.2.2.2.2.2.2.1, h.2.2.2.2.2.2.2.2.2, g⟩)
theorem cp_ixor : cq_Lo cq_ixor := by
  intro E P t pc L' L st M k' k hL hk h
  unfold cq_ixor at h ⊢
  dsimp only at h ⊢
  split at h <;> (first | exact h.elim | exact hk _ _ _ _ _ hL h)
def cq_ishl : cm_T1 := fun E P t S k => match S.2.2.1 with
  | .int y :: .int x :: st => k (cq_adv S 1 (.int (x <<< (y &&& 31)) :: st))
  | _ => False
theorem cj_ishl : cm_Cj cm_ishl cq_ishl := by
  intro E P t S k1 k2 h g
  obtain ⟨pc, L, st, M⟩ := S
  unfold cm_ishl at h ⊢
  unfold cq_ishl at g
  try simp only [cq_adv_eq, adL_eq, jmL_eq] at g
  dsimp only at h g ⊢
  split at h <;> (first | exact h.elim | exact ⟨h, g⟩ | exact ⟨h.1, h.2, g⟩ | exact ⟨h.1, h.2.1, h.2.2, g⟩ | exact ⟨h.1, h.2.1, h.2.2.1, h.2.2.2, g⟩ | exact ⟨h.1, h.2.1, h.2.2.1, h.2.2.2.1, h.2.2.2.2, g⟩ | exact ⟨h.1, h.2.1, h.2.2.1, h.2.2.2.1, h.2.2.2.2.1, h.2.2.2.2.2, g⟩ | exact ⟨h.1, h.2.1, h.2.2.1, h.2.2.2.1, h.2.2.2.2.1, h.2.2.2.2.2.1, h.2.2.2.2.2.2, g⟩ | exact ⟨h.1, h.2.1, h.2.2.1, h.2.2.2.1, h.2.2.2.2.1, h.2.2.2.2.2.1, h.2.2.2.2.2.2.1, h.2.2.2.2.2.2.2, g⟩ | exact ⟨h.1, h.2.1, h.2.2.1, h.2.2.2.1, h.2.2.2.2.1, h.2.2.2.2.2.1, h.2.2.2.2.2.2.1, h.2.2.2.2.2.2.2.1, h.2.2.2.2.2.2.2.2, g⟩ | exact ⟨h.1, h.2.1, h.2.2.1, h.2.2.2.1, h.2.2.2.2.1, h.2.2.2.2.2.1, h.2.2.2.2.2.2.1, h.2.2.2.2.2.2.2.1, h.2.2.2.2.2.2.2.2.1, h.2.2.2.2.2.2.2.2.2, g⟩)
theorem cp_ishl : cq_Lo cq_ishl := by
  intro E P t pc L' L st M k' k hL hk h
  unfold cq_ishl at h ⊢
  dsimp only at h ⊢
  split at h <;> (first | exact h.elim | exact hk _ _ _ _ _ hL h)
def cq_ishr : cm_T1 := fun E P t S k => match S.2.2.1 with
  | .int y :: .int x :: st => k (cq_adv S 1 (.int (x >>> (y &&& 31)) :: st))
  | _ => False
theorem cj_ishr : cm_Cj cm_ishr cq_ishr := by
  intro E P t S k1 k2 h g
  obtain ⟨pc, L, st, M⟩ := S
  unfold cm_ishr at h ⊢
  unfold cq_ishr at g
  try simp only [cq_adv_eq, adL_eq, jmL_eq] at g
  dsimp only at h g ⊢
  split at h <;> (first | exact h.elim | exact ⟨h, g⟩ | exact ⟨h.1, h.2, g⟩ | exact ⟨h.1, h.2.1, h.2.2, g⟩ | exact ⟨h.1, h.2.1, h.2.2.1, h.2.2.2, g⟩ | exact ⟨h.1, h.2.1, h.2.2.1, h.2.2.2.1, h.2.2.2.2, g⟩ | exact ⟨h.1, h.2.1, h.2.2.1, h.2.2.2.1, h.2.2.2.2.1, h.2.2.2.2.2, g⟩ | exact ⟨h.1, h.2.1, h.2.2.1, h.2.2.2.1, h.2.2.2.2.1, h.2.2.2.2.2.1, h.2.2.2.2.2.2, g⟩ | exact ⟨h.1, h.2.1, h.2.2.1, h.2.2.2.1, h.2.2.2.2.1, h.2.2.2.2.2.1, h.2.2.2.2.2.2.1, h.2.2.2.2.2.2.2, g⟩ | exact ⟨h.1, h.2.1, h.2.2.1, h.2.2.2.1, h.2.2.2.2.1, h.2.2.2.2.2.1, h.2.2.2.2.2.2.1, h.2.2.2.2.2.2.2.1, h.2.2.2.2.2.2.2.2, g⟩ | exact ⟨h.1, h.2.1, h.2.2.1, h.2.2.2.1, h.2.2.2.2.1, h.2.2.2.2.2.1, h.2.2.2.2.2.2.1, h.2.2.2.2.2.2.2.1, h.2.2.2.2.2.2.2.2.1, h.2.2.2.2.2.2.2.2.2, g⟩)
theorem cp_ishr : cq_Lo cq_ishr := by
  intro E P t pc L' L st M k' k hL hk h
  unfold cq_ishr at h ⊢
  dsimp only at h ⊢
  split at h <;> (first | exact h.elim | exact hk _ _ _ _ _ hL h)
def cq_iushr : cm_T1 := fun E P t S k => match S.2.2.1 with
  | .int y :: .int x :: st => k (cq_adv S 1 (.int ((x.toUInt32 >>> (y.toUInt32 &&& Int32.toUInt32 31)).toInt32) :: st))
  | _ => False
theorem cj_iushr : cm_Cj cm_iushr cq_iushr := by
  intro E P t S k1 k2 h g
  obtain ⟨pc, L, st, M⟩ := S
  unfold cm_iushr at h ⊢
  unfold cq_iushr at g
  try simp only [cq_adv_eq, adL_eq, jmL_eq] at g
  dsimp only at h g ⊢
  split at h <;> (first | exact h.elim | exact ⟨h, g⟩ | exact ⟨h.1, h.2, g⟩ | exact ⟨h.1, h.2.1, h.2.2, g⟩ | exact ⟨h.1, h.2.1, h.2.2.1, h.2.2.2, g⟩ | exact ⟨h.1, h.2.1, h.2.2.1, h.2.2.2.1, h.2.2.2.2, g⟩ | exact ⟨h.1, h.2.1, h.2.2.1, h.2.2.2.1, h.2.2.2.2.1, h.2.2.2.2.2, g⟩ | exact ⟨h.1, h.2.1, h.2.2.1, h.2.2.2.1, h.2.2.2.2.1, h.2.2.2.2.2.1, h.2.2.2.2.2.2, g⟩ | exact ⟨h.1, h.2.1, h.2.2.1, h.2.2.2.1, h.2.2.2.2.1, h.2.2.2.2.2.1, h.2.2.2.2.2.2.1, h.2.2.2.2.2.2.2, g⟩ | exact ⟨h.1, h.2.1, h.2.2.1, h.2.2.2.1, h.2.2.2.2.1, h.2.2.2.2.2.1, h.2.2.2.2.2.2.1, h.2.2.2.2.2.2.2.1, h.2.2.2.2.2.2.2.2, g⟩ | exact ⟨h.1, h.2.1, h.2.2.1, h.2.2.2.1, h.2.2.2.2.1, h.2.2.2.2.2.1, h.2.2.2.2.2.2.1, h.2.2.2.2.2.2.2.1, h.2.2.2.2.2.2.2.2.1, h.2.2.2.2.2.2.2.2.2, g⟩)
theorem cp_iushr : cq_Lo cq_iushr := by
  intro E P t pc L' L st M k' k hL hk h
  unfold cq_iushr at h ⊢
  dsimp only at h ⊢
  split at h <;> (first | exact h.elim | exact hk _ _ _ _ _ hL h)
def cq_idiv : cm_T1 := fun E P t S k => match S.2.2.1 with
  | .int y :: .int x :: st => k (cq_adv S 1 (.int (x / y) :: st))
  | _ => False
theorem cj_idiv : cm_Cj cm_idiv cq_idiv := by
  intro E P t S k1 k2 h g
  obtain ⟨pc, L, st, M⟩ := S
  unfold cm_idiv at h ⊢
  unfold cq_idiv at g
  try simp only [cq_adv_eq, adL_eq, jmL_eq] at g
  dsimp only at h g ⊢
  split at h <;> (first | exact h.elim | exact ⟨h, g⟩ | exact ⟨h.1, h.2, g⟩ | exact ⟨h.1, h.2.1, h.2.2, g⟩ | exact ⟨h.1, h.2.1, h.2.2.1, h.2.2.2, g⟩ | exact ⟨h.1, h.2.1, h.2.2.1, h.2.2.2.1, h.2.2.2.2, g⟩ | exact ⟨h.1, h.2.1, h.2.2.1, h.2.2.2.1, h.2.2.2.2.1, h.2.2.2.2.2, g⟩ | exact ⟨h.1, h.2.1, h.2.2.1, h.2.2.2.1, h.2.2.2.2.1, h.2.2.2.2.2.1, h.2.2.2.2.2.2, g⟩ | exact ⟨h.1, h.2.1, h.2.2.1, h.2.2.2.1, h.2.2.2.2.1, h.2.2.2.2.2.1, h.2.2.2.2.2.2.1, h.2.2.2.2.2.2.2, g⟩ | exact ⟨h.1, h.2.1, h.2.2.1, h.2.2.2.1, h.2.2.2.2.1, h.2.2.2.2.2.1, h.2.2.2.2.2.2.1, h.2.2.2.2.2.2.2.1, h.2.2.2.2.2.2.2.2, g⟩ | exact ⟨h.1, h.2.1, h.2.2.1, h.2.2.2.1, h.2.2.2.2.1, h.2.2.2.2.2.1, h.2.2.2.2.2.2.1, h.2.2.2.2.2.2.2.1, h.2.2.2.2.2.2.2.2.1, h.2.2.2.2.2.2.2.2.2, g⟩)
theorem cp_idiv : cq_Lo cq_idiv := by
  intro E P t pc L' L st M k' k hL hk h
  unfold cq_idiv at h ⊢
  dsimp only at h ⊢
  split at h <;> (first | exact h.elim | exact hk _ _ _ _ _ hL h)
def cq_irem : cm_T1 := fun E P t S k => match S.2.2.1 with
  | .int y :: .int x :: st => k (cq_adv S 1 (.int (x - x / y * y) :: st))
  | _ => False
theorem cj_irem : cm_Cj cm_irem cq_irem := by
  intro E P t S k1 k2 h g
  obtain ⟨pc, L, st, M⟩ := S
  unfold cm_irem at h ⊢
  unfold cq_irem at g
  try simp only [cq_adv_eq, adL_eq, jmL_eq] at g
  dsimp only at h g ⊢
  split at h <;> (first | exact h.elim | exact ⟨h, g⟩ | exact ⟨h.1, h.2, g⟩ | exact ⟨h.1, h.2.1, h.2.2, g⟩ | exact ⟨h.1, h.2.1, h.2.2.1, h.2.2.2, g⟩ | exact ⟨h.1, h.2.1, h.2.2.1, h.2.2.2.1, h.2.2.2.2, g⟩ | exact ⟨h.1, h.2.1, h.2.2.1, h.2.2.2.1, h.2.2.2.2.1, h.2.2.2.2.2, g⟩ | exact ⟨h.1, h.2.1, h.2.2.1, h.2.2.2.1, h.2.2.2.2.1, h.2.2.2.2.2.1, h.2.2.2.2.2.2, g⟩ | exact ⟨h.1, h.2.1, h.2.2.1, h.2.2.2.1, h.2.2.2.2.1, h.2.2.2.2.2.1, h.2.2.2.2.2.2.1, h.2.2.2.2.2.2.2, g⟩ | exact ⟨h.1, h.2.1, h.2.2.1, h.2.2.2.1, h.2.2.2.2.1, h.2.2.2.2.2.1, h.2.2.2.2.2.2.1, h.2.2.2.2.2.2.2.1, h.2.2.2.2.2.2.2.2, g⟩ | exact ⟨h.1, h.2.1, h.2.2.1, h.2.2.2.1, h.2.2.2.2.1, h.2.2.2.2.2.1, h.2.2.2.2.2.2.1, h.2.2.2.2.2.2.2.1, h.2.2.2.2.2.2.2.2.1, h.2.2.2.2.2.2.2.2.2, g⟩)
theorem cp_irem : cq_Lo cq_irem := by
  intro E P t pc L' L st M k' k hL hk h
  unfold cq_irem at h ⊢
  dsimp only at h ⊢
  split at h <;> (first | exact h.elim | exact hk _ _ _ _ _ hL h)
def cq_ineg : cm_T1 := fun E P t S k => match S.2.2.1 with
  | .int x :: st => k (cq_adv S 1 (.int (-x) :: st))
  | _ => False
theorem cj_ineg : cm_Cj cm_ineg cq_ineg := by
  intro E P t S k1 k2 h g
  obtain ⟨pc, L, st, M⟩ := S
  unfold cm_ineg at h ⊢
  unfold cq_ineg at g
  try simp only [cq_adv_eq, adL_eq, jmL_eq] at g
  dsimp only at h g ⊢
  split at h <;> (first | exact h.elim | exact ⟨h, g⟩ | exact ⟨h.1, h.2, g⟩ | exact ⟨h.1, h.2.1, h.2.2, g⟩ | exact ⟨h.1, h.2.1, h.2.2.1, h.2.2.2, g⟩ | exact ⟨h.1, h.2.1, h.2.2.1, h.2.2.2.1, h.2.2.2.2, g⟩ | exact ⟨h.1, h.2.1, h.2.2.1, h.2.2.2.1, h.2.2.2.2.1, h.2.2.2.2.2, g⟩ | exact ⟨h.1, h.2.1, h.2.2.1, h.2.2.2.1, h.2.2.2.2.1, h.2.2.2.2.2.1, h.2.2.2.2.2.2, g⟩ | exact ⟨h.1, h.2.1, h.2.2.1, h.2.2.2.1, h.2.2.2.2.1, h.2.2.2.2.2.1, h.2.2.2.2.2.2.1, h.2.2.2.2.2.2.2, g⟩ | exact ⟨h.1, h.2.1, h.2.2.1, h.2.2.2.1, h.2.2.2.2.1, h.2.2.2.2.2.1, h.2.2.2.2.2.2.1, h.2.2.2.2.2.2.2.1, h.2.2.2.2.2.2.2.2, g⟩ | exact ⟨h.1, h.2.1, h.2.2.1, h.2.2.2.1, h.2.2.2.2.1, h.2.2.2.2.2.1, h.2.2.2.2.2.2.1, h.2.2.2.2.2.2.2.1, h.2.2.2.2.2.2.2.2.1, h.2.2.2.2.2.2.2.2.2, g⟩)
theorem cp_ineg : cq_Lo cq_ineg := by
  intro E P t pc L' L st M k' k hL hk h
  unfold cq_ineg at h ⊢
  dsimp only at h ⊢
  split at h <;> (first | exact h.elim | exact hk _ _ _ _ _ hL h)
def cq_i2b : cm_T1 := fun E P t S k => match S.2.2.1 with
  | .int x :: st => k (cq_adv S 1 (.int (x.toInt8.toInt32) :: st))
  | _ => False
theorem cj_i2b : cm_Cj cm_i2b cq_i2b := by
  intro E P t S k1 k2 h g
  obtain ⟨pc, L, st, M⟩ := S
  unfold cm_i2b at h ⊢
  unfold cq_i2b at g
  try simp only [cq_adv_eq, adL_eq, jmL_eq] at g
  dsimp only at h g ⊢
  split at h <;> (first | exact h.elim | exact ⟨h, g⟩ | exact ⟨h.1, h.2, g⟩ | exact ⟨h.1, h.2.1, h.2.2, g⟩ | exact ⟨h.1, h.2.1, h.2.2.1, h.2.2.2, g⟩ | exact ⟨h.1, h.2.1, h.2.2.1, h.2.2.2.1, h.2.2.2.2, g⟩ | exact ⟨h.1, h.2.1, h.2.2.1, h.2.2.2.1, h.2.2.2.2.1, h.2.2.2.2.2, g⟩ | exact ⟨h.1, h.2.1, h.2.2.1, h.2.2.2.1, h.2.2.2.2.1, h.2.2.2.2.2.1, h.2.2.2.2.2.2, g⟩ | exact ⟨h.1, h.2.1, h.2.2.1, h.2.2.2.1, h.2.2.2.2.1, h.2.2.2.2.2.1, h.2.2.2.2.2.2.1, h.2.2.2.2.2.2.2, g⟩ | exact ⟨h.1, h.2.1, h.2.2.1, h.2.2.2.1, h.2.2.2.2.1, h.2.2.2.2.2.1, h.2.2.2.2.2.2.1, h.2.2.2.2.2.2.2.1, h.2.2.2.2.2.2.2.2, g⟩ | exact ⟨h.1, h.2.1, h.2.2.1, h.2.2.2.1, h.2.2.2.2.1, h.2.2.2.2.2.1, h.2.2.2.2.2.2.1, h.2.2.2.2.2.2.2.1, h.2.2.2.2.2.2.2.2.1, h.2.2.2.2.2.2.2.2.2, g⟩)
theorem cp_i2b : cq_Lo cq_i2b := by
  intro E P t pc L' L st M k' k hL hk h
  unfold cq_i2b at h ⊢
  dsimp only at h ⊢
  split at h <;> (first | exact h.elim | exact hk _ _ _ _ _ hL h)
def cq_i2l : cm_T1 := fun E P t S k => match S.2.2.1 with
  | .int x :: st => k (cq_adv S 1 (.long x.toInt64 :: st))
  | _ => False
theorem cj_i2l : cm_Cj cm_i2l cq_i2l := by
  intro E P t S k1 k2 h g
  obtain ⟨pc, L, st, M⟩ := S
  unfold cm_i2l at h ⊢
  unfold cq_i2l at g
  try simp only [cq_adv_eq, adL_eq, jmL_eq] at g
  dsimp only at h g ⊢
  split at h <;> (first | exact h.elim | exact ⟨h, g⟩ | exact ⟨h.1, h.2, g⟩ | exact ⟨h.1, h.2.1, h.2.2, g⟩ | exact ⟨h.1, h.2.1, h.2.2.1, h.2.2.2, g⟩ | exact ⟨h.1, h.2.1, h.2.2.1, h.2.2.2.1, h.2.2.2.2, g⟩ | exact ⟨h.1, h.2.1, h.2.2.1, h.2.2.2.1, h.2.2.2.2.1, h.2.2.2.2.2, g⟩ | exact ⟨h.1, h.2.1, h.2.2.1, h.2.2.2.1, h.2.2.2.2.1, h.2.2.2.2.2.1, h.2.2.2.2.2.2, g⟩ | exact ⟨h.1, h.2.1, h.2.2.1, h.2.2.2.1, h.2.2.2.2.1, h.2.2.2.2.2.1, h.2.2.2.2.2.2.1, h.2.2.2.2.2.2.2, g⟩ | exact ⟨h.1, h.2.1, h.2.2.1, h.2.2.2.1, h.2.2.2.2.1, h.2.2.2.2.2.1, h.2.2.2.2.2.2.1, h.2.2.2.2.2.2.2.1, h.2.2.2.2.2.2.2.2, g⟩ | exact ⟨h.1, h.2.1, h.2.2.1, h.2.2.2.1, h.2.2.2.2.1, h.2.2.2.2.2.1, h.2.2.2.2.2.2.1, h.2.2.2.2.2.2.2.1, h.2.2.2.2.2.2.2.2.1, h.2.2.2.2.2.2.2.2.2, g⟩)
theorem cp_i2l : cq_Lo cq_i2l := by
  intro E P t pc L' L st M k' k hL hk h
  unfold cq_i2l at h ⊢
  dsimp only at h ⊢
  split at h <;> (first | exact h.elim | exact hk _ _ _ _ _ hL h)
def cq_lcmp : cm_T1 := fun E P t S k => match S.2.2.1 with
  | .long y :: .long x :: st => k (cq_adv S 1 (.int (lg_cmp x y) :: st))
  | _ => False
theorem cj_lcmp : cm_Cj cm_lcmp cq_lcmp := by
  intro E P t S k1 k2 h g
  obtain ⟨pc, L, st, M⟩ := S
  unfold cm_lcmp at h ⊢
  unfold cq_lcmp at g
  try simp only [cq_adv_eq, adL_eq, jmL_eq] at g
  dsimp only at h g ⊢
  split at h <;> (first | exact h.elim | exact ⟨h, g⟩ | exact ⟨h.1, h.2, g⟩ | exact ⟨h.1, h.2.1, h.2.2, g⟩ | exact ⟨h.1, h.2.1, h.2.2.1, h.2.2.2, g⟩ | exact ⟨h.1, h.2.1, h.2.2.1, h.2.2.2.1, h.2.2.2.2, g⟩ | exact ⟨h.1, h.2.1, h.2.2.1, h.2.2.2.1, h.2.2.2.2.1, h.2.2.2.2.2, g⟩ | exact ⟨h.1, h.2.1, h.2.2.1, h.2.2.2.1, h.2.2.2.2.1, h.2.2.2.2.2.1, h.2.2.2.2.2.2, g⟩ | exact ⟨h.1, h.2.1, h.2.2.1, h.2.2.2.1, h.2.2.2.2.1, h.2.2.2.2.2.1, h.2.2.2.2.2.2.1, h.2.2.2.2.2.2.2, g⟩ | exact ⟨h.1, h.2.1, h.2.2.1, h.2.2.2.1, h.2.2.2.2.1, h.2.2.2.2.2.1, h.2.2.2.2.2.2.1, h.2.2.2.2.2.2.2.1, h.2.2.2.2.2.2.2.2, g⟩ | exact ⟨h.1, h.2.1, h.2.2.1, h.2.2.2.1, h.2.2.2.2.1, h.2.2.2.2.2.1, h.2.2.2.2.2.2.1, h.2.2.2.2.2.2.2.1, h.2.2.2.2.2.2.2.2.1, h.2.2.2.2.2.2.2.2.2, g⟩)
theorem cp_lcmp : cq_Lo cq_lcmp := by
  intro E P t pc L' L st M k' k hL hk h
  unfold cq_lcmp at h ⊢
  dsimp only at h ⊢
  split at h <;> (first | exact h.elim | exact hk _ _ _ _ _ hL h)
def cq_dup : cm_T1 := fun E P t S k => match S.2.2.1 with
  | x :: st => k (cq_adv S 1 (x :: x :: st))
  | _ => False
theorem cj_dup : cm_Cj cm_dup cq_dup := by
  intro E P t S k1 k2 h g
  obtain ⟨pc, L, st, M⟩ := S
  unfold cm_dup at h ⊢
  unfold cq_dup at g
  try simp only [cq_adv_eq, adL_eq, jmL_eq] at g
  dsimp only at h g ⊢
  split at h <;> (first | exact h.elim | exact ⟨h, g⟩ | exact ⟨h.1, h.2, g⟩ | exact ⟨h.1, h.2.1, h.2.2, g⟩ | exact ⟨h.1, h.2.1, h.2.2.1, h.2.2.2, g⟩ | exact ⟨h.1, h.2.1, h.2.2.1, h.2.2.2.1, h.2.2.2.2, g⟩ | exact ⟨h.1, h.2.1, h.2.2.1, h.2.2.2.1, h.2.2.2.2.1, h.2.2.2.2.2, g⟩ | exact ⟨h.1, h.2.1, h.2.2.1, h.2.2.2.1, h.2.2.2.2.1, h.2.2.2.2.2.1, h.2.2.2.2.2.2, g⟩ | exact ⟨h.1, h.2.1, h.2.2.1, h.2.2.2.1, h.2.2.2.2.1, h.2.2.2.2.2.1, h.2.2.2.2.2.2.1, h.2.2.2.2.2.2.2, g⟩ | exact ⟨h.1, h.2.1, h.2.2.1, h.2.2.2.1, h.2.2.2.2.1, h.2.2.2.2.2.1, h.2.2.2.2.2.2.1, h.2.2.2.2.2.2.2.1, h.2.2.2.2.2.2.2.2, g⟩ | exact ⟨h.1, h.2.1, h.2.2.1, h.2.2.2.1, h.2.2.2.2.1, h.2.2.2.2.2.1, h.2.2.2.2.2.2.1, h.2.2.2.2.2.2.2.1, h.2.2.2.2.2.2.2.2.1, h.2.2.2.2.2.2.2.2.2, g⟩)
theorem cp_dup : cq_Lo cq_dup := by
  intro E P t pc L' L st M k' k hL hk h
  unfold cq_dup at h ⊢
  dsimp only at h ⊢
  split at h <;> (first | exact h.elim | exact hk _ _ _ _ _ hL h)
def cq_pop : cm_T1 := fun E P t S k => match S.2.2.1 with
  | x :: st => k (cq_adv S 1 st)
  | _ => False
theorem cj_pop : cm_Cj cm_pop cq_pop := by
  intro E P t S k1 k2 h g
  obtain ⟨pc, L, st, M⟩ := S
  unfold cm_pop at h ⊢
  unfold cq_pop at g
  try simp only [cq_adv_eq, adL_eq, jmL_eq] at g
  dsimp only at h g ⊢
  split at h <;> (first | exact h.elim | exact ⟨h, g⟩ | exact ⟨h.1, h.2, g⟩ | exact ⟨h.1, h.2.1, h.2.2, g⟩ | exact ⟨h.1, h.2.1, h.2.2.1, h.2.2.2, g⟩ | exact ⟨h.1, h.2.1, h.2.2.1, h.2.2.2.1, h.2.2.2.2, g⟩ | exact ⟨h.1, h.2.1, h.2.2.1, h.2.2.2.1, h.2.2.2.2.1, h.2.2.2.2.2, g⟩ | exact ⟨h.1, h.2.1, h.2.2.1, h.2.2.2.1, h.2.2.2.2.1, h.2.2.2.2.2.1, h.2.2.2.2.2.2, g⟩ | exact ⟨h.1, h.2.1, h.2.2.1, h.2.2.2.1, h.2.2.2.2.1, h.2.2.2.2.2.1, h.2.2.2.2.2.2.1, h.2.2.2.2.2.2.2, g⟩ | exact ⟨h.1, h.2.1, h.2.2.1, h.2.2.2.1, h.2.2.2.2.1, h.2.2.2.2.2.1, h.2.2.2.2.2.2.1, h.2.2.2.2.2.2.2.1, h.2.2.2.2.2.2.2.2, g⟩ | exact ⟨h.1, h.2.1, h.2.2.1, h.2.2.2.1, h.2.2.2.2.1, h.2.2.2.2.2.1, h.2.2.2.2.2.2.1, h.2.2.2.2.2.2.2.1, h.2.2.2.2.2.2.2.2.1, h.2.2.2.2.2.2.2.2.2, g⟩)
theorem cp_pop : cq_Lo cq_pop := by
  intro E P t pc L' L st M k' k hL hk h
  unfold cq_pop at h ⊢
  dsimp only at h ⊢
  split at h <;> (first | exact h.elim | exact hk _ _ _ _ _ hL h)
def cq_dup2 : cm_T1 := fun E P t S k => match S.2.2.1 with
  | x :: y :: st => k (cq_adv S 1 (x :: y :: x :: y :: st))
  | _ => False
theorem cj_dup2 : cm_Cj cm_dup2 cq_dup2 := by
  intro E P t S k1 k2 h g
  obtain ⟨pc, L, st, M⟩ := S
  unfold cm_dup2 at h ⊢
  unfold cq_dup2 at g
  try simp only [cq_adv_eq, adL_eq, jmL_eq] at g
  dsimp only at h g ⊢
  split at h <;> (first | exact h.elim | exact ⟨h, g⟩ | exact ⟨h.1, h.2, g⟩ | exact ⟨h.1, h.2.1, h.2.2, g⟩ | exact ⟨h.1, h.2.1, h.2.2.1, h.2.2.2, g⟩ | exact ⟨h.1, h.2.1, h.2.2.1, h.2.2.2.1, h.2.2.2.2, g⟩ | exact ⟨h.1, h.2.1, h.2.2.1, h.2.2.2.1, h.2.2.2.2.1, h.2.2.2.2.2, g⟩ | exact ⟨h.1, h.2.1, h.2.2.1, h.2.2.2.1, h.2.2.2.2.1, h.2.2.2.2.2.1, h.2.2.2.2.2.2, g⟩ | exact ⟨h.1, h.2.1, h.2.2.1, h.2.2.2.1, h.2.2.2.2.1, h.2.2.2.2.2.1, h.2.2.2.2.2.2.1, h.2.2.2.2.2.2.2, g⟩ | exact ⟨h.1, h.2.1, h.2.2.1, h.2.2.2.1, h.2.2.2.2.1, h.2.2.2.2.2.1, h.2.2.2.2.2.2.1, h.2.2.2.2.2.2.2.1, h.2.2.2.2.2.2.2.2, g⟩ | exact ⟨h.1, h.2.1, h.2.2.1, h.2.2.2.1, h.2.2.2.2.1, h.2.2.2.2.2.1, h.2.2.2.2.2.2.1, h.2.2.2.2.2.2.2.1, h.2.2.2.2.2.2.2.2.1, h.2.2.2.2.2.2.2.2.2, g⟩)
theorem cp_dup2 : cq_Lo cq_dup2 := by
  intro E P t pc L' L st M k' k hL hk h
  unfold cq_dup2 at h ⊢
  dsimp only at h ⊢
  split at h <;> (first | exact h.elim | exact hk _ _ _ _ _ hL h)
def cq_iinc : cm_T1 := fun E P t S k => match cm_look S.2.1 t.1.toNat with
  | some (.int x) => k (adL S.1 3, cm_st1 S.2.1 t.1.toNat (.int (x + Int32.ofInt t.2.1)), S.2.2)
  | _ => False
theorem cj_iinc : cm_Cj cm_iinc cq_iinc := by
  intro E P t S k1 k2 h g
  obtain ⟨pc, L, st, M⟩ := S
  unfold cm_iinc at h ⊢
  unfold cq_iinc at g
  try simp only [cq_adv_eq, adL_eq, jmL_eq] at g
  dsimp only at h g ⊢
  split at h
  · rename_i x hx
    first | exact ⟨h.1, h.2, g⟩ | (rw [hx] at g; exact ⟨h.1, h.2, g⟩)
  · exact h.elim
theorem cp_iinc : cq_Lo cq_iinc := by
  intro E P t pc L' L st M k' k hL hk h
  unfold cq_iinc at h ⊢
  dsimp only at h ⊢
  split at h
  · rename_i x hx
    rw [hL.2 _ _ hx]
    exact hk _ _ _ _ _ (cm_le_1 _ _ hL) h
  · exact h.elim
def cq_icmp_eq : cm_T1 := fun E P t S k => match S.2.2.1 with
  | .int y :: .int x :: st => (ev_cmp 0 x y = true → k (jmL S.1 t.1, S.2.1, st, S.2.2.2)) ∧ (ev_cmp 0 x y = false → k (adL S.1 3, S.2.1, st, S.2.2.2))
  | _ => False
theorem cj_icmp_eq : cm_Cj cm_icmp_eq cq_icmp_eq := by
  intro E P t S k1 k2 h g
  obtain ⟨pc, L, st, M⟩ := S
  unfold cm_icmp_eq at h ⊢
  unfold cq_icmp_eq at g
  try simp only [cq_adv_eq, adL_eq, jmL_eq] at g
  dsimp only at h g ⊢
  split at h
  · exact ⟨h.1, fun z => ⟨h.2.1 z, g.1 z⟩, fun z => ⟨h.2.2 z, g.2 z⟩⟩
  · exact h.elim
theorem cp_icmp_eq : cq_Lo cq_icmp_eq := by
  intro E P t pc L' L st M k' k hL hk h
  unfold cq_icmp_eq at h ⊢
  dsimp only at h ⊢
  split at h
  · exact ⟨fun z => hk _ _ _ _ _ hL (h.1 z), fun z => hk _ _ _ _ _ hL (h.2 z)⟩
  · exact h.elim
def cq_icmp_ne : cm_T1 := fun E P t S k => match S.2.2.1 with
  | .int y :: .int x :: st => (ev_cmp 1 x y = true → k (jmL S.1 t.1, S.2.1, st, S.2.2.2)) ∧ (ev_cmp 1 x y = false → k (adL S.1 3, S.2.1, st, S.2.2.2))
  | _ => False
theorem cj_icmp_ne : cm_Cj cm_icmp_ne cq_icmp_ne := by
  intro E P t S k1 k2 h g
  obtain ⟨pc, L, st, M⟩ := S
  unfold cm_icmp_ne at h ⊢
  unfold cq_icmp_ne at g
  try simp only [cq_adv_eq, adL_eq, jmL_eq] at g
  dsimp only at h g ⊢
  split at h
  · exact ⟨h.1, fun z => ⟨h.2.1 z, g.1 z⟩, fun z => ⟨h.2.2 z, g.2 z⟩⟩
  · exact h.elim
theorem cp_icmp_ne : cq_Lo cq_icmp_ne := by
  intro E P t pc L' L st M k' k hL hk h
  unfold cq_icmp_ne at h ⊢
  dsimp only at h ⊢
  split at h
  · exact ⟨fun z => hk _ _ _ _ _ hL (h.1 z), fun z => hk _ _ _ _ _ hL (h.2 z)⟩
  · exact h.elim
def cq_icmp_lt : cm_T1 := fun E P t S k => match S.2.2.1 with
  | .int y :: .int x :: st => (ev_cmp 2 x y = true → k (jmL S.1 t.1, S.2.1, st, S.2.2.2)) ∧ (ev_cmp 2 x y = false → k (adL S.1 3, S.2.1, st, S.2.2.2))
  | _ => False
theorem cj_icmp_lt : cm_Cj cm_icmp_lt cq_icmp_lt := by
  intro E P t S k1 k2 h g
  obtain ⟨pc, L, st, M⟩ := S
  unfold cm_icmp_lt at h ⊢
  unfold cq_icmp_lt at g
  try simp only [cq_adv_eq, adL_eq, jmL_eq] at g
  dsimp only at h g ⊢
  split at h
  · exact ⟨h.1, fun z => ⟨h.2.1 z, g.1 z⟩, fun z => ⟨h.2.2 z, g.2 z⟩⟩
  · exact h.elim
theorem cp_icmp_lt : cq_Lo cq_icmp_lt := by
  intro E P t pc L' L st M k' k hL hk h
  unfold cq_icmp_lt at h ⊢
  dsimp only at h ⊢
  split at h
  · exact ⟨fun z => hk _ _ _ _ _ hL (h.1 z), fun z => hk _ _ _ _ _ hL (h.2 z)⟩
  · exact h.elim
def cq_icmp_ge : cm_T1 := fun E P t S k => match S.2.2.1 with
  | .int y :: .int x :: st => (ev_cmp 3 x y = true → k (jmL S.1 t.1, S.2.1, st, S.2.2.2)) ∧ (ev_cmp 3 x y = false → k (adL S.1 3, S.2.1, st, S.2.2.2))
  | _ => False
theorem cj_icmp_ge : cm_Cj cm_icmp_ge cq_icmp_ge := by
  intro E P t S k1 k2 h g
  obtain ⟨pc, L, st, M⟩ := S
  unfold cm_icmp_ge at h ⊢
  unfold cq_icmp_ge at g
  try simp only [cq_adv_eq, adL_eq, jmL_eq] at g
  dsimp only at h g ⊢
  split at h
  · exact ⟨h.1, fun z => ⟨h.2.1 z, g.1 z⟩, fun z => ⟨h.2.2 z, g.2 z⟩⟩
  · exact h.elim
theorem cp_icmp_ge : cq_Lo cq_icmp_ge := by
  intro E P t pc L' L st M k' k hL hk h
  unfold cq_icmp_ge at h ⊢
  dsimp only at h ⊢
  split at h
  · exact ⟨fun z => hk _ _ _ _ _ hL (h.1 z), fun z => hk _ _ _ _ _ hL (h.2 z)⟩
  · exact h.elim
def cq_icmp_gt : cm_T1 := fun E P t S k => match S.2.2.1 with
  | .int y :: .int x :: st => (ev_cmp 4 x y = true → k (jmL S.1 t.1, S.2.1, st, S.2.2.2)) ∧ (ev_cmp 4 x y = false → k (adL S.1 3, S.2.1, st, S.2.2.2))
  | _ => False
theorem cj_icmp_gt : cm_Cj cm_icmp_gt cq_icmp_gt := by
  intro E P t S k1 k2 h g
  obtain ⟨pc, L, st, M⟩ := S
  unfold cm_icmp_gt at h ⊢
  unfold cq_icmp_gt at g
  try simp only [cq_adv_eq, adL_eq, jmL_eq] at g
  dsimp only at h g ⊢
  split at h
  · exact ⟨h.1, fun z => ⟨h.2.1 z, g.1 z⟩, fun z => ⟨h.2.2 z, g.2 z⟩⟩
  · exact h.elim
theorem cp_icmp_gt : cq_Lo cq_icmp_gt := by
  intro E P t pc L' L st M k' k hL hk h
  unfold cq_icmp_gt at h ⊢
  dsimp only at h ⊢
  split at h
  · exact ⟨fun z => hk _ _ _ _ _ hL (h.1 z), fun z => hk _ _ _ _ _ hL (h.2 z)⟩
  · exact h.elim
def cq_icmp_le : cm_T1 := fun E P t S k => match S.2.2.1 with
  | .int y :: .int x :: st => (ev_cmp 5 x y = true → k (jmL S.1 t.1, S.2.1, st, S.2.2.2)) ∧ (ev_cmp 5 x y = false → k (adL S.1 3, S.2.1, st, S.2.2.2))
  | _ => False
theorem cj_icmp_le : cm_Cj cm_icmp_le cq_icmp_le := by
  intro E P t S k1 k2 h g
  obtain ⟨pc, L, st, M⟩ := S
  unfold cm_icmp_le at h ⊢
  unfold cq_icmp_le at g
  try simp only [cq_adv_eq, adL_eq, jmL_eq] at g
  dsimp only at h g ⊢
  split at h
  · exact ⟨h.1, fun z => ⟨h.2.1 z, g.1 z⟩, fun z => ⟨h.2.2 z, g.2 z⟩⟩
  · exact h.elim
theorem cp_icmp_le : cq_Lo cq_icmp_le := by
  intro E P t pc L' L st M k' k hL hk h
  unfold cq_icmp_le at h ⊢
  dsimp only at h ⊢
  split at h
  · exact ⟨fun z => hk _ _ _ _ _ hL (h.1 z), fun z => hk _ _ _ _ _ hL (h.2 z)⟩
  · exact h.elim
def cq_if_eq : cm_T1 := fun E P t S k => match S.2.2.1 with
  | .int x :: st => (ev_cmp 0 x 0 = true → k (jmL S.1 t.1, S.2.1, st, S.2.2.2)) ∧ (ev_cmp 0 x 0 = false → k (adL S.1 3, S.2.1, st, S.2.2.2))
  | _ => False
theorem cj_if_eq : cm_Cj cm_if_eq cq_if_eq := by
  intro E P t S k1 k2 h g
  obtain ⟨pc, L, st, M⟩ := S
  unfold cm_if_eq at h ⊢
  unfold cq_if_eq at g
  try simp only [cq_adv_eq, adL_eq, jmL_eq] at g
  dsimp only at h g ⊢
  split at h
  · exact ⟨h.1, fun z => ⟨h.2.1 z, g.1 z⟩, fun z => ⟨h.2.2 z, g.2 z⟩⟩
  · exact h.elim
theorem cp_if_eq : cq_Lo cq_if_eq := by
  intro E P t pc L' L st M k' k hL hk h
  unfold cq_if_eq at h ⊢
  dsimp only at h ⊢
  split at h
  · exact ⟨fun z => hk _ _ _ _ _ hL (h.1 z), fun z => hk _ _ _ _ _ hL (h.2 z)⟩
  · exact h.elim
def cq_if_ne : cm_T1 := fun E P t S k => match S.2.2.1 with
  | .int x :: st => (ev_cmp 1 x 0 = true → k (jmL S.1 t.1, S.2.1, st, S.2.2.2)) ∧ (ev_cmp 1 x 0 = false → k (adL S.1 3, S.2.1, st, S.2.2.2))
  | _ => False
theorem cj_if_ne : cm_Cj cm_if_ne cq_if_ne := by
  intro E P t S k1 k2 h g
  obtain ⟨pc, L, st, M⟩ := S
  unfold cm_if_ne at h ⊢
  unfold cq_if_ne at g
  try simp only [cq_adv_eq, adL_eq, jmL_eq] at g
  dsimp only at h g ⊢
  split at h
  · exact ⟨h.1, fun z => ⟨h.2.1 z, g.1 z⟩, fun z => ⟨h.2.2 z, g.2 z⟩⟩
  · exact h.elim
theorem cp_if_ne : cq_Lo cq_if_ne := by
  intro E P t pc L' L st M k' k hL hk h
  unfold cq_if_ne at h ⊢
  dsimp only at h ⊢
  split at h
  · exact ⟨fun z => hk _ _ _ _ _ hL (h.1 z), fun z => hk _ _ _ _ _ hL (h.2 z)⟩
  · exact h.elim
def cq_if_lt : cm_T1 := fun E P t S k => match S.2.2.1 with
  | .int x :: st => (ev_cmp 2 x 0 = true → k (jmL S.1 t.1, S.2.1, st, S.2.2.2)) ∧ (ev_cmp 2 x 0 = false → k (adL S.1 3, S.2.1, st, S.2.2.2))
  | _ => False
theorem cj_if_lt : cm_Cj cm_if_lt cq_if_lt := by
  intro E P t S k1 k2 h g
  obtain ⟨pc, L, st, M⟩ := S
  unfold cm_if_lt at h ⊢
  unfold cq_if_lt at g
  try simp only [cq_adv_eq, adL_eq, jmL_eq] at g
  dsimp only at h g ⊢
  split at h
  · exact ⟨h.1, fun z => ⟨h.2.1 z, g.1 z⟩, fun z => ⟨h.2.2 z, g.2 z⟩⟩
  · exact h.elim
theorem cp_if_lt : cq_Lo cq_if_lt := by
  intro E P t pc L' L st M k' k hL hk h
  unfold cq_if_lt at h ⊢
  dsimp only at h ⊢
  split at h
  · exact ⟨fun z => hk _ _ _ _ _ hL (h.1 z), fun z => hk _ _ _ _ _ hL (h.2 z)⟩
  · exact h.elim
def cq_if_ge : cm_T1 := fun E P t S k => match S.2.2.1 with
  | .int x :: st => (ev_cmp 3 x 0 = true → k (jmL S.1 t.1, S.2.1, st, S.2.2.2)) ∧ (ev_cmp 3 x 0 = false → k (adL S.1 3, S.2.1, st, S.2.2.2))
  | _ => False
theorem cj_if_ge : cm_Cj cm_if_ge cq_if_ge := by
  intro E P t S k1 k2 h g
  obtain ⟨pc, L, st, M⟩ := S
  unfold cm_if_ge at h ⊢
  unfold cq_if_ge at g
  try simp only [cq_adv_eq, adL_eq, jmL_eq] at g
  dsimp only at h g ⊢
  split at h
  · exact ⟨h.1, fun z => ⟨h.2.1 z, g.1 z⟩, fun z => ⟨h.2.2 z, g.2 z⟩⟩
  · exact h.elim
theorem cp_if_ge : cq_Lo cq_if_ge := by
  intro E P t pc L' L st M k' k hL hk h
  unfold cq_if_ge at h ⊢
  dsimp only at h ⊢
  split at h
  · exact ⟨fun z => hk _ _ _ _ _ hL (h.1 z), fun z => hk _ _ _ _ _ hL (h.2 z)⟩
  · exact h.elim
def cq_if_gt : cm_T1 := fun E P t S k => match S.2.2.1 with
  | .int x :: st => (ev_cmp 4 x 0 = true → k (jmL S.1 t.1, S.2.1, st, S.2.2.2)) ∧ (ev_cmp 4 x 0 = false → k (adL S.1 3, S.2.1, st, S.2.2.2))
  | _ => False
theorem cj_if_gt : cm_Cj cm_if_gt cq_if_gt := by
  intro E P t S k1 k2 h g
  obtain ⟨pc, L, st, M⟩ := S
  unfold cm_if_gt at h ⊢
  unfold cq_if_gt at g
  try simp only [cq_adv_eq, adL_eq, jmL_eq] at g
  dsimp only at h g ⊢
  split at h
  · exact ⟨h.1, fun z => ⟨h.2.1 z, g.1 z⟩, fun z => ⟨h.2.2 z, g.2 z⟩⟩
  · exact h.elim
theorem cp_if_gt : cq_Lo cq_if_gt := by
  intro E P t pc L' L st M k' k hL hk h
  unfold cq_if_gt at h ⊢
  dsimp only at h ⊢
  split at h
  · exact ⟨fun z => hk _ _ _ _ _ hL (h.1 z), fun z => hk _ _ _ _ _ hL (h.2 z)⟩
  · exact h.elim
def cq_if_le : cm_T1 := fun E P t S k => match S.2.2.1 with
  | .int x :: st => (ev_cmp 5 x 0 = true → k (jmL S.1 t.1, S.2.1, st, S.2.2.2)) ∧ (ev_cmp 5 x 0 = false → k (adL S.1 3, S.2.1, st, S.2.2.2))
  | _ => False
theorem cj_if_le : cm_Cj cm_if_le cq_if_le := by
  intro E P t S k1 k2 h g
  obtain ⟨pc, L, st, M⟩ := S
  unfold cm_if_le at h ⊢
  unfold cq_if_le at g
  try simp only [cq_adv_eq, adL_eq, jmL_eq] at g
  dsimp only at h g ⊢
  split at h
  · exact ⟨h.1, fun z => ⟨h.2.1 z, g.1 z⟩, fun z => ⟨h.2.2 z, g.2 z⟩⟩
  · exact h.elim
theorem cp_if_le : cq_Lo cq_if_le := by
  intro E P t pc L' L st M k' k hL hk h
  unfold cq_if_le at h ⊢
  dsimp only at h ⊢
  split at h
  · exact ⟨fun z => hk _ _ _ _ _ hL (h.1 z), fun z => hk _ _ _ _ _ hL (h.2 z)⟩
  · exact h.elim
def cq_goto : cm_T1 := fun E P t S k => k (jmL S.1 t.1, S.2)
theorem cj_goto : cm_Cj cm_goto cq_goto := by
  intro E P t S k1 k2 h g
  obtain ⟨pc, L, st, M⟩ := S
  unfold cm_goto at h ⊢
  unfold cq_goto at g
  try simp only [cq_adv_eq, adL_eq, jmL_eq] at g
  dsimp only at h g ⊢
  first | exact h.elim | exact ⟨h, g⟩ | exact ⟨h.1, h.2, g⟩ | exact ⟨h.1, h.2.1, h.2.2, g⟩ | exact ⟨h.1, h.2.1, h.2.2.1, h.2.2.2, g⟩ | exact ⟨h.1, h.2.1, h.2.2.1, h.2.2.2.1, h.2.2.2.2, g⟩ | exact ⟨h.1, h.2.1, h.2.2.1, h.2.2.2.1, h.2.2.2.2.1, h.2.2.2.2.2, g⟩ | exact ⟨h.1, h.2.1, h.2.2.1, h.2.2.2.1, h.2.2.2.2.1, h.2.2.2.2.2.1, h.2.2.2.2.2.2, g⟩ | exact ⟨h.1, h.2.1, h.2.2.1, h.2.2.2.1, h.2.2.2.2.1, h.2.2.2.2.2.1, h.2.2.2.2.2.2.1, h.2.2.2.2.2.2.2, g⟩ | exact ⟨h.1, h.2.1, h.2.2.1, h.2.2.2.1, h.2.2.2.2.1, h.2.2.2.2.2.1, h.2.2.2.2.2.2.1, h.2.2.2.2.2.2.2.1, h.2.2.2.2.2.2.2.2, g⟩ | exact ⟨h.1, h.2.1, h.2.2.1, h.2.2.2.1, h.2.2.2.2.1, h.2.2.2.2.2.1, h.2.2.2.2.2.2.1, h.2.2.2.2.2.2.2.1, h.2.2.2.2.2.2.2.2.1, h.2.2.2.2.2.2.2.2.2, g⟩
theorem cp_goto : cq_Lo cq_goto := by
  intro E P t pc L' L st M k' k hL hk h
  unfold cq_goto at h ⊢
  dsimp only at h ⊢
  exact hk _ _ _ _ _ hL h
def cq_sw : cm_T1 := fun E P t S k => match t.2.2.2, S.2.2.1 with
  | _ :: offs, .int x :: st => (x.toInt < t.2.1 ∨ t.2.2.1 < x.toInt → k (jmL S.1 t.1, S.2.1, st, S.2.2.2)) ∧ (∀ (j : Nat) (o : Int), offs[j]? = some o → x.toInt = t.2.1 + (j : Int) → k (jmL S.1 o, S.2.1, st, S.2.2.2))
  | _, _ => False
theorem cj_sw : cm_Cj cm_sw cq_sw := by
  intro E P t S k1 k2 h g
  obtain ⟨pc, L, st, M⟩ := S
  unfold cm_sw at h ⊢
  unfold cq_sw at g
  try simp only [cq_adv_eq, adL_eq, jmL_eq] at g
  dsimp only at h g ⊢
  split at h
  · rename_i y offs x st' ht
    first | exact ⟨h.1, h.2.1, h.2.2.1, fun q => ⟨h.2.2.2.1 q, g.1 q⟩, fun j o q1 q2 => ⟨h.2.2.2.2 j o q1 q2, g.2 j o q1 q2⟩⟩ | (rw [ht] at g; exact ⟨h.1, h.2.1, h.2.2.1, fun q => ⟨h.2.2.2.1 q, g.1 q⟩, fun j o q1 q2 => ⟨h.2.2.2.2 j o q1 q2, g.2 j o q1 q2⟩⟩)
  · exact h.elim
theorem cp_sw : cq_Lo cq_sw := by
  intro E P t pc L' L st M k' k hL hk h
  unfold cq_sw at h ⊢
  dsimp only at h ⊢
  split at h
  · exact ⟨fun q => hk _ _ _ _ _ hL (h.1 q), fun j o q1 q2 => hk _ _ _ _ _ hL (h.2 j o q1 q2)⟩
  · exact h.elim
def cq_get : cm_T1 := fun E P t S k => match S.2.2.1 with
  | .ref c :: st => k (cq_adv S 3 (cm_rd S.2.2.2 (cm_ft t.1.toNat t.2.1.toNat) c t.2.1.toNat :: st))
  | _ => False
theorem cj_get : cm_Cj cm_get cq_get := by
  intro E P t S k1 k2 h g
  obtain ⟨pc, L, st, M⟩ := S
  unfold cm_get at h ⊢
  unfold cq_get at g
  try simp only [cq_adv_eq, adL_eq, jmL_eq] at g
  dsimp only at h g ⊢
  split at h <;> (first | exact h.elim | exact ⟨h, g⟩ | exact ⟨h.1, h.2, g⟩ | exact ⟨h.1, h.2.1, h.2.2, g⟩ | exact ⟨h.1, h.2.1, h.2.2.1, h.2.2.2, g⟩ | exact ⟨h.1, h.2.1, h.2.2.1, h.2.2.2.1, h.2.2.2.2, g⟩ | exact ⟨h.1, h.2.1, h.2.2.1, h.2.2.2.1, h.2.2.2.2.1, h.2.2.2.2.2, g⟩ | exact ⟨h.1, h.2.1, h.2.2.1, h.2.2.2.1, h.2.2.2.2.1, h.2.2.2.2.2.1, h.2.2.2.2.2.2, g⟩ | exact ⟨h.1, h.2.1, h.2.2.1, h.2.2.2.1, h.2.2.2.2.1, h.2.2.2.2.2.1, h.2.2.2.2.2.2.1, h.2.2.2.2.2.2.2, g⟩ | exact ⟨h.1, h.2.1, h.2.2.1, h.2.2.2.1, h.2.2.2.2.1, h.2.2.2.2.2.1, h.2.2.2.2.2.2.1, h.2.2.2.2.2.2.2.1, h.2.2.2.2.2.2.2.2, g⟩ | exact ⟨h.1, h.2.1, h.2.2.1, h.2.2.2.1, h.2.2.2.2.1, h.2.2.2.2.2.1, h.2.2.2.2.2.2.1, h.2.2.2.2.2.2.2.1, h.2.2.2.2.2.2.2.2.1, h.2.2.2.2.2.2.2.2.2, g⟩)
theorem cp_get : cq_Lo cq_get := by
  intro E P t pc L' L st M k' k hL hk h
  unfold cq_get at h ⊢
  dsimp only at h ⊢
  split at h <;> (first | exact h.elim | exact hk _ _ _ _ _ hL h)
def cq_put : cm_T1 := fun E P t S k => match S.2.2.1 with
  | v :: .ref c :: st => k (adL S.1 3, S.2.1, st, cm_wf S.2.2.2 c t.2.1.toNat v)
  | _ => False
theorem cj_put : cm_Cj cm_put cq_put := by
  intro E P t S k1 k2 h g
  obtain ⟨pc, L, st, M⟩ := S
  unfold cm_put at h ⊢
  unfold cq_put at g
  try simp only [cq_adv_eq, adL_eq, jmL_eq] at g
  dsimp only at h g ⊢
  split at h <;> (first | exact h.elim | exact ⟨h, g⟩ | exact ⟨h.1, h.2, g⟩ | exact ⟨h.1, h.2.1, h.2.2, g⟩ | exact ⟨h.1, h.2.1, h.2.2.1, h.2.2.2, g⟩ | exact ⟨h.1, h.2.1, h.2.2.1, h.2.2.2.1, h.2.2.2.2, g⟩ | exact ⟨h.1, h.2.1, h.2.2.1, h.2.2.2.1, h.2.2.2.2.1, h.2.2.2.2.2, g⟩ | exact ⟨h.1, h.2.1, h.2.2.1, h.2.2.2.1, h.2.2.2.2.1, h.2.2.2.2.2.1, h.2.2.2.2.2.2, g⟩ | exact ⟨h.1, h.2.1, h.2.2.1, h.2.2.2.1, h.2.2.2.2.1, h.2.2.2.2.2.1, h.2.2.2.2.2.2.1, h.2.2.2.2.2.2.2, g⟩ | exact ⟨h.1, h.2.1, h.2.2.1, h.2.2.2.1, h.2.2.2.2.1, h.2.2.2.2.2.1, h.2.2.2.2.2.2.1, h.2.2.2.2.2.2.2.1, h.2.2.2.2.2.2.2.2, g⟩ | exact ⟨h.1, h.2.1, h.2.2.1, h.2.2.2.1, h.2.2.2.2.1, h.2.2.2.2.2.1, h.2.2.2.2.2.2.1, h.2.2.2.2.2.2.2.1, h.2.2.2.2.2.2.2.2.1, h.2.2.2.2.2.2.2.2.2, g⟩)
theorem cp_put : cq_Lo cq_put := by
  intro E P t pc L' L st M k' k hL hk h
  unfold cq_put at h ⊢
  dsimp only at h ⊢
  split at h <;> (first | exact h.elim | exact hk _ _ _ _ _ hL h)
def cq_iaload : cm_T1 := fun E P t S k => match S.2.2.1 with
  | .int i :: .ref c :: st => k (cq_adv S 1 (.int (S.2.2.2.1 c i.toNatClampNeg) :: st))
  | _ => False
theorem cj_iaload : cm_Cj cm_iaload cq_iaload := by
  intro E P t S k1 k2 h g
  obtain ⟨pc, L, st, M⟩ := S
  unfold cm_iaload at h ⊢
  unfold cq_iaload at g
  try simp only [cq_adv_eq, adL_eq, jmL_eq] at g
  dsimp only at h g ⊢
  split at h <;> (first | exact h.elim | exact ⟨h, g⟩ | exact ⟨h.1, h.2, g⟩ | exact ⟨h.1, h.2.1, h.2.2, g⟩ | exact ⟨h.1, h.2.1, h.2.2.1, h.2.2.2, g⟩ | exact ⟨h.1, h.2.1, h.2.2.1, h.2.2.2.1, h.2.2.2.2, g⟩ | exact ⟨h.1, h.2.1, h.2.2.1, h.2.2.2.1, h.2.2.2.2.1, h.2.2.2.2.2, g⟩ | exact ⟨h.1, h.2.1, h.2.2.1, h.2.2.2.1, h.2.2.2.2.1, h.2.2.2.2.2.1, h.2.2.2.2.2.2, g⟩ | exact ⟨h.1, h.2.1, h.2.2.1, h.2.2.2.1, h.2.2.2.2.1, h.2.2.2.2.2.1, h.2.2.2.2.2.2.1, h.2.2.2.2.2.2.2, g⟩ | exact ⟨h.1, h.2.1, h.2.2.1, h.2.2.2.1, h.2.2.2.2.1, h.2.2.2.2.2.1, h.2.2.2.2.2.2.1, h.2.2.2.2.2.2.2.1, h.2.2.2.2.2.2.2.2, g⟩ | exact ⟨h.1, h.2.1, h.2.2.1, h.2.2.2.1, h.2.2.2.2.1, h.2.2.2.2.2.1, h.2.2.2.2.2.2.1, h.2.2.2.2.2.2.2.1, h.2.2.2.2.2.2.2.2.1, h.2.2.2.2.2.2.2.2.2, g⟩)
theorem cp_iaload : cq_Lo cq_iaload := by
  intro E P t pc L' L st M k' k hL hk h
  unfold cq_iaload at h ⊢
  dsimp only at h ⊢
  split at h <;> (first | exact h.elim | exact hk _ _ _ _ _ hL h)
def cq_baload : cm_T1 := fun E P t S k => match S.2.2.1 with
  | .int i :: .ref c :: st => k (cq_adv S 1 (.int (S.2.2.2.1 c i.toNatClampNeg) :: st))
  | _ => False
theorem cj_baload : cm_Cj cm_baload cq_baload := by
  intro E P t S k1 k2 h g
  obtain ⟨pc, L, st, M⟩ := S
  unfold cm_baload at h ⊢
  unfold cq_baload at g
  try simp only [cq_adv_eq, adL_eq, jmL_eq] at g
  dsimp only at h g ⊢
  split at h <;> (first | exact h.elim | exact ⟨h, g⟩ | exact ⟨h.1, h.2, g⟩ | exact ⟨h.1, h.2.1, h.2.2, g⟩ | exact ⟨h.1, h.2.1, h.2.2.1, h.2.2.2, g⟩ | exact ⟨h.1, h.2.1, h.2.2.1, h.2.2.2.1, h.2.2.2.2, g⟩ | exact ⟨h.1, h.2.1, h.2.2.1, h.2.2.2.1, h.2.2.2.2.1, h.2.2.2.2.2, g⟩ | exact ⟨h.1, h.2.1, h.2.2.1, h.2.2.2.1, h.2.2.2.2.1, h.2.2.2.2.2.1, h.2.2.2.2.2.2, g⟩ | exact ⟨h.1, h.2.1, h.2.2.1, h.2.2.2.1, h.2.2.2.2.1, h.2.2.2.2.2.1, h.2.2.2.2.2.2.1, h.2.2.2.2.2.2.2, g⟩ | exact ⟨h.1, h.2.1, h.2.2.1, h.2.2.2.1, h.2.2.2.2.1, h.2.2.2.2.2.1, h.2.2.2.2.2.2.1, h.2.2.2.2.2.2.2.1, h.2.2.2.2.2.2.2.2, g⟩ | exact ⟨h.1, h.2.1, h.2.2.1, h.2.2.2.1, h.2.2.2.2.1, h.2.2.2.2.2.1, h.2.2.2.2.2.2.1, h.2.2.2.2.2.2.2.1, h.2.2.2.2.2.2.2.2.1, h.2.2.2.2.2.2.2.2.2, g⟩)
theorem cp_baload : cq_Lo cq_baload := by
  intro E P t pc L' L st M k' k hL hk h
  unfold cq_baload at h ⊢
  dsimp only at h ⊢
  split at h <;> (first | exact h.elim | exact hk _ _ _ _ _ hL h)
def cq_laload : cm_T1 := fun E P t S k => match S.2.2.1 with
  | .int i :: .ref c :: st => k (cq_adv S 1 (.long (S.2.2.2.2.1 c i.toNatClampNeg) :: st))
  | _ => False
theorem cj_laload : cm_Cj cm_laload cq_laload := by
  intro E P t S k1 k2 h g
  obtain ⟨pc, L, st, M⟩ := S
  unfold cm_laload at h ⊢
  unfold cq_laload at g
  try simp only [cq_adv_eq, adL_eq, jmL_eq] at g
  dsimp only at h g ⊢
  split at h <;> (first | exact h.elim | exact ⟨h, g⟩ | exact ⟨h.1, h.2, g⟩ | exact ⟨h.1, h.2.1, h.2.2, g⟩ | exact ⟨h.1, h.2.1, h.2.2.1, h.2.2.2, g⟩ | exact ⟨h.1, h.2.1, h.2.2.1, h.2.2.2.1, h.2.2.2.2, g⟩ | exact ⟨h.1, h.2.1, h.2.2.1, h.2.2.2.1, h.2.2.2.2.1, h.2.2.2.2.2, g⟩ | exact ⟨h.1, h.2.1, h.2.2.1, h.2.2.2.1, h.2.2.2.2.1, h.2.2.2.2.2.1, h.2.2.2.2.2.2, g⟩ | exact ⟨h.1, h.2.1, h.2.2.1, h.2.2.2.1, h.2.2.2.2.1, h.2.2.2.2.2.1, h.2.2.2.2.2.2.1, h.2.2.2.2.2.2.2, g⟩ | exact ⟨h.1, h.2.1, h.2.2.1, h.2.2.2.1, h.2.2.2.2.1, h.2.2.2.2.2.1, h.2.2.2.2.2.2.1, h.2.2.2.2.2.2.2.1, h.2.2.2.2.2.2.2.2, g⟩ | exact ⟨h.1, h.2.1, h.2.2.1, h.2.2.2.1, h.2.2.2.2.1, h.2.2.2.2.2.1, h.2.2.2.2.2.2.1, h.2.2.2.2.2.2.2.1, h.2.2.2.2.2.2.2.2.1, h.2.2.2.2.2.2.2.2.2, g⟩)
theorem cp_laload : cq_Lo cq_laload := by
  intro E P t pc L' L st M k' k hL hk h
  unfold cq_laload at h ⊢
  dsimp only at h ⊢
  split at h <;> (first | exact h.elim | exact hk _ _ _ _ _ hL h)
def cq_aaload : cm_T1 := fun E P t S k => match S.2.2.1 with
  | .int i :: .ref c :: st => k (cq_adv S 1 (cm_rq (S.2.2.2.2.2 c i.toNatClampNeg) :: st))
  | _ => False
theorem cj_aaload : cm_Cj cm_aaload cq_aaload := by
  intro E P t S k1 k2 h g
  obtain ⟨pc, L, st, M⟩ := S
  unfold cm_aaload at h ⊢
  unfold cq_aaload at g
  try simp only [cq_adv_eq, adL_eq, jmL_eq] at g
  dsimp only at h g ⊢
  split at h <;> (first | exact h.elim | exact ⟨h, g⟩ | exact ⟨h.1, h.2, g⟩ | exact ⟨h.1, h.2.1, h.2.2, g⟩ | exact ⟨h.1, h.2.1, h.2.2.1, h.2.2.2, g⟩ | exact ⟨h.1, h.2.1, h.2.2.1, h.2.2.2.1, h.2.2.2.2, g⟩ | exact ⟨h.1, h.2.1, h.2.2.1, h.2.2.2.1, h.2.2.2.2.1, h.2.2.2.2.2, g⟩ | exact ⟨h.1, h.2.1, h.2.2.1, h.2.2.2.1, h.2.2.2.2.1, h.2.2.2.2.2.1, h.2.2.2.2.2.2, g⟩ | exact ⟨h.1, h.2.1, h.2.2.1, h.2.2.2.1, h.2.2.2.2.1, h.2.2.2.2.2.1, h.2.2.2.2.2.2.1, h.2.2.2.2.2.2.2, g⟩ | exact ⟨h.1, h.2.1, h.2.2.1, h.2.2.2.1, h.2.2.2.2.1, h.2.2.2.2.2.1, h.2.2.2.2.2.2.1, h.2.2.2.2.2.2.2.1, h.2.2.2.2.2.2.2.2, g⟩ | exact ⟨h.1, h.2.1, h.2.2.1, h.2.2.2.1, h.2.2.2.2.1, h.2.2.2.2.2.1, h.2.2.2.2.2.2.1, h.2.2.2.2.2.2.2.1, h.2.2.2.2.2.2.2.2.1, h.2.2.2.2.2.2.2.2.2, g⟩)
theorem cp_aaload : cq_Lo cq_aaload := by
  intro E P t pc L' L st M k' k hL hk h
  unfold cq_aaload at h ⊢
  dsimp only at h ⊢
  split at h <;> (first | exact h.elim | exact hk _ _ _ _ _ hL h)
def cq_iastore : cm_T1 := fun E P t S k => match S.2.2.1 with
  | .int x :: .int i :: .ref c :: st => k (adL S.1 1, S.2.1, st, cm_wi S.2.2.2 c i.toNatClampNeg x)
  | _ => False
theorem cj_iastore : cm_Cj cm_iastore cq_iastore := by
  intro E P t S k1 k2 h g
  obtain ⟨pc, L, st, M⟩ := S
  unfold cm_iastore at h ⊢
  unfold cq_iastore at g
  try simp only [cq_adv_eq, adL_eq, jmL_eq] at g
  dsimp only at h g ⊢
  split at h <;> (first | exact h.elim | exact ⟨h, g⟩ | exact ⟨h.1, h.2, g⟩ | exact ⟨h.1, h.2.1, h.2.2, g⟩ | exact ⟨h.1, h.2.1, h.2.2.1, h.2.2.2, g⟩ | exact ⟨h.1, h.2.1, h.2.2.1, h.2.2.2.1, h.2.2.2.2, g⟩ | exact ⟨h.1, h.2.1, h.2.2.1, h.2.2.2.1, h.2.2.2.2.1, h.2.2.2.2.2, g⟩ | exact ⟨h.1, h.2.1, h.2.2.1, h.2.2.2.1, h.2.2.2.2.1, h.2.2.2.2.2.1, h.2.2.2.2.2.2, g⟩ | exact ⟨h.1, h.2.1, h.2.2.1, h.2.2.2.1, h.2.2.2.2.1, h.2.2.2.2.2.1, h.2.2.2.2.2.2.1, h.2.2.2.2.2.2.2, g⟩ | exact ⟨h.1, h.2.1, h.2.2.1, h.2.2.2.1, h.2.2.2.2.1, h.2.2.2.2.2.1, h.2.2.2.2.2.2.1, h.2.2.2.2.2.2.2.1, h.2.2.2.2.2.2.2.2, g⟩ | exact ⟨h.1, h.2.1, h.2.2.1, h.2.2.2.1, h.2.2.2.2.1, h.2.2.2.2.2.1, h.2.2.2.2.2.2.1, h.2.2.2.2.2.2.2.1, h.2.2.2.2.2.2.2.2.1, h.2.2.2.2.2.2.2.2.2, g⟩)
theorem cp_iastore : cq_Lo cq_iastore := by
  intro E P t pc L' L st M k' k hL hk h
  unfold cq_iastore at h ⊢
  dsimp only at h ⊢
  split at h <;> (first | exact h.elim | exact hk _ _ _ _ _ hL h)
def cq_bastore : cm_T1 := fun E P t S k => match S.2.2.1 with
  | .int x :: .int i :: .ref c :: st => k (adL S.1 1, S.2.1, st, cm_wi S.2.2.2 c i.toNatClampNeg (vp_nar .byte x))
  | _ => False
theorem cj_bastore : cm_Cj cm_bastore cq_bastore := by
  intro E P t S k1 k2 h g
  obtain ⟨pc, L, st, M⟩ := S
  unfold cm_bastore at h ⊢
  unfold cq_bastore at g
  try simp only [cq_adv_eq, adL_eq, jmL_eq] at g
  dsimp only at h g ⊢
  split at h <;> (first | exact h.elim | exact ⟨h, g⟩ | exact ⟨h.1, h.2, g⟩ | exact ⟨h.1, h.2.1, h.2.2, g⟩ | exact ⟨h.1, h.2.1, h.2.2.1, h.2.2.2, g⟩ | exact ⟨h.1, h.2.1, h.2.2.1, h.2.2.2.1, h.2.2.2.2, g⟩ | exact ⟨h.1, h.2.1, h.2.2.1, h.2.2.2.1, h.2.2.2.2.1, h.2.2.2.2.2, g⟩ | exact ⟨h.1, h.2.1, h.2.2.1, h.2.2.2.1, h.2.2.2.2.1, h.2.2.2.2.2.1, h.2.2.2.2.2.2, g⟩ | exact ⟨h.1, h.2.1, h.2.2.1, h.2.2.2.1, h.2.2.2.2.1, h.2.2.2.2.2.1, h.2.2.2.2.2.2.1, h.2.2.2.2.2.2.2, g⟩ | exact ⟨h.1, h.2.1, h.2.2.1, h.2.2.2.1, h.2.2.2.2.1, h.2.2.2.2.2.1, h.2.2.2.2.2.2.1, h.2.2.2.2.2.2.2.1, h.2.2.2.2.2.2.2.2, g⟩ | exact ⟨h.1, h.2.1, h.2.2.1, h.2.2.2.1, h.2.2.2.2.1, h.2.2.2.2.2.1, h.2.2.2.2.2.2.1, h.2.2.2.2.2.2.2.1, h.2.2.2.2.2.2.2.2.1, h.2.2.2.2.2.2.2.2.2, g⟩)
theorem cp_bastore : cq_Lo cq_bastore := by
  intro E P t pc L' L st M k' k hL hk h
  unfold cq_bastore at h ⊢
  dsimp only at h ⊢
  split at h <;> (first | exact h.elim | exact hk _ _ _ _ _ hL h)
def cq_alen : cm_T1 := fun E P t S k => match S.2.2.1 with
  | .ref c :: st => if c = 1000 then (match E with
    | some q => k (cq_adv S 1 (.int (Int32.ofNat q.1) :: st))
    | none => False) else k (cq_adv S 1 (.int (Int32.ofNat (cm_kind c).2) :: st))
  | _ => False
theorem cj_alen : cm_Cj cm_alen cq_alen := by
  intro E P t S k1 k2 h g
  obtain ⟨pc, L, st, M⟩ := S
  unfold cm_alen at h ⊢
  unfold cq_alen at g
  try simp only [cq_adv_eq, adL_eq, jmL_eq] at g
  dsimp only at h g ⊢
  split at h
  · rename_i c st'
    dsimp only at g
    by_cases hc : c = 1000
    · rw [if_pos hc] at h g ⊢
      cases E with
      | none => exact h.elim
      | some q => exact ⟨h, g⟩
    · rw [if_neg hc] at h g ⊢
      exact ⟨h.1, h.2.1, h.2.2, g⟩
  · exact h.elim
theorem cp_alen : cq_Lo cq_alen := by
  intro E P t pc L' L st M k' k hL hk h
  unfold cq_alen at h ⊢
  dsimp only at h ⊢
  split at h
  · rename_i c st'
    by_cases hc : c = 1000
    · rw [if_pos hc] at h ⊢
      cases E with
      | none => exact h.elim
      | some q => exact hk _ _ _ _ _ hL h
    · rw [if_neg hc] at h ⊢
      exact hk _ _ _ _ _ hL h
  · exact h.elim
def cq_sald : cm_T1 := fun E P t S k => match E, S.2.2.1 with
  | some q, .int i :: .ref c :: st => k (cq_adv S 1 (.int (q.2 i.toNatClampNeg) :: st))
  | _, _ => False
theorem cj_sald : cm_Cj cm_sald cq_sald := by
  intro E P t S k1 k2 h g
  obtain ⟨pc, L, st, M⟩ := S
  unfold cm_sald at h ⊢
  unfold cq_sald at g
  try simp only [cq_adv_eq, adL_eq, jmL_eq] at g
  dsimp only at h g ⊢
  split at h
  · exact ⟨h.1, h.2.1, h.2.2.1, h.2.2.2, g⟩
  · exact h.elim
theorem cp_sald : cq_Lo cq_sald := by
  intro E P t pc L' L st M k' k hL hk h
  unfold cq_sald at h ⊢
  dsimp only at h ⊢
  split at h
  · exact hk _ _ _ _ _ hL h
  · exact h.elim
def cq_mmin : cm_T1 := fun E P t S k => match S.2.2.1 with
  | .int y :: .int x :: st => k (cq_adv S 3 (.int (if y < x then y else x) :: st))
  | _ => False
theorem cj_mmin : cm_Cj cm_mmin cq_mmin := by
  intro E P t S k1 k2 h g
  obtain ⟨pc, L, st, M⟩ := S
  unfold cm_mmin at h ⊢
  unfold cq_mmin at g
  try simp only [cq_adv_eq, adL_eq, jmL_eq] at g
  dsimp only at h g ⊢
  split at h <;> (first | exact h.elim | exact ⟨h, g⟩ | exact ⟨h.1, h.2, g⟩ | exact ⟨h.1, h.2.1, h.2.2, g⟩ | exact ⟨h.1, h.2.1, h.2.2.1, h.2.2.2, g⟩ | exact ⟨h.1, h.2.1, h.2.2.1, h.2.2.2.1, h.2.2.2.2, g⟩ | exact ⟨h.1, h.2.1, h.2.2.1, h.2.2.2.1, h.2.2.2.2.1, h.2.2.2.2.2, g⟩ | exact ⟨h.1, h.2.1, h.2.2.1, h.2.2.2.1, h.2.2.2.2.1, h.2.2.2.2.2.1, h.2.2.2.2.2.2, g⟩ | exact ⟨h.1, h.2.1, h.2.2.1, h.2.2.2.1, h.2.2.2.2.1, h.2.2.2.2.2.1, h.2.2.2.2.2.2.1, h.2.2.2.2.2.2.2, g⟩ | exact ⟨h.1, h.2.1, h.2.2.1, h.2.2.2.1, h.2.2.2.2.1, h.2.2.2.2.2.1, h.2.2.2.2.2.2.1, h.2.2.2.2.2.2.2.1, h.2.2.2.2.2.2.2.2, g⟩ | exact ⟨h.1, h.2.1, h.2.2.1, h.2.2.2.1, h.2.2.2.2.1, h.2.2.2.2.2.1, h.2.2.2.2.2.2.1, h.2.2.2.2.2.2.2.1, h.2.2.2.2.2.2.2.2.1, h.2.2.2.2.2.2.2.2.2, g⟩)
theorem cp_mmin : cq_Lo cq_mmin := by
  intro E P t pc L' L st M k' k hL hk h
  unfold cq_mmin at h ⊢
  dsimp only at h ⊢
  split at h <;> (first | exact h.elim | exact hk _ _ _ _ _ hL h)
def cq_ldc : cm_T1 := fun E P t S k => k (cq_adv S 2 (.int (Int32.ofInt t.1) :: S.2.2.1))
theorem cj_ldc : cm_Cj cm_ldc cq_ldc := by
  intro E P t S k1 k2 h g
  obtain ⟨pc, L, st, M⟩ := S
  unfold cm_ldc at h ⊢
  unfold cq_ldc at g
  try simp only [cq_adv_eq, adL_eq, jmL_eq] at g
  dsimp only at h g ⊢
  first | exact h.elim | exact ⟨h, g⟩ | exact ⟨h.1, h.2, g⟩ | exact ⟨h.1, h.2.1, h.2.2, g⟩ | exact ⟨h.1, h.2.1, h.2.2.1, h.2.2.2, g⟩ | exact ⟨h.1, h.2.1, h.2.2.1, h.2.2.2.1, h.2.2.2.2, g⟩ | exact ⟨h.1, h.2.1, h.2.2.1, h.2.2.2.1, h.2.2.2.2.1, h.2.2.2.2.2, g⟩ | exact ⟨h.1, h.2.1, h.2.2.1, h.2.2.2.1, h.2.2.2.2.1, h.2.2.2.2.2.1, h.2.2.2.2.2.2, g⟩ | exact ⟨h.1, h.2.1, h.2.2.1, h.2.2.2.1, h.2.2.2.2.1, h.2.2.2.2.2.1, h.2.2.2.2.2.2.1, h.2.2.2.2.2.2.2, g⟩ | exact ⟨h.1, h.2.1, h.2.2.1, h.2.2.2.1, h.2.2.2.2.1, h.2.2.2.2.2.1, h.2.2.2.2.2.2.1, h.2.2.2.2.2.2.2.1, h.2.2.2.2.2.2.2.2, g⟩ | exact ⟨h.1, h.2.1, h.2.2.1, h.2.2.2.1, h.2.2.2.2.1, h.2.2.2.2.2.1, h.2.2.2.2.2.2.1, h.2.2.2.2.2.2.2.1, h.2.2.2.2.2.2.2.2.1, h.2.2.2.2.2.2.2.2.2, g⟩
theorem cp_ldc : cq_Lo cq_ldc := by
  intro E P t pc L' L st M k' k hL hk h
  unfold cq_ldc at h ⊢
  dsimp only at h ⊢
  exact hk _ _ _ _ _ hL h
def cq_ldcS : cm_T1 := fun E P t S k => k (cq_adv S 2 (.ref (1001 + 2 * t.1.toNat) :: S.2.2.1))
theorem cj_ldcS : cm_Cj cm_ldcS cq_ldcS := by
  intro E P t S k1 k2 h g
  obtain ⟨pc, L, st, M⟩ := S
  unfold cm_ldcS at h ⊢
  unfold cq_ldcS at g
  try simp only [cq_adv_eq, adL_eq, jmL_eq] at g
  dsimp only at h g ⊢
  first | exact h.elim | exact ⟨h, g⟩ | exact ⟨h.1, h.2, g⟩ | exact ⟨h.1, h.2.1, h.2.2, g⟩ | exact ⟨h.1, h.2.1, h.2.2.1, h.2.2.2, g⟩ | exact ⟨h.1, h.2.1, h.2.2.1, h.2.2.2.1, h.2.2.2.2, g⟩ | exact ⟨h.1, h.2.1, h.2.2.1, h.2.2.2.1, h.2.2.2.2.1, h.2.2.2.2.2, g⟩ | exact ⟨h.1, h.2.1, h.2.2.1, h.2.2.2.1, h.2.2.2.2.1, h.2.2.2.2.2.1, h.2.2.2.2.2.2, g⟩ | exact ⟨h.1, h.2.1, h.2.2.1, h.2.2.2.1, h.2.2.2.2.1, h.2.2.2.2.2.1, h.2.2.2.2.2.2.1, h.2.2.2.2.2.2.2, g⟩ | exact ⟨h.1, h.2.1, h.2.2.1, h.2.2.2.1, h.2.2.2.2.1, h.2.2.2.2.2.1, h.2.2.2.2.2.2.1, h.2.2.2.2.2.2.2.1, h.2.2.2.2.2.2.2.2, g⟩ | exact ⟨h.1, h.2.1, h.2.2.1, h.2.2.2.1, h.2.2.2.2.1, h.2.2.2.2.2.1, h.2.2.2.2.2.2.1, h.2.2.2.2.2.2.2.1, h.2.2.2.2.2.2.2.2.1, h.2.2.2.2.2.2.2.2.2, g⟩
theorem cp_ldcS : cq_Lo cq_ldcS := by
  intro E P t pc L' L st M k' k hL hk h
  unfold cq_ldcS at h ⊢
  dsimp only at h ⊢
  exact hk _ _ _ _ _ hL h
def cq_getV : cm_T1 := fun E P t S k => match S.2.2.1 with
  | .ref c :: st => k (cq_adv S 3 (.ref (c + 1) :: st))
  | _ => False
theorem cj_getV : cm_Cj cm_getV cq_getV := by
  intro E P t S k1 k2 h g
  obtain ⟨pc, L, st, M⟩ := S
  unfold cm_getV at h ⊢
  unfold cq_getV at g
  try simp only [cq_adv_eq, adL_eq, jmL_eq] at g
  dsimp only at h g ⊢
  split at h <;> (first | exact h.elim | exact ⟨h, g⟩ | exact ⟨h.1, h.2, g⟩ | exact ⟨h.1, h.2.1, h.2.2, g⟩ | exact ⟨h.1, h.2.1, h.2.2.1, h.2.2.2, g⟩ | exact ⟨h.1, h.2.1, h.2.2.1, h.2.2.2.1, h.2.2.2.2, g⟩ | exact ⟨h.1, h.2.1, h.2.2.1, h.2.2.2.1, h.2.2.2.2.1, h.2.2.2.2.2, g⟩ | exact ⟨h.1, h.2.1, h.2.2.1, h.2.2.2.1, h.2.2.2.2.1, h.2.2.2.2.2.1, h.2.2.2.2.2.2, g⟩ | exact ⟨h.1, h.2.1, h.2.2.1, h.2.2.2.1, h.2.2.2.2.1, h.2.2.2.2.2.1, h.2.2.2.2.2.2.1, h.2.2.2.2.2.2.2, g⟩ | exact ⟨h.1, h.2.1, h.2.2.1, h.2.2.2.1, h.2.2.2.2.1, h.2.2.2.2.2.1, h.2.2.2.2.2.2.1, h.2.2.2.2.2.2.2.1, h.2.2.2.2.2.2.2.2, g⟩ | exact ⟨h.1, h.2.1, h.2.2.1, h.2.2.2.1, h.2.2.2.2.1, h.2.2.2.2.2.1, h.2.2.2.2.2.2.1, h.2.2.2.2.2.2.2.1, h.2.2.2.2.2.2.2.2.1, h.2.2.2.2.2.2.2.2.2, g⟩)
theorem cp_getV : cq_Lo cq_getV := by
  intro E P t pc L' L st M k' k hL hk h
  unfold cq_getV at h ⊢
  dsimp only at h ⊢
  split at h <;> (first | exact h.elim | exact hk _ _ _ _ _ hL h)
def cq_getC : cm_T1 := fun E P t S k => match S.2.2.1 with
  | .ref c :: st => k (cq_adv S 3 (.int 0 :: st))
  | _ => False
theorem cj_getC : cm_Cj cm_getC cq_getC := by
  intro E P t S k1 k2 h g
  obtain ⟨pc, L, st, M⟩ := S
  unfold cm_getC at h ⊢
  unfold cq_getC at g
  try simp only [cq_adv_eq, adL_eq, jmL_eq] at g
  dsimp only at h g ⊢
  split at h <;> (first | exact h.elim | exact ⟨h, g⟩ | exact ⟨h.1, h.2, g⟩ | exact ⟨h.1, h.2.1, h.2.2, g⟩ | exact ⟨h.1, h.2.1, h.2.2.1, h.2.2.2, g⟩ | exact ⟨h.1, h.2.1, h.2.2.1, h.2.2.2.1, h.2.2.2.2, g⟩ | exact ⟨h.1, h.2.1, h.2.2.1, h.2.2.2.1, h.2.2.2.2.1, h.2.2.2.2.2, g⟩ | exact ⟨h.1, h.2.1, h.2.2.1, h.2.2.2.1, h.2.2.2.2.1, h.2.2.2.2.2.1, h.2.2.2.2.2.2, g⟩ | exact ⟨h.1, h.2.1, h.2.2.1, h.2.2.2.1, h.2.2.2.2.1, h.2.2.2.2.2.1, h.2.2.2.2.2.2.1, h.2.2.2.2.2.2.2, g⟩ | exact ⟨h.1, h.2.1, h.2.2.1, h.2.2.2.1, h.2.2.2.2.1, h.2.2.2.2.2.1, h.2.2.2.2.2.2.1, h.2.2.2.2.2.2.2.1, h.2.2.2.2.2.2.2.2, g⟩ | exact ⟨h.1, h.2.1, h.2.2.1, h.2.2.2.1, h.2.2.2.2.1, h.2.2.2.2.2.1, h.2.2.2.2.2.2.1, h.2.2.2.2.2.2.2.1, h.2.2.2.2.2.2.2.2.1, h.2.2.2.2.2.2.2.2.2, g⟩)
theorem cp_getC : cq_Lo cq_getC := by
  intro E P t pc L' L st M k' k hL hk h
  unfold cq_getC at h ⊢
  dsimp only at h ⊢
  split at h <;> (first | exact h.elim | exact hk _ _ _ _ _ hL h)
def cq_gets : cm_T1 := fun E P t S k => k (cq_adv S 3 (.int 1 :: S.2.2.1))
theorem cj_gets : cm_Cj cm_gets cq_gets := by
  intro E P t S k1 k2 h g
  obtain ⟨pc, L, st, M⟩ := S
  unfold cm_gets at h ⊢
  unfold cq_gets at g
  try simp only [cq_adv_eq, adL_eq, jmL_eq] at g
  dsimp only at h g ⊢
  first | exact h.elim | exact ⟨h, g⟩ | exact ⟨h.1, h.2, g⟩ | exact ⟨h.1, h.2.1, h.2.2, g⟩ | exact ⟨h.1, h.2.1, h.2.2.1, h.2.2.2, g⟩ | exact ⟨h.1, h.2.1, h.2.2.1, h.2.2.2.1, h.2.2.2.2, g⟩ | exact ⟨h.1, h.2.1, h.2.2.1, h.2.2.2.1, h.2.2.2.2.1, h.2.2.2.2.2, g⟩ | exact ⟨h.1, h.2.1, h.2.2.1, h.2.2.2.1, h.2.2.2.2.1, h.2.2.2.2.2.1, h.2.2.2.2.2.2, g⟩ | exact ⟨h.1, h.2.1, h.2.2.1, h.2.2.2.1, h.2.2.2.2.1, h.2.2.2.2.2.1, h.2.2.2.2.2.2.1, h.2.2.2.2.2.2.2, g⟩ | exact ⟨h.1, h.2.1, h.2.2.1, h.2.2.2.1, h.2.2.2.2.1, h.2.2.2.2.2.1, h.2.2.2.2.2.2.1, h.2.2.2.2.2.2.2.1, h.2.2.2.2.2.2.2.2, g⟩ | exact ⟨h.1, h.2.1, h.2.2.1, h.2.2.2.1, h.2.2.2.2.1, h.2.2.2.2.2.1, h.2.2.2.2.2.2.1, h.2.2.2.2.2.2.2.1, h.2.2.2.2.2.2.2.2.1, h.2.2.2.2.2.2.2.2.2, g⟩
theorem cp_gets : cq_Lo cq_gets := by
  intro E P t pc L' L st M k' k hL hk h
  unfold cq_gets at h ⊢
  dsimp only at h ⊢
  exact hk _ _ _ _ _ hL h
def cq_alenS : cm_T1 := fun E P t S k => match S.2.2.1 with
  | .ref c :: st => (match ev_strs[(c - 1001) / 2]? with
    | some r => k (cq_adv S 1 (.int (Int32.ofNat r.2.2.2.length) :: st))
    | none => False)
  | _ => False
theorem cj_alenS : cm_Cj cm_alenS cq_alenS := by
  intro E P t S k1 k2 h g
  obtain ⟨pc, L, st, M⟩ := S
  unfold cm_alenS at h ⊢
  unfold cq_alenS at g
  try simp only [cq_adv_eq, adL_eq, jmL_eq] at g
  dsimp only at h g ⊢
  split at h
  · split at h
    · rename_i hz
      first | (exact ⟨h.1, h.2.1, h.2.2.1, h.2.2.2, g⟩) | (rw [hz] at g; exact ⟨h.1, h.2.1, h.2.2.1, h.2.2.2, g⟩) | (dsimp only at g; rw [hz] at g; exact ⟨h.1, h.2.1, h.2.2.1, h.2.2.2, g⟩)
    · exact h.elim
  · exact h.elim
theorem cp_alenS : cq_Lo cq_alenS := by
  intro E P t pc L' L st M k' k hL hk h
  unfold cq_alenS at h ⊢
  dsimp only at h ⊢
  split at h
  · split at h
    · rename_i hz
      first | (first | exact h.elim | exact hk _ _ _ _ _ hL h) | (rw [hz]; first | exact h.elim | exact hk _ _ _ _ _ hL h) | (dsimp only; rw [hz]; first | exact h.elim | exact hk _ _ _ _ _ hL h)
    · exact h.elim
  · exact h.elim
def cq_baloadS : cm_T1 := fun E P t S k => match S.2.2.1 with
  | .int i :: .ref c :: st => (match ev_strs[(c - 1001) / 2]? with
    | some r => k (cq_adv S 1 (.int (r.2.2.2.getD i.toNatClampNeg 0) :: st))
    | none => False)
  | _ => False
theorem cj_baloadS : cm_Cj cm_baloadS cq_baloadS := by
  intro E P t S k1 k2 h g
  obtain ⟨pc, L, st, M⟩ := S
  unfold cm_baloadS at h ⊢
  unfold cq_baloadS at g
  try simp only [cq_adv_eq, adL_eq, jmL_eq] at g
  dsimp only at h g ⊢
  split at h
  · split at h
    · rename_i hz
      first | (exact ⟨h.1, h.2.1, h.2.2.1, h.2.2.2.1, h.2.2.2.2.1, h.2.2.2.2.2, g⟩) | (rw [hz] at g; exact ⟨h.1, h.2.1, h.2.2.1, h.2.2.2.1, h.2.2.2.2.1, h.2.2.2.2.2, g⟩) | (dsimp only at g; rw [hz] at g; exact ⟨h.1, h.2.1, h.2.2.1, h.2.2.2.1, h.2.2.2.2.1, h.2.2.2.2.2, g⟩)
    · exact h.elim
  · exact h.elim
theorem cp_baloadS : cq_Lo cq_baloadS := by
  intro E P t pc L' L st M k' k hL hk h
  unfold cq_baloadS at h ⊢
  dsimp only at h ⊢
  split at h
  · split at h
    · rename_i hz
      first | (first | exact h.elim | exact hk _ _ _ _ _ hL h) | (rw [hz]; first | exact h.elim | exact hk _ _ _ _ _ hL h) | (dsimp only; rw [hz]; first | exact h.elim | exact hk _ _ _ _ _ hL h)
    · exact h.elim
  · exact h.elim
def cq_i2c : cm_T1 := fun E P t S k => match S.2.2.1 with
  | .int x :: st => k (cq_adv S 1 (.int ((x.toUInt32 % 65536).toInt32) :: st))
  | _ => False
theorem cj_i2c : cm_Cj cm_i2c cq_i2c := by
  intro E P t S k1 k2 h g
  obtain ⟨pc, L, st, M⟩ := S
  unfold cm_i2c at h ⊢
  unfold cq_i2c at g
  try simp only [cq_adv_eq, adL_eq, jmL_eq] at g
  dsimp only at h g ⊢
  split at h <;> (first | exact h.elim | exact ⟨h, g⟩ | exact ⟨h.1, h.2, g⟩ | exact ⟨h.1, h.2.1, h.2.2, g⟩ | exact ⟨h.1, h.2.1, h.2.2.1, h.2.2.2, g⟩ | exact ⟨h.1, h.2.1, h.2.2.1, h.2.2.2.1, h.2.2.2.2, g⟩ | exact ⟨h.1, h.2.1, h.2.2.1, h.2.2.2.1, h.2.2.2.2.1, h.2.2.2.2.2, g⟩ | exact ⟨h.1, h.2.1, h.2.2.1, h.2.2.2.1, h.2.2.2.2.1, h.2.2.2.2.2.1, h.2.2.2.2.2.2, g⟩ | exact ⟨h.1, h.2.1, h.2.2.1, h.2.2.2.1, h.2.2.2.2.1, h.2.2.2.2.2.1, h.2.2.2.2.2.2.1, h.2.2.2.2.2.2.2, g⟩ | exact ⟨h.1, h.2.1, h.2.2.1, h.2.2.2.1, h.2.2.2.2.1, h.2.2.2.2.2.1, h.2.2.2.2.2.2.1, h.2.2.2.2.2.2.2.1, h.2.2.2.2.2.2.2.2, g⟩ | exact ⟨h.1, h.2.1, h.2.2.1, h.2.2.2.1, h.2.2.2.2.1, h.2.2.2.2.2.1, h.2.2.2.2.2.2.1, h.2.2.2.2.2.2.2.1, h.2.2.2.2.2.2.2.2.1, h.2.2.2.2.2.2.2.2.2, g⟩)
theorem cp_i2c : cq_Lo cq_i2c := by
  intro E P t pc L' L st M k' k hL hk h
  unfold cq_i2c at h ⊢
  dsimp only at h ⊢
  split at h <;> (first | exact h.elim | exact hk _ _ _ _ _ hL h)
def cq_ladd : cm_T1 := fun E P t S k => match S.2.2.1 with
  | .long y :: .long x :: st => k (cq_adv S 1 (.long (x + y) :: st))
  | _ => False
theorem cj_ladd : cm_Cj cm_ladd cq_ladd := by
  intro E P t S k1 k2 h g
  obtain ⟨pc, L, st, M⟩ := S
  unfold cm_ladd at h ⊢
  unfold cq_ladd at g
  try simp only [cq_adv_eq, adL_eq, jmL_eq] at g
  dsimp only at h g ⊢
  split at h <;> (first | exact h.elim | exact ⟨h, g⟩ | exact ⟨h.1, h.2, g⟩ | exact ⟨h.1, h.2.1, h.2.2, g⟩ | exact ⟨h.1, h.2.1, h.2.2.1, h.2.2.2, g⟩ | exact ⟨h.1, h.2.1, h.2.2.1, h.2.2.2.1, h.2.2.2.2, g⟩ | exact ⟨h.1, h.2.1, h.2.2.1, h.2.2.2.1, h.2.2.2.2.1, h.2.2.2.2.2, g⟩ | exact ⟨h.1, h.2.1, h.2.2.1, h.2.2.2.1, h.2.2.2.2.1, h.2.2.2.2.2.1, h.2.2.2.2.2.2, g⟩ | exact ⟨h.1, h.2.1, h.2.2.1, h.2.2.2.1, h.2.2.2.2.1, h.2.2.2.2.2.1, h.2.2.2.2.2.2.1, h.2.2.2.2.2.2.2, g⟩ | exact ⟨h.1, h.2.1, h.2.2.1, h.2.2.2.1, h.2.2.2.2.1, h.2.2.2.2.2.1, h.2.2.2.2.2.2.1, h.2.2.2.2.2.2.2.1, h.2.2.2.2.2.2.2.2, g⟩ | exact ⟨h.1, h.2.1, h.2.2.1, h.2.2.2.1, h.2.2.2.2.1, h.2.2.2.2.2.1, h.2.2.2.2.2.2.1, h.2.2.2.2.2.2.2.1, h.2.2.2.2.2.2.2.2.1, h.2.2.2.2.2.2.2.2.2, g⟩)
theorem cp_ladd : cq_Lo cq_ladd := by
  intro E P t pc L' L st M k' k hL hk h
  unfold cq_ladd at h ⊢
  dsimp only at h ⊢
  split at h <;> (first | exact h.elim | exact hk _ _ _ _ _ hL h)
def cq_lsub : cm_T1 := fun E P t S k => match S.2.2.1 with
  | .long y :: .long x :: st => k (cq_adv S 1 (.long (x - y) :: st))
  | _ => False
theorem cj_lsub : cm_Cj cm_lsub cq_lsub := by
  intro E P t S k1 k2 h g
  obtain ⟨pc, L, st, M⟩ := S
  unfold cm_lsub at h ⊢
  unfold cq_lsub at g
  try simp only [cq_adv_eq, adL_eq, jmL_eq] at g
  dsimp only at h g ⊢
  split at h <;> (first | exact h.elim | exact ⟨h, g⟩ | exact ⟨h.1, h.2, g⟩ | exact ⟨h.1, h.2.1, h.2.2, g⟩ | exact ⟨h.1, h.2.1, h.2.2.1, h.2.2.2, g⟩ | exact ⟨h.1, h.2.1, h.2.2.1, h.2.2.2.1, h.2.2.2.2, g⟩ | exact ⟨h.1, h.2.1, h.2.2.1, h.2.2.2.1, h.2.2.2.2.1, h.2.2.2.2.2, g⟩ | exact ⟨h.1, h.2.1, h.2.2.1, h.2.2.2.1, h.2.2.2.2.1, h.2.2.2.2.2.1, h.2.2.2.2.2.2, g⟩ | exact ⟨h.1, h.2.1, h.2.2.1, h.2.2.2.1, h.2.2.2.2.1, h.2.2.2.2.2.1, h.2.2.2.2.2.2.1, h.2.2.2.2.2.2.2, g⟩ | exact ⟨h.1, h.2.1, h.2.2.1, h.2.2.2.1, h.2.2.2.2.1, h.2.2.2.2.2.1, h.2.2.2.2.2.2.1, h.2.2.2.2.2.2.2.1, h.2.2.2.2.2.2.2.2, g⟩ | exact ⟨h.1, h.2.1, h.2.2.1, h.2.2.2.1, h.2.2.2.2.1, h.2.2.2.2.2.1, h.2.2.2.2.2.2.1, h.2.2.2.2.2.2.2.1, h.2.2.2.2.2.2.2.2.1, h.2.2.2.2.2.2.2.2.2, g⟩)
theorem cp_lsub : cq_Lo cq_lsub := by
  intro E P t pc L' L st M k' k hL hk h
  unfold cq_lsub at h ⊢
  dsimp only at h ⊢
  split at h <;> (first | exact h.elim | exact hk _ _ _ _ _ hL h)
def cq_lmul : cm_T1 := fun E P t S k => match S.2.2.1 with
  | .long y :: .long x :: st => k (cq_adv S 1 (.long (x * y) :: st))
  | _ => False
theorem cj_lmul : cm_Cj cm_lmul cq_lmul := by
  intro E P t S k1 k2 h g
  obtain ⟨pc, L, st, M⟩ := S
  unfold cm_lmul at h ⊢
  unfold cq_lmul at g
  try simp only [cq_adv_eq, adL_eq, jmL_eq] at g
  dsimp only at h g ⊢
  split at h <;> (first | exact h.elim | exact ⟨h, g⟩ | exact ⟨h.1, h.2, g⟩ | exact ⟨h.1, h.2.1, h.2.2, g⟩ | exact ⟨h.1, h.2.1, h.2.2.1, h.2.2.2, g⟩ | exact ⟨h.1, h.2.1, h.2.2.1, h.2.2.2.1, h.2.2.2.2, g⟩ | exact ⟨h.1, h.2.1, h.2.2.1, h.2.2.2.1, h.2.2.2.2.1, h.2.2.2.2.2, g⟩ | exact ⟨h.1, h.2.1, h.2.2.1, h.2.2.2.1, h.2.2.2.2.1, h.2.2.2.2.2.1, h.2.2.2.2.2.2, g⟩ | exact ⟨h.1, h.2.1, h.2.2.1, h.2.2.2.1, h.2.2.2.2.1, h.2.2.2.2.2.1, h.2.2.2.2.2.2.1, h.2.2.2.2.2.2.2, g⟩ | exact ⟨h.1, h.2.1, h.2.2.1, h.2.2.2.1, h.2.2.2.2.1, h.2.2.2.2.2.1, h.2.2.2.2.2.2.1, h.2.2.2.2.2.2.2.1, h.2.2.2.2.2.2.2.2, g⟩ | exact ⟨h.1, h.2.1, h.2.2.1, h.2.2.2.1, h.2.2.2.2.1, h.2.2.2.2.2.1, h.2.2.2.2.2.2.1, h.2.2.2.2.2.2.2.1, h.2.2.2.2.2.2.2.2.1, h.2.2.2.2.2.2.2.2.2, g⟩)
theorem cp_lmul : cq_Lo cq_lmul := by
  intro E P t pc L' L st M k' k hL hk h
  unfold cq_lmul at h ⊢
  dsimp only at h ⊢
  split at h <;> (first | exact h.elim | exact hk _ _ _ _ _ hL h)
def cq_ldiv : cm_T1 := fun E P t S k => match S.2.2.1 with
  | .long y :: .long x :: st => k (cq_adv S 1 (.long (x / y) :: st))
  | _ => False
theorem cj_ldiv : cm_Cj cm_ldiv cq_ldiv := by
  intro E P t S k1 k2 h g
  obtain ⟨pc, L, st, M⟩ := S
  unfold cm_ldiv at h ⊢
  unfold cq_ldiv at g
  try simp only [cq_adv_eq, adL_eq, jmL_eq] at g
  dsimp only at h g ⊢
  split at h <;> (first | exact h.elim | exact ⟨h, g⟩ | exact ⟨h.1, h.2, g⟩ | exact ⟨h.1, h.2.1, h.2.2, g⟩ | exact ⟨h.1, h.2.1, h.2.2.1, h.2.2.2, g⟩ | exact ⟨h.1, h.2.1, h.2.2.1, h.2.2.2.1, h.2.2.2.2, g⟩ | exact ⟨h.1, h.2.1, h.2.2.1, h.2.2.2.1, h.2.2.2.2.1, h.2.2.2.2.2, g⟩ | exact ⟨h.1, h.2.1, h.2.2.1, h.2.2.2.1, h.2.2.2.2.1, h.2.2.2.2.2.1, h.2.2.2.2.2.2, g⟩ | exact ⟨h.1, h.2.1, h.2.2.1, h.2.2.2.1, h.2.2.2.2.1, h.2.2.2.2.2.1, h.2.2.2.2.2.2.1, h.2.2.2.2.2.2.2, g⟩ | exact ⟨h.1, h.2.1, h.2.2.1, h.2.2.2.1, h.2.2.2.2.1, h.2.2.2.2.2.1, h.2.2.2.2.2.2.1, h.2.2.2.2.2.2.2.1, h.2.2.2.2.2.2.2.2, g⟩ | exact ⟨h.1, h.2.1, h.2.2.1, h.2.2.2.1, h.2.2.2.2.1, h.2.2.2.2.2.1, h.2.2.2.2.2.2.1, h.2.2.2.2.2.2.2.1, h.2.2.2.2.2.2.2.2.1, h.2.2.2.2.2.2.2.2.2, g⟩)
theorem cp_ldiv : cq_Lo cq_ldiv := by
  intro E P t pc L' L st M k' k hL hk h
  unfold cq_ldiv at h ⊢
  dsimp only at h ⊢
  split at h <;> (first | exact h.elim | exact hk _ _ _ _ _ hL h)
def cq_lrem : cm_T1 := fun E P t S k => match S.2.2.1 with
  | .long y :: .long x :: st => k (cq_adv S 1 (.long (x - x / y * y) :: st))
  | _ => False
theorem cj_lrem : cm_Cj cm_lrem cq_lrem := by
  intro E P t S k1 k2 h g
  obtain ⟨pc, L, st, M⟩ := S
  unfold cm_lrem at h ⊢
  unfold cq_lrem at g
  try simp only [cq_adv_eq, adL_eq, jmL_eq] at g
  dsimp only at h g ⊢
  split at h <;> (first | exact h.elim | exact ⟨h, g⟩ | exact ⟨h.1, h.2, g⟩ | exact ⟨h.1, h.2.1, h.2.2, g⟩ | exact ⟨h.1, h.2.1, h.2.2.1, h.2.2.2, g⟩ | exact ⟨h.1, h.2.1, h.2.2.1, h.2.2.2.1, h.2.2.2.2, g⟩ | exact ⟨h.1, h.2.1, h.2.2.1, h.2.2.2.1, h.2.2.2.2.1, h.2.2.2.2.2, g⟩ | exact ⟨h.1, h.2.1, h.2.2.1, h.2.2.2.1, h.2.2.2.2.1, h.2.2.2.2.2.1, h.2.2.2.2.2.2, g⟩ | exact ⟨h.1, h.2.1, h.2.2.1, h.2.2.2.1, h.2.2.2.2.1, h.2.2.2.2.2.1, h.2.2.2.2.2.2.1, h.2.2.2.2.2.2.2, g⟩ | exact ⟨h.1, h.2.1, h.2.2.1, h.2.2.2.1, h.2.2.2.2.1, h.2.2.2.2.2.1, h.2.2.2.2.2.2.1, h.2.2.2.2.2.2.2.1, h.2.2.2.2.2.2.2.2, g⟩ | exact ⟨h.1, h.2.1, h.2.2.1, h.2.2.2.1, h.2.2.2.2.1, h.2.2.2.2.2.1, h.2.2.2.2.2.2.1, h.2.2.2.2.2.2.2.1, h.2.2.2.2.2.2.2.2.1, h.2.2.2.2.2.2.2.2.2, g⟩)
theorem cp_lrem : cq_Lo cq_lrem := by
  intro E P t pc L' L st M k' k hL hk h
  unfold cq_lrem at h ⊢
  dsimp only at h ⊢
  split at h <;> (first | exact h.elim | exact hk _ _ _ _ _ hL h)
def cq_ldc2 : cm_T1 := fun E P t S k => k (cq_adv S 3 (.long (Int64.ofInt t.1) :: S.2.2.1))
theorem cj_ldc2 : cm_Cj cm_ldc2 cq_ldc2 := by
  intro E P t S k1 k2 h g
  obtain ⟨pc, L, st, M⟩ := S
  unfold cm_ldc2 at h ⊢
  unfold cq_ldc2 at g
  try simp only [cq_adv_eq, adL_eq, jmL_eq] at g
  dsimp only at h g ⊢
  first | exact h.elim | exact ⟨h, g⟩ | exact ⟨h.1, h.2, g⟩ | exact ⟨h.1, h.2.1, h.2.2, g⟩ | exact ⟨h.1, h.2.1, h.2.2.1, h.2.2.2, g⟩ | exact ⟨h.1, h.2.1, h.2.2.1, h.2.2.2.1, h.2.2.2.2, g⟩ | exact ⟨h.1, h.2.1, h.2.2.1, h.2.2.2.1, h.2.2.2.2.1, h.2.2.2.2.2, g⟩ | exact ⟨h.1, h.2.1, h.2.2.1, h.2.2.2.1, h.2.2.2.2.1, h.2.2.2.2.2.1, h.2.2.2.2.2.2, g⟩ | exact ⟨h.1, h.2.1, h.2.2.1, h.2.2.2.1, h.2.2.2.2.1, h.2.2.2.2.2.1, h.2.2.2.2.2.2.1, h.2.2.2.2.2.2.2, g⟩ | exact ⟨h.1, h.2.1, h.2.2.1, h.2.2.2.1, h.2.2.2.2.1, h.2.2.2.2.2.1, h.2.2.2.2.2.2.1, h.2.2.2.2.2.2.2.1, h.2.2.2.2.2.2.2.2, g⟩ | exact ⟨h.1, h.2.1, h.2.2.1, h.2.2.2.1, h.2.2.2.2.1, h.2.2.2.2.2.1, h.2.2.2.2.2.2.1, h.2.2.2.2.2.2.2.1, h.2.2.2.2.2.2.2.2.1, h.2.2.2.2.2.2.2.2.2, g⟩
theorem cp_ldc2 : cq_Lo cq_ldc2 := by
  intro E P t pc L' L st M k' k hL hk h
  unfold cq_ldc2 at h ⊢
  dsimp only at h ⊢
  exact hk _ _ _ _ _ hL h
def cq_getsF : cm_T1 := fun E P t S k => k (cq_adv S 3 (.null :: S.2.2.1)) ∧ k (cq_adv S 3 (.ref 1101 :: S.2.2.1))
theorem cj_getsF : cm_Cj cm_getsF cq_getsF := by
  intro E P t S k1 k2 h g
  obtain ⟨pc, L, st, M⟩ := S
  unfold cm_getsF at h ⊢
  unfold cq_getsF at g
  try simp only [cq_adv_eq, adL_eq, jmL_eq] at g
  dsimp only at h g ⊢
  exact ⟨⟨h.1, g.1⟩, h.2, g.2⟩
theorem cp_getsF : cq_Lo cq_getsF := by
  intro E P t pc L' L st M k' k hL hk h
  unfold cq_getsF at h ⊢
  dsimp only at h ⊢
  exact ⟨hk _ _ _ _ _ hL h.1, hk _ _ _ _ _ hL h.2⟩
def cq_ldcw : cm_T1 := fun E P t S k => k (cq_adv S 3 (.int (Int32.ofInt t.1) :: S.2.2.1))
theorem cj_ldcw : cm_Cj cm_ldcw cq_ldcw := by
  intro E P t S k1 k2 h g
  obtain ⟨pc, L, st, M⟩ := S
  unfold cm_ldcw at h ⊢
  unfold cq_ldcw at g
  try simp only [cq_adv_eq, adL_eq, jmL_eq] at g
  dsimp only at h g ⊢
  first | exact h.elim | exact ⟨h, g⟩ | exact ⟨h.1, h.2, g⟩ | exact ⟨h.1, h.2.1, h.2.2, g⟩ | exact ⟨h.1, h.2.1, h.2.2.1, h.2.2.2, g⟩ | exact ⟨h.1, h.2.1, h.2.2.1, h.2.2.2.1, h.2.2.2.2, g⟩ | exact ⟨h.1, h.2.1, h.2.2.1, h.2.2.2.1, h.2.2.2.2.1, h.2.2.2.2.2, g⟩ | exact ⟨h.1, h.2.1, h.2.2.1, h.2.2.2.1, h.2.2.2.2.1, h.2.2.2.2.2.1, h.2.2.2.2.2.2, g⟩ | exact ⟨h.1, h.2.1, h.2.2.1, h.2.2.2.1, h.2.2.2.2.1, h.2.2.2.2.2.1, h.2.2.2.2.2.2.1, h.2.2.2.2.2.2.2, g⟩ | exact ⟨h.1, h.2.1, h.2.2.1, h.2.2.2.1, h.2.2.2.2.1, h.2.2.2.2.2.1, h.2.2.2.2.2.2.1, h.2.2.2.2.2.2.2.1, h.2.2.2.2.2.2.2.2, g⟩ | exact ⟨h.1, h.2.1, h.2.2.1, h.2.2.2.1, h.2.2.2.2.1, h.2.2.2.2.2.1, h.2.2.2.2.2.2.1, h.2.2.2.2.2.2.2.1, h.2.2.2.2.2.2.2.2.1, h.2.2.2.2.2.2.2.2.2, g⟩
theorem cp_ldcw : cq_Lo cq_ldcw := by
  intro E P t pc L' L st M k' k hL hk h
  unfold cq_ldcw at h ⊢
  dsimp only at h ⊢
  exact hk _ _ _ _ _ hL h
def cq_mmax : cm_T1 := fun E P t S k => match S.2.2.1 with
  | .int y :: .int x :: st => k (cq_adv S 3 (.int (if x < y then y else x) :: st))
  | _ => False
theorem cj_mmax : cm_Cj cm_mmax cq_mmax := by
  intro E P t S k1 k2 h g
  obtain ⟨pc, L, st, M⟩ := S
  unfold cm_mmax at h ⊢
  unfold cq_mmax at g
  try simp only [cq_adv_eq, adL_eq, jmL_eq] at g
  dsimp only at h g ⊢
  split at h <;> (first | exact h.elim | exact ⟨h, g⟩ | exact ⟨h.1, h.2, g⟩ | exact ⟨h.1, h.2.1, h.2.2, g⟩ | exact ⟨h.1, h.2.1, h.2.2.1, h.2.2.2, g⟩ | exact ⟨h.1, h.2.1, h.2.2.1, h.2.2.2.1, h.2.2.2.2, g⟩ | exact ⟨h.1, h.2.1, h.2.2.1, h.2.2.2.1, h.2.2.2.2.1, h.2.2.2.2.2, g⟩ | exact ⟨h.1, h.2.1, h.2.2.1, h.2.2.2.1, h.2.2.2.2.1, h.2.2.2.2.2.1, h.2.2.2.2.2.2, g⟩ | exact ⟨h.1, h.2.1, h.2.2.1, h.2.2.2.1, h.2.2.2.2.1, h.2.2.2.2.2.1, h.2.2.2.2.2.2.1, h.2.2.2.2.2.2.2, g⟩ | exact ⟨h.1, h.2.1, h.2.2.1, h.2.2.2.1, h.2.2.2.2.1, h.2.2.2.2.2.1, h.2.2.2.2.2.2.1, h.2.2.2.2.2.2.2.1, h.2.2.2.2.2.2.2.2, g⟩ | exact ⟨h.1, h.2.1, h.2.2.1, h.2.2.2.1, h.2.2.2.2.1, h.2.2.2.2.2.1, h.2.2.2.2.2.2.1, h.2.2.2.2.2.2.2.1, h.2.2.2.2.2.2.2.2.1, h.2.2.2.2.2.2.2.2.2, g⟩)
theorem cp_mmax : cq_Lo cq_mmax := by
  intro E P t pc L' L st M k' k hL hk h
  unfold cq_mmax at h ⊢
  dsimp only at h ⊢
  split at h <;> (first | exact h.elim | exact hk _ _ _ _ _ hL h)
def cq_mabs : cm_T1 := fun E P t S k => match S.2.2.1 with
  | .int x :: st => k (cq_adv S 3 (.int (if 0 ≤ x then x else 0 - x) :: st))
  | _ => False
theorem cj_mabs : cm_Cj cm_mabs cq_mabs := by
  intro E P t S k1 k2 h g
  obtain ⟨pc, L, st, M⟩ := S
  unfold cm_mabs at h ⊢
  unfold cq_mabs at g
  try simp only [cq_adv_eq, adL_eq, jmL_eq] at g
  dsimp only at h g ⊢
  split at h <;> (first | exact h.elim | exact ⟨h, g⟩ | exact ⟨h.1, h.2, g⟩ | exact ⟨h.1, h.2.1, h.2.2, g⟩ | exact ⟨h.1, h.2.1, h.2.2.1, h.2.2.2, g⟩ | exact ⟨h.1, h.2.1, h.2.2.1, h.2.2.2.1, h.2.2.2.2, g⟩ | exact ⟨h.1, h.2.1, h.2.2.1, h.2.2.2.1, h.2.2.2.2.1, h.2.2.2.2.2, g⟩ | exact ⟨h.1, h.2.1, h.2.2.1, h.2.2.2.1, h.2.2.2.2.1, h.2.2.2.2.2.1, h.2.2.2.2.2.2, g⟩ | exact ⟨h.1, h.2.1, h.2.2.1, h.2.2.2.1, h.2.2.2.2.1, h.2.2.2.2.2.1, h.2.2.2.2.2.2.1, h.2.2.2.2.2.2.2, g⟩ | exact ⟨h.1, h.2.1, h.2.2.1, h.2.2.2.1, h.2.2.2.2.1, h.2.2.2.2.2.1, h.2.2.2.2.2.2.1, h.2.2.2.2.2.2.2.1, h.2.2.2.2.2.2.2.2, g⟩ | exact ⟨h.1, h.2.1, h.2.2.1, h.2.2.2.1, h.2.2.2.2.1, h.2.2.2.2.2.1, h.2.2.2.2.2.2.1, h.2.2.2.2.2.2.2.1, h.2.2.2.2.2.2.2.2.1, h.2.2.2.2.2.2.2.2.2, g⟩)
theorem cp_mabs : cq_Lo cq_mabs := by
  intro E P t pc L' L st M k' k hL hk h
  unfold cq_mabs at h ⊢
  dsimp only at h ⊢
  split at h <;> (first | exact h.elim | exact hk _ _ _ _ _ hL h)
def cq_copyi : cm_T1 := fun E P t S k => match S.2.2.1 with
  | .int n :: .int dp :: .ref d :: .int sp :: .ref c :: st => k (adL S.1 3, S.2.1, st, cm_cp S.2.2.2 c sp.toNatClampNeg d dp.toNatClampNeg n.toNatClampNeg)
  | _ => False
theorem cj_copyi : cm_Cj cm_copyi cq_copyi := by
  intro E P t S k1 k2 h g
  obtain ⟨pc, L, st, M⟩ := S
  unfold cm_copyi at h ⊢
  unfold cq_copyi at g
  try simp only [cq_adv_eq, adL_eq, jmL_eq] at g
  dsimp only at h g ⊢
  split at h <;> (first | exact h.elim | exact ⟨h, g⟩ | exact ⟨h.1, h.2, g⟩ | exact ⟨h.1, h.2.1, h.2.2, g⟩ | exact ⟨h.1, h.2.1, h.2.2.1, h.2.2.2, g⟩ | exact ⟨h.1, h.2.1, h.2.2.1, h.2.2.2.1, h.2.2.2.2, g⟩ | exact ⟨h.1, h.2.1, h.2.2.1, h.2.2.2.1, h.2.2.2.2.1, h.2.2.2.2.2, g⟩ | exact ⟨h.1, h.2.1, h.2.2.1, h.2.2.2.1, h.2.2.2.2.1, h.2.2.2.2.2.1, h.2.2.2.2.2.2, g⟩ | exact ⟨h.1, h.2.1, h.2.2.1, h.2.2.2.1, h.2.2.2.2.1, h.2.2.2.2.2.1, h.2.2.2.2.2.2.1, h.2.2.2.2.2.2.2, g⟩ | exact ⟨h.1, h.2.1, h.2.2.1, h.2.2.2.1, h.2.2.2.2.1, h.2.2.2.2.2.1, h.2.2.2.2.2.2.1, h.2.2.2.2.2.2.2.1, h.2.2.2.2.2.2.2.2, g⟩ | exact ⟨h.1, h.2.1, h.2.2.1, h.2.2.2.1, h.2.2.2.2.1, h.2.2.2.2.2.1, h.2.2.2.2.2.2.1, h.2.2.2.2.2.2.2.1, h.2.2.2.2.2.2.2.2.1, h.2.2.2.2.2.2.2.2.2, g⟩)
theorem cp_copyi : cq_Lo cq_copyi := by
  intro E P t pc L' L st M k' k hL hk h
  unfold cq_copyi at h ⊢
  dsimp only at h ⊢
  split at h <;> (first | exact h.elim | exact hk _ _ _ _ _ hL h)
def cq_getT : cm_T1 := fun E P t S k => k (cq_adv S 3 (.ref 1100 :: S.2.2.1))
theorem cj_getT : cm_Cj cm_getT cq_getT := by
  intro E P t S k1 k2 h g
  obtain ⟨pc, L, st, M⟩ := S
  unfold cm_getT at h ⊢
  unfold cq_getT at g
  try simp only [cq_adv_eq, adL_eq, jmL_eq] at g
  dsimp only at h g ⊢
  first | exact h.elim | exact ⟨h, g⟩ | exact ⟨h.1, h.2, g⟩ | exact ⟨h.1, h.2.1, h.2.2, g⟩ | exact ⟨h.1, h.2.1, h.2.2.1, h.2.2.2, g⟩ | exact ⟨h.1, h.2.1, h.2.2.1, h.2.2.2.1, h.2.2.2.2, g⟩ | exact ⟨h.1, h.2.1, h.2.2.1, h.2.2.2.1, h.2.2.2.2.1, h.2.2.2.2.2, g⟩ | exact ⟨h.1, h.2.1, h.2.2.1, h.2.2.2.1, h.2.2.2.2.1, h.2.2.2.2.2.1, h.2.2.2.2.2.2, g⟩ | exact ⟨h.1, h.2.1, h.2.2.1, h.2.2.2.1, h.2.2.2.2.1, h.2.2.2.2.2.1, h.2.2.2.2.2.2.1, h.2.2.2.2.2.2.2, g⟩ | exact ⟨h.1, h.2.1, h.2.2.1, h.2.2.2.1, h.2.2.2.2.1, h.2.2.2.2.2.1, h.2.2.2.2.2.2.1, h.2.2.2.2.2.2.2.1, h.2.2.2.2.2.2.2.2, g⟩ | exact ⟨h.1, h.2.1, h.2.2.1, h.2.2.2.1, h.2.2.2.2.1, h.2.2.2.2.2.1, h.2.2.2.2.2.2.1, h.2.2.2.2.2.2.2.1, h.2.2.2.2.2.2.2.2.1, h.2.2.2.2.2.2.2.2.2, g⟩
theorem cp_getT : cq_Lo cq_getT := by
  intro E P t pc L' L st M k' k hL hk h
  unfold cq_getT at h ⊢
  dsimp only at h ⊢
  exact hk _ _ _ _ _ hL h
def cq_tald : cm_T1 := fun E P t S k => match S.2.2.1 with
  | .int i :: .ref c :: st => k (cq_adv S 1 (.int (cm_tens i.toNatClampNeg) :: st))
  | _ => False
theorem cj_tald : cm_Cj cm_tald cq_tald := by
  intro E P t S k1 k2 h g
  obtain ⟨pc, L, st, M⟩ := S
  unfold cm_tald at h ⊢
  unfold cq_tald at g
  try simp only [cq_adv_eq, adL_eq, jmL_eq] at g
  dsimp only at h g ⊢
  split at h <;> (first | exact h.elim | exact ⟨h, g⟩ | exact ⟨h.1, h.2, g⟩ | exact ⟨h.1, h.2.1, h.2.2, g⟩ | exact ⟨h.1, h.2.1, h.2.2.1, h.2.2.2, g⟩ | exact ⟨h.1, h.2.1, h.2.2.1, h.2.2.2.1, h.2.2.2.2, g⟩ | exact ⟨h.1, h.2.1, h.2.2.1, h.2.2.2.1, h.2.2.2.2.1, h.2.2.2.2.2, g⟩ | exact ⟨h.1, h.2.1, h.2.2.1, h.2.2.2.1, h.2.2.2.2.1, h.2.2.2.2.2.1, h.2.2.2.2.2.2, g⟩ | exact ⟨h.1, h.2.1, h.2.2.1, h.2.2.2.1, h.2.2.2.2.1, h.2.2.2.2.2.1, h.2.2.2.2.2.2.1, h.2.2.2.2.2.2.2, g⟩ | exact ⟨h.1, h.2.1, h.2.2.1, h.2.2.2.1, h.2.2.2.2.1, h.2.2.2.2.2.1, h.2.2.2.2.2.2.1, h.2.2.2.2.2.2.2.1, h.2.2.2.2.2.2.2.2, g⟩ | exact ⟨h.1, h.2.1, h.2.2.1, h.2.2.2.1, h.2.2.2.2.1, h.2.2.2.2.2.1, h.2.2.2.2.2.2.1, h.2.2.2.2.2.2.2.1, h.2.2.2.2.2.2.2.2.1, h.2.2.2.2.2.2.2.2.2, g⟩)
theorem cp_tald : cq_Lo cq_tald := by
  intro E P t pc L' L st M k' k hL hk h
  unfold cq_tald at h ⊢
  dsimp only at h ⊢
  split at h <;> (first | exact h.elim | exact hk _ _ _ _ _ hL h)
def cq_alenT : cm_T1 := fun E P t S k => match S.2.2.1 with
  | .ref c :: st => k (cq_adv S 1 (.int 5 :: st))
  | _ => False
theorem cj_alenT : cm_Cj cm_alenT cq_alenT := by
  intro E P t S k1 k2 h g
  obtain ⟨pc, L, st, M⟩ := S
  unfold cm_alenT at h ⊢
  unfold cq_alenT at g
  try simp only [cq_adv_eq, adL_eq, jmL_eq] at g
  dsimp only at h g ⊢
  split at h <;> (first | exact h.elim | exact ⟨h, g⟩ | exact ⟨h.1, h.2, g⟩ | exact ⟨h.1, h.2.1, h.2.2, g⟩ | exact ⟨h.1, h.2.1, h.2.2.1, h.2.2.2, g⟩ | exact ⟨h.1, h.2.1, h.2.2.1, h.2.2.2.1, h.2.2.2.2, g⟩ | exact ⟨h.1, h.2.1, h.2.2.1, h.2.2.2.1, h.2.2.2.2.1, h.2.2.2.2.2, g⟩ | exact ⟨h.1, h.2.1, h.2.2.1, h.2.2.2.1, h.2.2.2.2.1, h.2.2.2.2.2.1, h.2.2.2.2.2.2, g⟩ | exact ⟨h.1, h.2.1, h.2.2.1, h.2.2.2.1, h.2.2.2.2.1, h.2.2.2.2.2.1, h.2.2.2.2.2.2.1, h.2.2.2.2.2.2.2, g⟩ | exact ⟨h.1, h.2.1, h.2.2.1, h.2.2.2.1, h.2.2.2.2.1, h.2.2.2.2.2.1, h.2.2.2.2.2.2.1, h.2.2.2.2.2.2.2.1, h.2.2.2.2.2.2.2.2, g⟩ | exact ⟨h.1, h.2.1, h.2.2.1, h.2.2.2.1, h.2.2.2.2.1, h.2.2.2.2.2.1, h.2.2.2.2.2.2.1, h.2.2.2.2.2.2.2.1, h.2.2.2.2.2.2.2.2.1, h.2.2.2.2.2.2.2.2.2, g⟩)
theorem cp_alenT : cq_Lo cq_alenT := by
  intro E P t pc L' L st M k' k hL hk h
  unfold cq_alenT at h ⊢
  dsimp only at h ⊢
  split at h <;> (first | exact h.elim | exact hk _ _ _ _ _ hL h)
def cq_lastore : cm_T1 := fun E P t S k => match S.2.2.1 with
  | .long x :: .int i :: .ref c :: st => k (adL S.1 1, S.2.1, st, cm_wl S.2.2.2 c i.toNatClampNeg x)
  | _ => False
theorem cj_lastore : cm_Cj cm_lastore cq_lastore := by
  intro E P t S k1 k2 h g
  obtain ⟨pc, L, st, M⟩ := S
  unfold cm_lastore at h ⊢
  unfold cq_lastore at g
  try simp only [cq_adv_eq, adL_eq, jmL_eq] at g
  dsimp only at h g ⊢
  split at h <;> (first | exact h.elim | exact ⟨h, g⟩ | exact ⟨h.1, h.2, g⟩ | exact ⟨h.1, h.2.1, h.2.2, g⟩ | exact ⟨h.1, h.2.1, h.2.2.1, h.2.2.2, g⟩ | exact ⟨h.1, h.2.1, h.2.2.1, h.2.2.2.1, h.2.2.2.2, g⟩ | exact ⟨h.1, h.2.1, h.2.2.1, h.2.2.2.1, h.2.2.2.2.1, h.2.2.2.2.2, g⟩ | exact ⟨h.1, h.2.1, h.2.2.1, h.2.2.2.1, h.2.2.2.2.1, h.2.2.2.2.2.1, h.2.2.2.2.2.2, g⟩ | exact ⟨h.1, h.2.1, h.2.2.1, h.2.2.2.1, h.2.2.2.2.1, h.2.2.2.2.2.1, h.2.2.2.2.2.2.1, h.2.2.2.2.2.2.2, g⟩ | exact ⟨h.1, h.2.1, h.2.2.1, h.2.2.2.1, h.2.2.2.2.1, h.2.2.2.2.2.1, h.2.2.2.2.2.2.1, h.2.2.2.2.2.2.2.1, h.2.2.2.2.2.2.2.2, g⟩ | exact ⟨h.1, h.2.1, h.2.2.1, h.2.2.2.1, h.2.2.2.2.1, h.2.2.2.2.2.1, h.2.2.2.2.2.2.1, h.2.2.2.2.2.2.2.1, h.2.2.2.2.2.2.2.2.1, h.2.2.2.2.2.2.2.2.2, g⟩)
theorem cp_lastore : cq_Lo cq_lastore := by
  intro E P t pc L' L st M k' k hL hk h
  unfold cq_lastore at h ⊢
  dsimp only at h ⊢
  split at h <;> (first | exact h.elim | exact hk _ _ _ _ _ hL h)
def cq_pop2 : cm_T1 := fun E P t S k => match S.2.2.1 with
  | .long x :: st => k (cq_adv S 1 st)
  | _ => False
theorem cj_pop2 : cm_Cj cm_pop2 cq_pop2 := by
  intro E P t S k1 k2 h g
  obtain ⟨pc, L, st, M⟩ := S
  unfold cm_pop2 at h ⊢
  unfold cq_pop2 at g
  try simp only [cq_adv_eq, adL_eq, jmL_eq] at g
  dsimp only at h g ⊢
  split at h <;> (first | exact h.elim | exact ⟨h, g⟩ | exact ⟨h.1, h.2, g⟩ | exact ⟨h.1, h.2.1, h.2.2, g⟩ | exact ⟨h.1, h.2.1, h.2.2.1, h.2.2.2, g⟩ | exact ⟨h.1, h.2.1, h.2.2.1, h.2.2.2.1, h.2.2.2.2, g⟩ | exact ⟨h.1, h.2.1, h.2.2.1, h.2.2.2.1, h.2.2.2.2.1, h.2.2.2.2.2, g⟩ | exact ⟨h.1, h.2.1, h.2.2.1, h.2.2.2.1, h.2.2.2.2.1, h.2.2.2.2.2.1, h.2.2.2.2.2.2, g⟩ | exact ⟨h.1, h.2.1, h.2.2.1, h.2.2.2.1, h.2.2.2.2.1, h.2.2.2.2.2.1, h.2.2.2.2.2.2.1, h.2.2.2.2.2.2.2, g⟩ | exact ⟨h.1, h.2.1, h.2.2.1, h.2.2.2.1, h.2.2.2.2.1, h.2.2.2.2.2.1, h.2.2.2.2.2.2.1, h.2.2.2.2.2.2.2.1, h.2.2.2.2.2.2.2.2, g⟩ | exact ⟨h.1, h.2.1, h.2.2.1, h.2.2.2.1, h.2.2.2.2.1, h.2.2.2.2.2.1, h.2.2.2.2.2.2.1, h.2.2.2.2.2.2.2.1, h.2.2.2.2.2.2.2.2.1, h.2.2.2.2.2.2.2.2.2, g⟩)
theorem cp_pop2 : cq_Lo cq_pop2 := by
  intro E P t pc L' L st M k' k hL hk h
  unfold cq_pop2 at h ⊢
  dsimp only at h ⊢
  split at h <;> (first | exact h.elim | exact hk _ _ _ _ _ hL h)
def cq_ops : List cm_T1 := [cq_iconst, cq_bipush, cq_sipush, cq_lconst, cq_iload, cq_iloadn, cq_lload, cq_lloadn, cq_aload, cq_aloadn, cq_istore, cq_istoren, cq_lstore, cq_lstoren, cq_astore, cq_astoren, cq_iadd, cq_isub, cq_imul, cq_iand, cq_ior, cq_ixor, cq_ishl, cq_ishr, cq_iushr, cq_idiv, cq_irem, cq_ineg, cq_i2b, cq_i2l, cq_lcmp, cq_dup, cq_pop, cq_dup2, cq_iinc, cq_icmp_eq, cq_icmp_ne, cq_icmp_lt, cq_icmp_ge, cq_icmp_gt, cq_icmp_le, cq_if_eq, cq_if_ne, cq_if_lt, cq_if_ge, cq_if_gt, cq_if_le, cq_goto, cq_sw, cq_get, cq_put, cq_no, cq_iaload, cq_baload, cq_laload, cq_aaload, cq_iastore, cq_bastore, cq_no, cq_no, cq_no, cq_no, cq_no, cq_no, cq_alen, cq_sald, cq_no, cq_mmin, cq_ldc, cq_ldcS, cq_getV, cq_getC, cq_gets, cq_alenS, cq_baloadS, cq_i2c, cq_ladd, cq_lsub, cq_lmul, cq_ldiv, cq_lrem, cq_ldc2, cq_getsF, cq_ldcw, cq_mmax, cq_mabs, cq_copyi, cq_getT, cq_tald, cq_alenT, cq_lastore, cq_pop2]
theorem cj_1 {l1 : List cm_O} {l2 : List cm_T1} {o : cm_O} {x : cm_T1} (h : cm_Cj o x) (h2 : ∀ (i : Nat) (o : cm_O), l1[i]? = some o → ∃ x, l2[i]? = some x ∧ cm_Cj o x) : ∀ (i : Nat) (o' : cm_O), (o :: l1)[i]? = some o' → ∃ x', (x :: l2)[i]? = some x' ∧ cm_Cj o' x'
  | 0, o', e => by cases e; exact ⟨x, rfl, h⟩
  | i + 1, o', e => by
    obtain ⟨x', e1, e2⟩ := h2 i o' (by simpa using e)
    exact ⟨x', by simpa using e1, e2⟩
theorem cj_ops : ∀ (i : Nat) (o : cm_O), cm_ops[i]? = some o → ∃ x, cq_ops[i]? = some x ∧ cm_Cj o x := cj_1 cj_iconst (cj_1 cj_bipush (cj_1 cj_sipush (cj_1 cj_lconst (cj_1 cj_iload (cj_1 cj_iloadn (cj_1 cj_lload (cj_1 cj_lloadn (cj_1 cj_aload (cj_1 cj_aloadn (cj_1 cj_istore (cj_1 cj_istoren (cj_1 cj_lstore (cj_1 cj_lstoren (cj_1 cj_astore (cj_1 cj_astoren (cj_1 cj_iadd (cj_1 cj_isub (cj_1 cj_imul (cj_1 cj_iand (cj_1 cj_ior (cj_1 cj_ixor (cj_1 cj_ishl (cj_1 cj_ishr (cj_1 cj_iushr (cj_1 cj_idiv (cj_1 cj_irem (cj_1 cj_ineg (cj_1 cj_i2b (cj_1 cj_i2l (cj_1 cj_lcmp (cj_1 cj_dup (cj_1 cj_pop (cj_1 cj_dup2 (cj_1 cj_iinc (cj_1 cj_icmp_eq (cj_1 cj_icmp_ne (cj_1 cj_icmp_lt (cj_1 cj_icmp_ge (cj_1 cj_icmp_gt (cj_1 cj_icmp_le (cj_1 cj_if_eq (cj_1 cj_if_ne (cj_1 cj_if_lt (cj_1 cj_if_ge (cj_1 cj_if_gt (cj_1 cj_if_le (cj_1 cj_goto (cj_1 cj_sw (cj_1 cj_get (cj_1 cj_put (cj_1 cj_no (cj_1 cj_iaload (cj_1 cj_baload (cj_1 cj_laload (cj_1 cj_aaload (cj_1 cj_iastore (cj_1 cj_bastore (cj_1 cj_no (cj_1 cj_no (cj_1 cj_no (cj_1 cj_no (cj_1 cj_no (cj_1 cj_no (cj_1 cj_alen (cj_1 cj_sald (cj_1 cj_no (cj_1 cj_mmin (cj_1 cj_ldc (cj_1 cj_ldcS (cj_1 cj_getV (cj_1 cj_getC (cj_1 cj_gets (cj_1 cj_alenS (cj_1 cj_baloadS (cj_1 cj_i2c (cj_1 cj_ladd (cj_1 cj_lsub (cj_1 cj_lmul (cj_1 cj_ldiv (cj_1 cj_lrem (cj_1 cj_ldc2 (cj_1 cj_getsF (cj_1 cj_ldcw (cj_1 cj_mmax (cj_1 cj_mabs (cj_1 cj_copyi (cj_1 cj_getT (cj_1 cj_tald (cj_1 cj_alenT (cj_1 cj_lastore (cj_1 cj_pop2 (fun i o e => by cases e))))))))))))))))))))))))))))))))))))))))))))))))))))))))))))))))))))))))))))))))))))))))))))
theorem cp_1 {o : cm_T1} {l : List cm_T1} (h : cq_Lo o) (h2 : ∀ o ∈ l, cq_Lo o) : ∀ o' ∈ o :: l, cq_Lo o' := List.forall_mem_cons.mpr ⟨h, h2⟩
theorem cp_ops : ∀ o ∈ cq_ops, cq_Lo o := cp_1 cp_iconst (cp_1 cp_bipush (cp_1 cp_sipush (cp_1 cp_lconst (cp_1 cp_iload (cp_1 cp_iloadn (cp_1 cp_lload (cp_1 cp_lloadn (cp_1 cp_aload (cp_1 cp_aloadn (cp_1 cp_istore (cp_1 cp_istoren (cp_1 cp_lstore (cp_1 cp_lstoren (cp_1 cp_astore (cp_1 cp_astoren (cp_1 cp_iadd (cp_1 cp_isub (cp_1 cp_imul (cp_1 cp_iand (cp_1 cp_ior (cp_1 cp_ixor (cp_1 cp_ishl (cp_1 cp_ishr (cp_1 cp_iushr (cp_1 cp_idiv (cp_1 cp_irem (cp_1 cp_ineg (cp_1 cp_i2b (cp_1 cp_i2l (cp_1 cp_lcmp (cp_1 cp_dup (cp_1 cp_pop (cp_1 cp_dup2 (cp_1 cp_iinc (cp_1 cp_icmp_eq (cp_1 cp_icmp_ne (cp_1 cp_icmp_lt (cp_1 cp_icmp_ge (cp_1 cp_icmp_gt (cp_1 cp_icmp_le (cp_1 cp_if_eq (cp_1 cp_if_ne (cp_1 cp_if_lt (cp_1 cp_if_ge (cp_1 cp_if_gt (cp_1 cp_if_le (cp_1 cp_goto (cp_1 cp_sw (cp_1 cp_get (cp_1 cp_put (cp_1 cp_no (cp_1 cp_iaload (cp_1 cp_baload (cp_1 cp_laload (cp_1 cp_aaload (cp_1 cp_iastore (cp_1 cp_bastore (cp_1 cp_no (cp_1 cp_no (cp_1 cp_no (cp_1 cp_no (cp_1 cp_no (cp_1 cp_no (cp_1 cp_alen (cp_1 cp_sald (cp_1 cp_no (cp_1 cp_mmin (cp_1 cp_ldc (cp_1 cp_ldcS (cp_1 cp_getV (cp_1 cp_getC (cp_1 cp_gets (cp_1 cp_alenS (cp_1 cp_baloadS (cp_1 cp_i2c (cp_1 cp_ladd (cp_1 cp_lsub (cp_1 cp_lmul (cp_1 cp_ldiv (cp_1 cp_lrem (cp_1 cp_ldc2 (cp_1 cp_getsF (cp_1 cp_ldcw (cp_1 cp_mmax (cp_1 cp_mabs (cp_1 cp_copyi (cp_1 cp_getT (cp_1 cp_tald (cp_1 cp_alenT (cp_1 cp_lastore (cp_1 cp_pop2 (fun _ h => absurd h List.not_mem_nil))))))))))))))))))))))))))))))))))))))))))))))))))))))))))))))))))))))))))))))))))))))))))))
def cq_il (ms : List ev_MI) (r : ev_Row) (S : cm_S) (k : cm_S → Prop) : Prop :=
  match cm_take (!(r.1 == 201)) r.2.2.2.1.toNat S.2.2.1 with
  | some (as, rest) => ∃ R : cm_K, cm_Lc ms r.2.1.toNat as S.2.2.2 R ∧ ∀ v M', R v M' → k (adL S.1 3, S.2.1, v.toList ++ rest, M')
  | none => True
def lb_ (ms : List ev_MI) (E : cm_E) (P : ev_P) (rows : List (Nat × ev_Row)) (stops : List (Nat × List Nat)) (J : cm_S → Prop) (Z : Nat → cm_S → Prop) : Nat → cm_S → Prop
  | 0, _ => False
  | n + 1, S => match ev_at rows S.1 with
    | none => True
    | some r =>
      if 210 ≤ r.1 then Z r.1 S
      else if 200 ≤ r.1 then cq_il ms r S (cm_stop stops J (lb_ ms E P rows stops J Z n))
      else (match cq_ops[r.1]? with
        | some x => x E P r.2 S (cm_stop stops J (lb_ ms E P rows stops J Z n))
        | none => True)
section LIB
variable {ms : List ev_MI} {E : cm_E} {P : ev_P} {rows : List (Nat × ev_Row)} {stops : List (Nat × List Nat)} {J : cm_S → Prop} {Z Z1 Z2 : Nat → cm_S → Prop}
theorem lb_le (hZ : cm_ZL Z) : ∀ (n : Nat) (pc : Nat) (A B : List (Nat × Value)) (st : List Value) (M : cm_M), cm_le A B → lb_ ms E P rows stops J Z n (pc, A, st, M) → lb_ ms E P rows stops J Z n (pc, B, st, M)
  | 0, pc, A, B, st, M, hL, h => h
  | n + 1, pc, A, B, st, M, hL, h => by
    have hst : ∀ (pc : Nat) (A B : List (Nat × Value)) (st : List Value) (M : cm_M), cm_le A B → cm_stop stops J (lb_ ms E P rows stops J Z n) (pc, A, st, M) → cm_stop stops J (lb_ ms E P rows stops J Z n) (pc, B, st, M) := by
      intro pc A B st M hL h
      unfold cm_stop at h ⊢
      dsimp only at h ⊢
      split at h
      · exact lb_le hZ n pc A B st M hL h
      · split at h
        · rename_i L1 hp
          rw [cm_pick_le hL hp]
          exact h
        · exact h.elim
    unfold lb_ at h ⊢
    dsimp only at h ⊢
    split at h
    · trivial
    · split at h
      · rename_i h1
        rw [if_pos h1]
        exact hZ _ _ _ _ _ _ h
      · rename_i h1
        rw [if_neg h1]
        split at h
        · rename_i h2
          rw [if_pos h2]
          unfold cq_il at h ⊢
          dsimp only at h ⊢
          split at h
          · obtain ⟨R, hR, hk⟩ := h
            exact ⟨R, hR, fun v M' q => hst _ _ _ _ _ hL (hk v M' q)⟩
          · trivial
        · rename_i h2
          rw [if_neg h2]
          split at h
          · rename_i x hx
            exact cp_ops x (List.mem_of_getElem? hx) _ _ _ _ _ _ _ _ _ _ hL hst h
          · trivial
theorem lb_lib {d N : Nat} (hZ : cm_ZL Z2) (hinv : ∀ S, J S → lb_ ms E P rows stops J Z2 N S) {S : cm_S} (h : cm_lf ms (cm_Call ms d) E P rows Z1 S) : ∀ m, lb_ ms E P rows stops J Z2 m S → cm_lf ms (cm_Call ms d) E P rows (fun op S => Z1 op S ∧ Z2 op S) S := by
  refine h (fun S => ∀ m, lb_ ms E P rows stops J Z2 m S → cm_lf ms (cm_Call ms d) E P rows (fun op S => Z1 op S ∧ Z2 op S) S) ?_
  intro S hS m hw
  cases m with
  | zero => exact hw.elim
  | succ m =>
    have hst : ∀ S, cm_stop stops J (lb_ ms E P rows stops J Z2 m) S → (∀ m, lb_ ms E P rows stops J Z2 m S → cm_lf ms (cm_Call ms d) E P rows (fun op S => Z1 op S ∧ Z2 op S) S) → cm_lf ms (cm_Call ms d) E P rows (fun op S => Z1 op S ∧ Z2 op S) S := by
      intro S hs hX
      unfold cm_stop at hs
      split at hs
      · exact hX m hs
      · split at hs
        · rename_i L1 hp
          obtain ⟨pc, L, st, M⟩ := S
          exact hX N (lb_le hZ N _ _ _ _ _ (cm_le_of (cm_pick_look hp)) (hinv _ hs))
        · exact hs.elim
    refine cm_lf_F (cm_Call_M ms d d (Nat.le_refl _)) ?_
    unfold cm_F at hS ⊢
    unfold lb_ at hw
    split at hS
    · exact hS
    · rename_i r hr
      rw [hr] at hw
      dsimp only at hw
      split at hS
      · rename_i h1
        rw [if_pos h1] at hw ⊢
        exact ⟨hS, hw⟩
      · rename_i h1
        rw [if_neg h1] at hw ⊢
        split at hS
        · rename_i h2
          rw [if_pos h2] at hw ⊢
          unfold cm_inv at hS ⊢
          unfold cq_il at hw
          split at hS
          · split at hS
            · rename_i as rest hta
              rw [hta] at hw
              obtain ⟨R, hR, hk⟩ := hw
              exact ⟨hS.1, hS.2.1, hS.2.2.1, cm_Call_up (hR d _ hS.2.2.2) (Nat.le_refl _) (fun v M' q => hst _ (by
                have z := hk v M' q.2
                rw [adL_eq] at z
                exact z) q.1)⟩
            · exact hS
          · exact hS
        · rename_i h2
          rw [if_neg h2] at hw ⊢
          split at hS
          · rename_i o ho
            obtain ⟨x, hx, hcj⟩ := cj_ops _ o ho
            rw [hx] at hw
            dsimp only at hw
            exact cm_ops_im o (List.mem_of_getElem? ho) _ _ _ _ _ _ (hcj _ _ _ _ _ _ hS hw) (fun S q => hst S q.2 q.1)
          · exact hS
end LIB
/-- of every answer of a method, by invariants at stops -/
theorem lb_of {ms : List ev_MI} {k : Nat} {mi : ev_MI} (hk : ms[k]? = some mi) {as : List Value} {M : cm_M} {R : cm_K} (stops : List (Nat × List Nat)) (J : cm_S → Prop) (N : Nat) (hinv : ∀ S, J S → lb_ ms none (cm_P mi) mi.2.2.2.2.2.2 stops J (cm_rl R) N S) (N0 : Nat) (h0 : lb_ ms none (cm_P mi) mi.2.2.2.2.2.2 stops J (cm_rl R) N0 (0, cm_args 0 as, [], M)) : cm_Lc ms k as M R := by
  intro d Post hc
  cases d with
  | zero => exact hc.elim
  | succ d =>
    obtain ⟨mi', h1, h2, h3⟩ := hc
    rw [hk] at h1
    cases h1
    exact ⟨mi, hk, h2, cm_lf_im (cm_Call_M ms d d (Nat.le_refl _)) (cm_Call_M ms d d (Nat.le_refl _)) (fun _ _ q => cm_rl_ret q.1 q.2) (lb_lib cm_rl_L hinv h3 N0 h0)⟩
/-- .. of a method without loops -/
theorem lb_st0 {ms : List ev_MI} {k : Nat} {mi : ev_MI} (hk : ms[k]? = some mi) {as : List Value} {M : cm_M} {R : cm_K} (N0 : Nat) (h0 : lb_ ms none (cm_P mi) mi.2.2.2.2.2.2 [] (fun _ => False) (cm_rl R) N0 (0, cm_args 0 as, [], M)) : cm_Lc ms k as M R := lb_of hk [] (fun _ => False) 0 (fun S h => h.elim) N0 h0
