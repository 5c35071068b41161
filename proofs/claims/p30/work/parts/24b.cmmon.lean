/-! CM: what is wanted may grow -/
def cm_Mon (o : cm_O) : Prop := ∀ (E : cm_E) (P : ev_P) (t : ev_T) (S : cm_S) (k1 k2 : cm_S → Prop), o.2 E P t S k1 → (∀ S, k1 S → k2 S) → o.2 E P t S k2
theorem cm_no_im : cm_Mon cm_no := fun E P t S k1 k2 h hk => h.elim
theorem cm_iconst_im : cm_Mon cm_iconst := by
  intro E P t S k1 k2 h hk
  obtain ⟨pc, L, st, M⟩ := S
  unfold cm_iconst at h ⊢
  dsimp only at h ⊢
  first | exact h.elim | exact hk _ h | exact ⟨h.1, hk _ h.2⟩ | exact ⟨h.1, h.2.1, hk _ h.2.2⟩ | exact ⟨h.1, h.2.1, h.2.2.1, hk _ h.2.2.2⟩ | exact ⟨h.1, h.2.1, h.2.2.1, h.2.2.2.1, hk _ h.2.2.2.2⟩ | exact ⟨h.1, h.2.1, h.2.2.1, h.2.2.2.1, h.2.2.2.2.1, hk _ h.2.2.2.2.2⟩ | exact ⟨h.1, h.2.1, h.2.2.1, h.2.2.2.1, h.2.2.2.2.1, h.2.2.2.2.2.1, h.2.2.2.2.2.2.1, h.2.2.2.2.2.2.2.1, hk _ h.2.2.2.2.2.2.2.2⟩ | exact ⟨h.1, fun q => hk _ (h.2.1 q), fun q => hk _ (h.2.2 q)⟩ | exact ⟨h.1, h.2.1, h.2.2.1, fun q => hk _ (h.2.2.2.1 q), fun j o q1 q2 => hk _ (h.2.2.2.2 j o q1 q2)⟩ | exact ⟨hk _ h.1, hk _ h.2⟩

theorem cm_bipush_im : cm_Mon cm_bipush := by
  intro E P t S k1 k2 h hk
  obtain ⟨pc, L, st, M⟩ := S
  unfold cm_bipush at h ⊢
  dsimp only at h ⊢
  first | exact h.elim | exact hk _ h | exact ⟨h.1, hk _ h.2⟩ | exact ⟨h.1, h.2.1, hk _ h.2.2⟩ | exact ⟨h.1, h.2.1, h.2.2.1, hk _ h.2.2.2⟩ | exact ⟨h.1, h.2.1, h.2.2.1, h.2.2.2.1, hk _ h.2.2.2.2⟩ | exact ⟨h.1, h.2.1, h.2.2.1, h.2.2.2.1, h.2.2.2.2.1, hk _ h.2.2.2.2.2⟩ | exact ⟨h.1, h.2.1, h.2.2.1, h.2.2.2.1, h.2.2.2.2.1, h.2.2.2.2.2.1, h.2.2.2.2.2.2.1, h.2.2.2.2.2.2.2.1, hk _ h.2.2.2.2.2.2.2.2⟩ | exact ⟨h.1, fun q => hk _ (h.2.1 q), fun q => hk _ (h.2.2 q)⟩ | exact ⟨h.1, h.2.1, h.2.2.1, fun q => hk _ (h.2.2.2.1 q), fun j o q1 q2 => hk _ (h.2.2.2.2 j o q1 q2)⟩ | exact ⟨hk _ h.1, hk _ h.2⟩

theorem cm_sipush_im : cm_Mon cm_sipush := by
  intro E P t S k1 k2 h hk
  obtain ⟨pc, L, st, M⟩ := S
  unfold cm_sipush at h ⊢
  dsimp only at h ⊢
  first | exact h.elim | exact hk _ h | exact ⟨h.1, hk _ h.2⟩ | exact ⟨h.1, h.2.1, hk _ h.2.2⟩ | exact ⟨h.1, h.2.1, h.2.2.1, hk _ h.2.2.2⟩ | exact ⟨h.1, h.2.1, h.2.2.1, h.2.2.2.1, hk _ h.2.2.2.2⟩ | exact ⟨h.1, h.2.1, h.2.2.1, h.2.2.2.1, h.2.2.2.2.1, hk _ h.2.2.2.2.2⟩ | exact ⟨h.1, h.2.1, h.2.2.1, h.2.2.2.1, h.2.2.2.2.1, h.2.2.2.2.2.1, h.2.2.2.2.2.2.1, h.2.2.2.2.2.2.2.1, hk _ h.2.2.2.2.2.2.2.2⟩ | exact ⟨h.1, fun q => hk _ (h.2.1 q), fun q => hk _ (h.2.2 q)⟩ | exact ⟨h.1, h.2.1, h.2.2.1, fun q => hk _ (h.2.2.2.1 q), fun j o q1 q2 => hk _ (h.2.2.2.2 j o q1 q2)⟩ | exact ⟨hk _ h.1, hk _ h.2⟩

theorem cm_lconst_im : cm_Mon cm_lconst := by
  intro E P t S k1 k2 h hk
  obtain ⟨pc, L, st, M⟩ := S
  unfold cm_lconst at h ⊢
  dsimp only at h ⊢
  first | exact h.elim | exact hk _ h | exact ⟨h.1, hk _ h.2⟩ | exact ⟨h.1, h.2.1, hk _ h.2.2⟩ | exact ⟨h.1, h.2.1, h.2.2.1, hk _ h.2.2.2⟩ | exact ⟨h.1, h.2.1, h.2.2.1, h.2.2.2.1, hk _ h.2.2.2.2⟩ | exact ⟨h.1, h.2.1, h.2.2.1, h.2.2.2.1, h.2.2.2.2.1, hk _ h.2.2.2.2.2⟩ | exact ⟨h.1, h.2.1, h.2.2.1, h.2.2.2.1, h.2.2.2.2.1, h.2.2.2.2.2.1, h.2.2.2.2.2.2.1, h.2.2.2.2.2.2.2.1, hk _ h.2.2.2.2.2.2.2.2⟩ | exact ⟨h.1, fun q => hk _ (h.2.1 q), fun q => hk _ (h.2.2 q)⟩ | exact ⟨h.1, h.2.1, h.2.2.1, fun q => hk _ (h.2.2.2.1 q), fun j o q1 q2 => hk _ (h.2.2.2.2 j o q1 q2)⟩ | exact ⟨hk _ h.1, hk _ h.2⟩

theorem cm_iload_im : cm_Mon cm_iload := by
  intro E P t S k1 k2 h hk
  obtain ⟨pc, L, st, M⟩ := S
  unfold cm_iload cm_ld at h ⊢
  dsimp only at h ⊢
  split at h <;> first | exact h.elim | exact hk _ h

theorem cm_iloadn_im : cm_Mon cm_iloadn := by
  intro E P t S k1 k2 h hk
  obtain ⟨pc, L, st, M⟩ := S
  unfold cm_iloadn cm_ld at h ⊢
  dsimp only at h ⊢
  split at h <;> first | exact h.elim | exact hk _ h

theorem cm_lload_im : cm_Mon cm_lload := by
  intro E P t S k1 k2 h hk
  obtain ⟨pc, L, st, M⟩ := S
  unfold cm_lload cm_ld at h ⊢
  dsimp only at h ⊢
  split at h <;> first | exact h.elim | exact hk _ h

theorem cm_lloadn_im : cm_Mon cm_lloadn := by
  intro E P t S k1 k2 h hk
  obtain ⟨pc, L, st, M⟩ := S
  unfold cm_lloadn cm_ld at h ⊢
  dsimp only at h ⊢
  split at h <;> first | exact h.elim | exact hk _ h

theorem cm_aload_im : cm_Mon cm_aload := by
  intro E P t S k1 k2 h hk
  obtain ⟨pc, L, st, M⟩ := S
  unfold cm_aload cm_ld at h ⊢
  dsimp only at h ⊢
  split at h <;> first | exact h.elim | exact hk _ h

theorem cm_aloadn_im : cm_Mon cm_aloadn := by
  intro E P t S k1 k2 h hk
  obtain ⟨pc, L, st, M⟩ := S
  unfold cm_aloadn cm_ld at h ⊢
  dsimp only at h ⊢
  split at h <;> first | exact h.elim | exact hk _ h

theorem cm_istore_im : cm_Mon cm_istore := by
  intro E P t S k1 k2 h hk
  obtain ⟨pc, L, st, M⟩ := S
  unfold cm_istore cm_sto at h ⊢
  dsimp only at h ⊢
  split at h <;> (first | exact h.elim | exact hk _ h | exact ⟨h.1, hk _ h.2⟩ | exact ⟨h.1, h.2.1, hk _ h.2.2⟩ | exact ⟨h.1, h.2.1, h.2.2.1, hk _ h.2.2.2⟩ | exact ⟨h.1, h.2.1, h.2.2.1, h.2.2.2.1, hk _ h.2.2.2.2⟩ | exact ⟨h.1, h.2.1, h.2.2.1, h.2.2.2.1, h.2.2.2.2.1, hk _ h.2.2.2.2.2⟩ | exact ⟨h.1, h.2.1, h.2.2.1, h.2.2.2.1, h.2.2.2.2.1, h.2.2.2.2.2.1, h.2.2.2.2.2.2.1, h.2.2.2.2.2.2.2.1, hk _ h.2.2.2.2.2.2.2.2⟩ | exact ⟨h.1, fun q => hk _ (h.2.1 q), fun q => hk _ (h.2.2 q)⟩ | exact ⟨h.1, h.2.1, h.2.2.1, fun q => hk _ (h.2.2.2.1 q), fun j o q1 q2 => hk _ (h.2.2.2.2 j o q1 q2)⟩ | exact ⟨hk _ h.1, hk _ h.2⟩)

theorem cm_istoren_im : cm_Mon cm_istoren := by
  intro E P t S k1 k2 h hk
  obtain ⟨pc, L, st, M⟩ := S
  unfold cm_istoren cm_sto at h ⊢
  dsimp only at h ⊢
  split at h <;> (first | exact h.elim | exact hk _ h | exact ⟨h.1, hk _ h.2⟩ | exact ⟨h.1, h.2.1, hk _ h.2.2⟩ | exact ⟨h.1, h.2.1, h.2.2.1, hk _ h.2.2.2⟩ | exact ⟨h.1, h.2.1, h.2.2.1, h.2.2.2.1, hk _ h.2.2.2.2⟩ | exact ⟨h.1, h.2.1, h.2.2.1, h.2.2.2.1, h.2.2.2.2.1, hk _ h.2.2.2.2.2⟩ | exact ⟨h.1, h.2.1, h.2.2.1, h.2.2.2.1, h.2.2.2.2.1, h.2.2.2.2.2.1, h.2.2.2.2.2.2.1, h.2.2.2.2.2.2.2.1, hk _ h.2.2.2.2.2.2.2.2⟩ | exact ⟨h.1, fun q => hk _ (h.2.1 q), fun q => hk _ (h.2.2 q)⟩ | exact ⟨h.1, h.2.1, h.2.2.1, fun q => hk _ (h.2.2.2.1 q), fun j o q1 q2 => hk _ (h.2.2.2.2 j o q1 q2)⟩ | exact ⟨hk _ h.1, hk _ h.2⟩)

theorem cm_lstore_im : cm_Mon cm_lstore := by
  intro E P t S k1 k2 h hk
  obtain ⟨pc, L, st, M⟩ := S
  unfold cm_lstore cm_sto at h ⊢
  dsimp only at h ⊢
  split at h <;> (first | exact h.elim | exact hk _ h | exact ⟨h.1, hk _ h.2⟩ | exact ⟨h.1, h.2.1, hk _ h.2.2⟩ | exact ⟨h.1, h.2.1, h.2.2.1, hk _ h.2.2.2⟩ | exact ⟨h.1, h.2.1, h.2.2.1, h.2.2.2.1, hk _ h.2.2.2.2⟩ | exact ⟨h.1, h.2.1, h.2.2.1, h.2.2.2.1, h.2.2.2.2.1, hk _ h.2.2.2.2.2⟩ | exact ⟨h.1, h.2.1, h.2.2.1, h.2.2.2.1, h.2.2.2.2.1, h.2.2.2.2.2.1, h.2.2.2.2.2.2.1, h.2.2.2.2.2.2.2.1, hk _ h.2.2.2.2.2.2.2.2⟩ | exact ⟨h.1, fun q => hk _ (h.2.1 q), fun q => hk _ (h.2.2 q)⟩ | exact ⟨h.1, h.2.1, h.2.2.1, fun q => hk _ (h.2.2.2.1 q), fun j o q1 q2 => hk _ (h.2.2.2.2 j o q1 q2)⟩ | exact ⟨hk _ h.1, hk _ h.2⟩)

theorem cm_lstoren_im : cm_Mon cm_lstoren := by
  intro E P t S k1 k2 h hk
  obtain ⟨pc, L, st, M⟩ := S
  unfold cm_lstoren cm_sto at h ⊢
  dsimp only at h ⊢
  split at h <;> (first | exact h.elim | exact hk _ h | exact ⟨h.1, hk _ h.2⟩ | exact ⟨h.1, h.2.1, hk _ h.2.2⟩ | exact ⟨h.1, h.2.1, h.2.2.1, hk _ h.2.2.2⟩ | exact ⟨h.1, h.2.1, h.2.2.1, h.2.2.2.1, hk _ h.2.2.2.2⟩ | exact ⟨h.1, h.2.1, h.2.2.1, h.2.2.2.1, h.2.2.2.2.1, hk _ h.2.2.2.2.2⟩ | exact ⟨h.1, h.2.1, h.2.2.1, h.2.2.2.1, h.2.2.2.2.1, h.2.2.2.2.2.1, h.2.2.2.2.2.2.1, h.2.2.2.2.2.2.2.1, hk _ h.2.2.2.2.2.2.2.2⟩ | exact ⟨h.1, fun q => hk _ (h.2.1 q), fun q => hk _ (h.2.2 q)⟩ | exact ⟨h.1, h.2.1, h.2.2.1, fun q => hk _ (h.2.2.2.1 q), fun j o q1 q2 => hk _ (h.2.2.2.2 j o q1 q2)⟩ | exact ⟨hk _ h.1, hk _ h.2⟩)

theorem cm_astore_im : cm_Mon cm_astore := by
  intro E P t S k1 k2 h hk
  obtain ⟨pc, L, st, M⟩ := S
  unfold cm_astore cm_sto at h ⊢
  dsimp only at h ⊢
  split at h <;> (first | exact h.elim | exact hk _ h | exact ⟨h.1, hk _ h.2⟩ | exact ⟨h.1, h.2.1, hk _ h.2.2⟩ | exact ⟨h.1, h.2.1, h.2.2.1, hk _ h.2.2.2⟩ | exact ⟨h.1, h.2.1, h.2.2.1, h.2.2.2.1, hk _ h.2.2.2.2⟩ | exact ⟨h.1, h.2.1, h.2.2.1, h.2.2.2.1, h.2.2.2.2.1, hk _ h.2.2.2.2.2⟩ | exact ⟨h.1, h.2.1, h.2.2.1, h.2.2.2.1, h.2.2.2.2.1, h.2.2.2.2.2.1, h.2.2.2.2.2.2.1, h.2.2.2.2.2.2.2.1, hk _ h.2.2.2.2.2.2.2.2⟩ | exact ⟨h.1, fun q => hk _ (h.2.1 q), fun q => hk _ (h.2.2 q)⟩ | exact ⟨h.1, h.2.1, h.2.2.1, fun q => hk _ (h.2.2.2.1 q), fun j o q1 q2 => hk _ (h.2.2.2.2 j o q1 q2)⟩ | exact ⟨hk _ h.1, hk _ h.2⟩)

theorem cm_astoren_im : cm_Mon cm_astoren := by
  intro E P t S k1 k2 h hk
  obtain ⟨pc, L, st, M⟩ := S
  unfold cm_astoren cm_sto at h ⊢
  dsimp only at h ⊢
  split at h <;> (first | exact h.elim | exact hk _ h | exact ⟨h.1, hk _ h.2⟩ | exact ⟨h.1, h.2.1, hk _ h.2.2⟩ | exact ⟨h.1, h.2.1, h.2.2.1, hk _ h.2.2.2⟩ | exact ⟨h.1, h.2.1, h.2.2.1, h.2.2.2.1, hk _ h.2.2.2.2⟩ | exact ⟨h.1, h.2.1, h.2.2.1, h.2.2.2.1, h.2.2.2.2.1, hk _ h.2.2.2.2.2⟩ | exact ⟨h.1, h.2.1, h.2.2.1, h.2.2.2.1, h.2.2.2.2.1, h.2.2.2.2.2.1, h.2.2.2.2.2.2.1, h.2.2.2.2.2.2.2.1, hk _ h.2.2.2.2.2.2.2.2⟩ | exact ⟨h.1, fun q => hk _ (h.2.1 q), fun q => hk _ (h.2.2 q)⟩ | exact ⟨h.1, h.2.1, h.2.2.1, fun q => hk _ (h.2.2.2.1 q), fun j o q1 q2 => hk _ (h.2.2.2.2 j o q1 q2)⟩ | exact ⟨hk _ h.1, hk _ h.2⟩)

theorem cm_iadd_im : cm_Mon cm_iadd := by
  intro E P t S k1 k2 h hk
  obtain ⟨pc, L, st, M⟩ := S
  unfold cm_iadd at h ⊢
  dsimp only at h ⊢
  split at h <;> (first | exact h.elim | exact hk _ h | exact ⟨h.1, hk _ h.2⟩ | exact ⟨h.1, h.2.1, hk _ h.2.2⟩ | exact ⟨h.1, h.2.1, h.2.2.1, hk _ h.2.2.2⟩ | exact ⟨h.1, h.2.1, h.2.2.1, h.2.2.2.1, hk _ h.2.2.2.2⟩ | exact ⟨h.1, h.2.1, h.2.2.1, h.2.2.2.1, h.2.2.2.2.1, hk _ h.2.2.2.2.2⟩ | exact ⟨h.1, h.2.1, h.2.2.1, h.2.2.2.1, h.2.2.2.2.1, h.2.2.2.2.2.1, h.2.2.2.2.2.2.1, h.2.2.2.2.2.2.2.1, hk _ h.2.2.2.2.2.2.2.2⟩ | exact ⟨h.1, fun q => hk _ (h.2.1 q), fun q => hk _ (h.2.2 q)⟩ | exact ⟨h.1, h.2.1, h.2.2.1, fun q => hk _ (h.2.2.2.1 q), fun j o q1 q2 => hk _ (h.2.2.2.2 j o q1 q2)⟩ | exact ⟨hk _ h.1, hk _ h.2⟩)

theorem cm_isub_im : cm_Mon cm_isub := by
  intro E P t S k1 k2 h hk
  obtain ⟨pc, L, st, M⟩ := S
  unfold cm_isub at h ⊢
  dsimp only at h ⊢
  split at h <;> (first | exact h.elim | exact hk _ h | exact ⟨h.1, hk _ h.2⟩ | exact ⟨h.1, h.2.1, hk _ h.2.2⟩ | exact ⟨h.1, h.2.1, h.2.2.1, hk _ h.2.2.2⟩ | exact ⟨h.1, h.2.1, h.2.2.1, h.2.2.2.1, hk _ h.2.2.2.2⟩ | exact ⟨h.1, h.2.1, h.2.2.1, h.2.2.2.1, h.2.2.2.2.1, hk _ h.2.2.2.2.2⟩ | exact ⟨h.1, h.2.1, h.2.2.1, h.2.2.2.1, h.2.2.2.2.1, h.2.2.2.2.2.1, h.2.2.2.2.2.2.1, h.2.2.2.2.2.2.2.1, hk _ h.2.2.2.2.2.2.2.2⟩ | exact ⟨h.1, fun q => hk _ (h.2.1 q), fun q => hk _ (h.2.2 q)⟩ | exact ⟨h.1, h.2.1, h.2.2.1, fun q => hk _ (h.2.2.2.1 q), fun j o q1 q2 => hk _ (h.2.2.2.2 j o q1 q2)⟩ | exact ⟨hk _ h.1, hk _ h.2⟩)

theorem cm_imul_im : cm_Mon cm_imul := by
  intro E P t S k1 k2 h hk
  obtain ⟨pc, L, st, M⟩ := S
  unfold cm_imul at h ⊢
  dsimp only at h ⊢
  split at h <;> (first | exact h.elim | exact hk _ h | exact ⟨h.1, hk _ h.2⟩ | exact ⟨h.1, h.2.1, hk _ h.2.2⟩ | exact ⟨h.1, h.2.1, h.2.2.1, hk _ h.2.2.2⟩ | exact ⟨h.1, h.2.1, h.2.2.1, h.2.2.2.1, hk _ h.2.2.2.2⟩ | exact ⟨h.1, h.2.1, h.2.2.1, h.2.2.2.1, h.2.2.2.2.1, hk _ h.2.2.2.2.2⟩ | exact ⟨h.1, h.2.1, h.2.2.1, h.2.2.2.1, h.2.2.2.2.1, h.2.2.2.2.2.1, h.2.2.2.2.2.2.1, h.2.2.2.2.2.2.2.1, hk _ h.2.2.2.2.2.2.2.2⟩ | exact ⟨h.1, fun q => hk _ (h.2.1 q), fun q => hk _ (h.2.2 q)⟩ | exact ⟨h.1, h.2.1, h.2.2.1, fun q => hk _ (h.2.2.2.1 q), fun j o q1 q2 => hk _ (h.2.2.2.2 j o q1 q2)⟩ | exact ⟨hk _ h.1, hk _ h.2⟩)

theorem cm_iand_im : cm_Mon cm_iand := by
  intro E P t S k1 k2 h hk
  obtain ⟨pc, L, st, M⟩ := S
  unfold cm_iand at h ⊢
  dsimp only at h ⊢
  split at h <;> (first | exact h.elim | exact hk _ h | exact ⟨h.1, hk _ h.2⟩ | exact ⟨h.1, h.2.1, hk _ h.2.2⟩ | exact ⟨h.1, h.2.1, h.2.2.1, hk _ h.2.2.2⟩ | exact ⟨h.1, h.2.1, h.2.2.1, h.2.2.2.1, hk _ h.2.2.2.2⟩ | exact ⟨h.1, h.2.1, h.2.2.1, h.2.2.2.1, h.2.2.2.2.1, hk _ h.2.2.2.2.2⟩ | exact ⟨h.1, h.2.1, h.2.2.1, h.2.2.2.1, h.2.2.2.2.1, h.2.2.2.2.2.1, h.2.2.2.2.2.2.1, h.2.2.2.2.2.2.2.1, hk _ h.2.2.2.2.2.2.2.2⟩ | exact ⟨h.1, fun q => hk _ (h.2.1 q), fun q => hk _ (h.2.2 q)⟩ | exact ⟨h.1, h.2.1, h.2.2.1, fun q => hk _ (h.2.2.2.1 q), fun j o q1 q2 => hk _ (h.2.2.2.2 j o q1 q2)⟩ | exact ⟨hk _ h.1, hk _ h.2⟩)

theorem cm_ior_im : cm_Mon cm_ior := by
  intro E P t S k1 k2 h hk
  obtain ⟨pc, L, st, M⟩ := S
  unfold cm_ior at h ⊢
  dsimp only at h ⊢
  split at h <;> (first | exact h.elim | exact hk _ h | exact ⟨h.1, hk _ h.2⟩ | exact ⟨h.1, h.2.1, hk _ h.2.2⟩ | exact ⟨h.1, h.2.1, h.2.2.1, hk _ h.2.2.2⟩ | exact ⟨h.1, h.2.1, h.2.2.1, h.2.2.2.1, hk _ h.2.2.2.2⟩ | exact ⟨h.1, h.2.1, h.2.2.1, h.2.2.2.1, h.2.2.2.2.1, hk _ h.2.2.2.2.2⟩ | exact ⟨h.1, h.2.1, h.2.2.1, h.2.2.2.1, h.2.2.2.2.1, h.2.2.2.2.2.1, h.2.2.2.2.2.2.1, h.2.2.2.2.2.2.2.1, hk _ h.2.2.2.2.2.2.2.2⟩ | exact ⟨h.1, fun q => hk _ (h.2.1 q), fun q => hk _ (h.2.2 q)⟩ | exact ⟨h.1, h.2.1, h.2.2.1, fun q => hk _ (h.2.2.2.1 q), fun j o q1 q2 => hk _ (h.2.2.2.2 j o q1 q2)⟩ | exact ⟨hk _ h.1, hk _ h.2⟩)

theorem cm_ixor_im : cm_Mon cm_ixor := by
  intro E P t S k1 k2 h hk
  obtain ⟨pc, L, st, M⟩ := S
  unfold cm_ixor at h ⊢
  dsimp only at h ⊢
  split at h <;> (first | exact h.elim | exact hk _ h | exact ⟨h.1, hk _ h.2⟩ | exact ⟨h.1, h.2.1, hk _ h.2.2⟩ | exact ⟨h.1, h.2.1, h.2.2.1, hk _ h.2.2.2⟩ | exact ⟨h.1, h.2.1, h.2.2.1, h.2.2.2.1, hk _ h.2.2.2.2⟩ | exact ⟨h.1, h.2.1, h.2.2.1, h.2.2.2.1, h.2.2.2.2.1, hk _ h.2.2.2.2.2⟩ | exact ⟨h.1, h.2.1, h.2.2.1, h.2.2.2.1, h.2.2.2.2.1, h.2.2.2.2.2.1, h.2.2.2.2.2.2.1, h.2.2.2.2.2.2.2.1, hk _ h.2.2.2.2.2.2.2.2⟩ | exact ⟨h.1, fun q => hk _ (h.2.1 q), fun q => hk _ (h.2.2 q)⟩ | exact ⟨h.1, h.2.1, h.2.2.1, fun q => hk _ (h.2.2.2.1 q), fun j o q1 q2 => hk _ (h.2.2.2.2 j o q1 q2)⟩ | exact ⟨hk _ h.1, hk _ h.2⟩)

theorem cm_ishl_im : cm_Mon cm_ishl := by
  intro E P t S k1 k2 h hk
  obtain ⟨pc, L, st, M⟩ := S
  unfold cm_ishl at h ⊢
  dsimp only at h ⊢
  split at h <;> (first | exact h.elim | exact hk _ h | exact ⟨h.1, hk _ h.2⟩ | exact ⟨h.1, h.2.1, hk _ h.2.2⟩ | exact ⟨h.1, h.2.1, h.2.2.1, hk _ h.2.2.2⟩ | exact ⟨h.1, h.2.1, h.2.2.1, h.2.2.2.1, hk _ h.2.2.2.2⟩ | exact ⟨h.1, h.2.1, h.2.2.1, h.2.2.2.1, h.2.2.2.2.1, hk _ h.2.2.2.2.2⟩ | exact ⟨h.1, h.2.1, h.2.2.1, h.2.2.2.1, h.2.2.2.2.1, h.2.2.2.2.2.1, h.2.2.2.2.2.2.1, h.2.2.2.2.2.2.2.1, hk _ h.2.2.2.2.2.2.2.2⟩ | exact ⟨h.1, fun q => hk _ (h.2.1 q), fun q => hk _ (h.2.2 q)⟩ | exact ⟨h.1, h.2.1, h.2.2.1, fun q => hk _ (h.2.2.2.1 q), fun j o q1 q2 => hk _ (h.2.2.2.2 j o q1 q2)⟩ | exact ⟨hk _ h.1, hk _ h.2⟩)

theorem cm_ishr_im : cm_Mon cm_ishr := by
  intro E P t S k1 k2 h hk
  obtain ⟨pc, L, st, M⟩ := S
  unfold cm_ishr at h ⊢
  dsimp only at h ⊢
  split at h <;> (first | exact h.elim | exact hk _ h | exact ⟨h.1, hk _ h.2⟩ | exact ⟨h.1, h.2.1, hk _ h.2.2⟩ | exact ⟨h.1, h.2.1, h.2.2.1, hk _ h.2.2.2⟩ | exact ⟨h.1, h.2.1, h.2.2.1, h.2.2.2.1, hk _ h.2.2.2.2⟩ | exact ⟨h.1, h.2.1, h.2.2.1, h.2.2.2.1, h.2.2.2.2.1, hk _ h.2.2.2.2.2⟩ | exact ⟨h.1, h.2.1, h.2.2.1, h.2.2.2.1, h.2.2.2.2.1, h.2.2.2.2.2.1, h.2.2.2.2.2.2.1, h.2.2.2.2.2.2.2.1, hk _ h.2.2.2.2.2.2.2.2⟩ | exact ⟨h.1, fun q => hk _ (h.2.1 q), fun q => hk _ (h.2.2 q)⟩ | exact ⟨h.1, h.2.1, h.2.2.1, fun q => hk _ (h.2.2.2.1 q), fun j o q1 q2 => hk _ (h.2.2.2.2 j o q1 q2)⟩ | exact ⟨hk _ h.1, hk _ h.2⟩)

theorem cm_iushr_im : cm_Mon cm_iushr := by
  intro E P t S k1 k2 h hk
  obtain ⟨pc, L, st, M⟩ := S
  unfold cm_iushr at h ⊢
  dsimp only at h ⊢
  split at h <;> (first | exact h.elim | exact hk _ h | exact ⟨h.1, hk _ h.2⟩ | exact ⟨h.1, h.2.1, hk _ h.2.2⟩ | exact ⟨h.1, h.2.1, h.2.2.1, hk _ h.2.2.2⟩ | exact ⟨h.1, h.2.1, h.2.2.1, h.2.2.2.1, hk _ h.2.2.2.2⟩ | exact ⟨h.1, h.2.1, h.2.2.1, h.2.2.2.1, h.2.2.2.2.1, hk _ h.2.2.2.2.2⟩ | exact ⟨h.1, h.2.1, h.2.2.1, h.2.2.2.1, h.2.2.2.2.1, h.2.2.2.2.2.1, h.2.2.2.2.2.2.1, h.2.2.2.2.2.2.2.1, hk _ h.2.2.2.2.2.2.2.2⟩ | exact ⟨h.1, fun q => hk _ (h.2.1 q), fun q => hk _ (h.2.2 q)⟩ | exact ⟨h.1, h.2.1, h.2.2.1, fun q => hk _ (h.2.2.2.1 q), fun j o q1 q2 => hk _ (h.2.2.2.2 j o q1 q2)⟩ | exact ⟨hk _ h.1, hk _ h.2⟩)

theorem cm_idiv_im : cm_Mon cm_idiv := by
  intro E P t S k1 k2 h hk
  obtain ⟨pc, L, st, M⟩ := S
  unfold cm_idiv at h ⊢
  dsimp only at h ⊢
  split at h <;> (first | exact h.elim | exact hk _ h | exact ⟨h.1, hk _ h.2⟩ | exact ⟨h.1, h.2.1, hk _ h.2.2⟩ | exact ⟨h.1, h.2.1, h.2.2.1, hk _ h.2.2.2⟩ | exact ⟨h.1, h.2.1, h.2.2.1, h.2.2.2.1, hk _ h.2.2.2.2⟩ | exact ⟨h.1, h.2.1, h.2.2.1, h.2.2.2.1, h.2.2.2.2.1, hk _ h.2.2.2.2.2⟩ | exact ⟨h.1, h.2.1, h.2.2.1, h.2.2.2.1, h.2.2.2.2.1, h.2.2.2.2.2.1, h.2.2.2.2.2.2.1, h.2.2.2.2.2.2.2.1, hk _ h.2.2.2.2.2.2.2.2⟩ | exact ⟨h.1, fun q => hk _ (h.2.1 q), fun q => hk _ (h.2.2 q)⟩ | exact ⟨h.1, h.2.1, h.2.2.1, fun q => hk _ (h.2.2.2.1 q), fun j o q1 q2 => hk _ (h.2.2.2.2 j o q1 q2)⟩ | exact ⟨hk _ h.1, hk _ h.2⟩)

theorem cm_irem_im : cm_Mon cm_irem := by
  intro E P t S k1 k2 h hk
  obtain ⟨pc, L, st, M⟩ := S
  unfold cm_irem at h ⊢
  dsimp only at h ⊢
  split at h <;> (first | exact h.elim | exact hk _ h | exact ⟨h.1, hk _ h.2⟩ | exact ⟨h.1, h.2.1, hk _ h.2.2⟩ | exact ⟨h.1, h.2.1, h.2.2.1, hk _ h.2.2.2⟩ | exact ⟨h.1, h.2.1, h.2.2.1, h.2.2.2.1, hk _ h.2.2.2.2⟩ | exact ⟨h.1, h.2.1, h.2.2.1, h.2.2.2.1, h.2.2.2.2.1, hk _ h.2.2.2.2.2⟩ | exact ⟨h.1, h.2.1, h.2.2.1, h.2.2.2.1, h.2.2.2.2.1, h.2.2.2.2.2.1, h.2.2.2.2.2.2.1, h.2.2.2.2.2.2.2.1, hk _ h.2.2.2.2.2.2.2.2⟩ | exact ⟨h.1, fun q => hk _ (h.2.1 q), fun q => hk _ (h.2.2 q)⟩ | exact ⟨h.1, h.2.1, h.2.2.1, fun q => hk _ (h.2.2.2.1 q), fun j o q1 q2 => hk _ (h.2.2.2.2 j o q1 q2)⟩ | exact ⟨hk _ h.1, hk _ h.2⟩)

theorem cm_ineg_im : cm_Mon cm_ineg := by
  intro E P t S k1 k2 h hk
  obtain ⟨pc, L, st, M⟩ := S
  unfold cm_ineg at h ⊢
  dsimp only at h ⊢
  split at h <;> (first | exact h.elim | exact hk _ h | exact ⟨h.1, hk _ h.2⟩ | exact ⟨h.1, h.2.1, hk _ h.2.2⟩ | exact ⟨h.1, h.2.1, h.2.2.1, hk _ h.2.2.2⟩ | exact ⟨h.1, h.2.1, h.2.2.1, h.2.2.2.1, hk _ h.2.2.2.2⟩ | exact ⟨h.1, h.2.1, h.2.2.1, h.2.2.2.1, h.2.2.2.2.1, hk _ h.2.2.2.2.2⟩ | exact ⟨h.1, h.2.1, h.2.2.1, h.2.2.2.1, h.2.2.2.2.1, h.2.2.2.2.2.1, h.2.2.2.2.2.2.1, h.2.2.2.2.2.2.2.1, hk _ h.2.2.2.2.2.2.2.2⟩ | exact ⟨h.1, fun q => hk _ (h.2.1 q), fun q => hk _ (h.2.2 q)⟩ | exact ⟨h.1, h.2.1, h.2.2.1, fun q => hk _ (h.2.2.2.1 q), fun j o q1 q2 => hk _ (h.2.2.2.2 j o q1 q2)⟩ | exact ⟨hk _ h.1, hk _ h.2⟩)

theorem cm_i2b_im : cm_Mon cm_i2b := by
  intro E P t S k1 k2 h hk
  obtain ⟨pc, L, st, M⟩ := S
  unfold cm_i2b at h ⊢
  dsimp only at h ⊢
  split at h <;> (first | exact h.elim | exact hk _ h | exact ⟨h.1, hk _ h.2⟩ | exact ⟨h.1, h.2.1, hk _ h.2.2⟩ | exact ⟨h.1, h.2.1, h.2.2.1, hk _ h.2.2.2⟩ | exact ⟨h.1, h.2.1, h.2.2.1, h.2.2.2.1, hk _ h.2.2.2.2⟩ | exact ⟨h.1, h.2.1, h.2.2.1, h.2.2.2.1, h.2.2.2.2.1, hk _ h.2.2.2.2.2⟩ | exact ⟨h.1, h.2.1, h.2.2.1, h.2.2.2.1, h.2.2.2.2.1, h.2.2.2.2.2.1, h.2.2.2.2.2.2.1, h.2.2.2.2.2.2.2.1, hk _ h.2.2.2.2.2.2.2.2⟩ | exact ⟨h.1, fun q => hk _ (h.2.1 q), fun q => hk _ (h.2.2 q)⟩ | exact ⟨h.1, h.2.1, h.2.2.1, fun q => hk _ (h.2.2.2.1 q), fun j o q1 q2 => hk _ (h.2.2.2.2 j o q1 q2)⟩ | exact ⟨hk _ h.1, hk _ h.2⟩)

theorem cm_i2l_im : cm_Mon cm_i2l := by
  intro E P t S k1 k2 h hk
  obtain ⟨pc, L, st, M⟩ := S
  unfold cm_i2l at h ⊢
  dsimp only at h ⊢
  split at h <;> (first | exact h.elim | exact hk _ h | exact ⟨h.1, hk _ h.2⟩ | exact ⟨h.1, h.2.1, hk _ h.2.2⟩ | exact ⟨h.1, h.2.1, h.2.2.1, hk _ h.2.2.2⟩ | exact ⟨h.1, h.2.1, h.2.2.1, h.2.2.2.1, hk _ h.2.2.2.2⟩ | exact ⟨h.1, h.2.1, h.2.2.1, h.2.2.2.1, h.2.2.2.2.1, hk _ h.2.2.2.2.2⟩ | exact ⟨h.1, h.2.1, h.2.2.1, h.2.2.2.1, h.2.2.2.2.1, h.2.2.2.2.2.1, h.2.2.2.2.2.2.1, h.2.2.2.2.2.2.2.1, hk _ h.2.2.2.2.2.2.2.2⟩ | exact ⟨h.1, fun q => hk _ (h.2.1 q), fun q => hk _ (h.2.2 q)⟩ | exact ⟨h.1, h.2.1, h.2.2.1, fun q => hk _ (h.2.2.2.1 q), fun j o q1 q2 => hk _ (h.2.2.2.2 j o q1 q2)⟩ | exact ⟨hk _ h.1, hk _ h.2⟩)

theorem cm_lcmp_im : cm_Mon cm_lcmp := by
  intro E P t S k1 k2 h hk
  obtain ⟨pc, L, st, M⟩ := S
  unfold cm_lcmp at h ⊢
  dsimp only at h ⊢
  split at h <;> (first | exact h.elim | exact hk _ h | exact ⟨h.1, hk _ h.2⟩ | exact ⟨h.1, h.2.1, hk _ h.2.2⟩ | exact ⟨h.1, h.2.1, h.2.2.1, hk _ h.2.2.2⟩ | exact ⟨h.1, h.2.1, h.2.2.1, h.2.2.2.1, hk _ h.2.2.2.2⟩ | exact ⟨h.1, h.2.1, h.2.2.1, h.2.2.2.1, h.2.2.2.2.1, hk _ h.2.2.2.2.2⟩ | exact ⟨h.1, h.2.1, h.2.2.1, h.2.2.2.1, h.2.2.2.2.1, h.2.2.2.2.2.1, h.2.2.2.2.2.2.1, h.2.2.2.2.2.2.2.1, hk _ h.2.2.2.2.2.2.2.2⟩ | exact ⟨h.1, fun q => hk _ (h.2.1 q), fun q => hk _ (h.2.2 q)⟩ | exact ⟨h.1, h.2.1, h.2.2.1, fun q => hk _ (h.2.2.2.1 q), fun j o q1 q2 => hk _ (h.2.2.2.2 j o q1 q2)⟩ | exact ⟨hk _ h.1, hk _ h.2⟩)

theorem cm_dup_im : cm_Mon cm_dup := by
  intro E P t S k1 k2 h hk
  obtain ⟨pc, L, st, M⟩ := S
  unfold cm_dup at h ⊢
  dsimp only at h ⊢
  split at h <;> (first | exact h.elim | exact hk _ h | exact ⟨h.1, hk _ h.2⟩ | exact ⟨h.1, h.2.1, hk _ h.2.2⟩ | exact ⟨h.1, h.2.1, h.2.2.1, hk _ h.2.2.2⟩ | exact ⟨h.1, h.2.1, h.2.2.1, h.2.2.2.1, hk _ h.2.2.2.2⟩ | exact ⟨h.1, h.2.1, h.2.2.1, h.2.2.2.1, h.2.2.2.2.1, hk _ h.2.2.2.2.2⟩ | exact ⟨h.1, h.2.1, h.2.2.1, h.2.2.2.1, h.2.2.2.2.1, h.2.2.2.2.2.1, h.2.2.2.2.2.2.1, h.2.2.2.2.2.2.2.1, hk _ h.2.2.2.2.2.2.2.2⟩ | exact ⟨h.1, fun q => hk _ (h.2.1 q), fun q => hk _ (h.2.2 q)⟩ | exact ⟨h.1, h.2.1, h.2.2.1, fun q => hk _ (h.2.2.2.1 q), fun j o q1 q2 => hk _ (h.2.2.2.2 j o q1 q2)⟩ | exact ⟨hk _ h.1, hk _ h.2⟩)

theorem cm_pop_im : cm_Mon cm_pop := by
  intro E P t S k1 k2 h hk
  obtain ⟨pc, L, st, M⟩ := S
  unfold cm_pop at h ⊢
  dsimp only at h ⊢
  split at h <;> (first | exact h.elim | exact hk _ h | exact ⟨h.1, hk _ h.2⟩ | exact ⟨h.1, h.2.1, hk _ h.2.2⟩ | exact ⟨h.1, h.2.1, h.2.2.1, hk _ h.2.2.2⟩ | exact ⟨h.1, h.2.1, h.2.2.1, h.2.2.2.1, hk _ h.2.2.2.2⟩ | exact ⟨h.1, h.2.1, h.2.2.1, h.2.2.2.1, h.2.2.2.2.1, hk _ h.2.2.2.2.2⟩ | exact ⟨h.1, h.2.1, h.2.2.1, h.2.2.2.1, h.2.2.2.2.1, h.2.2.2.2.2.1, h.2.2.2.2.2.2.1, h.2.2.2.2.2.2.2.1, hk _ h.2.2.2.2.2.2.2.2⟩ | exact ⟨h.1, fun q => hk _ (h.2.1 q), fun q => hk _ (h.2.2 q)⟩ | exact ⟨h.1, h.2.1, h.2.2.1, fun q => hk _ (h.2.2.2.1 q), fun j o q1 q2 => hk _ (h.2.2.2.2 j o q1 q2)⟩ | exact ⟨hk _ h.1, hk _ h.2⟩)

theorem cm_dup2_im : cm_Mon cm_dup2 := by
  intro E P t S k1 k2 h hk
  obtain ⟨pc, L, st, M⟩ := S
  unfold cm_dup2 at h ⊢
  dsimp only at h ⊢
  split at h <;> (first | exact h.elim | exact hk _ h | exact ⟨h.1, hk _ h.2⟩ | exact ⟨h.1, h.2.1, hk _ h.2.2⟩ | exact ⟨h.1, h.2.1, h.2.2.1, hk _ h.2.2.2⟩ | exact ⟨h.1, h.2.1, h.2.2.1, h.2.2.2.1, hk _ h.2.2.2.2⟩ | exact ⟨h.1, h.2.1, h.2.2.1, h.2.2.2.1, h.2.2.2.2.1, hk _ h.2.2.2.2.2⟩ | exact ⟨h.1, h.2.1, h.2.2.1, h.2.2.2.1, h.2.2.2.2.1, h.2.2.2.2.2.1, h.2.2.2.2.2.2.1, h.2.2.2.2.2.2.2.1, hk _ h.2.2.2.2.2.2.2.2⟩ | exact ⟨h.1, fun q => hk _ (h.2.1 q), fun q => hk _ (h.2.2 q)⟩ | exact ⟨h.1, h.2.1, h.2.2.1, fun q => hk _ (h.2.2.2.1 q), fun j o q1 q2 => hk _ (h.2.2.2.2 j o q1 q2)⟩ | exact ⟨hk _ h.1, hk _ h.2⟩)

theorem cm_iinc_im : cm_Mon cm_iinc := by
  intro E P t S k1 k2 h hk
  obtain ⟨pc, L, st, M⟩ := S
  unfold cm_iinc at h ⊢
  dsimp only at h ⊢
  split at h <;> first | exact h.elim | exact ⟨h.1, hk _ h.2⟩

theorem cm_icmp_eq_im : cm_Mon cm_icmp_eq := by
  intro E P t S k1 k2 h hk
  obtain ⟨pc, L, st, M⟩ := S
  unfold cm_icmp_eq at h ⊢
  dsimp only at h ⊢
  split at h <;> (first | exact h.elim | exact hk _ h | exact ⟨h.1, hk _ h.2⟩ | exact ⟨h.1, h.2.1, hk _ h.2.2⟩ | exact ⟨h.1, h.2.1, h.2.2.1, hk _ h.2.2.2⟩ | exact ⟨h.1, h.2.1, h.2.2.1, h.2.2.2.1, hk _ h.2.2.2.2⟩ | exact ⟨h.1, h.2.1, h.2.2.1, h.2.2.2.1, h.2.2.2.2.1, hk _ h.2.2.2.2.2⟩ | exact ⟨h.1, h.2.1, h.2.2.1, h.2.2.2.1, h.2.2.2.2.1, h.2.2.2.2.2.1, h.2.2.2.2.2.2.1, h.2.2.2.2.2.2.2.1, hk _ h.2.2.2.2.2.2.2.2⟩ | exact ⟨h.1, fun q => hk _ (h.2.1 q), fun q => hk _ (h.2.2 q)⟩ | exact ⟨h.1, h.2.1, h.2.2.1, fun q => hk _ (h.2.2.2.1 q), fun j o q1 q2 => hk _ (h.2.2.2.2 j o q1 q2)⟩ | exact ⟨hk _ h.1, hk _ h.2⟩)

theorem cm_icmp_ne_im : cm_Mon cm_icmp_ne := by
  intro E P t S k1 k2 h hk
  obtain ⟨pc, L, st, M⟩ := S
  unfold cm_icmp_ne at h ⊢
  dsimp only at h ⊢
  split at h <;> (first | exact h.elim | exact hk _ h | exact ⟨h.1, hk _ h.2⟩ | exact ⟨h.1, h.2.1, hk _ h.2.2⟩ | exact ⟨h.1, h.2.1, h.2.2.1, hk _ h.2.2.2⟩ | exact ⟨h.1, h.2.1, h.2.2.1, h.2.2.2.1, hk _ h.2.2.2.2⟩ | exact ⟨h.1, h.2.1, h.2.2.1, h.2.2.2.1, h.2.2.2.2.1, hk _ h.2.2.2.2.2⟩ | exact ⟨h.1, h.2.1, h.2.2.1, h.2.2.2.1, h.2.2.2.2.1, h.2.2.2.2.2.1, h.2.2.2.2.2.2.1, h.2.2.2.2.2.2.2.1, hk _ h.2.2.2.2.2.2.2.2⟩ | exact ⟨h.1, fun q => hk _ (h.2.1 q), fun q => hk _ (h.2.2 q)⟩ | exact ⟨h.1, h.2.1, h.2.2.1, fun q => hk _ (h.2.2.2.1 q), fun j o q1 q2 => hk _ (h.2.2.2.2 j o q1 q2)⟩ | exact ⟨hk _ h.1, hk _ h.2⟩)

theorem cm_icmp_lt_im : cm_Mon cm_icmp_lt := by
  intro E P t S k1 k2 h hk
  obtain ⟨pc, L, st, M⟩ := S
  unfold cm_icmp_lt at h ⊢
  dsimp only at h ⊢
  split at h <;> (first | exact h.elim | exact hk _ h | exact ⟨h.1, hk _ h.2⟩ | exact ⟨h.1, h.2.1, hk _ h.2.2⟩ | exact ⟨h.1, h.2.1, h.2.2.1, hk _ h.2.2.2⟩ | exact ⟨h.1, h.2.1, h.2.2.1, h.2.2.2.1, hk _ h.2.2.2.2⟩ | exact ⟨h.1, h.2.1, h.2.2.1, h.2.2.2.1, h.2.2.2.2.1, hk _ h.2.2.2.2.2⟩ | exact ⟨h.1, h.2.1, h.2.2.1, h.2.2.2.1, h.2.2.2.2.1, h.2.2.2.2.2.1, h.2.2.2.2.2.2.1, h.2.2.2.2.2.2.2.1, hk _ h.2.2.2.2.2.2.2.2⟩ | exact ⟨h.1, fun q => hk _ (h.2.1 q), fun q => hk _ (h.2.2 q)⟩ | exact ⟨h.1, h.2.1, h.2.2.1, fun q => hk _ (h.2.2.2.1 q), fun j o q1 q2 => hk _ (h.2.2.2.2 j o q1 q2)⟩ | exact ⟨hk _ h.1, hk _ h.2⟩)

theorem cm_icmp_ge_im : cm_Mon cm_icmp_ge := by
  intro E P t S k1 k2 h hk
  obtain ⟨pc, L, st, M⟩ := S
  unfold cm_icmp_ge at h ⊢
  dsimp only at h ⊢
  split at h <;> (first | exact h.elim | exact hk _ h | exact ⟨h.1, hk _ h.2⟩ | exact ⟨h.1, h.2.1, hk _ h.2.2⟩ | exact ⟨h.1, h.2.1, h.2.2.1, hk _ h.2.2.2⟩ | exact ⟨h.1, h.2.1, h.2.2.1, h.2.2.2.1, hk _ h.2.2.2.2⟩ | exact ⟨h.1, h.2.1, h.2.2.1, h.2.2.2.1, h.2.2.2.2.1, hk _ h.2.2.2.2.2⟩ | exact ⟨h.1, h.2.1, h.2.2.1, h.2.2.2.1, h.2.2.2.2.1, h.2.2.2.2.2.1, h.2.2.2.2.2.2.1, h.2.2.2.2.2.2.2.1, hk _ h.2.2.2.2.2.2.2.2⟩ | exact ⟨h.1, fun q => hk _ (h.2.1 q), fun q => hk _ (h.2.2 q)⟩ | exact ⟨h.1, h.2.1, h.2.2.1, fun q => hk _ (h.2.2.2.1 q), fun j o q1 q2 => hk _ (h.2.2.2.2 j o q1 q2)⟩ | exact ⟨hk _ h.1, hk _ h.2⟩)

theorem cm_icmp_gt_im : cm_Mon cm_icmp_gt := by
  intro E P t S k1 k2 h hk
  obtain ⟨pc, L, st, M⟩ := S
  unfold cm_icmp_gt at h ⊢
  dsimp only at h ⊢
  split at h <;> (first | exact h.elim | exact hk _ h | exact ⟨h.1, hk _ h.2⟩ | exact ⟨h.1, h.2.1, hk _ h.2.2⟩ | exact ⟨h.1, h.2.1, h.2.2.1, hk _ h.2.2.2⟩ | exact ⟨h.1, h.2.1, h.2.2.1, h.2.2.2.1, hk _ h.2.2.2.2⟩ | exact ⟨h.1, h.2.1, h.2.2.1, h.2.2.2.1, h.2.2.2.2.1, hk _ h.2.2.2.2.2⟩ | exact ⟨h.1, h.2.1, h.2.2.1, h.2.2.2.1, h.2.2.2.2.1, h.2.2.2.2.2.1, h.2.2.2.2.2.2.1, h.2.2.2.2.2.2.2.1, hk _ h.2.2.2.2.2.2.2.2⟩ | exact ⟨h.1, fun q => hk _ (h.2.1 q), fun q => hk _ (h.2.2 q)⟩ | exact ⟨h.1, h.2.1, h.2.2.1, fun q => hk _ (h.2.2.2.1 q), fun j o q1 q2 => hk _ (h.2.2.2.2 j o q1 q2)⟩ | exact ⟨hk _ h.1, hk _ h.2⟩)

theorem cm_icmp_le_im : cm_Mon cm_icmp_le := by
  intro E P t S k1 k2 h hk
  obtain ⟨pc, L, st, M⟩ := S
  unfold cm_icmp_le at h ⊢
  dsimp only at h ⊢
  split at h <;> (first | exact h.elim | exact hk _ h | exact ⟨h.1, hk _ h.2⟩ | exact ⟨h.1, h.2.1, hk _ h.2.2⟩ | exact ⟨h.1, h.2.1, h.2.2.1, hk _ h.2.2.2⟩ | exact ⟨h.1, h.2.1, h.2.2.1, h.2.2.2.1, hk _ h.2.2.2.2⟩ | exact ⟨h.1, h.2.1, h.2.2.1, h.2.2.2.1, h.2.2.2.2.1, hk _ h.2.2.2.2.2⟩ | exact ⟨h.1, h.2.1, h.2.2.1, h.2.2.2.1, h.2.2.2.2.1, h.2.2.2.2.2.1, h.2.2.2.2.2.2.1, h.2.2.2.2.2.2.2.1, hk _ h.2.2.2.2.2.2.2.2⟩ | exact ⟨h.1, fun q => hk _ (h.2.1 q), fun q => hk _ (h.2.2 q)⟩ | exact ⟨h.1, h.2.1, h.2.2.1, fun q => hk _ (h.2.2.2.1 q), fun j o q1 q2 => hk _ (h.2.2.2.2 j o q1 q2)⟩ | exact ⟨hk _ h.1, hk _ h.2⟩)

theorem cm_if_eq_im : cm_Mon cm_if_eq := by
  intro E P t S k1 k2 h hk
  obtain ⟨pc, L, st, M⟩ := S
  unfold cm_if_eq at h ⊢
  dsimp only at h ⊢
  split at h <;> (first | exact h.elim | exact hk _ h | exact ⟨h.1, hk _ h.2⟩ | exact ⟨h.1, h.2.1, hk _ h.2.2⟩ | exact ⟨h.1, h.2.1, h.2.2.1, hk _ h.2.2.2⟩ | exact ⟨h.1, h.2.1, h.2.2.1, h.2.2.2.1, hk _ h.2.2.2.2⟩ | exact ⟨h.1, h.2.1, h.2.2.1, h.2.2.2.1, h.2.2.2.2.1, hk _ h.2.2.2.2.2⟩ | exact ⟨h.1, h.2.1, h.2.2.1, h.2.2.2.1, h.2.2.2.2.1, h.2.2.2.2.2.1, h.2.2.2.2.2.2.1, h.2.2.2.2.2.2.2.1, hk _ h.2.2.2.2.2.2.2.2⟩ | exact ⟨h.1, fun q => hk _ (h.2.1 q), fun q => hk _ (h.2.2 q)⟩ | exact ⟨h.1, h.2.1, h.2.2.1, fun q => hk _ (h.2.2.2.1 q), fun j o q1 q2 => hk _ (h.2.2.2.2 j o q1 q2)⟩ | exact ⟨hk _ h.1, hk _ h.2⟩)

theorem cm_if_ne_im : cm_Mon cm_if_ne := by
  intro E P t S k1 k2 h hk
  obtain ⟨pc, L, st, M⟩ := S
  unfold cm_if_ne at h ⊢
  dsimp only at h ⊢
  split at h <;> (first | exact h.elim | exact hk _ h | exact ⟨h.1, hk _ h.2⟩ | exact ⟨h.1, h.2.1, hk _ h.2.2⟩ | exact ⟨h.1, h.2.1, h.2.2.1, hk _ h.2.2.2⟩ | exact ⟨h.1, h.2.1, h.2.2.1, h.2.2.2.1, hk _ h.2.2.2.2⟩ | exact ⟨h.1, h.2.1, h.2.2.1, h.2.2.2.1, h.2.2.2.2.1, hk _ h.2.2.2.2.2⟩ | exact ⟨h.1, h.2.1, h.2.2.1, h.2.2.2.1, h.2.2.2.2.1, h.2.2.2.2.2.1, h.2.2.2.2.2.2.1, h.2.2.2.2.2.2.2.1, hk _ h.2.2.2.2.2.2.2.2⟩ | exact ⟨h.1, fun q => hk _ (h.2.1 q), fun q => hk _ (h.2.2 q)⟩ | exact ⟨h.1, h.2.1, h.2.2.1, fun q => hk _ (h.2.2.2.1 q), fun j o q1 q2 => hk _ (h.2.2.2.2 j o q1 q2)⟩ | exact ⟨hk _ h.1, hk _ h.2⟩)

theorem cm_if_lt_im : cm_Mon cm_if_lt := by
  intro E P t S k1 k2 h hk
  obtain ⟨pc, L, st, M⟩ := S
  unfold cm_if_lt at h ⊢
  dsimp only at h ⊢
  split at h <;> (first | exact h.elim | exact hk _ h | exact ⟨h.1, hk _ h.2⟩ | exact ⟨h.1, h.2.1, hk _ h.2.2⟩ | exact ⟨h.1, h.2.1, h.2.2.1, hk _ h.2.2.2⟩ | exact ⟨h.1, h.2.1, h.2.2.1, h.2.2.2.1, hk _ h.2.2.2.2⟩ | exact ⟨h.1, h.2.1, h.2.2.1, h.2.2.2.1, h.2.2.2.2.1, hk _ h.2.2.2.2.2⟩ | exact ⟨h.1, h.2.1, h.2.2.1, h.2.2.2.1, h.2.2.2.2.1, h.2.2.2.2.2.1, h.2.2.2.2.2.2.1, h.2.2.2.2.2.2.2.1, hk _ h.2.2.2.2.2.2.2.2⟩ | exact ⟨h.1, fun q => hk _ (h.2.1 q), fun q => hk _ (h.2.2 q)⟩ | exact ⟨h.1, h.2.1, h.2.2.1, fun q => hk _ (h.2.2.2.1 q), fun j o q1 q2 => hk _ (h.2.2.2.2 j o q1 q2)⟩ | exact ⟨hk _ h.1, hk _ h.2⟩)

theorem cm_if_ge_im : cm_Mon cm_if_ge := by
  intro E P t S k1 k2 h hk
  obtain ⟨pc, L, st, M⟩ := S
  unfold cm_if_ge at h ⊢
  dsimp only at h ⊢
  split at h <;> (first | exact h.elim | exact hk _ h | exact ⟨h.1, hk _ h.2⟩ | exact ⟨h.1, h.2.1, hk _ h.2.2⟩ | exact ⟨h.1, h.2.1, h.2.2.1, hk _ h.2.2.2⟩ | exact ⟨h.1, h.2.1, h.2.2.1, h.2.2.2.1, hk _ h.2.2.2.2⟩ | exact ⟨h.1, h.2.1, h.2.2.1, h.2.2.2.1, h.2.2.2.2.1, hk _ h.2.2.2.2.2⟩ | exact ⟨h.1, h.2.1, h.2.2.1, h.2.2.2.1, h.2.2.2.2.1, h.2.2.2.2.2.1, h.2.2.2.2.2.2.1, h.2.2.2.2.2.2.2.1, hk _ h.2.2.2.2.2.2.2.2⟩ | exact ⟨h.1, fun q => hk _ (h.2.1 q), fun q => hk _ (h.2.2 q)⟩ | exact ⟨h.1, h.2.1, h.2.2.1, fun q => hk _ (h.2.2.2.1 q), fun j o q1 q2 => hk _ (h.2.2.2.2 j o q1 q2)⟩ | exact ⟨hk _ h.1, hk _ h.2⟩)

theorem cm_if_gt_im : cm_Mon cm_if_gt := by
  intro E P t S k1 k2 h hk
  obtain ⟨pc, L, st, M⟩ := S
  unfold cm_if_gt at h ⊢
  dsimp only at h ⊢
  split at h <;> (first | exact h.elim | exact hk _ h | exact ⟨h.1, hk _ h.2⟩ | exact ⟨h.1, h.2.1, hk _ h.2.2⟩ | exact ⟨h.1, h.2.1, h.2.2.1, hk _ h.2.2.2⟩ | exact ⟨h.1, h.2.1, h.2.2.1, h.2.2.2.1, hk _ h.2.2.2.2⟩ | exact ⟨h.1, h.2.1, h.2.2.1, h.2.2.2.1, h.2.2.2.2.1, hk _ h.2.2.2.2.2⟩ | exact ⟨h.1, h.2.1, h.2.2.1, h.2.2.2.1, h.2.2.2.2.1, h.2.2.2.2.2.1, h.2.2.2.2.2.2.1, h.2.2.2.2.2.2.2.1, hk _ h.2.2.2.2.2.2.2.2⟩ | exact ⟨h.1, fun q => hk _ (h.2.1 q), fun q => hk _ (h.2.2 q)⟩ | exact ⟨h.1, h.2.1, h.2.2.1, fun q => hk _ (h.2.2.2.1 q), fun j o q1 q2 => hk _ (h.2.2.2.2 j o q1 q2)⟩ | exact ⟨hk _ h.1, hk _ h.2⟩)

theorem cm_if_le_im : cm_Mon cm_if_le := by
  intro E P t S k1 k2 h hk
  obtain ⟨pc, L, st, M⟩ := S
  unfold cm_if_le at h ⊢
  dsimp only at h ⊢
  split at h <;> (first | exact h.elim | exact hk _ h | exact ⟨h.1, hk _ h.2⟩ | exact ⟨h.1, h.2.1, hk _ h.2.2⟩ | exact ⟨h.1, h.2.1, h.2.2.1, hk _ h.2.2.2⟩ | exact ⟨h.1, h.2.1, h.2.2.1, h.2.2.2.1, hk _ h.2.2.2.2⟩ | exact ⟨h.1, h.2.1, h.2.2.1, h.2.2.2.1, h.2.2.2.2.1, hk _ h.2.2.2.2.2⟩ | exact ⟨h.1, h.2.1, h.2.2.1, h.2.2.2.1, h.2.2.2.2.1, h.2.2.2.2.2.1, h.2.2.2.2.2.2.1, h.2.2.2.2.2.2.2.1, hk _ h.2.2.2.2.2.2.2.2⟩ | exact ⟨h.1, fun q => hk _ (h.2.1 q), fun q => hk _ (h.2.2 q)⟩ | exact ⟨h.1, h.2.1, h.2.2.1, fun q => hk _ (h.2.2.2.1 q), fun j o q1 q2 => hk _ (h.2.2.2.2 j o q1 q2)⟩ | exact ⟨hk _ h.1, hk _ h.2⟩)

theorem cm_goto_im : cm_Mon cm_goto := by
  intro E P t S k1 k2 h hk
  obtain ⟨pc, L, st, M⟩ := S
  unfold cm_goto at h ⊢
  dsimp only at h ⊢
  first | exact h.elim | exact hk _ h | exact ⟨h.1, hk _ h.2⟩ | exact ⟨h.1, h.2.1, hk _ h.2.2⟩ | exact ⟨h.1, h.2.1, h.2.2.1, hk _ h.2.2.2⟩ | exact ⟨h.1, h.2.1, h.2.2.1, h.2.2.2.1, hk _ h.2.2.2.2⟩ | exact ⟨h.1, h.2.1, h.2.2.1, h.2.2.2.1, h.2.2.2.2.1, hk _ h.2.2.2.2.2⟩ | exact ⟨h.1, h.2.1, h.2.2.1, h.2.2.2.1, h.2.2.2.2.1, h.2.2.2.2.2.1, h.2.2.2.2.2.2.1, h.2.2.2.2.2.2.2.1, hk _ h.2.2.2.2.2.2.2.2⟩ | exact ⟨h.1, fun q => hk _ (h.2.1 q), fun q => hk _ (h.2.2 q)⟩ | exact ⟨h.1, h.2.1, h.2.2.1, fun q => hk _ (h.2.2.2.1 q), fun j o q1 q2 => hk _ (h.2.2.2.2 j o q1 q2)⟩ | exact ⟨hk _ h.1, hk _ h.2⟩

theorem cm_sw_im : cm_Mon cm_sw := by
  intro E P t S k1 k2 h hk
  obtain ⟨pc, L, st, M⟩ := S
  unfold cm_sw at h ⊢
  dsimp only at h ⊢
  split at h
  · exact ⟨h.1, h.2.1, h.2.2.1, fun q => hk _ (h.2.2.2.1 q), fun j o q1 q2 => hk _ (h.2.2.2.2 j o q1 q2)⟩
  · exact h.elim

theorem cm_get_im : cm_Mon cm_get := by
  intro E P t S k1 k2 h hk
  obtain ⟨pc, L, st, M⟩ := S
  unfold cm_get at h ⊢
  dsimp only at h ⊢
  split at h <;> (first | exact h.elim | exact hk _ h | exact ⟨h.1, hk _ h.2⟩ | exact ⟨h.1, h.2.1, hk _ h.2.2⟩ | exact ⟨h.1, h.2.1, h.2.2.1, hk _ h.2.2.2⟩ | exact ⟨h.1, h.2.1, h.2.2.1, h.2.2.2.1, hk _ h.2.2.2.2⟩ | exact ⟨h.1, h.2.1, h.2.2.1, h.2.2.2.1, h.2.2.2.2.1, hk _ h.2.2.2.2.2⟩ | exact ⟨h.1, h.2.1, h.2.2.1, h.2.2.2.1, h.2.2.2.2.1, h.2.2.2.2.2.1, h.2.2.2.2.2.2.1, h.2.2.2.2.2.2.2.1, hk _ h.2.2.2.2.2.2.2.2⟩ | exact ⟨h.1, fun q => hk _ (h.2.1 q), fun q => hk _ (h.2.2 q)⟩ | exact ⟨h.1, h.2.1, h.2.2.1, fun q => hk _ (h.2.2.2.1 q), fun j o q1 q2 => hk _ (h.2.2.2.2 j o q1 q2)⟩ | exact ⟨hk _ h.1, hk _ h.2⟩)

theorem cm_put_im : cm_Mon cm_put := by
  intro E P t S k1 k2 h hk
  obtain ⟨pc, L, st, M⟩ := S
  unfold cm_put at h ⊢
  dsimp only at h ⊢
  split at h <;> (first | exact h.elim | exact hk _ h | exact ⟨h.1, hk _ h.2⟩ | exact ⟨h.1, h.2.1, hk _ h.2.2⟩ | exact ⟨h.1, h.2.1, h.2.2.1, hk _ h.2.2.2⟩ | exact ⟨h.1, h.2.1, h.2.2.1, h.2.2.2.1, hk _ h.2.2.2.2⟩ | exact ⟨h.1, h.2.1, h.2.2.1, h.2.2.2.1, h.2.2.2.2.1, hk _ h.2.2.2.2.2⟩ | exact ⟨h.1, h.2.1, h.2.2.1, h.2.2.2.1, h.2.2.2.2.1, h.2.2.2.2.2.1, h.2.2.2.2.2.2.1, h.2.2.2.2.2.2.2.1, hk _ h.2.2.2.2.2.2.2.2⟩ | exact ⟨h.1, fun q => hk _ (h.2.1 q), fun q => hk _ (h.2.2 q)⟩ | exact ⟨h.1, h.2.1, h.2.2.1, fun q => hk _ (h.2.2.2.1 q), fun j o q1 q2 => hk _ (h.2.2.2.2 j o q1 q2)⟩ | exact ⟨hk _ h.1, hk _ h.2⟩)

theorem cm_iaload_im : cm_Mon cm_iaload := by
  intro E P t S k1 k2 h hk
  obtain ⟨pc, L, st, M⟩ := S
  unfold cm_iaload at h ⊢
  dsimp only at h ⊢
  split at h <;> (first | exact h.elim | exact hk _ h | exact ⟨h.1, hk _ h.2⟩ | exact ⟨h.1, h.2.1, hk _ h.2.2⟩ | exact ⟨h.1, h.2.1, h.2.2.1, hk _ h.2.2.2⟩ | exact ⟨h.1, h.2.1, h.2.2.1, h.2.2.2.1, hk _ h.2.2.2.2⟩ | exact ⟨h.1, h.2.1, h.2.2.1, h.2.2.2.1, h.2.2.2.2.1, hk _ h.2.2.2.2.2⟩ | exact ⟨h.1, h.2.1, h.2.2.1, h.2.2.2.1, h.2.2.2.2.1, h.2.2.2.2.2.1, h.2.2.2.2.2.2.1, h.2.2.2.2.2.2.2.1, hk _ h.2.2.2.2.2.2.2.2⟩ | exact ⟨h.1, fun q => hk _ (h.2.1 q), fun q => hk _ (h.2.2 q)⟩ | exact ⟨h.1, h.2.1, h.2.2.1, fun q => hk _ (h.2.2.2.1 q), fun j o q1 q2 => hk _ (h.2.2.2.2 j o q1 q2)⟩ | exact ⟨hk _ h.1, hk _ h.2⟩)

theorem cm_baload_im : cm_Mon cm_baload := by
  intro E P t S k1 k2 h hk
  obtain ⟨pc, L, st, M⟩ := S
  unfold cm_baload at h ⊢
  dsimp only at h ⊢
  split at h <;> (first | exact h.elim | exact hk _ h | exact ⟨h.1, hk _ h.2⟩ | exact ⟨h.1, h.2.1, hk _ h.2.2⟩ | exact ⟨h.1, h.2.1, h.2.2.1, hk _ h.2.2.2⟩ | exact ⟨h.1, h.2.1, h.2.2.1, h.2.2.2.1, hk _ h.2.2.2.2⟩ | exact ⟨h.1, h.2.1, h.2.2.1, h.2.2.2.1, h.2.2.2.2.1, hk _ h.2.2.2.2.2⟩ | exact ⟨h.1, h.2.1, h.2.2.1, h.2.2.2.1, h.2.2.2.2.1, h.2.2.2.2.2.1, h.2.2.2.2.2.2.1, h.2.2.2.2.2.2.2.1, hk _ h.2.2.2.2.2.2.2.2⟩ | exact ⟨h.1, fun q => hk _ (h.2.1 q), fun q => hk _ (h.2.2 q)⟩ | exact ⟨h.1, h.2.1, h.2.2.1, fun q => hk _ (h.2.2.2.1 q), fun j o q1 q2 => hk _ (h.2.2.2.2 j o q1 q2)⟩ | exact ⟨hk _ h.1, hk _ h.2⟩)

theorem cm_laload_im : cm_Mon cm_laload := by
  intro E P t S k1 k2 h hk
  obtain ⟨pc, L, st, M⟩ := S
  unfold cm_laload at h ⊢
  dsimp only at h ⊢
  split at h <;> (first | exact h.elim | exact hk _ h | exact ⟨h.1, hk _ h.2⟩ | exact ⟨h.1, h.2.1, hk _ h.2.2⟩ | exact ⟨h.1, h.2.1, h.2.2.1, hk _ h.2.2.2⟩ | exact ⟨h.1, h.2.1, h.2.2.1, h.2.2.2.1, hk _ h.2.2.2.2⟩ | exact ⟨h.1, h.2.1, h.2.2.1, h.2.2.2.1, h.2.2.2.2.1, hk _ h.2.2.2.2.2⟩ | exact ⟨h.1, h.2.1, h.2.2.1, h.2.2.2.1, h.2.2.2.2.1, h.2.2.2.2.2.1, h.2.2.2.2.2.2.1, h.2.2.2.2.2.2.2.1, hk _ h.2.2.2.2.2.2.2.2⟩ | exact ⟨h.1, fun q => hk _ (h.2.1 q), fun q => hk _ (h.2.2 q)⟩ | exact ⟨h.1, h.2.1, h.2.2.1, fun q => hk _ (h.2.2.2.1 q), fun j o q1 q2 => hk _ (h.2.2.2.2 j o q1 q2)⟩ | exact ⟨hk _ h.1, hk _ h.2⟩)

theorem cm_aaload_im : cm_Mon cm_aaload := by
  intro E P t S k1 k2 h hk
  obtain ⟨pc, L, st, M⟩ := S
  unfold cm_aaload at h ⊢
  dsimp only at h ⊢
  split at h <;> (first | exact h.elim | exact hk _ h | exact ⟨h.1, hk _ h.2⟩ | exact ⟨h.1, h.2.1, hk _ h.2.2⟩ | exact ⟨h.1, h.2.1, h.2.2.1, hk _ h.2.2.2⟩ | exact ⟨h.1, h.2.1, h.2.2.1, h.2.2.2.1, hk _ h.2.2.2.2⟩ | exact ⟨h.1, h.2.1, h.2.2.1, h.2.2.2.1, h.2.2.2.2.1, hk _ h.2.2.2.2.2⟩ | exact ⟨h.1, h.2.1, h.2.2.1, h.2.2.2.1, h.2.2.2.2.1, h.2.2.2.2.2.1, h.2.2.2.2.2.2.1, h.2.2.2.2.2.2.2.1, hk _ h.2.2.2.2.2.2.2.2⟩ | exact ⟨h.1, fun q => hk _ (h.2.1 q), fun q => hk _ (h.2.2 q)⟩ | exact ⟨h.1, h.2.1, h.2.2.1, fun q => hk _ (h.2.2.2.1 q), fun j o q1 q2 => hk _ (h.2.2.2.2 j o q1 q2)⟩ | exact ⟨hk _ h.1, hk _ h.2⟩)

theorem cm_iastore_im : cm_Mon cm_iastore := by
  intro E P t S k1 k2 h hk
  obtain ⟨pc, L, st, M⟩ := S
  unfold cm_iastore at h ⊢
  dsimp only at h ⊢
  split at h <;> (first | exact h.elim | exact hk _ h | exact ⟨h.1, hk _ h.2⟩ | exact ⟨h.1, h.2.1, hk _ h.2.2⟩ | exact ⟨h.1, h.2.1, h.2.2.1, hk _ h.2.2.2⟩ | exact ⟨h.1, h.2.1, h.2.2.1, h.2.2.2.1, hk _ h.2.2.2.2⟩ | exact ⟨h.1, h.2.1, h.2.2.1, h.2.2.2.1, h.2.2.2.2.1, hk _ h.2.2.2.2.2⟩ | exact ⟨h.1, h.2.1, h.2.2.1, h.2.2.2.1, h.2.2.2.2.1, h.2.2.2.2.2.1, h.2.2.2.2.2.2.1, h.2.2.2.2.2.2.2.1, hk _ h.2.2.2.2.2.2.2.2⟩ | exact ⟨h.1, fun q => hk _ (h.2.1 q), fun q => hk _ (h.2.2 q)⟩ | exact ⟨h.1, h.2.1, h.2.2.1, fun q => hk _ (h.2.2.2.1 q), fun j o q1 q2 => hk _ (h.2.2.2.2 j o q1 q2)⟩ | exact ⟨hk _ h.1, hk _ h.2⟩)

theorem cm_bastore_im : cm_Mon cm_bastore := by
  intro E P t S k1 k2 h hk
  obtain ⟨pc, L, st, M⟩ := S
  unfold cm_bastore at h ⊢
  dsimp only at h ⊢
  split at h <;> (first | exact h.elim | exact hk _ h | exact ⟨h.1, hk _ h.2⟩ | exact ⟨h.1, h.2.1, hk _ h.2.2⟩ | exact ⟨h.1, h.2.1, h.2.2.1, hk _ h.2.2.2⟩ | exact ⟨h.1, h.2.1, h.2.2.1, h.2.2.2.1, hk _ h.2.2.2.2⟩ | exact ⟨h.1, h.2.1, h.2.2.1, h.2.2.2.1, h.2.2.2.2.1, hk _ h.2.2.2.2.2⟩ | exact ⟨h.1, h.2.1, h.2.2.1, h.2.2.2.1, h.2.2.2.2.1, h.2.2.2.2.2.1, h.2.2.2.2.2.2.1, h.2.2.2.2.2.2.2.1, hk _ h.2.2.2.2.2.2.2.2⟩ | exact ⟨h.1, fun q => hk _ (h.2.1 q), fun q => hk _ (h.2.2 q)⟩ | exact ⟨h.1, h.2.1, h.2.2.1, fun q => hk _ (h.2.2.2.1 q), fun j o q1 q2 => hk _ (h.2.2.2.2 j o q1 q2)⟩ | exact ⟨hk _ h.1, hk _ h.2⟩)

theorem cm_alen_im : cm_Mon cm_alen := by
  intro E P t S k1 k2 h hk
  obtain ⟨pc, L, st, M⟩ := S
  unfold cm_alen at h ⊢
  dsimp only at h ⊢
  split at h
  · rename_i c st'
    by_cases hc : c = 1000
    · rw [if_pos hc] at h ⊢
      cases E with
      | none => exact h.elim
      | some q => exact hk _ h
    · rw [if_neg hc] at h ⊢
      exact ⟨h.1, h.2.1, hk _ h.2.2⟩
  · exact h.elim

theorem cm_sald_im : cm_Mon cm_sald := by
  intro E P t S k1 k2 h hk
  obtain ⟨pc, L, st, M⟩ := S
  unfold cm_sald at h ⊢
  dsimp only at h ⊢
  split at h
  · exact ⟨h.1, h.2.1, h.2.2.1, hk _ h.2.2.2⟩
  · exact h.elim

theorem cm_mmin_im : cm_Mon cm_mmin := by
  intro E P t S k1 k2 h hk
  obtain ⟨pc, L, st, M⟩ := S
  unfold cm_mmin at h ⊢
  dsimp only at h ⊢
  split at h <;> (first | exact h.elim | exact hk _ h | exact ⟨h.1, hk _ h.2⟩ | exact ⟨h.1, h.2.1, hk _ h.2.2⟩ | exact ⟨h.1, h.2.1, h.2.2.1, hk _ h.2.2.2⟩ | exact ⟨h.1, h.2.1, h.2.2.1, h.2.2.2.1, hk _ h.2.2.2.2⟩ | exact ⟨h.1, h.2.1, h.2.2.1, h.2.2.2.1, h.2.2.2.2.1, hk _ h.2.2.2.2.2⟩ | exact ⟨h.1, h.2.1, h.2.2.1, h.2.2.2.1, h.2.2.2.2.1, h.2.2.2.2.2.1, h.2.2.2.2.2.2.1, h.2.2.2.2.2.2.2.1, hk _ h.2.2.2.2.2.2.2.2⟩ | exact ⟨h.1, fun q => hk _ (h.2.1 q), fun q => hk _ (h.2.2 q)⟩ | exact ⟨h.1, h.2.1, h.2.2.1, fun q => hk _ (h.2.2.2.1 q), fun j o q1 q2 => hk _ (h.2.2.2.2 j o q1 q2)⟩ | exact ⟨hk _ h.1, hk _ h.2⟩)

theorem cm_ldc_im : cm_Mon cm_ldc := by
  intro E P t S k1 k2 h hk
  obtain ⟨pc, L, st, M⟩ := S
  unfold cm_ldc at h ⊢
  dsimp only at h ⊢
  first | exact h.elim | exact hk _ h | exact ⟨h.1, hk _ h.2⟩ | exact ⟨h.1, h.2.1, hk _ h.2.2⟩ | exact ⟨h.1, h.2.1, h.2.2.1, hk _ h.2.2.2⟩ | exact ⟨h.1, h.2.1, h.2.2.1, h.2.2.2.1, hk _ h.2.2.2.2⟩ | exact ⟨h.1, h.2.1, h.2.2.1, h.2.2.2.1, h.2.2.2.2.1, hk _ h.2.2.2.2.2⟩ | exact ⟨h.1, h.2.1, h.2.2.1, h.2.2.2.1, h.2.2.2.2.1, h.2.2.2.2.2.1, h.2.2.2.2.2.2.1, h.2.2.2.2.2.2.2.1, hk _ h.2.2.2.2.2.2.2.2⟩ | exact ⟨h.1, fun q => hk _ (h.2.1 q), fun q => hk _ (h.2.2 q)⟩ | exact ⟨h.1, h.2.1, h.2.2.1, fun q => hk _ (h.2.2.2.1 q), fun j o q1 q2 => hk _ (h.2.2.2.2 j o q1 q2)⟩ | exact ⟨hk _ h.1, hk _ h.2⟩

theorem cm_ldcS_im : cm_Mon cm_ldcS := by
  intro E P t S k1 k2 h hk
  obtain ⟨pc, L, st, M⟩ := S
  unfold cm_ldcS at h ⊢
  dsimp only at h ⊢
  first | exact h.elim | exact hk _ h | exact ⟨h.1, hk _ h.2⟩ | exact ⟨h.1, h.2.1, hk _ h.2.2⟩ | exact ⟨h.1, h.2.1, h.2.2.1, hk _ h.2.2.2⟩ | exact ⟨h.1, h.2.1, h.2.2.1, h.2.2.2.1, hk _ h.2.2.2.2⟩ | exact ⟨h.1, h.2.1, h.2.2.1, h.2.2.2.1, h.2.2.2.2.1, hk _ h.2.2.2.2.2⟩ | exact ⟨h.1, h.2.1, h.2.2.1, h.2.2.2.1, h.2.2.2.2.1, h.2.2.2.2.2.1, h.2.2.2.2.2.2.1, h.2.2.2.2.2.2.2.1, hk _ h.2.2.2.2.2.2.2.2⟩ | exact ⟨h.1, fun q => hk _ (h.2.1 q), fun q => hk _ (h.2.2 q)⟩ | exact ⟨h.1, h.2.1, h.2.2.1, fun q => hk _ (h.2.2.2.1 q), fun j o q1 q2 => hk _ (h.2.2.2.2 j o q1 q2)⟩ | exact ⟨hk _ h.1, hk _ h.2⟩

theorem cm_getV_im : cm_Mon cm_getV := by
  intro E P t S k1 k2 h hk
  obtain ⟨pc, L, st, M⟩ := S
  unfold cm_getV at h ⊢
  dsimp only at h ⊢
  split at h <;> (first | exact h.elim | exact hk _ h | exact ⟨h.1, hk _ h.2⟩ | exact ⟨h.1, h.2.1, hk _ h.2.2⟩ | exact ⟨h.1, h.2.1, h.2.2.1, hk _ h.2.2.2⟩ | exact ⟨h.1, h.2.1, h.2.2.1, h.2.2.2.1, hk _ h.2.2.2.2⟩ | exact ⟨h.1, h.2.1, h.2.2.1, h.2.2.2.1, h.2.2.2.2.1, hk _ h.2.2.2.2.2⟩ | exact ⟨h.1, h.2.1, h.2.2.1, h.2.2.2.1, h.2.2.2.2.1, h.2.2.2.2.2.1, h.2.2.2.2.2.2.1, h.2.2.2.2.2.2.2.1, hk _ h.2.2.2.2.2.2.2.2⟩ | exact ⟨h.1, fun q => hk _ (h.2.1 q), fun q => hk _ (h.2.2 q)⟩ | exact ⟨h.1, h.2.1, h.2.2.1, fun q => hk _ (h.2.2.2.1 q), fun j o q1 q2 => hk _ (h.2.2.2.2 j o q1 q2)⟩ | exact ⟨hk _ h.1, hk _ h.2⟩)

theorem cm_getC_im : cm_Mon cm_getC := by
  intro E P t S k1 k2 h hk
  obtain ⟨pc, L, st, M⟩ := S
  unfold cm_getC at h ⊢
  dsimp only at h ⊢
  split at h <;> (first | exact h.elim | exact hk _ h | exact ⟨h.1, hk _ h.2⟩ | exact ⟨h.1, h.2.1, hk _ h.2.2⟩ | exact ⟨h.1, h.2.1, h.2.2.1, hk _ h.2.2.2⟩ | exact ⟨h.1, h.2.1, h.2.2.1, h.2.2.2.1, hk _ h.2.2.2.2⟩ | exact ⟨h.1, h.2.1, h.2.2.1, h.2.2.2.1, h.2.2.2.2.1, hk _ h.2.2.2.2.2⟩ | exact ⟨h.1, h.2.1, h.2.2.1, h.2.2.2.1, h.2.2.2.2.1, h.2.2.2.2.2.1, h.2.2.2.2.2.2.1, h.2.2.2.2.2.2.2.1, hk _ h.2.2.2.2.2.2.2.2⟩ | exact ⟨h.1, fun q => hk _ (h.2.1 q), fun q => hk _ (h.2.2 q)⟩ | exact ⟨h.1, h.2.1, h.2.2.1, fun q => hk _ (h.2.2.2.1 q), fun j o q1 q2 => hk _ (h.2.2.2.2 j o q1 q2)⟩ | exact ⟨hk _ h.1, hk _ h.2⟩)

theorem cm_gets_im : cm_Mon cm_gets := by
  intro E P t S k1 k2 h hk
  obtain ⟨pc, L, st, M⟩ := S
  unfold cm_gets at h ⊢
  dsimp only at h ⊢
  first | exact h.elim | exact hk _ h | exact ⟨h.1, hk _ h.2⟩ | exact ⟨h.1, h.2.1, hk _ h.2.2⟩ | exact ⟨h.1, h.2.1, h.2.2.1, hk _ h.2.2.2⟩ | exact ⟨h.1, h.2.1, h.2.2.1, h.2.2.2.1, hk _ h.2.2.2.2⟩ | exact ⟨h.1, h.2.1, h.2.2.1, h.2.2.2.1, h.2.2.2.2.1, hk _ h.2.2.2.2.2⟩ | exact ⟨h.1, h.2.1, h.2.2.1, h.2.2.2.1, h.2.2.2.2.1, h.2.2.2.2.2.1, h.2.2.2.2.2.2.1, h.2.2.2.2.2.2.2.1, hk _ h.2.2.2.2.2.2.2.2⟩ | exact ⟨h.1, fun q => hk _ (h.2.1 q), fun q => hk _ (h.2.2 q)⟩ | exact ⟨h.1, h.2.1, h.2.2.1, fun q => hk _ (h.2.2.2.1 q), fun j o q1 q2 => hk _ (h.2.2.2.2 j o q1 q2)⟩ | exact ⟨hk _ h.1, hk _ h.2⟩

theorem cm_alenS_im : cm_Mon cm_alenS := by
  intro E P t S k1 k2 h hk
  obtain ⟨pc, L, st, M⟩ := S
  unfold cm_alenS at h ⊢
  dsimp only at h ⊢
  split at h
  · split at h
    · rename_i hz
      first | (first | exact h.elim | exact hk _ h | exact ⟨h.1, hk _ h.2⟩ | exact ⟨h.1, h.2.1, hk _ h.2.2⟩ | exact ⟨h.1, h.2.1, h.2.2.1, hk _ h.2.2.2⟩ | exact ⟨h.1, h.2.1, h.2.2.1, h.2.2.2.1, hk _ h.2.2.2.2⟩ | exact ⟨h.1, h.2.1, h.2.2.1, h.2.2.2.1, h.2.2.2.2.1, hk _ h.2.2.2.2.2⟩ | exact ⟨h.1, h.2.1, h.2.2.1, h.2.2.2.1, h.2.2.2.2.1, h.2.2.2.2.2.1, h.2.2.2.2.2.2.1, h.2.2.2.2.2.2.2.1, hk _ h.2.2.2.2.2.2.2.2⟩ | exact ⟨h.1, fun q => hk _ (h.2.1 q), fun q => hk _ (h.2.2 q)⟩ | exact ⟨h.1, h.2.1, h.2.2.1, fun q => hk _ (h.2.2.2.1 q), fun j o q1 q2 => hk _ (h.2.2.2.2 j o q1 q2)⟩ | exact ⟨hk _ h.1, hk _ h.2⟩) | (dsimp only; rw [hz]; first | exact h.elim | exact hk _ h | exact ⟨h.1, hk _ h.2⟩ | exact ⟨h.1, h.2.1, hk _ h.2.2⟩ | exact ⟨h.1, h.2.1, h.2.2.1, hk _ h.2.2.2⟩ | exact ⟨h.1, h.2.1, h.2.2.1, h.2.2.2.1, hk _ h.2.2.2.2⟩ | exact ⟨h.1, h.2.1, h.2.2.1, h.2.2.2.1, h.2.2.2.2.1, hk _ h.2.2.2.2.2⟩ | exact ⟨h.1, h.2.1, h.2.2.1, h.2.2.2.1, h.2.2.2.2.1, h.2.2.2.2.2.1, h.2.2.2.2.2.2.1, h.2.2.2.2.2.2.2.1, hk _ h.2.2.2.2.2.2.2.2⟩ | exact ⟨h.1, fun q => hk _ (h.2.1 q), fun q => hk _ (h.2.2 q)⟩ | exact ⟨h.1, h.2.1, h.2.2.1, fun q => hk _ (h.2.2.2.1 q), fun j o q1 q2 => hk _ (h.2.2.2.2 j o q1 q2)⟩ | exact ⟨hk _ h.1, hk _ h.2⟩)
    · exact h.elim
  · exact h.elim

theorem cm_baloadS_im : cm_Mon cm_baloadS := by
  intro E P t S k1 k2 h hk
  obtain ⟨pc, L, st, M⟩ := S
  unfold cm_baloadS at h ⊢
  dsimp only at h ⊢
  split at h
  · split at h
    · rename_i hz
      first | (first | exact h.elim | exact hk _ h | exact ⟨h.1, hk _ h.2⟩ | exact ⟨h.1, h.2.1, hk _ h.2.2⟩ | exact ⟨h.1, h.2.1, h.2.2.1, hk _ h.2.2.2⟩ | exact ⟨h.1, h.2.1, h.2.2.1, h.2.2.2.1, hk _ h.2.2.2.2⟩ | exact ⟨h.1, h.2.1, h.2.2.1, h.2.2.2.1, h.2.2.2.2.1, hk _ h.2.2.2.2.2⟩ | exact ⟨h.1, h.2.1, h.2.2.1, h.2.2.2.1, h.2.2.2.2.1, h.2.2.2.2.2.1, h.2.2.2.2.2.2.1, h.2.2.2.2.2.2.2.1, hk _ h.2.2.2.2.2.2.2.2⟩ | exact ⟨h.1, fun q => hk _ (h.2.1 q), fun q => hk _ (h.2.2 q)⟩ | exact ⟨h.1, h.2.1, h.2.2.1, fun q => hk _ (h.2.2.2.1 q), fun j o q1 q2 => hk _ (h.2.2.2.2 j o q1 q2)⟩ | exact ⟨hk _ h.1, hk _ h.2⟩) | (dsimp only; rw [hz]; first | exact h.elim | exact hk _ h | exact ⟨h.1, hk _ h.2⟩ | exact ⟨h.1, h.2.1, hk _ h.2.2⟩ | exact ⟨h.1, h.2.1, h.2.2.1, hk _ h.2.2.2⟩ | exact ⟨h.1, h.2.1, h.2.2.1, h.2.2.2.1, hk _ h.2.2.2.2⟩ | exact ⟨h.1, h.2.1, h.2.2.1, h.2.2.2.1, h.2.2.2.2.1, hk _ h.2.2.2.2.2⟩ | exact ⟨h.1, h.2.1, h.2.2.1, h.2.2.2.1, h.2.2.2.2.1, h.2.2.2.2.2.1, h.2.2.2.2.2.2.1, h.2.2.2.2.2.2.2.1, hk _ h.2.2.2.2.2.2.2.2⟩ | exact ⟨h.1, fun q => hk _ (h.2.1 q), fun q => hk _ (h.2.2 q)⟩ | exact ⟨h.1, h.2.1, h.2.2.1, fun q => hk _ (h.2.2.2.1 q), fun j o q1 q2 => hk _ (h.2.2.2.2 j o q1 q2)⟩ | exact ⟨hk _ h.1, hk _ h.2⟩)
    · exact h.elim
  · exact h.elim

theorem cm_i2c_im : cm_Mon cm_i2c := by
  intro E P t S k1 k2 h hk
  obtain ⟨pc, L, st, M⟩ := S
  unfold cm_i2c at h ⊢
  dsimp only at h ⊢
  split at h <;> (first | exact h.elim | exact hk _ h | exact ⟨h.1, hk _ h.2⟩ | exact ⟨h.1, h.2.1, hk _ h.2.2⟩ | exact ⟨h.1, h.2.1, h.2.2.1, hk _ h.2.2.2⟩ | exact ⟨h.1, h.2.1, h.2.2.1, h.2.2.2.1, hk _ h.2.2.2.2⟩ | exact ⟨h.1, h.2.1, h.2.2.1, h.2.2.2.1, h.2.2.2.2.1, hk _ h.2.2.2.2.2⟩ | exact ⟨h.1, h.2.1, h.2.2.1, h.2.2.2.1, h.2.2.2.2.1, h.2.2.2.2.2.1, h.2.2.2.2.2.2.1, h.2.2.2.2.2.2.2.1, hk _ h.2.2.2.2.2.2.2.2⟩ | exact ⟨h.1, fun q => hk _ (h.2.1 q), fun q => hk _ (h.2.2 q)⟩ | exact ⟨h.1, h.2.1, h.2.2.1, fun q => hk _ (h.2.2.2.1 q), fun j o q1 q2 => hk _ (h.2.2.2.2 j o q1 q2)⟩ | exact ⟨hk _ h.1, hk _ h.2⟩)

theorem cm_ladd_im : cm_Mon cm_ladd := by
  intro E P t S k1 k2 h hk
  obtain ⟨pc, L, st, M⟩ := S
  unfold cm_ladd at h ⊢
  dsimp only at h ⊢
  split at h <;> (first | exact h.elim | exact hk _ h | exact ⟨h.1, hk _ h.2⟩ | exact ⟨h.1, h.2.1, hk _ h.2.2⟩ | exact ⟨h.1, h.2.1, h.2.2.1, hk _ h.2.2.2⟩ | exact ⟨h.1, h.2.1, h.2.2.1, h.2.2.2.1, hk _ h.2.2.2.2⟩ | exact ⟨h.1, h.2.1, h.2.2.1, h.2.2.2.1, h.2.2.2.2.1, hk _ h.2.2.2.2.2⟩ | exact ⟨h.1, h.2.1, h.2.2.1, h.2.2.2.1, h.2.2.2.2.1, h.2.2.2.2.2.1, h.2.2.2.2.2.2.1, h.2.2.2.2.2.2.2.1, hk _ h.2.2.2.2.2.2.2.2⟩ | exact ⟨h.1, fun q => hk _ (h.2.1 q), fun q => hk _ (h.2.2 q)⟩ | exact ⟨h.1, h.2.1, h.2.2.1, fun q => hk _ (h.2.2.2.1 q), fun j o q1 q2 => hk _ (h.2.2.2.2 j o q1 q2)⟩ | exact ⟨hk _ h.1, hk _ h.2⟩)

theorem cm_lsub_im : cm_Mon cm_lsub := by
  intro E P t S k1 k2 h hk
  obtain ⟨pc, L, st, M⟩ := S
  unfold cm_lsub at h ⊢
  dsimp only at h ⊢
  split at h <;> (first | exact h.elim | exact hk _ h | exact ⟨h.1, hk _ h.2⟩ | exact ⟨h.1, h.2.1, hk _ h.2.2⟩ | exact ⟨h.1, h.2.1, h.2.2.1, hk _ h.2.2.2⟩ | exact ⟨h.1, h.2.1, h.2.2.1, h.2.2.2.1, hk _ h.2.2.2.2⟩ | exact ⟨h.1, h.2.1, h.2.2.1, h.2.2.2.1, h.2.2.2.2.1, hk _ h.2.2.2.2.2⟩ | exact ⟨h.1, h.2.1, h.2.2.1, h.2.2.2.1, h.2.2.2.2.1, h.2.2.2.2.2.1, h.2.2.2.2.2.2.1, h.2.2.2.2.2.2.2.1, hk _ h.2.2.2.2.2.2.2.2⟩ | exact ⟨h.1, fun q => hk _ (h.2.1 q), fun q => hk _ (h.2.2 q)⟩ | exact ⟨h.1, h.2.1, h.2.2.1, fun q => hk _ (h.2.2.2.1 q), fun j o q1 q2 => hk _ (h.2.2.2.2 j o q1 q2)⟩ | exact ⟨hk _ h.1, hk _ h.2⟩)

theorem cm_lmul_im : cm_Mon cm_lmul := by
  intro E P t S k1 k2 h hk
  obtain ⟨pc, L, st, M⟩ := S
  unfold cm_lmul at h ⊢
  dsimp only at h ⊢
  split at h <;> (first | exact h.elim | exact hk _ h | exact ⟨h.1, hk _ h.2⟩ | exact ⟨h.1, h.2.1, hk _ h.2.2⟩ | exact ⟨h.1, h.2.1, h.2.2.1, hk _ h.2.2.2⟩ | exact ⟨h.1, h.2.1, h.2.2.1, h.2.2.2.1, hk _ h.2.2.2.2⟩ | exact ⟨h.1, h.2.1, h.2.2.1, h.2.2.2.1, h.2.2.2.2.1, hk _ h.2.2.2.2.2⟩ | exact ⟨h.1, h.2.1, h.2.2.1, h.2.2.2.1, h.2.2.2.2.1, h.2.2.2.2.2.1, h.2.2.2.2.2.2.1, h.2.2.2.2.2.2.2.1, hk _ h.2.2.2.2.2.2.2.2⟩ | exact ⟨h.1, fun q => hk _ (h.2.1 q), fun q => hk _ (h.2.2 q)⟩ | exact ⟨h.1, h.2.1, h.2.2.1, fun q => hk _ (h.2.2.2.1 q), fun j o q1 q2 => hk _ (h.2.2.2.2 j o q1 q2)⟩ | exact ⟨hk _ h.1, hk _ h.2⟩)

theorem cm_ldiv_im : cm_Mon cm_ldiv := by
  intro E P t S k1 k2 h hk
  obtain ⟨pc, L, st, M⟩ := S
  unfold cm_ldiv at h ⊢
  dsimp only at h ⊢
  split at h <;> (first | exact h.elim | exact hk _ h | exact ⟨h.1, hk _ h.2⟩ | exact ⟨h.1, h.2.1, hk _ h.2.2⟩ | exact ⟨h.1, h.2.1, h.2.2.1, hk _ h.2.2.2⟩ | exact ⟨h.1, h.2.1, h.2.2.1, h.2.2.2.1, hk _ h.2.2.2.2⟩ | exact ⟨h.1, h.2.1, h.2.2.1, h.2.2.2.1, h.2.2.2.2.1, hk _ h.2.2.2.2.2⟩ | exact ⟨h.1, h.2.1, h.2.2.1, h.2.2.2.1, h.2.2.2.2.1, h.2.2.2.2.2.1, h.2.2.2.2.2.2.1, h.2.2.2.2.2.2.2.1, hk _ h.2.2.2.2.2.2.2.2⟩ | exact ⟨h.1, fun q => hk _ (h.2.1 q), fun q => hk _ (h.2.2 q)⟩ | exact ⟨h.1, h.2.1, h.2.2.1, fun q => hk _ (h.2.2.2.1 q), fun j o q1 q2 => hk _ (h.2.2.2.2 j o q1 q2)⟩ | exact ⟨hk _ h.1, hk _ h.2⟩)

theorem cm_lrem_im : cm_Mon cm_lrem := by
  intro E P t S k1 k2 h hk
  obtain ⟨pc, L, st, M⟩ := S
  unfold cm_lrem at h ⊢
  dsimp only at h ⊢
  split at h <;> (first | exact h.elim | exact hk _ h | exact ⟨h.1, hk _ h.2⟩ | exact ⟨h.1, h.2.1, hk _ h.2.2⟩ | exact ⟨h.1, h.2.1, h.2.2.1, hk _ h.2.2.2⟩ | exact ⟨h.1, h.2.1, h.2.2.1, h.2.2.2.1, hk _ h.2.2.2.2⟩ | exact ⟨h.1, h.2.1, h.2.2.1, h.2.2.2.1, h.2.2.2.2.1, hk _ h.2.2.2.2.2⟩ | exact ⟨h.1, h.2.1, h.2.2.1, h.2.2.2.1, h.2.2.2.2.1, h.2.2.2.2.2.1, h.2.2.2.2.2.2.1, h.2.2.2.2.2.2.2.1, hk _ h.2.2.2.2.2.2.2.2⟩ | exact ⟨h.1, fun q => hk _ (h.2.1 q), fun q => hk _ (h.2.2 q)⟩ | exact ⟨h.1, h.2.1, h.2.2.1, fun q => hk _ (h.2.2.2.1 q), fun j o q1 q2 => hk _ (h.2.2.2.2 j o q1 q2)⟩ | exact ⟨hk _ h.1, hk _ h.2⟩)

theorem cm_ldc2_im : cm_Mon cm_ldc2 := by
  intro E P t S k1 k2 h hk
  obtain ⟨pc, L, st, M⟩ := S
  unfold cm_ldc2 at h ⊢
  dsimp only at h ⊢
  first | exact h.elim | exact hk _ h | exact ⟨h.1, hk _ h.2⟩ | exact ⟨h.1, h.2.1, hk _ h.2.2⟩ | exact ⟨h.1, h.2.1, h.2.2.1, hk _ h.2.2.2⟩ | exact ⟨h.1, h.2.1, h.2.2.1, h.2.2.2.1, hk _ h.2.2.2.2⟩ | exact ⟨h.1, h.2.1, h.2.2.1, h.2.2.2.1, h.2.2.2.2.1, hk _ h.2.2.2.2.2⟩ | exact ⟨h.1, h.2.1, h.2.2.1, h.2.2.2.1, h.2.2.2.2.1, h.2.2.2.2.2.1, h.2.2.2.2.2.2.1, h.2.2.2.2.2.2.2.1, hk _ h.2.2.2.2.2.2.2.2⟩ | exact ⟨h.1, fun q => hk _ (h.2.1 q), fun q => hk _ (h.2.2 q)⟩ | exact ⟨h.1, h.2.1, h.2.2.1, fun q => hk _ (h.2.2.2.1 q), fun j o q1 q2 => hk _ (h.2.2.2.2 j o q1 q2)⟩ | exact ⟨hk _ h.1, hk _ h.2⟩

theorem cm_getsF_im : cm_Mon cm_getsF := by
  intro E P t S k1 k2 h hk
  obtain ⟨pc, L, st, M⟩ := S
  unfold cm_getsF at h ⊢
  dsimp only at h ⊢
  first | exact h.elim | exact hk _ h | exact ⟨h.1, hk _ h.2⟩ | exact ⟨h.1, h.2.1, hk _ h.2.2⟩ | exact ⟨h.1, h.2.1, h.2.2.1, hk _ h.2.2.2⟩ | exact ⟨h.1, h.2.1, h.2.2.1, h.2.2.2.1, hk _ h.2.2.2.2⟩ | exact ⟨h.1, h.2.1, h.2.2.1, h.2.2.2.1, h.2.2.2.2.1, hk _ h.2.2.2.2.2⟩ | exact ⟨h.1, h.2.1, h.2.2.1, h.2.2.2.1, h.2.2.2.2.1, h.2.2.2.2.2.1, h.2.2.2.2.2.2.1, h.2.2.2.2.2.2.2.1, hk _ h.2.2.2.2.2.2.2.2⟩ | exact ⟨h.1, fun q => hk _ (h.2.1 q), fun q => hk _ (h.2.2 q)⟩ | exact ⟨h.1, h.2.1, h.2.2.1, fun q => hk _ (h.2.2.2.1 q), fun j o q1 q2 => hk _ (h.2.2.2.2 j o q1 q2)⟩ | exact ⟨hk _ h.1, hk _ h.2⟩

theorem cm_ldcw_im : cm_Mon cm_ldcw := by
  intro E P t S k1 k2 h hk
  obtain ⟨pc, L, st, M⟩ := S
  unfold cm_ldcw at h ⊢
  dsimp only at h ⊢
  first | exact h.elim | exact hk _ h | exact ⟨h.1, hk _ h.2⟩ | exact ⟨h.1, h.2.1, hk _ h.2.2⟩ | exact ⟨h.1, h.2.1, h.2.2.1, hk _ h.2.2.2⟩ | exact ⟨h.1, h.2.1, h.2.2.1, h.2.2.2.1, hk _ h.2.2.2.2⟩ | exact ⟨h.1, h.2.1, h.2.2.1, h.2.2.2.1, h.2.2.2.2.1, hk _ h.2.2.2.2.2⟩ | exact ⟨h.1, h.2.1, h.2.2.1, h.2.2.2.1, h.2.2.2.2.1, h.2.2.2.2.2.1, h.2.2.2.2.2.2.1, h.2.2.2.2.2.2.2.1, hk _ h.2.2.2.2.2.2.2.2⟩ | exact ⟨h.1, fun q => hk _ (h.2.1 q), fun q => hk _ (h.2.2 q)⟩ | exact ⟨h.1, h.2.1, h.2.2.1, fun q => hk _ (h.2.2.2.1 q), fun j o q1 q2 => hk _ (h.2.2.2.2 j o q1 q2)⟩ | exact ⟨hk _ h.1, hk _ h.2⟩

theorem cm_mmax_im : cm_Mon cm_mmax := by
  intro E P t S k1 k2 h hk
  obtain ⟨pc, L, st, M⟩ := S
  unfold cm_mmax at h ⊢
  dsimp only at h ⊢
  split at h <;> (first | exact h.elim | exact hk _ h | exact ⟨h.1, hk _ h.2⟩ | exact ⟨h.1, h.2.1, hk _ h.2.2⟩ | exact ⟨h.1, h.2.1, h.2.2.1, hk _ h.2.2.2⟩ | exact ⟨h.1, h.2.1, h.2.2.1, h.2.2.2.1, hk _ h.2.2.2.2⟩ | exact ⟨h.1, h.2.1, h.2.2.1, h.2.2.2.1, h.2.2.2.2.1, hk _ h.2.2.2.2.2⟩ | exact ⟨h.1, h.2.1, h.2.2.1, h.2.2.2.1, h.2.2.2.2.1, h.2.2.2.2.2.1, h.2.2.2.2.2.2.1, h.2.2.2.2.2.2.2.1, hk _ h.2.2.2.2.2.2.2.2⟩ | exact ⟨h.1, fun q => hk _ (h.2.1 q), fun q => hk _ (h.2.2 q)⟩ | exact ⟨h.1, h.2.1, h.2.2.1, fun q => hk _ (h.2.2.2.1 q), fun j o q1 q2 => hk _ (h.2.2.2.2 j o q1 q2)⟩ | exact ⟨hk _ h.1, hk _ h.2⟩)

theorem cm_mabs_im : cm_Mon cm_mabs := by
  intro E P t S k1 k2 h hk
  obtain ⟨pc, L, st, M⟩ := S
  unfold cm_mabs at h ⊢
  dsimp only at h ⊢
  split at h <;> (first | exact h.elim | exact hk _ h | exact ⟨h.1, hk _ h.2⟩ | exact ⟨h.1, h.2.1, hk _ h.2.2⟩ | exact ⟨h.1, h.2.1, h.2.2.1, hk _ h.2.2.2⟩ | exact ⟨h.1, h.2.1, h.2.2.1, h.2.2.2.1, hk _ h.2.2.2.2⟩ | exact ⟨h.1, h.2.1, h.2.2.1, h.2.2.2.1, h.2.2.2.2.1, hk _ h.2.2.2.2.2⟩ | exact ⟨h.1, h.2.1, h.2.2.1, h.2.2.2.1, h.2.2.2.2.1, h.2.2.2.2.2.1, h.2.2.2.2.2.2.1, h.2.2.2.2.2.2.2.1, hk _ h.2.2.2.2.2.2.2.2⟩ | exact ⟨h.1, fun q => hk _ (h.2.1 q), fun q => hk _ (h.2.2 q)⟩ | exact ⟨h.1, h.2.1, h.2.2.1, fun q => hk _ (h.2.2.2.1 q), fun j o q1 q2 => hk _ (h.2.2.2.2 j o q1 q2)⟩ | exact ⟨hk _ h.1, hk _ h.2⟩)

theorem cm_copyi_im : cm_Mon cm_copyi := by
  intro E P t S k1 k2 h hk
  obtain ⟨pc, L, st, M⟩ := S
  unfold cm_copyi at h ⊢
  dsimp only at h ⊢
  split at h <;> (first | exact h.elim | exact hk _ h | exact ⟨h.1, hk _ h.2⟩ | exact ⟨h.1, h.2.1, hk _ h.2.2⟩ | exact ⟨h.1, h.2.1, h.2.2.1, hk _ h.2.2.2⟩ | exact ⟨h.1, h.2.1, h.2.2.1, h.2.2.2.1, hk _ h.2.2.2.2⟩ | exact ⟨h.1, h.2.1, h.2.2.1, h.2.2.2.1, h.2.2.2.2.1, hk _ h.2.2.2.2.2⟩ | exact ⟨h.1, h.2.1, h.2.2.1, h.2.2.2.1, h.2.2.2.2.1, h.2.2.2.2.2.1, h.2.2.2.2.2.2.1, h.2.2.2.2.2.2.2.1, hk _ h.2.2.2.2.2.2.2.2⟩ | exact ⟨h.1, fun q => hk _ (h.2.1 q), fun q => hk _ (h.2.2 q)⟩ | exact ⟨h.1, h.2.1, h.2.2.1, fun q => hk _ (h.2.2.2.1 q), fun j o q1 q2 => hk _ (h.2.2.2.2 j o q1 q2)⟩ | exact ⟨hk _ h.1, hk _ h.2⟩)

theorem cm_getT_im : cm_Mon cm_getT := by
  intro E P t S k1 k2 h hk
  obtain ⟨pc, L, st, M⟩ := S
  unfold cm_getT at h ⊢
  dsimp only at h ⊢
  first | exact h.elim | exact hk _ h | exact ⟨h.1, hk _ h.2⟩ | exact ⟨h.1, h.2.1, hk _ h.2.2⟩ | exact ⟨h.1, h.2.1, h.2.2.1, hk _ h.2.2.2⟩ | exact ⟨h.1, h.2.1, h.2.2.1, h.2.2.2.1, hk _ h.2.2.2.2⟩ | exact ⟨h.1, h.2.1, h.2.2.1, h.2.2.2.1, h.2.2.2.2.1, hk _ h.2.2.2.2.2⟩ | exact ⟨h.1, h.2.1, h.2.2.1, h.2.2.2.1, h.2.2.2.2.1, h.2.2.2.2.2.1, h.2.2.2.2.2.2.1, h.2.2.2.2.2.2.2.1, hk _ h.2.2.2.2.2.2.2.2⟩ | exact ⟨h.1, fun q => hk _ (h.2.1 q), fun q => hk _ (h.2.2 q)⟩ | exact ⟨h.1, h.2.1, h.2.2.1, fun q => hk _ (h.2.2.2.1 q), fun j o q1 q2 => hk _ (h.2.2.2.2 j o q1 q2)⟩ | exact ⟨hk _ h.1, hk _ h.2⟩

theorem cm_tald_im : cm_Mon cm_tald := by
  intro E P t S k1 k2 h hk
  obtain ⟨pc, L, st, M⟩ := S
  unfold cm_tald at h ⊢
  dsimp only at h ⊢
  split at h <;> (first | exact h.elim | exact hk _ h | exact ⟨h.1, hk _ h.2⟩ | exact ⟨h.1, h.2.1, hk _ h.2.2⟩ | exact ⟨h.1, h.2.1, h.2.2.1, hk _ h.2.2.2⟩ | exact ⟨h.1, h.2.1, h.2.2.1, h.2.2.2.1, hk _ h.2.2.2.2⟩ | exact ⟨h.1, h.2.1, h.2.2.1, h.2.2.2.1, h.2.2.2.2.1, hk _ h.2.2.2.2.2⟩ | exact ⟨h.1, h.2.1, h.2.2.1, h.2.2.2.1, h.2.2.2.2.1, h.2.2.2.2.2.1, h.2.2.2.2.2.2.1, h.2.2.2.2.2.2.2.1, hk _ h.2.2.2.2.2.2.2.2⟩ | exact ⟨h.1, fun q => hk _ (h.2.1 q), fun q => hk _ (h.2.2 q)⟩ | exact ⟨h.1, h.2.1, h.2.2.1, fun q => hk _ (h.2.2.2.1 q), fun j o q1 q2 => hk _ (h.2.2.2.2 j o q1 q2)⟩ | exact ⟨hk _ h.1, hk _ h.2⟩)

theorem cm_alenT_im : cm_Mon cm_alenT := by
  intro E P t S k1 k2 h hk
  obtain ⟨pc, L, st, M⟩ := S
  unfold cm_alenT at h ⊢
  dsimp only at h ⊢
  split at h <;> (first | exact h.elim | exact hk _ h | exact ⟨h.1, hk _ h.2⟩ | exact ⟨h.1, h.2.1, hk _ h.2.2⟩ | exact ⟨h.1, h.2.1, h.2.2.1, hk _ h.2.2.2⟩ | exact ⟨h.1, h.2.1, h.2.2.1, h.2.2.2.1, hk _ h.2.2.2.2⟩ | exact ⟨h.1, h.2.1, h.2.2.1, h.2.2.2.1, h.2.2.2.2.1, hk _ h.2.2.2.2.2⟩ | exact ⟨h.1, h.2.1, h.2.2.1, h.2.2.2.1, h.2.2.2.2.1, h.2.2.2.2.2.1, h.2.2.2.2.2.2.1, h.2.2.2.2.2.2.2.1, hk _ h.2.2.2.2.2.2.2.2⟩ | exact ⟨h.1, fun q => hk _ (h.2.1 q), fun q => hk _ (h.2.2 q)⟩ | exact ⟨h.1, h.2.1, h.2.2.1, fun q => hk _ (h.2.2.2.1 q), fun j o q1 q2 => hk _ (h.2.2.2.2 j o q1 q2)⟩ | exact ⟨hk _ h.1, hk _ h.2⟩)

theorem cm_lastore_im : cm_Mon cm_lastore := by
  intro E P t S k1 k2 h hk
  obtain ⟨pc, L, st, M⟩ := S
  unfold cm_lastore at h ⊢
  dsimp only at h ⊢
  split at h <;> (first | exact h.elim | exact hk _ h | exact ⟨h.1, hk _ h.2⟩ | exact ⟨h.1, h.2.1, hk _ h.2.2⟩ | exact ⟨h.1, h.2.1, h.2.2.1, hk _ h.2.2.2⟩ | exact ⟨h.1, h.2.1, h.2.2.1, h.2.2.2.1, hk _ h.2.2.2.2⟩ | exact ⟨h.1, h.2.1, h.2.2.1, h.2.2.2.1, h.2.2.2.2.1, hk _ h.2.2.2.2.2⟩ | exact ⟨h.1, h.2.1, h.2.2.1, h.2.2.2.1, h.2.2.2.2.1, h.2.2.2.2.2.1, h.2.2.2.2.2.2.1, h.2.2.2.2.2.2.2.1, hk _ h.2.2.2.2.2.2.2.2⟩ | exact ⟨h.1, fun q => hk _ (h.2.1 q), fun q => hk _ (h.2.2 q)⟩ | exact ⟨h.1, h.2.1, h.2.2.1, fun q => hk _ (h.2.2.2.1 q), fun j o q1 q2 => hk _ (h.2.2.2.2 j o q1 q2)⟩ | exact ⟨hk _ h.1, hk _ h.2⟩)

theorem cm_pop2_im : cm_Mon cm_pop2 := by
  intro E P t S k1 k2 h hk
  obtain ⟨pc, L, st, M⟩ := S
  unfold cm_pop2 at h ⊢
  dsimp only at h ⊢
  split at h <;> (first | exact h.elim | exact hk _ h | exact ⟨h.1, hk _ h.2⟩ | exact ⟨h.1, h.2.1, hk _ h.2.2⟩ | exact ⟨h.1, h.2.1, h.2.2.1, hk _ h.2.2.2⟩ | exact ⟨h.1, h.2.1, h.2.2.1, h.2.2.2.1, hk _ h.2.2.2.2⟩ | exact ⟨h.1, h.2.1, h.2.2.1, h.2.2.2.1, h.2.2.2.2.1, hk _ h.2.2.2.2.2⟩ | exact ⟨h.1, h.2.1, h.2.2.1, h.2.2.2.1, h.2.2.2.2.1, h.2.2.2.2.2.1, h.2.2.2.2.2.2.1, h.2.2.2.2.2.2.2.1, hk _ h.2.2.2.2.2.2.2.2⟩ | exact ⟨h.1, fun q => hk _ (h.2.1 q), fun q => hk _ (h.2.2 q)⟩ | exact ⟨h.1, h.2.1, h.2.2.1, fun q => hk _ (h.2.2.2.1 q), fun j o q1 q2 => hk _ (h.2.2.2.2 j o q1 q2)⟩ | exact ⟨hk _ h.1, hk _ h.2⟩)

theorem cm_d1 {o : cm_O} {l : List cm_O} (h : cm_Mon o) (h2 : ∀ o ∈ l, cm_Mon o) : ∀ o' ∈ o :: l, cm_Mon o' := List.forall_mem_cons.mpr ⟨h, h2⟩
theorem cm_ops_im : ∀ o ∈ cm_ops, cm_Mon o := cm_d1 cm_iconst_im (cm_d1 cm_bipush_im (cm_d1 cm_sipush_im (cm_d1 cm_lconst_im (cm_d1 cm_iload_im (cm_d1 cm_iloadn_im (cm_d1 cm_lload_im (cm_d1 cm_lloadn_im (cm_d1 cm_aload_im (cm_d1 cm_aloadn_im (cm_d1 cm_istore_im (cm_d1 cm_istoren_im (cm_d1 cm_lstore_im (cm_d1 cm_lstoren_im (cm_d1 cm_astore_im (cm_d1 cm_astoren_im (cm_d1 cm_iadd_im (cm_d1 cm_isub_im (cm_d1 cm_imul_im (cm_d1 cm_iand_im (cm_d1 cm_ior_im (cm_d1 cm_ixor_im (cm_d1 cm_ishl_im (cm_d1 cm_ishr_im (cm_d1 cm_iushr_im (cm_d1 cm_idiv_im (cm_d1 cm_irem_im (cm_d1 cm_ineg_im (cm_d1 cm_i2b_im (cm_d1 cm_i2l_im (cm_d1 cm_lcmp_im (cm_d1 cm_dup_im (cm_d1 cm_pop_im (cm_d1 cm_dup2_im (cm_d1 cm_iinc_im (cm_d1 cm_icmp_eq_im (cm_d1 cm_icmp_ne_im (cm_d1 cm_icmp_lt_im (cm_d1 cm_icmp_ge_im (cm_d1 cm_icmp_gt_im (cm_d1 cm_icmp_le_im (cm_d1 cm_if_eq_im (cm_d1 cm_if_ne_im (cm_d1 cm_if_lt_im (cm_d1 cm_if_ge_im (cm_d1 cm_if_gt_im (cm_d1 cm_if_le_im (cm_d1 cm_goto_im (cm_d1 cm_sw_im (cm_d1 cm_get_im (cm_d1 cm_put_im (cm_d1 cm_no_im (cm_d1 cm_iaload_im (cm_d1 cm_baload_im (cm_d1 cm_laload_im (cm_d1 cm_aaload_im (cm_d1 cm_iastore_im (cm_d1 cm_bastore_im (cm_d1 cm_no_im (cm_d1 cm_no_im (cm_d1 cm_no_im (cm_d1 cm_no_im (cm_d1 cm_no_im (cm_d1 cm_no_im (cm_d1 cm_alen_im (cm_d1 cm_sald_im (cm_d1 cm_no_im (cm_d1 cm_mmin_im (cm_d1 cm_ldc_im (cm_d1 cm_ldcS_im (cm_d1 cm_getV_im (cm_d1 cm_getC_im (cm_d1 cm_gets_im (cm_d1 cm_alenS_im (cm_d1 cm_baloadS_im (cm_d1 cm_i2c_im (cm_d1 cm_ladd_im (cm_d1 cm_lsub_im (cm_d1 cm_lmul_im (cm_d1 cm_ldiv_im (cm_d1 cm_lrem_im (cm_d1 cm_ldc2_im (cm_d1 cm_getsF_im (cm_d1 cm_ldcw_im (cm_d1 cm_mmax_im (cm_d1 cm_mabs_im (cm_d1 cm_copyi_im (cm_d1 cm_getT_im (cm_d1 cm_tald_im (cm_d1 cm_alenT_im (cm_d1 cm_lastore_im (cm_d1 cm_pop2_im (fun _ h => absurd h List.not_mem_nil))))))))))))))))))))))))))))))))))))))))))))))))))))))))))))))))))))))))))))))))))))))))))))
