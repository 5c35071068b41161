/-! CM: the next state as a function, without side conditions -/
abbrev cm_F1 : Type := cm_E → ev_P → ev_T → cm_S → Option cm_S
def cx_no : cm_F1 := fun _ _ _ _ => none
def cx_ld (ty : Nat) (n i : Nat) (S : cm_S) : Option cm_S := match ty, cm_look S.2.1 i with
  | 0, some (.int x) => some (cm_adv S n (.int x :: S.2.2.1))
  | 1, some (.long x) => some (cm_adv S n (.long x :: S.2.2.1))
  | 2, some (.ref x) => some (cm_adv S n (.ref x :: S.2.2.1))
  | _, _ => none
def cx_sto (ty : Nat) (n i : Nat) (S : cm_S) : Option cm_S := match ty, S.2.2.1 with
  | 0, .int x :: st => some (S.1 + n, cm_st1 S.2.1 i (.int x), st, S.2.2.2)
  | 1, .long x :: st => some (S.1 + n, cm_st2 S.2.1 i (.long x), st, S.2.2.2)
  | 2, .ref x :: st => some (S.1 + n, cm_st1 S.2.1 i (.ref x), st, S.2.2.2)
  | _, _ => none
/-- one way on (or two), and that the function knows it -/
def cm_Dt (o : cm_O) (x : cm_F1) : Prop := ∀ (E : cm_E) (P : ev_P) (t : ev_T) (S : cm_S) (k : cm_S → Prop), o.2 E P t S k → ∃ S1 S2, k S1 ∧ k S2 ∧ (∀ k' : cm_S → Prop, k' S1 → k' S2 → o.2 E P t S k') ∧ ∀ S0, x E P t S = some S0 → S0 = S1 ∧ S0 = S2
theorem cd_no : cm_Dt cm_no cx_no := fun E P t S k h => h.elim
theorem cd_ld {ty n i : Nat} {S : cm_S} {k : cm_S → Prop} (h : cm_ld ty n i S k) : ∃ S1, cx_ld ty n i S = some S1 ∧ k S1 ∧ ∀ k' : cm_S → Prop, k' S1 → cm_ld ty n i S k' := by
  unfold cm_ld at h
  split at h
  · rename_i x hx
    exact ⟨_, by unfold cx_ld; rw [hx]; rfl, h, fun k' h1 => by unfold cm_ld; rw [hx]; exact h1⟩
  · rename_i x hx
    exact ⟨_, by unfold cx_ld; rw [hx]; rfl, h, fun k' h1 => by unfold cm_ld; rw [hx]; exact h1⟩
  · rename_i x hx
    exact ⟨_, by unfold cx_ld; rw [hx]; rfl, h, fun k' h1 => by unfold cm_ld; rw [hx]; exact h1⟩
  · exact h.elim
theorem cd_sto {ty n i nL : Nat} {S : cm_S} {k : cm_S → Prop} (h : cm_sto ty n i nL S k) : ∃ S1, cx_sto ty n i S = some S1 ∧ k S1 ∧ ∀ k' : cm_S → Prop, k' S1 → cm_sto ty n i nL S k' := by
  obtain ⟨pc, L, st, M⟩ := S
  unfold cm_sto at h
  dsimp only at h
  split at h
  · exact ⟨_, rfl, h.2, fun k' h1 => ⟨h.1, h1⟩⟩
  · exact ⟨_, rfl, h.2, fun k' h1 => ⟨h.1, h1⟩⟩
  · exact ⟨_, rfl, h.2, fun k' h1 => ⟨h.1, h1⟩⟩
  · exact h.elim
theorem cd_stos {ty n i nL : Nat} {S : cm_S} {k : cm_S → Prop} (h : cm_sto ty n i nL S k) : ∃ S1 S2, k S1 ∧ k S2 ∧ (∀ k' : cm_S → Prop, k' S1 → k' S2 → cm_sto ty n i nL S k') ∧ ∀ S0, cx_sto ty n i S = some S0 → S0 = S1 ∧ S0 = S2 := by
  obtain ⟨S1, e1, e2, e3⟩ := cd_sto h
  refine ⟨S1, S1, e2, e2, fun k' h1 _ => e3 k' h1, fun S0 e => ?_⟩
  cases e1.symm.trans e
  exact ⟨rfl, rfl⟩
theorem cd_lds {ty n i : Nat} {S : cm_S} {k : cm_S → Prop} (h : cm_ld ty n i S k) : ∃ S1 S2, k S1 ∧ k S2 ∧ (∀ k' : cm_S → Prop, k' S1 → k' S2 → cm_ld ty n i S k') ∧ ∀ S0, cx_ld ty n i S = some S0 → S0 = S1 ∧ S0 = S2 := by
  obtain ⟨S1, e1, e2, e3⟩ := cd_ld h
  refine ⟨S1, S1, e2, e2, fun k' h1 _ => e3 k' h1, fun S0 e => ?_⟩
  cases e1.symm.trans e
  exact ⟨rfl, rfl⟩
def cx_iconst : cm_F1 := fun E P t S => some (cm_adv S 1 (.int (Int32.ofInt t.1) :: S.2.2.1))
theorem cd_iconst : cm_Dt cm_iconst cx_iconst := by
  intro E P t S k h
  obtain ⟨pc, L, st, M⟩ := S
  unfold cm_iconst at h ⊢
  dsimp only at h ⊢
  first | exact h.elim | exact ⟨_, _, h, h, fun k' h1 _ => h1, fun S0 e => by have e : some _ = some S0 := e; cases e; exact ⟨rfl, rfl⟩⟩ | exact ⟨_, _, h.2, h.2, fun k' h1 _ => ⟨h.1, h1⟩, fun S0 e => by have e : some _ = some S0 := e; cases e; exact ⟨rfl, rfl⟩⟩ | exact ⟨_, _, h.2.2, h.2.2, fun k' h1 _ => ⟨h.1, h.2.1, h1⟩, fun S0 e => by have e : some _ = some S0 := e; cases e; exact ⟨rfl, rfl⟩⟩ | exact ⟨_, _, h.2.2.2, h.2.2.2, fun k' h1 _ => ⟨h.1, h.2.1, h.2.2.1, h1⟩, fun S0 e => by have e : some _ = some S0 := e; cases e; exact ⟨rfl, rfl⟩⟩ | exact ⟨_, _, h.2.2.2.2, h.2.2.2.2, fun k' h1 _ => ⟨h.1, h.2.1, h.2.2.1, h.2.2.2.1, h1⟩, fun S0 e => by have e : some _ = some S0 := e; cases e; exact ⟨rfl, rfl⟩⟩ | exact ⟨_, _, h.2.2.2.2.2, h.2.2.2.2.2, fun k' h1 _ => ⟨h.1, h.2.1, h.2.2.1, h.2.2.2.1, h.2.2.2.2.1, h1⟩, fun S0 e => by have e : some _ = some S0 := e; cases e; exact ⟨rfl, rfl⟩⟩ | exact ⟨_, _, h.2.2.2.2.2.2, h.2.2.2.2.2.2, fun k' h1 _ => ⟨h.1, h.2.1, h.2.2.1, h.2.2.2.1, h.2.2.2.2.1, h.2.2.2.2.2.1, h1⟩, fun S0 e => by have e : some _ = some S0 := e; cases e; exact ⟨rfl, rfl⟩⟩ | exact ⟨_, _, h.2.2.2.2.2.2.2, h.2.2.2.2.2.2.2, fun k' h1 _ => ⟨h.1, h.2.1, h.2.2.1, h.2.2.2.1, h.2.2.2.2.1, h.2.2.2.2.2.1, h.2.2.2.2.2.2.1, h1⟩, fun S0 e => by have e : some _ = some S0 := e; cases e; exact ⟨rfl, rfl⟩⟩ | exact ⟨_, _, h.2.2.2.2.2.2.2.2, h.2.2.2.2.2.2.2.2, fun k' h1 _ => ⟨h.1, h.2.1, h.2.2.1, h.2.2.2.1, h.2.2.2.2.1, h.2.2.2.2.2.1, h.2.2.2.2.2.2.1, h.2.2.2.2.2.2.2.1, h1⟩, fun S0 e => by have e : some _ = some S0 := e; cases e; exact ⟨rfl, rfl⟩⟩ | exact ⟨_, _, h.2.2.2.2.2.2.2.2.2, h.2.2.2.2.2.2.2.2.2, fun k' h1 _ => ⟨h.1, h.2.1, h.2.2.1, h.2.2.2.1, h.2.2.2.2.1, h.2.2.2.2.2.1, h.2.2.2.2.2.2.1, h.2.2.2.2.2.2.2.1, h.2.2.2.2.2.2.2.2.1, h1⟩, fun S0 e => by have e : some _ = some S0 := e; cases e; exact ⟨rfl, rfl⟩⟩
def cx_bipush : cm_F1 := fun E P t S => some (cm_adv S 2 (.int ((Int8.ofInt t.1).toInt32) :: S.2.2.1))
theorem cd_bipush : cm_Dt cm_bipush cx_bipush := by
  intro E P t S k h
  obtain ⟨pc, L, st, M⟩ := S
  unfold cm_bipush at h ⊢
  dsimp only at h ⊢
  first | exact h.elim | exact ⟨_, _, h, h, fun k' h1 _ => h1, fun S0 e => by have e : some _ = some S0 := e; cases e; exact ⟨rfl, rfl⟩⟩ | exact ⟨_, _, h.2, h.2, fun k' h1 _ => ⟨h.1, h1⟩, fun S0 e => by have e : some _ = some S0 := e; cases e; exact ⟨rfl, rfl⟩⟩ | exact ⟨_, _, h.2.2, h.2.2, fun k' h1 _ => ⟨h.1, h.2.1, h1⟩, fun S0 e => by have e : some _ = some S0 := e; cases e; exact ⟨rfl, rfl⟩⟩ | exact ⟨_, _, h.2.2.2, h.2.2.2, fun k' h1 _ => ⟨h.1, h.2.1, h.2.2.1, h1⟩, fun S0 e => by have e : some _ = some S0 := e; cases e; exact ⟨rfl, rfl⟩⟩ | exact ⟨_, _, h.2.2.2.2, h.2.2.2.2, fun k' h1 _ => ⟨h.1, h.2.1, h.2.2.1, h.2.2.2.1, h1⟩, fun S0 e => by have e : some _ = some S0 := e; cases e; exact ⟨rfl, rfl⟩⟩ | exact ⟨_, _, h.2.2.2.2.2, h.2.2.2.2.2, fun k' h1 _ => ⟨h.1, h.2.1, h.2.2.1, h.2.2.2.1, h.2.2.2.2.1, h1⟩, fun S0 e => by have e : some _ = some S0 := e; cases e; exact ⟨rfl, rfl⟩⟩ | exact ⟨_, _, h.2.2.2.2.2.2, h.2.2.2.2.2.2, fun k' h1 _ => ⟨h.1, h.2.1, h.2.2.1, h.2.2.2.1, h.2.2.2.2.1, h.2.2.2.2.2.1, h1⟩, fun S0 e => by have e : some _ = some S0 := e; cases e; exact ⟨rfl, rfl⟩⟩ | exact ⟨_, _, h.2.2.2.2.2.2.2, h.2.2.2.2.2.2.2, fun k' h1 _ => ⟨h.1, h.2.1, h.2.2.1, h.2.2.2.1, h.2.2.2.2.1, h.2.2.2.2.2.1, h.2.2.2.2.2.2.1, h1⟩, fun S0 e => by have e : some _ = some S0 := e; cases e; exact ⟨rfl, rfl⟩⟩ | exact ⟨_, _, h.2.2.2.2.2.2.2.2, h.2.2.2.2.2.2.2.2, fun k' h1 _ => ⟨h.1, h.2.1, h.2.2.1, h.2.2.2.1, h.2.2.2.2.1, h.2.2.2.2.2.1, h.2.2.2.2.2.2.1, h.2.2.2.2.2.2.2.1, h1⟩, fun S0 e => by have e : some _ = some S0 := e; cases e; exact ⟨rfl, rfl⟩⟩ | exact ⟨_, _, h.2.2.2.2.2.2.2.2.2, h.2.2.2.2.2.2.2.2.2, fun k' h1 _ => ⟨h.1, h.2.1, h.2.2.1, h.2.2.2.1, h.2.2.2.2.1, h.2.2.2.2.2.1, h.2.2.2.2.2.2.1, h.2.2.2.2.2.2.2.1, h.2.2.2.2.2.2.2.2.1, h1⟩, fun S0 e => by have e : some _ = some S0 := e; cases e; exact ⟨rfl, rfl⟩⟩
def cx_sipush : cm_F1 := fun E P t S => some (cm_adv S 3 (.int ((Int16.ofInt t.1).toInt32) :: S.2.2.1))
theorem cd_sipush : cm_Dt cm_sipush cx_sipush := by
  intro E P t S k h
  obtain ⟨pc, L, st, M⟩ := S
  unfold cm_sipush at h ⊢
  dsimp only at h ⊢
  first | exact h.elim | exact ⟨_, _, h, h, fun k' h1 _ => h1, fun S0 e => by have e : some _ = some S0 := e; cases e; exact ⟨rfl, rfl⟩⟩ | exact ⟨_, _, h.2, h.2, fun k' h1 _ => ⟨h.1, h1⟩, fun S0 e => by have e : some _ = some S0 := e; cases e; exact ⟨rfl, rfl⟩⟩ | exact ⟨_, _, h.2.2, h.2.2, fun k' h1 _ => ⟨h.1, h.2.1, h1⟩, fun S0 e => by have e : some _ = some S0 := e; cases e; exact ⟨rfl, rfl⟩⟩ | exact ⟨_, _, h.2.2.2, h.2.2.2, fun k' h1 _ => ⟨h.1, h.2.1, h.2.2.1, h1⟩, fun S0 e => by have e : some _ = some S0 := e; cases e; exact ⟨rfl, rfl⟩⟩ | exact ⟨_, _, h.2.2.2.2, h.2.2.2.2, fun k' h1 _ => ⟨h.1, h.2.1, h.2.2.1, h.2.2.2.1, h1⟩, fun S0 e => by have e : some _ = some S0 := e; cases e; exact ⟨rfl, rfl⟩⟩ | exact ⟨_, _, h.2.2.2.2.2, h.2.2.2.2.2, fun k' h1 _ => ⟨h.1, h.2.1, h.2.2.1, h.2.2.2.1, h.2.2.2.2.1, h1⟩, fun S0 e => by have e : some _ = some S0 := e; cases e; exact ⟨rfl, rfl⟩⟩ | exact ⟨_, _, h.2.2.2.2.2.2, h.2.2.2.2.2.2, fun k' h1 _ => ⟨h.1, h.2.1, h.2.2.1, h.2.2.2.1, h.2.2.2.2.1, h.2.2.2.2.2.1, h1⟩, fun S0 e => by have e : some _ = some S0 := e; cases e; exact ⟨rfl, rfl⟩⟩ | exact ⟨_, _, h.2.2.2.2.2.2.2, h.2.2.2.2.2.2.2, fun k' h1 _ => ⟨h.1, h.2.1, h.2.2.1, h.2.2.2.1, h.2.2.2.2.1, h.2.2.2.2.2.1, h.2.2.2.2.2.2.1, h1⟩, fun S0 e => by have e : some _ = some S0 := e; cases e; exact ⟨rfl, rfl⟩⟩ | exact ⟨_, _, h.2.2.2.2.2.2.2.2, h.2.2.2.2.2.2.2.2, fun k' h1 _ => ⟨h.1, h.2.1, h.2.2.1, h.2.2.2.1, h.2.2.2.2.1, h.2.2.2.2.2.1, h.2.2.2.2.2.2.1, h.2.2.2.2.2.2.2.1, h1⟩, fun S0 e => by have e : some _ = some S0 := e; cases e; exact ⟨rfl, rfl⟩⟩ | exact ⟨_, _, h.2.2.2.2.2.2.2.2.2, h.2.2.2.2.2.2.2.2.2, fun k' h1 _ => ⟨h.1, h.2.1, h.2.2.1, h.2.2.2.1, h.2.2.2.2.1, h.2.2.2.2.2.1, h.2.2.2.2.2.2.1, h.2.2.2.2.2.2.2.1, h.2.2.2.2.2.2.2.2.1, h1⟩, fun S0 e => by have e : some _ = some S0 := e; cases e; exact ⟨rfl, rfl⟩⟩
def cx_lconst : cm_F1 := fun E P t S => some (cm_adv S 1 (.long (Int64.ofNat t.1.toNat) :: S.2.2.1))
theorem cd_lconst : cm_Dt cm_lconst cx_lconst := by
  intro E P t S k h
  obtain ⟨pc, L, st, M⟩ := S
  unfold cm_lconst at h ⊢
  dsimp only at h ⊢
  first | exact h.elim | exact ⟨_, _, h, h, fun k' h1 _ => h1, fun S0 e => by have e : some _ = some S0 := e; cases e; exact ⟨rfl, rfl⟩⟩ | exact ⟨_, _, h.2, h.2, fun k' h1 _ => ⟨h.1, h1⟩, fun S0 e => by have e : some _ = some S0 := e; cases e; exact ⟨rfl, rfl⟩⟩ | exact ⟨_, _, h.2.2, h.2.2, fun k' h1 _ => ⟨h.1, h.2.1, h1⟩, fun S0 e => by have e : some _ = some S0 := e; cases e; exact ⟨rfl, rfl⟩⟩ | exact ⟨_, _, h.2.2.2, h.2.2.2, fun k' h1 _ => ⟨h.1, h.2.1, h.2.2.1, h1⟩, fun S0 e => by have e : some _ = some S0 := e; cases e; exact ⟨rfl, rfl⟩⟩ | exact ⟨_, _, h.2.2.2.2, h.2.2.2.2, fun k' h1 _ => ⟨h.1, h.2.1, h.2.2.1, h.2.2.2.1, h1⟩, fun S0 e => by have e : some _ = some S0 := e; cases e; exact ⟨rfl, rfl⟩⟩ | exact ⟨_, _, h.2.2.2.2.2, h.2.2.2.2.2, fun k' h1 _ => ⟨h.1, h.2.1, h.2.2.1, h.2.2.2.1, h.2.2.2.2.1, h1⟩, fun S0 e => by have e : some _ = some S0 := e; cases e; exact ⟨rfl, rfl⟩⟩ | exact ⟨_, _, h.2.2.2.2.2.2, h.2.2.2.2.2.2, fun k' h1 _ => ⟨h.1, h.2.1, h.2.2.1, h.2.2.2.1, h.2.2.2.2.1, h.2.2.2.2.2.1, h1⟩, fun S0 e => by have e : some _ = some S0 := e; cases e; exact ⟨rfl, rfl⟩⟩ | exact ⟨_, _, h.2.2.2.2.2.2.2, h.2.2.2.2.2.2.2, fun k' h1 _ => ⟨h.1, h.2.1, h.2.2.1, h.2.2.2.1, h.2.2.2.2.1, h.2.2.2.2.2.1, h.2.2.2.2.2.2.1, h1⟩, fun S0 e => by have e : some _ = some S0 := e; cases e; exact ⟨rfl, rfl⟩⟩ | exact ⟨_, _, h.2.2.2.2.2.2.2.2, h.2.2.2.2.2.2.2.2, fun k' h1 _ => ⟨h.1, h.2.1, h.2.2.1, h.2.2.2.1, h.2.2.2.2.1, h.2.2.2.2.2.1, h.2.2.2.2.2.2.1, h.2.2.2.2.2.2.2.1, h1⟩, fun S0 e => by have e : some _ = some S0 := e; cases e; exact ⟨rfl, rfl⟩⟩ | exact ⟨_, _, h.2.2.2.2.2.2.2.2.2, h.2.2.2.2.2.2.2.2.2, fun k' h1 _ => ⟨h.1, h.2.1, h.2.2.1, h.2.2.2.1, h.2.2.2.2.1, h.2.2.2.2.2.1, h.2.2.2.2.2.2.1, h.2.2.2.2.2.2.2.1, h.2.2.2.2.2.2.2.2.1, h1⟩, fun S0 e => by have e : some _ = some S0 := e; cases e; exact ⟨rfl, rfl⟩⟩
def cx_iload : cm_F1 := fun E P t S => cx_ld 0 2 t.1.toNat S
theorem cd_iload : cm_Dt cm_iload cx_iload := fun E P t S k h => cd_lds h
def cx_iloadn : cm_F1 := fun E P t S => cx_ld 0 1 t.1.toNat S
theorem cd_iloadn : cm_Dt cm_iloadn cx_iloadn := fun E P t S k h => cd_lds h
def cx_lload : cm_F1 := fun E P t S => cx_ld 1 2 t.1.toNat S
theorem cd_lload : cm_Dt cm_lload cx_lload := fun E P t S k h => cd_lds h
def cx_lloadn : cm_F1 := fun E P t S => cx_ld 1 1 t.1.toNat S
theorem cd_lloadn : cm_Dt cm_lloadn cx_lloadn := fun E P t S k h => cd_lds h
def cx_aload : cm_F1 := fun E P t S => cx_ld 2 2 t.1.toNat S
theorem cd_aload : cm_Dt cm_aload cx_aload := fun E P t S k h => cd_lds h
def cx_aloadn : cm_F1 := fun E P t S => cx_ld 2 1 t.1.toNat S
theorem cd_aloadn : cm_Dt cm_aloadn cx_aloadn := fun E P t S k h => cd_lds h
def cx_istore : cm_F1 := fun E P t S => cx_sto 0 2 t.1.toNat S
theorem cd_istore : cm_Dt cm_istore cx_istore := fun E P t S k h => cd_stos h
def cx_istoren : cm_F1 := fun E P t S => cx_sto 0 1 t.1.toNat S
theorem cd_istoren : cm_Dt cm_istoren cx_istoren := fun E P t S k h => cd_stos h
def cx_lstore : cm_F1 := fun E P t S => cx_sto 1 2 t.1.toNat S
theorem cd_lstore : cm_Dt cm_lstore cx_lstore := fun E P t S k h => cd_stos h
def cx_lstoren : cm_F1 := fun E P t S => cx_sto 1 1 t.1.toNat S
theorem cd_lstoren : cm_Dt cm_lstoren cx_lstoren := fun E P t S k h => cd_stos h
def cx_astore : cm_F1 := fun E P t S => cx_sto 2 2 t.1.toNat S
theorem cd_astore : cm_Dt cm_astore cx_astore := fun E P t S k h => cd_stos h
def cx_astoren : cm_F1 := fun E P t S => cx_sto 2 1 t.1.toNat S
theorem cd_astoren : cm_Dt cm_astoren cx_astoren := fun E P t S k h => cd_stos h
def cx_iadd : cm_F1 := fun E P t S => match S.2.2.1 with
  | .int y :: .int x :: st => some (cm_adv S 1 (.int (x + y) :: st))
  | _ => none
theorem cd_iadd : cm_Dt cm_iadd cx_iadd := by
  intro E P t S k h
  obtain ⟨pc, L, st, M⟩ := S
  unfold cm_iadd at h ⊢
  dsimp only at h ⊢
  split at h <;> (first | exact h.elim | exact ⟨_, _, h, h, fun k' h1 _ => h1, fun S0 e => by have e : some _ = some S0 := e; cases e; exact ⟨rfl, rfl⟩⟩ | exact ⟨_, _, h.2, h.2, fun k' h1 _ => ⟨h.1, h1⟩, fun S0 e => by have e : some _ = some S0 := e; cases e; exact ⟨rfl, rfl⟩⟩ | exact ⟨_, _, h.2.2, h.2.2, fun k' h1 _ => ⟨h.1, h.2.1, h1⟩, fun S0 e => by have e : some _ = some S0 := e; cases e; exact ⟨rfl, rfl⟩⟩ | exact ⟨_, _, h.2.2.2, h.2.2.2, fun k' h1 _ => ⟨h.1, h.2.1, h.2.2.1, h1⟩, fun S0 e => by have e : some _ = some S0 := e; cases e; exact ⟨rfl, rfl⟩⟩ | exact ⟨_, _, h.2.2.2.2, h.2.2.2.2, fun k' h1 _ => ⟨h.1, h.2.1, h.2.2.1, h.2.2.2.1, h1⟩, fun S0 e => by have e : some _ = some S0 := e; cases e; exact ⟨rfl, rfl⟩⟩ | exact ⟨_, _, h.2.2.2.2.2, h.2.2.2.2.2, fun k' h1 _ => ⟨h.1, h.2.1, h.2.2.1, h.2.2.2.1, h.2.2.2.2.1, h1⟩, fun S0 e => by have e : some _ = some S0 := e; cases e; exact ⟨rfl, rfl⟩⟩ | exact ⟨_, _, h.2.2.2.2.2.2, h.2.2.2.2.2.2, fun k' h1 _ => ⟨h.1, h.2.1, h.2.2.1, h.2.2.2.1, h.2.2.2.2.1, h.2.2.2.2.2.1, h1⟩, fun S0 e => by have e : some _ = some S0 := e; cases e; exact ⟨rfl, rfl⟩⟩ | exact ⟨_, _, h.2.2.2.2.2.2.2, h.2.2.2.2.2.2.2, fun k' h1 _ => ⟨h.1, h.2.1, h.2.2.1, h.2.2.2.1, h.2.2.2.2.1, h.2.2.2.2.2.1, h.2.2.2.2.2.2.1, h1⟩, fun S0 e => by have e : some _ = some S0 := e; cases e; exact ⟨rfl, rfl⟩⟩ | exact ⟨_, _, h.2.2.2.2.2.2.2.2, h.2.2.2.2.2.2.2.2, fun k' h1 _ => ⟨h.1, h.2.1, h.2.2.1, h.2.2.2.1, h.2.2.2.2.1, h.2.2.2.2.2.1, h.2.2.2.2.2.2.1, h.2.2.2.2.2.2.2.1, h1⟩, fun S0 e => by have e : some _ = some S0 := e; cases e; exact ⟨rfl, rfl⟩⟩ | exact ⟨_, _, h.2.2.2.2.2.2.2.2.2, h.2.2.2.2.2.2.2.2.2, fun k' h1 _ => ⟨h.1, h.2.1, h.2.2.1, h.2.2.2.1, h.2.2.2.2.1, h.2.2.2.2.2.1, h.2.2.2.2.2.2.1, h.2.2.2.2.2.2.2.1, h.2.2.2.2.2.2.2.2.1, h1⟩, fun S0 e => by have e : some _ = some S0 := e; cases e; exact ⟨rfl, rfl⟩⟩)
def cx_isub : cm_F1 := fun E P t S => match S.2.2.1 with
  | .int y :: .int x :: st => some (cm_adv S 1 (.int (x - y) :: st))
  | _ => none
theorem cd_isub : cm_Dt cm_isub cx_isub := by
  intro E P t S k h
  obtain ⟨pc, L, st, M⟩ := S
  unfold cm_isub at h ⊢
  dsimp only at h ⊢
  split at h <;> (first | exact h.elim | exact ⟨_, _, h, h, fun k' h1 _ => h1, fun S0 e => by have e : some _ = some S0 := e; cases e; exact ⟨rfl, rfl⟩⟩ | exact ⟨_, _, h.2, h.2, fun k' h1 _ => ⟨h.1, h1⟩, fun S0 e => by have e : some _ = some S0 := e; cases e; exact ⟨rfl, rfl⟩⟩ | exact ⟨_, _, h.2.2, h.2.2, fun k' h1 _ => ⟨h.1, h.2.1, h1⟩, fun S0 e => by have e : some _ = some S0 := e; cases e; exact ⟨rfl, rfl⟩⟩ | exact ⟨_, _, h.2.2.2, h.2.2.2, fun k' h1 _ => ⟨h.1, h.2.1, h.2.2.1, h1⟩, fun S0 e => by have e : some _ = some S0 := e; cases e; exact ⟨rfl, rfl⟩⟩ | exact ⟨_, _, h.2.2.2.2, h.2.2.2.2, fun k' h1 _ => ⟨h.1, h.2.1, h.2.2.1, h.2.2.2.1, h1⟩, fun S0 e => by have e : some _ = some S0 := e; cases e; exact ⟨rfl, rfl⟩⟩ | exact ⟨_, _, h.2.2.2.2.2, h.2.2.2.2.2, fun k' h1 _ => ⟨h.1, h.2.1, h.2.2.1, h.2.2.2.1, h.2.2.2.2.1, h1⟩, fun S0 e => by have e : some _ = some S0 := e; cases e; exact ⟨rfl, rfl⟩⟩ | exact ⟨_, _, h.2.2.2.2.2.2, h.2.2.2.2.2.2, fun k' h1 _ => ⟨h.1, h.2.1, h.2.2.1, h.2.2.2.1, h.2.2.2.2.1, h.2.2.2.2.2.1, h1⟩, fun S0 e => by have e : some _ = some S0 := e; cases e; exact ⟨rfl, rfl⟩⟩ | exact ⟨_, _, h.2.2.2.2.2.2.2, h.2.2.2.2.2.2.2, fun k' h1 _ => ⟨h.1, h.2.1, h.2.2.1, h.2.2.2.1, h.2.2.2.2.1, h.2.2.2.2.2.1, h.2.2.2.2.2.2.1, h1⟩, fun S0 e => by have e : some _ = some S0 := e; cases e; exact ⟨rfl, rfl⟩⟩ | exact ⟨_, _, h.2.2.2.2.2.2.2.2, h.2.2.2.2.2.2.2.2, fun k' h1 _ => ⟨h.1, h.2.1, h.2.2.1, h.2.2.2.1, h.2.2.2.2.1, h.2.2.2.2.2.1, h.2.2.2.2.2.2.1, h.2.2.2.2.2.2.2.1, h1⟩, fun S0 e => by have e : some _ = some S0 := e; cases e; exact ⟨rfl, rfl⟩⟩ | exact ⟨_, _, h.2.2.2.2.2.2.2.2.2, h.2.2.2.2.2.2.2.2.2, fun k' h1 _ => ⟨h.1, h.2.1, h.2.2.1, h.2.2.2.1, h.2.2.2.2.1, h.2.2.2.2.2.1, h.2.2.2.2.2.2.1, h.2.2.2.2.2.2.2.1, h.2.2.2.2.2.2.2.2.1, h1⟩, fun S0 e => by have e : some _ = some S0 := e; cases e; exact ⟨rfl, rfl⟩⟩)
def cx_imul : cm_F1 := fun E P t S => match S.2.2.1 with
  | .int y :: .int x :: st => some (cm_adv S 1 (.int (x * y) :: st))
  | _ => none
theorem cd_imul : cm_Dt cm_imul cx_imul := by
  intro E P t S k h
  obtain ⟨pc, L, st, M⟩ := S
  unfold cm_imul at h ⊢
  dsimp only at h ⊢
  split at h <;> (first | exact h.elim | exact ⟨_, _, h, h, fun k' h1 _ => h1, fun S0 e => by have e : some _ = some S0 := e; cases e; exact ⟨rfl, rfl⟩⟩ | exact ⟨_, _, h.2, h.2, fun k' h1 _ => ⟨h.1, h1⟩, fun S0 e => by have e : some _ = some S0 := e; cases e; exact ⟨rfl, rfl⟩⟩ | exact ⟨_, _, h.2.2, h.2.2, fun k' h1 _ => ⟨h.1, h.2.1, h1⟩, fun S0 e => by have e : some _ = some S0 := e; cases e; exact ⟨rfl, rfl⟩⟩ | exact ⟨_, _, h.2.2.2, h.2.2.2, fun k' h1 _ => ⟨h.1, h.2.1, h.2.2.1, h1⟩, fun S0 e => by have e : some _ = some S0 := e; cases e; exact ⟨rfl, rfl⟩⟩ | exact ⟨_, _, h.2.2.2.2, h.2.2.2.2, fun k' h1 _ => ⟨h.1, h.2.1, h.2.2.1, h.2.2.2.1, h1⟩, fun S0 e => by have e : some _ = some S0 := e; cases e; exact ⟨rfl, rfl⟩⟩ | exact ⟨_, _, h.2.2.2.2.2, h.2.2.2.2.2, fun k' h1 _ => ⟨h.1, h.2.1, h.2.2.1, h.2.2.2.1, h.2.2.2.2.1, h1⟩, fun S0 e => by have e : some _ = some S0 := e; cases e; exact ⟨rfl, rfl⟩⟩ | exact ⟨_, _, h.2.2.2.2.2.2, h.2.2.2.2.2.2, fun k' h1 _ => ⟨h.1, h.2.1, h.2.2.1, h.2.2.2.1, h.2.2.2.2.1, h.2.2.2.2.2.1, h1⟩, fun S0 e => by have e : some _ = some S0 := e; cases e; exact ⟨rfl, rfl⟩⟩ | exact ⟨_, _, h.2.2.2.2.2.2.2, h.2.2.2.2.2.2.2, fun k' h1 _ => ⟨h.1, h.2.1, h.2.2.1, h.2.2.2.1, h.2.2.2.2.1, h.2.2.2.2.2.1, h.2.2.2.2.2.2.1, h1⟩, fun S0 e => by have e : some _ = some S0 := e; cases e; exact ⟨rfl, rfl⟩⟩ | exact ⟨_, _, h.2.2.2.2.2.2.2.2, h.2.2.2.2.2.2.2.2, fun k' h1 _ => ⟨h.1, h.2.1, h.2.2.1, h.2.2.2.1, h.2.2.2.2.1, h.2.2.2.2.2.1, h.2.2.2.2.2.2.1, h.2.2.2.2.2.2.2.1, h1⟩, fun S0 e => by have e : some _ = some S0 := e; cases e; exact ⟨rfl, rfl⟩⟩ | exact ⟨_, _, h.2.2.2.2.2.2.2.2.2, h.2.2.2.2.2.2.2.2.2, fun k' h1 _ => ⟨h.1, h.2.1, h.2.2.1, h.2.2.2.1, h.2.2.2.2.1, h.2.2.2.2.2.1, h.2.2.2.2.2.2.1, h.2.2.2.2.2.2.2.1, h.2.2.2.2.2.2.2.2.1, h1⟩, fun S0 e => by have e : some _ = some S0 := e; cases e; exact ⟨rfl, rfl⟩⟩)
def cx_iand : cm_F1 := fun E P t S => match S.2.2.1 with
  | .int y :: .int x :: st => some (cm_adv S 1 (.int (x &&& y) :: st))
  | _ => none
theorem cd_iand : cm_Dt cm_iand cx_iand := by
  intro E P t S k h
  obtain ⟨pc, L, st, M⟩ := S
  unfold cm_iand at h ⊢
  dsimp only at h ⊢
  split at h <;> (first | exact h.elim | exact ⟨_, _, h, h, fun k' h1 _ => h1, fun S0 e => by have e : some _ = some S0 := e; cases e; exact ⟨rfl, rfl⟩⟩ | exact ⟨_, _, h.2, h.2, fun k' h1 _ => ⟨h.1, h1⟩, fun S0 e => by have e : some _ = some S0 := e; cases e; exact ⟨rfl, rfl⟩⟩ | exact ⟨_, _, h.2.2, h.2.2, fun k' h1 _ => ⟨h.1, h.2.1, h1⟩, fun S0 e => by have e : some _ = some S0 := e; cases e; exact ⟨rfl, rfl⟩⟩ | exact ⟨_, _, h.2.2.2, h.2.2.2, fun k' h1 _ => ⟨h.1, h.2.1, h.2.2.1, h1⟩, fun S0 e => by have e : some _ = some S0 := e; cases e; exact ⟨rfl, rfl⟩⟩ | exact ⟨_, _, h.2.2.2.2, h.2.2.2.2, fun k' h1 _ => ⟨h.1, h.2.1, h.2.2.1, h.2.2.2.1, h1⟩, fun S0 e => by have e : some _ = some S0 := e; cases e; exact ⟨rfl, rfl⟩⟩ | exact ⟨_, _, h.2.2.2.2.2, h.2.2.2.2.2, fun k' h1 _ => ⟨h.1, h.2.1, h.2.2.1, h.2.2.2.1, h.2.2.2.2.1, h1⟩, fun S0 e => by have e : some _ = some S0 := e; cases e; exact ⟨rfl, rfl⟩⟩ | exact ⟨_, _, h.2.2.2.2.2.2, h.2.2.2.2.2.2, fun k' h1 _ => ⟨h.1, h.2.1, h.2.2.1, h.2.2.2.1, h.2.2.2.2.1, h.2.2.2.2.2.1, h1⟩, fun S0 e => by have e : some _ = some S0 := e; cases e; exact ⟨rfl, rfl⟩⟩ | exact ⟨_, _, h.2.2.2.2.2.2.2, h.2.2.2.2.2.2.2, fun k' h1 _ => ⟨h.1, h.2.1, h.2.2.1, h.2.2.2.1, h.2.2.2.2.1, h.2.2.2.2.2.1, h.2.2.2.2.2.2.1, h1⟩, fun S0 e => by have e : some _ = some S0 := e; cases e; exact ⟨rfl, rfl⟩⟩ | exact ⟨_, _, h.2.2.2.2.2.2.2.2, h.2.2.2.2.2.2.2.2, fun k' h1 _ => ⟨h.1, h.2.1, h.2.2.1, h.2.2.2.1, h.2.2.2.2.1, h.2.2.2.2.2.1, h.2.2.2.2.2.2.1, h.2.2.2.2.2.2.2.1, h1⟩, fun S0 e => by have e : some _ = some S0 := e; cases e; exact ⟨rfl, rfl⟩⟩ | exact ⟨_, _, h.2.2.2.2.2.2.2.2.2, h.2.2.2.2.2.2.2.2.2, fun k' h1 _ => ⟨h.1, h.2.1, h.2.2.1, h.2.2.2.1, h.2.2.2.2.1, h.2.2.2.2.2.1, h.2.2.2.2.2.2.1, h.2.2.2.2.2.2.2.1, h.2.2.2.2.2.2.2.2.1, h1⟩, fun S0 e => by have e : some _ = some S0 := e; cases e; exact ⟨rfl, rfl⟩⟩)
def cx_ior : cm_F1 := fun E P t S => match S.2.2.1 with
  | .int y :: .int x :: st => some (cm_adv S 1 (.int (x ||| y) :: st))
  | _ => none
theorem cd_ior : cm_Dt cm_ior cx_ior := by
  intro E P t S k h
  obtain ⟨pc, L, st, M⟩ := S
  unfold cm_ior at h ⊢
  dsimp only at h ⊢
  split at h <;> (first | exact h.elim | exact ⟨_, _, h, h, fun k' h1 _ => h1, fun S0 e => by have e : some _ = some S0 := e; cases e; exact ⟨rfl, rfl⟩⟩ | exact ⟨_, _, h.2, h.2, fun k' h1 _ => ⟨h.1, h1⟩, fun S0 e => by have e : some _ = some S0 := e; cases e; exact ⟨rfl, rfl⟩⟩ | exact ⟨_, _, h.2.2, h.2.2, fun k' h1 _ => ⟨h.1, h.2.1, h1⟩, fun S0 e => by have e : some _ = some S0 := e; cases e; exact ⟨rfl, rfl⟩⟩ | exact ⟨_, _, h.2.2.2, h.2.2.2, fun k' h1 _ => ⟨h.1, h.2.1, h.2.2.1, h1⟩, fun S0 e => by have e : some _ = some S0 := e; cases e; exact ⟨rfl, rfl⟩⟩ | exact ⟨_, _, h.2.2.2.2, h.2.2.2.2, fun k' h1 _ => ⟨h.1, h.2.1, h.2.2.1, h.2.2.2.1, h1⟩, fun S0 e => by have e : some _ = some S0 := e; cases e; exact ⟨rfl, rfl⟩⟩ | exact ⟨_, _, h.2.2.2.2.2, h.2.2.2.2.2, fun k' h1 _ => ⟨h.1, h.2.1, h.2.2.1, h.2.2.2.1, h.2.2.2.2.1, h1⟩, fun S0 e => by have e : some _ = some S0 := e; cases e; exact ⟨rfl, rfl⟩⟩ | exact ⟨_, _, h.2.2.2.2.2.2, h.2.2.2.2.2.2, fun k' h1 _ => ⟨h.1, h.2.1, h.2.2.1, h.2.2.2.1, h.2.2.2.2.1, h.2.2.2.2.2.1, h1⟩, fun S0 e => by have e : some _ = some S0 := e; cases e; exact ⟨rfl, rfl⟩⟩ | exact ⟨_, _, h.2.2.2.2.2.2.2, h.2.2.2.2.2.2.2, fun k' h1 _ => ⟨h.1, h.2.1, h.2.2.1, h.2.2.2.1, h.2.2.2.2.1, h.2.2.2.2.2.1, h.2.2.2.2.2.2.1, h1⟩, fun S0 e => by have e : some _ = some S0 := e; cases e; exact ⟨rfl, rfl⟩⟩ | exact ⟨_, _, h.2.2.2.2.2.2.2.2, h.2.2.2.2.2.2.2.2, fun k' h1 _ => ⟨h.1, h.2.1, h.2.2.1, h.2.2.2.1, h.2.2.2.2.1, h.2.2.2.2.2.1, h.2.2.2.2.2.2.1, h.2.2.2.2.2.2.2.1, h1⟩, fun S0 e => by have e : some _ = some S0 := e; cases e; exact ⟨rfl, rfl⟩⟩ | exact ⟨_, _, h.2.2.2.2.2.2.2.2.2, h.2.2.2.2.2.2.2.2.2, fun k' h1 _ => ⟨h.1, h.2.1, h.2.2.1, h.2.2.2.1, h.2.2.2.2.1, h.2.2.2.2.2.1, h.2.2.2.2.2.2.1, h.2.2.2.2.2.2.2.1, h.2.2.2.2.2.2.2.2.1, h1⟩, fun S0 e => by have e : some _ = some S0 := e; cases e; exact ⟨rfl, rfl⟩⟩)
def cx_ixor : cm_F1 := fun E P t S => match S.2.2.1 with
  | .int y :: .int x :: st => some (cm_adv S 1 (.int (x ^^^ y) :: st))
  | _ => none
theorem cd_ixor : cm_Dt cm_ixor cx_ixor := by
  intro E P t S k h
  obtain ⟨pc, L, st, M⟩ := S
  unfold cm_ixor at h ⊢
  dsimp only at h ⊢
  split at h <;> (first | exact h.elim | exact ⟨_, _, h, h, fun k' h1 _ => h1, fun S0 e => by have e : some _ = some S0 := e; cases e; exact ⟨rfl, rfl⟩⟩ | exact ⟨_, _, h.2, h.2, fun k' h1 _ => ⟨h.1, h1⟩, fun S0 e => by have e : some _ = some S0 := e; cases e; exact ⟨rfl, rfl⟩⟩ | exact ⟨_, _, h.2.2, h.2.2, fun k' h1 _ => ⟨h.1, h.2.1, h1⟩, fun S0 e => by have e : some _ = some S0 := e; cases e; exact ⟨rfl, rfl⟩⟩ | exact ⟨_, _, h.2.2.2, h.2.2.2, fun k' h1 _ => ⟨h.1, h.2.1, h.2.2.1, h1⟩, fun S0 e => by have e : some _ = some S0 := e; cases e; exact ⟨rfl, rfl⟩⟩ | exact ⟨_, _, h.2.2.2.2, h.2.2.2.2, fun k' h1 _ => ⟨h.1, h.2.1, h.2.2.1, h.2.2.2.1, h1⟩, fun S0 e => by have e : some _ = some S0 := e; cases e; exact ⟨rfl, rfl⟩⟩ | exact ⟨_, _, h.2.2.2.2.2, h.2.2.2.2.2, fun k' h1 _ => ⟨h.1, h.2.1, h.2.2.1, h.2.2.2.1, h.2.2.2.2.1, h1⟩, fun S0 e => by have e : some _ = some S0 := e; cases e; exact ⟨rfl, rfl⟩⟩ | exact ⟨_, _, h.2.2.2.2.2.2, h.2.2.2.2.2.2, fun k' h1 _ => ⟨h.1, h.2.1, h.2.2.1, h.2.2.2.1, h.2.2.2.2.1, h.2.2.2.2.2.1, h1⟩, fun S0 e => by have e : some _ = some S0 := e; cases e; exact ⟨rfl, rfl⟩⟩ | exact ⟨_, _, h.2.2.2.2.2.2.2, h.2.2.2.2.2.2.2, fun k' h1 _ => ⟨h.1, h.2.1, h.2.2.1, h.2.2.2.1, h.2.2.2.2.1, h.2.2.2.2.2.1, h.2.2.2.2.2.2.1, h1⟩, fun S0 e => by have e : some _ = some S0 := e; cases e; exact ⟨rfl, rfl⟩⟩ | exact ⟨_, _, h.2.2.2.2.2.2.2.2, h.2.2.2.2.2.2.2.2, fun k' h1 _ => ⟨h.1, h.2.1, h.2.2.1, h.2.2.2.1, h.2.2.2.2.1, h.2.2.2.2.2.1, h.2.2.2.2.2.2.1, h.2.2.2.2.2.2.2.1, h1⟩, fun S0 e => by have e : some _ = some S0 := e; cases e; exact ⟨rfl, rfl⟩⟩ | exact ⟨_, _, h.2.2.2.2.2.2.2.2.2, h.2.2.2.2.2.2.2.2.2, fun k' h1 _ => ⟨h.1, h.2.1, h.2.2.1, h.2.2.2.1, h.2.2.2.2.1, h.2.2.2.2.2.1, h.2.2.2.2.2.2.1, h.2.2.2.2.2.2.2.1, h.2.2.2.2.2.2.2.2.1, h1⟩, fun S0 e => by have e : some _ = some S0 := e; cases e; exact ⟨rfl, rfl⟩⟩)
def cx_ishl : cm_F1 := fun E P t S => match S.2.2.1 with
  | .int y :: .int x :: st => some (cm_adv S 1 (.int (x <<< (y &&& 31)) :: st))
  | _ => none
theorem cd_ishl : cm_Dt cm_ishl cx_ishl := by
  intro E P t S k h
  obtain ⟨pc, L, st, M⟩ := S
  unfold cm_ishl at h ⊢
  dsimp only at h ⊢
  split at h <;> (first | exact h.elim | exact ⟨_, _, h, h, fun k' h1 _ => h1, fun S0 e => by have e : some _ = some S0 := e; cases e; exact ⟨rfl, rfl⟩⟩ | exact ⟨_, _, h.2, h.2, fun k' h1 _ => ⟨h.1, h1⟩, fun S0 e => by have e : some _ = some S0 := e; cases e; exact ⟨rfl, rfl⟩⟩ | exact ⟨_, _, h.2.2, h.2.2, fun k' h1 _ => ⟨h.1, h.2.1, h1⟩, fun S0 e => by have e : some _ = some S0 := e; cases e; exact ⟨rfl, rfl⟩⟩ | exact ⟨_, _, h.2.2.2, h.2.2.2, fun k' h1 _ => ⟨h.1, h.2.1, h.2.2.1, h1⟩, fun S0 e => by have e : some _ = some S0 := e; cases e; exact ⟨rfl, rfl⟩⟩ | exact ⟨_, _, h.2.2.2.2, h.2.2.2.2, fun k' h1 _ => ⟨h.1, h.2.1, h.2.2.1, h.2.2.2.1, h1⟩, fun S0 e => by have e : some _ = some S0 := e; cases e; exact ⟨rfl, rfl⟩⟩ | exact ⟨_, _, h.2.2.2.2.2, h.2.2.2.2.2, fun k' h1 _ => ⟨h.1, h.2.1, h.2.2.1, h.2.2.2.1, h.2.2.2.2.1, h1⟩, fun S0 e => by have e : some _ = some S0 := e; cases e; exact ⟨rfl, rfl⟩⟩ | exact ⟨_, _, h.2.2.2.2.2.2, h.2.2.2.2.2.2, fun k' h1 _ => ⟨h.1, h.2.1, h.2.2.1, h.2.2.2.1, h.2.2.2.2.1, h.2.2.2.2.2.1, h1⟩, fun S0 e => by have e : some _ = some S0 := e; cases e; exact ⟨rfl, rfl⟩⟩ | exact ⟨_, _, h.2.2.2.2.2.2.2, h.2.2.2.2.2.2.2, fun k' h1 _ => ⟨h.1, h.2.1, h.2.2.1, h.2.2.2.1, h.2.2.2.2.1, h.2.2.2.2.2.1, h.2.2.2.2.2.2.1, h1⟩, fun S0 e => by have e : some _ = some S0 := e; cases e; exact ⟨rfl, rfl⟩⟩ | exact ⟨_, _, h.2.2.2.2.2.2.2.2, h.2.2.2.2.2.2.2.2, fun k' h1 _ => ⟨h.1, h.2.1, h.2.2.1, h.2.2.2.1, h.2.2.2.2.1, h.2.2.2.2.2.1, h.2.2.2.2.2.2.1, h.2.2.2.2.2.2.2.1, h1⟩, fun S0 e => by have e : some _ = some S0 := e; cases e; exact ⟨rfl, rfl⟩⟩ | exact ⟨_, _, h.2.2.2.2.2.2.2.2.2, h.2.2.2.2.2.2.2.2.2, fun k' h1 _ => ⟨h.1, h.2.1, h.2.2.1, h.2.2.2.1, h.2.2.2.2.1, h.2.2.2.2.2.1, h.2.2.2.2.2.2.1, h.2.2.2.2.2.2.2.1, h.2.2.2.2.2.2.2.2.1, h1⟩, fun S0 e => by have e : some _ = some S0 := e; cases e; exact ⟨rfl, rfl⟩⟩)
def cx_ishr : cm_F1 := fun E P t S => match S.2.2.1 with
  | .int y :: .int x :: st => some (cm_adv S 1 (.int (x >>> (y &&& 31)) :: st))
  | _ => none
theorem cd_ishr : cm_Dt cm_ishr cx_ishr := by
  intro E P t S k h
  obtain ⟨pc, L, st, M⟩ := S
  unfold cm_ishr at h ⊢
  dsimp only at h ⊢
  split at h <;> (first | exact h.elim | exact ⟨_, _, h, h, fun k' h1 _ => h1, fun S0 e => by have e : some _ = some S0 := e; cases e; exact ⟨rfl, rfl⟩⟩ | exact ⟨_, _, h.2, h.2, fun k' h1 _ => ⟨h.1, h1⟩, fun S0 e => by have e : some _ = some S0 := e; cases e; exact ⟨rfl, rfl⟩⟩ | exact ⟨_, _, h.2.2, h.2.2, fun k' h1 _ => ⟨h.1, h.2.1, h1⟩, fun S0 e => by have e : some _ = some S0 := e; cases e; exact ⟨rfl, rfl⟩⟩ | exact ⟨_, _, h.2.2.2, h.2.2.2, fun k' h1 _ => ⟨h.1, h.2.1, h.2.2.1, h1⟩, fun S0 e => by have e : some _ = some S0 := e; cases e; exact ⟨rfl, rfl⟩⟩ | exact ⟨_, _, h.2.2.2.2, h.2.2.2.2, fun k' h1 _ => ⟨h.1, h.2.1, h.2.2.1, h.2.2.2.1, h1⟩, fun S0 e => by have e : some _ = some S0 := e; cases e; exact ⟨rfl, rfl⟩⟩ | exact ⟨_, _, h.2.2.2.2.2, h.2.2.2.2.2, fun k' h1 _ => ⟨h.1, h.2.1, h.2.2.1, h.2.2.2.1, h.2.2.2.2.1, h1⟩, fun S0 e => by have e : some _ = some S0 := e; cases e; exact ⟨rfl, rfl⟩⟩ | exact ⟨_, _, h.2.2.2.2.2.2, h.2.2.2.2.2.2, fun k' h1 _ => ⟨h.1, h.2.1, h.2.2.1, h.2.2.2.1, h.2.2.2.2.1, h.2.2.2.2.2.1, h1⟩, fun S0 e => by have e : some _ = some S0 := e; cases e; exact ⟨rfl, rfl⟩⟩ | exact ⟨_, _, h.2.2.2.2.2.2.2, h.2.2.2.2.2.2.2, fun k' h1 _ => ⟨h.1, h.2.1, h.2.2.1, h.2.2.2.1, h.2.2.2.2.1, h.2.2.2.2.2.1, h.2.2.2.2.2.2.1, h1⟩, fun S0 e => by have e : some _ = some S0 := e; cases e; exact ⟨rfl, rfl⟩⟩ | exact ⟨_, _, h.2.2.2.2.2.2.2.2, h.2.2.2.2.2.2.2.2, fun k' h1 _ => ⟨h.1, h.2.1, h.2.2.1, h.2.2.2.1, h.2.2.2.2.1, h.2.2.2.2.2.1, h.2.2.2.2.2.2.1, h.2.2.2.2.2.2.2.1, h1⟩, fun S0 e => by have e : some _ = some S0 := e; cases e; exact ⟨rfl, rfl⟩⟩ | exact ⟨_, _, h.2.2.2.2.2.2.2.2.2, h.2.2.2.2.2.2.2.2.2, fun k' h1 _ => ⟨h.1, h.2.1, h.2.2.1, h.2.2.2.1, h.2.2.2.2.1, h.2.2.2.2.2.1, h.2.2.2.2.2.2.1, h.2.2.2.2.2.2.2.1, h.2.2.2.2.2.2.2.2.1, h1⟩, fun S0 e => by have e : some _ = some S0 := e; cases e; exact ⟨rfl, rfl⟩⟩)
def cx_iushr : cm_F1 := fun E P t S => match S.2.2.1 with
  | .int y :: .int x :: st => some (cm_adv S 1 (.int ((x.toUInt32 >>> (y.toUInt32 &&& Int32.toUInt32 31)).toInt32) :: st))
  | _ => none
theorem cd_iushr : cm_Dt cm_iushr cx_iushr := by
  intro E P t S k h
  obtain ⟨pc, L, st, M⟩ := S
  unfold cm_iushr at h ⊢
  dsimp only at h ⊢
  split at h <;> (first | exact h.elim | exact ⟨_, _, h, h, fun k' h1 _ => h1, fun S0 e => by have e : some _ = some S0 := e; cases e; exact ⟨rfl, rfl⟩⟩ | exact ⟨_, _, h.2, h.2, fun k' h1 _ => ⟨h.1, h1⟩, fun S0 e => by have e : some _ = some S0 := e; cases e; exact ⟨rfl, rfl⟩⟩ | exact ⟨_, _, h.2.2, h.2.2, fun k' h1 _ => ⟨h.1, h.2.1, h1⟩, fun S0 e => by have e : some _ = some S0 := e; cases e; exact ⟨rfl, rfl⟩⟩ | exact ⟨_, _, h.2.2.2, h.2.2.2, fun k' h1 _ => ⟨h.1, h.2.1, h.2.2.1, h1⟩, fun S0 e => by have e : some _ = some S0 := e; cases e; exact ⟨rfl, rfl⟩⟩ | exact ⟨_, _, h.2.2.2.2, h.2.2.2.2, fun k' h1 _ => ⟨h.1, h.2.1, h.2.2.1, h.2.2.2.1, h1⟩, fun S0 e => by have e : some _ = some S0 := e; cases e; exact ⟨rfl, rfl⟩⟩ | exact ⟨_, _, h.2.2.2.2.2, h.2.2.2.2.2, fun k' h1 _ => ⟨h.1, h.2.1, h.2.2.1, h.2.2.2.1, h.2.2.2.2.1, h1⟩, fun S0 e => by have e : some _ = some S0 := e; cases e; exact ⟨rfl, rfl⟩⟩ | exact ⟨_, _, h.2.2.2.2.2.2, h.2.2.2.2.2.2, fun k' h1 _ => ⟨h.1, h.2.1, h.2.2.1, h.2.2.2.1, h.2.2.2.2.1, h.2.2.2.2.2.1, h1⟩, fun S0 e => by have e : some _ = some S0 := e; cases e; exact ⟨rfl, rfl⟩⟩ | exact ⟨_, _, h.2.2.2.2.2.2.2, h.2.2.2.2.2.2.2, fun k' h1 _ => ⟨h.1, h.2.1, h.2.2.1, h.2.2.2.1, h.2.2.2.2.1, h.2.2.2.2.2.1, h.2.2.2.2.2.2.1, h1⟩, fun S0 e => by have e : some _ = some S0 := e; cases e; exact ⟨rfl, rfl⟩⟩ | exact ⟨_, _, h.2.2.2.2.2.2.2.2, h.2.2.2.2.2.2.2.2, fun k' h1 _ => ⟨h.1, h.2.1, h.2.2.1, h.2.2.2.1, h.2.2.2.2.1, h.2.2.2.2.2.1, h.2.2.2.2.2.2.1, h.2.2.2.2.2.2.2.1, h1⟩, fun S0 e => by have e : some _ = some S0 := e; cases e; exact ⟨rfl, rfl⟩⟩ | exact ⟨_, _, h.2.2.2.2.2.2.2.2.2, h.2.2.2.2.2.2.2.2.2, fun k' h1 _ => ⟨h.1, h.2.1, h.2.2.1, h.2.2.2.1, h.2.2.2.2.1, h.2.2.2.2.2.1, h.2.2.2.2.2.2.1, h.2.2.2.2.2.2.2.1, h.2.2.2.2.2.2.2.2.1, h1⟩, fun S0 e => by have e : some _ = some S0 := e; cases e; exact ⟨rfl, rfl⟩⟩)
def cx_idiv : cm_F1 := fun E P t S => match S.2.2.1 with
  | .int y :: .int x :: st => some (cm_adv S 1 (.int (x / y) :: st))
  | _ => none
theorem cd_idiv : cm_Dt cm_idiv cx_idiv := by
  intro E P t S k h
  obtain ⟨pc, L, st, M⟩ := S
  unfold cm_idiv at h ⊢
  dsimp only at h ⊢
  split at h <;> (first | exact h.elim | exact ⟨_, _, h, h, fun k' h1 _ => h1, fun S0 e => by have e : some _ = some S0 := e; cases e; exact ⟨rfl, rfl⟩⟩ | exact ⟨_, _, h.2, h.2, fun k' h1 _ => ⟨h.1, h1⟩, fun S0 e => by have e : some _ = some S0 := e; cases e; exact ⟨rfl, rfl⟩⟩ | exact ⟨_, _, h.2.2, h.2.2, fun k' h1 _ => ⟨h.1, h.2.1, h1⟩, fun S0 e => by have e : some _ = some S0 := e; cases e; exact ⟨rfl, rfl⟩⟩ | exact ⟨_, _, h.2.2.2, h.2.2.2, fun k' h1 _ => ⟨h.1, h.2.1, h.2.2.1, h1⟩, fun S0 e => by have e : some _ = some S0 := e; cases e; exact ⟨rfl, rfl⟩⟩ | exact ⟨_, _, h.2.2.2.2, h.2.2.2.2, fun k' h1 _ => ⟨h.1, h.2.1, h.2.2.1, h.2.2.2.1, h1⟩, fun S0 e => by have e : some _ = some S0 := e; cases e; exact ⟨rfl, rfl⟩⟩ | exact ⟨_, _, h.2.2.2.2.2, h.2.2.2.2.2, fun k' h1 _ => ⟨h.1, h.2.1, h.2.2.1, h.2.2.2.1, h.2.2.2.2.1, h1⟩, fun S0 e => by have e : some _ = some S0 := e; cases e; exact ⟨rfl, rfl⟩⟩ | exact ⟨_, _, h.2.2.2.2.2.2, h.2.2.2.2.2.2, fun k' h1 _ => ⟨h.1, h.2.1, h.2.2.1, h.2.2.2.1, h.2.2.2.2.1, h.2.2.2.2.2.1, h1⟩, fun S0 e => by have e : some _ = some S0 := e; cases e; exact ⟨rfl, rfl⟩⟩ | exact ⟨_, _, h.2.2.2.2.2.2.2, h.2.2.2.2.2.2.2, fun k' h1 _ => ⟨h.1, h.2.1, h.2.2.1, h.2.2.2.1, h.2.2.2.2.1, h.2.2.2.2.2.1, h.2.2.2.2.2.2.1, h1⟩, fun S0 e => by have e : some _ = some S0 := e; cases e; exact ⟨rfl, rfl⟩⟩ | exact ⟨_, _, h.2.2.2.2.2.2.2.2, h.2.2.2.2.2.2.2.2, fun k' h1 _ => ⟨h.1, h.2.1, h.2.2.1, h.2.2.2.1, h.2.2.2.2.1, h.2.2.2.2.2.1, h.2.2.2.2.2.2.1, h.2.2.2.2.2.2.2.1, h1⟩, fun S0 e => by have e : some _ = some S0 := e; cases e; exact ⟨rfl, rfl⟩⟩ | exact ⟨_, _, h.2.2.2.2.2.2.2.2.2, h.2.2.2.2.2.2.2.2.2, fun k' h1 _ => ⟨h.1, h.2.1, h.2.2.1, h.2.2.2.1, h.2.2.2.2.1, h.2.2.2.2.2.1, h.2.2.2.2.2.2.1, h.2.2.2.2.2.2.2.1, h.2.2.2.2.2.2.2.2.1, h1⟩, fun S0 e => by have e : some _ = some S0 := e; cases e; exact ⟨rfl, rfl⟩⟩)
def cx_irem : cm_F1 := fun E P t S => match S.2.2.1 with
  | .int y :: .int x :: st => some (cm_adv S 1 (.int (x - x / y * y) :: st))
  | _ => none
theorem cd_irem : cm_Dt cm_irem cx_irem := by
  intro E P t S k h
  obtain ⟨pc, L, st, M⟩ := S
  unfold cm_irem at h ⊢
  dsimp only at h ⊢
  split at h <;> (first | exact h.elim | exact ⟨_, _, h, h, fun k' h1 _ => h1, fun S0 e => by have e : some _ = some S0 := e; cases e; exact ⟨rfl, rfl⟩⟩ | exact ⟨_, _, h.2, h.2, fun k' h1 _ => ⟨h.1, h1⟩, fun S0 e => by have e : some _ = some S0 := e; cases e; exact ⟨rfl, rfl⟩⟩ | exact ⟨_, _, h.2.2, h.2.2, fun k' h1 _ => ⟨h.1, h.2.1, h1⟩, fun S0 e => by have e : some _ = some S0 := e; cases e; exact ⟨rfl, rfl⟩⟩ | exact ⟨_, _, h.2.2.2, h.2.2.2, fun k' h1 _ => ⟨h.1, h.2.1, h.2.2.1, h1⟩, fun S0 e => by have e : some _ = some S0 := e; cases e; exact ⟨rfl, rfl⟩⟩ | exact ⟨_, _, h.2.2.2.2, h.2.2.2.2, fun k' h1 _ => ⟨h.1, h.2.1, h.2.2.1, h.2.2.2.1, h1⟩, fun S0 e => by have e : some _ = some S0 := e; cases e; exact ⟨rfl, rfl⟩⟩ | exact ⟨_, _, h.2.2.2.2.2, h.2.2.2.2.2, fun k' h1 _ => ⟨h.1, h.2.1, h.2.2.1, h.2.2.2.1, h.2.2.2.2.1, h1⟩, fun S0 e => by have e : some _ = some S0 := e; cases e; exact ⟨rfl, rfl⟩⟩ | exact ⟨_, _, h.2.2.2.2.2.2, h.2.2.2.2.2.2, fun k' h1 _ => ⟨h.1, h.2.1, h.2.2.1, h.2.2.2.1, h.2.2.2.2.1, h.2.2.2.2.2.1, h1⟩, fun S0 e => by have e : some _ = some S0 := e; cases e; exact ⟨rfl, rfl⟩⟩ | exact ⟨_, _, h.2.2.2.2.2.2.2, h.2.2.2.2.2.2.2, fun k' h1 _ => ⟨h.1, h.2.1, h.2.2.1, h.2.2.2.1, h.2.2.2.2.1, h.2.2.2.2.2.1, h.2.2.2.2.2.2.1, h1⟩, fun S0 e => by have e : some _ = some S0 := e; cases e; exact ⟨rfl, rfl⟩⟩ | exact ⟨_, _, h.2.2.2.2.2.2.2.2, h.2.2.2.2.2.2.2.2, fun k' h1 _ => ⟨h.1, h.2.1, h.2.2.1, h.2.2.2.1, h.2.2.2.2.1, h.2.2.2.2.2.1, h.2.2.2.2.2.2.1, h.2.2.2.2.2.2.2.1, h1⟩, fun S0 e => by have e : some _ = some S0 := e; cases e; exact ⟨rfl, rfl⟩⟩ | exact ⟨_, _, h.2.2.2.2.2.2.2.2.2, h.2.2.2.2.2.2.2.2.2, fun k' h1 _ => ⟨h.1, h.2.1, h.2.2.1, h.2.2.2.1, h.2.2.2.2.1, h.2.2.2.2.2.1, h.2.2.2.2.2.2.1, h.2.2.2.2.2.2.2.1, h.2.2.2.2.2.2.2.2.1, h1⟩, fun S0 e => by have e : some _ = some S0 := e; cases e; exact ⟨rfl, rfl⟩⟩)
def cx_ineg : cm_F1 := fun E P t S => match S.2.2.1 with
  | .int x :: st => some (cm_adv S 1 (.int (-x) :: st))
  | _ => none
theorem cd_ineg : cm_Dt cm_ineg cx_ineg := by
  intro E P t S k h
  obtain ⟨pc, L, st, M⟩ := S
  unfold cm_ineg at h ⊢
  dsimp only at h ⊢
  split at h <;> (first | exact h.elim | exact ⟨_, _, h, h, fun k' h1 _ => h1, fun S0 e => by have e : some _ = some S0 := e; cases e; exact ⟨rfl, rfl⟩⟩ | exact ⟨_, _, h.2, h.2, fun k' h1 _ => ⟨h.1, h1⟩, fun S0 e => by have e : some _ = some S0 := e; cases e; exact ⟨rfl, rfl⟩⟩ | exact ⟨_, _, h.2.2, h.2.2, fun k' h1 _ => ⟨h.1, h.2.1, h1⟩, fun S0 e => by have e : some _ = some S0 := e; cases e; exact ⟨rfl, rfl⟩⟩ | exact ⟨_, _, h.2.2.2, h.2.2.2, fun k' h1 _ => ⟨h.1, h.2.1, h.2.2.1, h1⟩, fun S0 e => by have e : some _ = some S0 := e; cases e; exact ⟨rfl, rfl⟩⟩ | exact ⟨_, _, h.2.2.2.2, h.2.2.2.2, fun k' h1 _ => ⟨h.1, h.2.1, h.2.2.1, h.2.2.2.1, h1⟩, fun S0 e => by have e : some _ = some S0 := e; cases e; exact ⟨rfl, rfl⟩⟩ | exact ⟨_, _, h.2.2.2.2.2, h.2.2.2.2.2, fun k' h1 _ => ⟨h.1, h.2.1, h.2.2.1, h.2.2.2.1, h.2.2.2.2.1, h1⟩, fun S0 e => by have e : some _ = some S0 := e; cases e; exact ⟨rfl, rfl⟩⟩ | exact ⟨_, _, h.2.2.2.2.2.2, h.2.2.2.2.2.2, fun k' h1 _ => ⟨h.1, h.2.1, h.2.2.1, h.2.2.2.1, h.2.2.2.2.1, h.2.2.2.2.2.1, h1⟩, fun S0 e => by have e : some _ = some S0 := e; cases e; exact ⟨rfl, rfl⟩⟩ | exact ⟨_, _, h.2.2.2.2.2.2.2, h.2.2.2.2.2.2.2, fun k' h1 _ => ⟨h.1, h.2.1, h.2.2.1, h.2.2.2.1, h.2.2.2.2.1, h.2.2.2.2.2.1, h.2.2.2.2.2.2.1, h1⟩, fun S0 e => by have e : some _ = some S0 := e; cases e; exact ⟨rfl, rfl⟩⟩ | exact ⟨_, _, h.2.2.2.2.2.2.2.2, h.2.2.2.2.2.2.2.2, fun k' h1 _ => ⟨h.1, h.2.1, h.2.2.1, h.2.2.2.1, h.2.2.2.2.1, h.2.2.2.2.2.1, h.2.2.2.2.2.2.1, h.2.2.2.2.2.2.2.1, h1⟩, fun S0 e => by have e : some _ = some S0 := e; cases e; exact ⟨rfl, rfl⟩⟩ | exact ⟨_, _, h.2.2.2.2.2.2.2.2.2, h.2.2.2.2.2.2.2.2.2, fun k' h1 _ => ⟨h.1, h.2.1, h.2.2.1, h.2.2.2.1, h.2.2.2.2.1, h.2.2.2.2.2.1, h.2.2.2.2.2.2.1, h.2.2.2.2.2.2.2.1, h.2.2.2.2.2.2.2.2.1, h1⟩, fun S0 e => by have e : some _ = some S0 := e; cases e; exact ⟨rfl, rfl⟩⟩)
def cx_i2b : cm_F1 := fun E P t S => match S.2.2.1 with
  | .int x :: st => some (cm_adv S 1 (.int (x.toInt8.toInt32) :: st))
  | _ => none
theorem cd_i2b : cm_Dt cm_i2b cx_i2b := by
  intro E P t S k h
  obtain ⟨pc, L, st, M⟩ := S
  unfold cm_i2b at h ⊢
  dsimp only at h ⊢
  split at h <;> (first | exact h.elim | exact ⟨_, _, h, h, fun k' h1 _ => h1, fun S0 e => by have e : some _ = some S0 := e; cases e; exact ⟨rfl, rfl⟩⟩ | exact ⟨_, _, h.2, h.2, fun k' h1 _ => ⟨h.1, h1⟩, fun S0 e => by have e : some _ = some S0 := e; cases e; exact ⟨rfl, rfl⟩⟩ | exact ⟨_, _, h.2.2, h.2.2, fun k' h1 _ => ⟨h.1, h.2.1, h1⟩, fun S0 e => by have e : some _ = some S0 := e; cases e; exact ⟨rfl, rfl⟩⟩ | exact ⟨_, _, h.2.2.2, h.2.2.2, fun k' h1 _ => ⟨h.1, h.2.1, h.2.2.1, h1⟩, fun S0 e => by have e : some _ = some S0 := e; cases e; exact ⟨rfl, rfl⟩⟩ | exact ⟨_, _, h.2.2.2.2, h.2.2.2.2, fun k' h1 _ => ⟨h.1, h.2.1, h.2.2.1, h.2.2.2.1, h1⟩, fun S0 e => by have e : some _ = some S0 := e; cases e; exact ⟨rfl, rfl⟩⟩ | exact ⟨_, _, h.2.2.2.2.2, h.2.2.2.2.2, fun k' h1 _ => ⟨h.1, h.2.1, h.2.2.1, h.2.2.2.1, h.2.2.2.2.1, h1⟩, fun S0 e => by have e : some _ = some S0 := e; cases e; exact ⟨rfl, rfl⟩⟩ | exact ⟨_, _, h.2.2.2.2.2.2, h.2.2.2.2.2.2, fun k' h1 _ => ⟨h.1, h.2.1, h.2.2.1, h.2.2.2.1, h.2.2.2.2.1, h.2.2.2.2.2.1, h1⟩, fun S0 e => by have e : some _ = some S0 := e; cases e; exact ⟨rfl, rfl⟩⟩ | exact ⟨_, _, h.2.2.2.2.2.2.2, h.2.2.2.2.2.2.2, fun k' h1 _ => ⟨h.1, h.2.1, h.2.2.1, h.2.2.2.1, h.2.2.2.2.1, h.2.2.2.2.2.1, h.2.2.2.2.2.2.1, h1⟩, fun S0 e => by have e : some _ = some S0 := e; cases e; exact ⟨rfl, rfl⟩⟩ | exact ⟨_, _, h.2.2.2.2.2.2.2.2, h.2.2.2.2.2.2.2.2, fun k' h1 _ => ⟨h.1, h.2.1, h.2.2.1, h.2.2.2.1, h.2.2.2.2.1, h.2.2.2.2.2.1, h.2.2.2.2.2.2.1, h.2.2.2.2.2.2.2.1, h1⟩, fun S0 e => by have e : some _ = some S0 := e; cases e; exact ⟨rfl, rfl⟩⟩ | exact ⟨_, _, h.2.2.2.2.2.2.2.2.2, h.2.2.2.2.2.2.2.2.2, fun k' h1 _ => ⟨h.1, h.2.1, h.2.2.1, h.2.2.2.1, h.2.2.2.2.1, h.2.2.2.2.2.1, h.2.2.2.2.2.2.1, h.2.2.2.2.2.2.2.1, h.2.2.2.2.2.2.2.2.1, h1⟩, fun S0 e => by have e : some _ = some S0 := e; cases e; exact ⟨rfl, rfl⟩⟩)
def cx_i2l : cm_F1 := fun E P t S => match S.2.2.1 with
  | .int x :: st => some (cm_adv S 1 (.long x.toInt64 :: st))
  | _ => none
theorem cd_i2l : cm_Dt cm_i2l cx_i2l := by
  intro E P t S k h
  obtain ⟨pc, L, st, M⟩ := S
  unfold cm_i2l at h ⊢
  dsimp only at h ⊢
  split at h <;> (first | exact h.elim | exact ⟨_, _, h, h, fun k' h1 _ => h1, fun S0 e => by have e : some _ = some S0 := e; cases e; exact ⟨rfl, rfl⟩⟩ | exact ⟨_, _, h.2, h.2, fun k' h1 _ => ⟨h.1, h1⟩, fun S0 e => by have e : some _ = some S0 := e; cases e; exact ⟨rfl, rfl⟩⟩ | exact ⟨_, _, h.2.2, h.2.2, fun k' h1 _ => ⟨h.1, h.2.1, h1⟩, fun S0 e => by have e : some _ = some S0 := e; cases e; exact ⟨rfl, rfl⟩⟩ | exact ⟨_, _, h.2.2.2, h.2.2.2, fun k' h1 _ => ⟨h.1, h.2.1, h.2.2.1, h1⟩, fun S0 e => by have e : some _ = some S0 := e; cases e; exact ⟨rfl, rfl⟩⟩ | exact ⟨_, _, h.2.2.2.2, h.2.2.2.2, fun k' h1 _ => ⟨h.1, h.2.1, h.2.2.1, h.2.2.2.1, h1⟩, fun S0 e => by have e : some _ = some S0 := e; cases e; exact ⟨rfl, rfl⟩⟩ | exact ⟨_, _, h.2.2.2.2.2, h.2.2.2.2.2, fun k' h1 _ => ⟨h.1, h.2.1, h.2.2.1, h.2.2.2.1, h.2.2.2.2.1, h1⟩, fun S0 e => by have e : some _ = some S0 := e; cases e; exact ⟨rfl, rfl⟩⟩ | exact ⟨_, _, h.2.2.2.2.2.2, h.2.2.2.2.2.2, fun k' h1 _ => ⟨h.1, h.2.1, h.2.2.1, h.2.2.2.1, h.2.2.2.2.1, h.2.2.2.2.2.1, h1⟩, fun S0 e => by have e : some _ = some S0 := e; cases e; exact ⟨rfl, rfl⟩⟩ | exact ⟨_, _, h.2.2.2.2.2.2.2, h.2.2.2.2.2.2.2, fun k' h1 _ => ⟨h.1, h.2.1, h.2.2.1, h.2.2.2.1, h.2.2.2.2.1, h.2.2.2.2.2.1, h.2.2.2.2.2.2.1, h1⟩, fun S0 e => by have e : some _ = some S0 := e; cases e; exact ⟨rfl, rfl⟩⟩ | exact ⟨_, _, h.2.2.2.2.2.2.2.2, h.2.2.2.2.2.2.2.2, fun k' h1 _ => ⟨h.1, h.2.1, h.2.2.1, h.2.2.2.1, h.2.2.2.2.1, h.2.2.2.2.2.1, h.2.2.2.2.2.2.1, h.2.2.2.2.2.2.2.1, h1⟩, fun S0 e => by have e : some _ = some S0 := e; cases e; exact ⟨rfl, rfl⟩⟩ | exact ⟨_, _, h.2.2.2.2.2.2.2.2.2, h.2.2.2.2.2.2.2.2.2, fun k' h1 _ => ⟨h.1, h.2.1, h.2.2.1, h.2.2.2.1, h.2.2.2.2.1, h.2.2.2.2.2.1, h.2.2.2.2.2.2.1, h.2.2.2.2.2.2.2.1, h.2.2.2.2.2.2.2.2.1, h1⟩, fun S0 e => by have e : some _ = some S0 := e; cases e; exact ⟨rfl, rfl⟩⟩)
def cx_lcmp : cm_F1 := fun E P t S => match S.2.2.1 with
  | .long y :: .long x :: st => some (cm_adv S 1 (.int (lg_cmp x y) :: st))
  | _ => none
theorem cd_lcmp : cm_Dt cm_lcmp cx_lcmp := by
  intro E P t S k h
  obtain ⟨pc, L, st, M⟩ := S
  unfold cm_lcmp at h ⊢
  dsimp only at h ⊢
  split at h <;> (first | exact h.elim | exact ⟨_, _, h, h, fun k' h1 _ => h1, fun S0 e => by have e : some _ = some S0 := e; cases e; exact ⟨rfl, rfl⟩⟩ | exact ⟨_, _, h.2, h.2, fun k' h1 _ => ⟨h.1, h1⟩, fun S0 e => by have e : some _ = some S0 := e; cases e; exact ⟨rfl, rfl⟩⟩ | exact ⟨_, _, h.2.2, h.2.2, fun k' h1 _ => ⟨h.1, h.2.1, h1⟩, fun S0 e => by have e : some _ = some S0 := e; cases e; exact ⟨rfl, rfl⟩⟩ | exact ⟨_, _, h.2.2.2, h.2.2.2, fun k' h1 _ => ⟨h.1, h.2.1, h.2.2.1, h1⟩, fun S0 e => by have e : some _ = some S0 := e; cases e; exact ⟨rfl, rfl⟩⟩ | exact ⟨_, _, h.2.2.2.2, h.2.2.2.2, fun k' h1 _ => ⟨h.1, h.2.1, h.2.2.1, h.2.2.2.1, h1⟩, fun S0 e => by have e : some _ = some S0 := e; cases e; exact ⟨rfl, rfl⟩⟩ | exact ⟨_, _, h.2.2.2.2.2, h.2.2.2.2.2, fun k' h1 _ => ⟨h.1, h.2.1, h.2.2.1, h.2.2.2.1, h.2.2.2.2.1, h1⟩, fun S0 e => by have e : some _ = some S0 := e; cases e; exact ⟨rfl, rfl⟩⟩ | exact ⟨_, _, h.2.2.2.2.2.2, h.2.2.2.2.2.2, fun k' h1 _ => ⟨h.1, h.2.1, h.2.2.1, h.2.2.2.1, h.2.2.2.2.1, h.2.2.2.2.2.1, h1⟩, fun S0 e => by have e : some _ = some S0 := e; cases e; exact ⟨rfl, rfl⟩⟩ | exact ⟨_, _, h.2.2.2.2.2.2.2, h.2.2.2.2.2.2.2, fun k' h1 _ => ⟨h.1, h.2.1, h.2.2.1, h.2.2.2.1, h.2.2.2.2.1, h.2.2.2.2.2.1, h.2.2.2.2.2.2.1, h1⟩, fun S0 e => by have e : some _ = some S0 := e; cases e; exact ⟨rfl, rfl⟩⟩ | exact ⟨_, _, h.2.2.2.2.2.2.2.2, h.2.2.2.2.2.2.2.2, fun k' h1 _ => ⟨h.1, h.2.1, h.2.2.1, h.2.2.2.1, h.2.2.2.2.1, h.2.2.2.2.2.1, h.2.2.2.2.2.2.1, h.2.2.2.2.2.2.2.1, h1⟩, fun S0 e => by have e : some _ = some S0 := e; cases e; exact ⟨rfl, rfl⟩⟩ | exact ⟨_, _, h.2.2.2.2.2.2.2.2.2, h.2.2.2.2.2.2.2.2.2, fun k' h1 _ => ⟨h.1, h.2.1, h.2.2.1, h.2.2.2.1, h.2.2.2.2.1, h.2.2.2.2.2.1, h.2.2.2.2.2.2.1, h.2.2.2.2.2.2.2.1, h.2.2.2.2.2.2.2.2.1, h1⟩, fun S0 e => by have e : some _ = some S0 := e; cases e; exact ⟨rfl, rfl⟩⟩)
def cx_dup : cm_F1 := fun E P t S => match S.2.2.1 with
  | x :: st => some (cm_adv S 1 (x :: x :: st))
  | _ => none
theorem cd_dup : cm_Dt cm_dup cx_dup := by
  intro E P t S k h
  obtain ⟨pc, L, st, M⟩ := S
  unfold cm_dup at h ⊢
  dsimp only at h ⊢
  split at h <;> (first | exact h.elim | exact ⟨_, _, h, h, fun k' h1 _ => h1, fun S0 e => by have e : some _ = some S0 := e; cases e; exact ⟨rfl, rfl⟩⟩ | exact ⟨_, _, h.2, h.2, fun k' h1 _ => ⟨h.1, h1⟩, fun S0 e => by have e : some _ = some S0 := e; cases e; exact ⟨rfl, rfl⟩⟩ | exact ⟨_, _, h.2.2, h.2.2, fun k' h1 _ => ⟨h.1, h.2.1, h1⟩, fun S0 e => by have e : some _ = some S0 := e; cases e; exact ⟨rfl, rfl⟩⟩ | exact ⟨_, _, h.2.2.2, h.2.2.2, fun k' h1 _ => ⟨h.1, h.2.1, h.2.2.1, h1⟩, fun S0 e => by have e : some _ = some S0 := e; cases e; exact ⟨rfl, rfl⟩⟩ | exact ⟨_, _, h.2.2.2.2, h.2.2.2.2, fun k' h1 _ => ⟨h.1, h.2.1, h.2.2.1, h.2.2.2.1, h1⟩, fun S0 e => by have e : some _ = some S0 := e; cases e; exact ⟨rfl, rfl⟩⟩ | exact ⟨_, _, h.2.2.2.2.2, h.2.2.2.2.2, fun k' h1 _ => ⟨h.1, h.2.1, h.2.2.1, h.2.2.2.1, h.2.2.2.2.1, h1⟩, fun S0 e => by have e : some _ = some S0 := e; cases e; exact ⟨rfl, rfl⟩⟩ | exact ⟨_, _, h.2.2.2.2.2.2, h.2.2.2.2.2.2, fun k' h1 _ => ⟨h.1, h.2.1, h.2.2.1, h.2.2.2.1, h.2.2.2.2.1, h.2.2.2.2.2.1, h1⟩, fun S0 e => by have e : some _ = some S0 := e; cases e; exact ⟨rfl, rfl⟩⟩ | exact ⟨_, _, h.2.2.2.2.2.2.2, h.2.2.2.2.2.2.2, fun k' h1 _ => ⟨h.1, h.2.1, h.2.2.1, h.2.2.2.1, h.2.2.2.2.1, h.2.2.2.2.2.1, h.2.2.2.2.2.2.1, h1⟩, fun S0 e => by have e : some _ = some S0 := e; cases e; exact ⟨rfl, rfl⟩⟩ | exact ⟨_, _, h.2.2.2.2.2.2.2.2, h.2.2.2.2.2.2.2.2, fun k' h1 _ => ⟨h.1, h.2.1, h.2.2.1, h.2.2.2.1, h.2.2.2.2.1, h.2.2.2.2.2.1, h.2.2.2.2.2.2.1, h.2.2.2.2.2.2.2.1, h1⟩, fun S0 e => by have e : some _ = some S0 := e; cases e; exact ⟨rfl, rfl⟩⟩ | exact ⟨_, _, h.2.2.2.2.2.2.2.2.2, h.2.2.2.2.2.2.2.2.2, fun k' h1 _ => ⟨h.1, h.2.1, h.2.2.1, h.2.2.2.1, h.2.2.2.2.1, h.2.2.2.2.2.1, h.2.2.2.2.2.2.1, h.2.2.2.2.2.2.2.1, h.2.2.2.2.2.2.2.2.1, h1⟩, fun S0 e => by have e : some _ = some S0 := e; cases e; exact ⟨rfl, rfl⟩⟩)
def cx_pop : cm_F1 := fun E P t S => match S.2.2.1 with
  | x :: st => some (cm_adv S 1 st)
  | _ => none
theorem cd_pop : cm_Dt cm_pop cx_pop := by
  intro E P t S k h
  obtain ⟨pc, L, st, M⟩ := S
  unfold cm_pop at h ⊢
  dsimp only at h ⊢
  split at h <;> (first | exact h.elim | exact ⟨_, _, h, h, fun k' h1 _ => h1, fun S0 e => by have e : some _ = some S0 := e; cases e; exact ⟨rfl, rfl⟩⟩ | exact ⟨_, _, h.2, h.2, fun k' h1 _ => ⟨h.1, h1⟩, fun S0 e => by have e : some _ = some S0 := e; cases e; exact ⟨rfl, rfl⟩⟩ | exact ⟨_, _, h.2.2, h.2.2, fun k' h1 _ => ⟨h.1, h.2.1, h1⟩, fun S0 e => by have e : some _ = some S0 := e; cases e; exact ⟨rfl, rfl⟩⟩ | exact ⟨_, _, h.2.2.2, h.2.2.2, fun k' h1 _ => ⟨h.1, h.2.1, h.2.2.1, h1⟩, fun S0 e => by have e : some _ = some S0 := e; cases e; exact ⟨rfl, rfl⟩⟩ | exact ⟨_, _, h.2.2.2.2, h.2.2.2.2, fun k' h1 _ => ⟨h.1, h.2.1, h.2.2.1, h.2.2.2.1, h1⟩, fun S0 e => by have e : some _ = some S0 := e; cases e; exact ⟨rfl, rfl⟩⟩ | exact ⟨_, _, h.2.2.2.2.2, h.2.2.2.2.2, fun k' h1 _ => ⟨h.1, h.2.1, h.2.2.1, h.2.2.2.1, h.2.2.2.2.1, h1⟩, fun S0 e => by have e : some _ = some S0 := e; cases e; exact ⟨rfl, rfl⟩⟩ | exact ⟨_, _, h.2.2.2.2.2.2, h.2.2.2.2.2.2, fun k' h1 _ => ⟨h.1, h.2.1, h.2.2.1, h.2.2.2.1, h.2.2.2.2.1, h.2.2.2.2.2.1, h1⟩, fun S0 e => by have e : some _ = some S0 := e; cases e; exact ⟨rfl, rfl⟩⟩ | exact ⟨_, _, h.2.2.2.2.2.2.2, h.2.2.2.2.2.2.2, fun k' h1 _ => ⟨h.1, h.2.1, h.2.2.1, h.2.2.2.1, h.2.2.2.2.1, h.2.2.2.2.2.1, h.2.2.2.2.2.2.1, h1⟩, fun S0 e => by have e : some _ = some S0 := e; cases e; exact ⟨rfl, rfl⟩⟩ | exact ⟨_, _, h.2.2.2.2.2.2.2.2, h.2.2.2.2.2.2.2.2, fun k' h1 _ => ⟨h.1, h.2.1, h.2.2.1, h.2.2.2.1, h.2.2.2.2.1, h.2.2.2.2.2.1, h.2.2.2.2.2.2.1, h.2.2.2.2.2.2.2.1, h1⟩, fun S0 e => by have e : some _ = some S0 := e; cases e; exact ⟨rfl, rfl⟩⟩ | exact ⟨_, _, h.2.2.2.2.2.2.2.2.2, h.2.2.2.2.2.2.2.2.2, fun k' h1 _ => ⟨h.1, h.2.1, h.2.2.1, h.2.2.2.1, h.2.2.2.2.1, h.2.2.2.2.2.1, h.2.2.2.2.2.2.1, h.2.2.2.2.2.2.2.1, h.2.2.2.2.2.2.2.2.1, h1⟩, fun S0 e => by have e : some _ = some S0 := e; cases e; exact ⟨rfl, rfl⟩⟩)
def cx_dup2 : cm_F1 := fun E P t S => match S.2.2.1 with
  | x :: y :: st => some (cm_adv S 1 (x :: y :: x :: y :: st))
  | _ => none
theorem cd_dup2 : cm_Dt cm_dup2 cx_dup2 := by
  intro E P t S k h
  obtain ⟨pc, L, st, M⟩ := S
  unfold cm_dup2 at h ⊢
  dsimp only at h ⊢
  split at h <;> (first | exact h.elim | exact ⟨_, _, h, h, fun k' h1 _ => h1, fun S0 e => by have e : some _ = some S0 := e; cases e; exact ⟨rfl, rfl⟩⟩ | exact ⟨_, _, h.2, h.2, fun k' h1 _ => ⟨h.1, h1⟩, fun S0 e => by have e : some _ = some S0 := e; cases e; exact ⟨rfl, rfl⟩⟩ | exact ⟨_, _, h.2.2, h.2.2, fun k' h1 _ => ⟨h.1, h.2.1, h1⟩, fun S0 e => by have e : some _ = some S0 := e; cases e; exact ⟨rfl, rfl⟩⟩ | exact ⟨_, _, h.2.2.2, h.2.2.2, fun k' h1 _ => ⟨h.1, h.2.1, h.2.2.1, h1⟩, fun S0 e => by have e : some _ = some S0 := e; cases e; exact ⟨rfl, rfl⟩⟩ | exact ⟨_, _, h.2.2.2.2, h.2.2.2.2, fun k' h1 _ => ⟨h.1, h.2.1, h.2.2.1, h.2.2.2.1, h1⟩, fun S0 e => by have e : some _ = some S0 := e; cases e; exact ⟨rfl, rfl⟩⟩ | exact ⟨_, _, h.2.2.2.2.2, h.2.2.2.2.2, fun k' h1 _ => ⟨h.1, h.2.1, h.2.2.1, h.2.2.2.1, h.2.2.2.2.1, h1⟩, fun S0 e => by have e : some _ = some S0 := e; cases e; exact ⟨rfl, rfl⟩⟩ | exact ⟨_, _, h.2.2.2.2.2.2, h.2.2.2.2.2.2, fun k' h1 _ => ⟨h.1, h.2.1, h.2.2.1, h.2.2.2.1, h.2.2.2.2.1, h.2.2.2.2.2.1, h1⟩, fun S0 e => by have e : some _ = some S0 := e; cases e; exact ⟨rfl, rfl⟩⟩ | exact ⟨_, _, h.2.2.2.2.2.2.2, h.2.2.2.2.2.2.2, fun k' h1 _ => ⟨h.1, h.2.1, h.2.2.1, h.2.2.2.1, h.2.2.2.2.1, h.2.2.2.2.2.1, h.2.2.2.2.2.2.1, h1⟩, fun S0 e => by have e : some _ = some S0 := e; cases e; exact ⟨rfl, rfl⟩⟩ | exact ⟨_, _, h.2.2.2.2.2.2.2.2, h.2.2.2.2.2.2.2.2, fun k' h1 _ => ⟨h.1, h.2.1, h.2.2.1, h.2.2.2.1, h.2.2.2.2.1, h.2.2.2.2.2.1, h.2.2.2.2.2.2.1, h.2.2.2.2.2.2.2.1, h1⟩, fun S0 e => by have e : some _ = some S0 := e; cases e; exact ⟨rfl, rfl⟩⟩ | exact ⟨_, _, h.2.2.2.2.2.2.2.2.2, h.2.2.2.2.2.2.2.2.2, fun k' h1 _ => ⟨h.1, h.2.1, h.2.2.1, h.2.2.2.1, h.2.2.2.2.1, h.2.2.2.2.2.1, h.2.2.2.2.2.2.1, h.2.2.2.2.2.2.2.1, h.2.2.2.2.2.2.2.2.1, h1⟩, fun S0 e => by have e : some _ = some S0 := e; cases e; exact ⟨rfl, rfl⟩⟩)
def cx_iinc : cm_F1 := fun E P t S => match cm_look S.2.1 t.1.toNat with
  | some (.int x) => some (S.1 + 3, cm_st1 S.2.1 t.1.toNat (.int (x + Int32.ofInt t.2.1)), S.2.2)
  | _ => none
theorem cd_iinc : cm_Dt cm_iinc cx_iinc := by
  intro E P t S k h
  obtain ⟨pc, L, st, M⟩ := S
  unfold cm_iinc at h ⊢
  dsimp only at h ⊢
  split at h
  · rename_i x hz
    refine ⟨_, _, h.2, h.2, fun k' h1 _ => ?_, fun S0 e => ?_⟩
    · first | exact ⟨h.1, h1⟩ | (rw [hz]; exact ⟨h.1, h1⟩)
    · unfold cx_iinc at e
      dsimp only at e
      rw [hz] at e
      cases e
      exact ⟨rfl, rfl⟩
  · exact h.elim
def cx_icmp_eq : cm_F1 := fun E P t S => match S.2.2.1 with
  | .int y :: .int x :: st => some (if ev_cmp 0 x y = true then (((S.1 : Int) + t.1).toNat, S.2.1, st, S.2.2.2) else (S.1 + 3, S.2.1, st, S.2.2.2))
  | _ => none
theorem cd_icmp_eq : cm_Dt cm_icmp_eq cx_icmp_eq := by
  intro E P t S k h
  obtain ⟨pc, L, st, M⟩ := S
  unfold cm_icmp_eq at h ⊢
  dsimp only at h ⊢
  split at h
  · rename_i y x st'
    cases hc : ev_cmp 0 x y with
    | true =>
      refine ⟨_, _, h.2.1 hc, h.2.1 hc, fun k' h1 _ => ⟨h.1, fun _ => h1, fun z => ?_⟩, fun S0 e => ?_⟩
      · cases z
      · unfold cx_icmp_eq at e
        dsimp only at e
        rw [if_pos hc] at e
        cases e
        exact ⟨rfl, rfl⟩
    | false =>
      refine ⟨_, _, h.2.2 hc, h.2.2 hc, fun k' h1 _ => ⟨h.1, fun z => ?_, fun _ => h1⟩, fun S0 e => ?_⟩
      · cases z
      · unfold cx_icmp_eq at e
        dsimp only at e
        rw [if_neg (by rw [hc]; decide)] at e
        cases e
        exact ⟨rfl, rfl⟩
  · exact h.elim
def cx_icmp_ne : cm_F1 := fun E P t S => match S.2.2.1 with
  | .int y :: .int x :: st => some (if ev_cmp 1 x y = true then (((S.1 : Int) + t.1).toNat, S.2.1, st, S.2.2.2) else (S.1 + 3, S.2.1, st, S.2.2.2))
  | _ => none
theorem cd_icmp_ne : cm_Dt cm_icmp_ne cx_icmp_ne := by
  intro E P t S k h
  obtain ⟨pc, L, st, M⟩ := S
  unfold cm_icmp_ne at h ⊢
  dsimp only at h ⊢
  split at h
  · rename_i y x st'
    cases hc : ev_cmp 1 x y with
    | true =>
      refine ⟨_, _, h.2.1 hc, h.2.1 hc, fun k' h1 _ => ⟨h.1, fun _ => h1, fun z => ?_⟩, fun S0 e => ?_⟩
      · cases z
      · unfold cx_icmp_ne at e
        dsimp only at e
        rw [if_pos hc] at e
        cases e
        exact ⟨rfl, rfl⟩
    | false =>
      refine ⟨_, _, h.2.2 hc, h.2.2 hc, fun k' h1 _ => ⟨h.1, fun z => ?_, fun _ => h1⟩, fun S0 e => ?_⟩
      · cases z
      · unfold cx_icmp_ne at e
        dsimp only at e
        rw [if_neg (by rw [hc]; decide)] at e
        cases e
        exact ⟨rfl, rfl⟩
  · exact h.elim
def cx_icmp_lt : cm_F1 := fun E P t S => match S.2.2.1 with
  | .int y :: .int x :: st => some (if ev_cmp 2 x y = true then (((S.1 : Int) + t.1).toNat, S.2.1, st, S.2.2.2) else (S.1 + 3, S.2.1, st, S.2.2.2))
  | _ => none
theorem cd_icmp_lt : cm_Dt cm_icmp_lt cx_icmp_lt := by
  intro E P t S k h
  obtain ⟨pc, L, st, M⟩ := S
  unfold cm_icmp_lt at h ⊢
  dsimp only at h ⊢
  split at h
  · rename_i y x st'
    cases hc : ev_cmp 2 x y with
    | true =>
      refine ⟨_, _, h.2.1 hc, h.2.1 hc, fun k' h1 _ => ⟨h.1, fun _ => h1, fun z => ?_⟩, fun S0 e => ?_⟩
      · cases z
      · unfold cx_icmp_lt at e
        dsimp only at e
        rw [if_pos hc] at e
        cases e
        exact ⟨rfl, rfl⟩
    | false =>
      refine ⟨_, _, h.2.2 hc, h.2.2 hc, fun k' h1 _ => ⟨h.1, fun z => ?_, fun _ => h1⟩, fun S0 e => ?_⟩
      · cases z
      · unfold cx_icmp_lt at e
        dsimp only at e
        rw [if_neg (by rw [hc]; decide)] at e
        cases e
        exact ⟨rfl, rfl⟩
  · exact h.elim
def cx_icmp_ge : cm_F1 := fun E P t S => match S.2.2.1 with
  | .int y :: .int x :: st => some (if ev_cmp 3 x y = true then (((S.1 : Int) + t.1).toNat, S.2.1, st, S.2.2.2) else (S.1 + 3, S.2.1, st, S.2.2.2))
  | _ => none
theorem cd_icmp_ge : cm_Dt cm_icmp_ge cx_icmp_ge := by
  intro E P t S k h
  obtain ⟨pc, L, st, M⟩ := S
  unfold cm_icmp_ge at h ⊢
  dsimp only at h ⊢
  split at h
  · rename_i y x st'
    cases hc : ev_cmp 3 x y with
    | true =>
      refine ⟨_, _, h.2.1 hc, h.2.1 hc, fun k' h1 _ => ⟨h.1, fun _ => h1, fun z => ?_⟩, fun S0 e => ?_⟩
      · cases z
      · unfold cx_icmp_ge at e
        dsimp only at e
        rw [if_pos hc] at e
        cases e
        exact ⟨rfl, rfl⟩
    | false =>
      refine ⟨_, _, h.2.2 hc, h.2.2 hc, fun k' h1 _ => ⟨h.1, fun z => ?_, fun _ => h1⟩, fun S0 e => ?_⟩
      · cases z
      · unfold cx_icmp_ge at e
        dsimp only at e
        rw [if_neg (by rw [hc]; decide)] at e
        cases e
        exact ⟨rfl, rfl⟩
  · exact h.elim
def cx_icmp_gt : cm_F1 := fun E P t S => match S.2.2.1 with
  | .int y :: .int x :: st => some (if ev_cmp 4 x y = true then (((S.1 : Int) + t.1).toNat, S.2.1, st, S.2.2.2) else (S.1 + 3, S.2.1, st, S.2.2.2))
  | _ => none
theorem cd_icmp_gt : cm_Dt cm_icmp_gt cx_icmp_gt := by
  intro E P t S k h
  obtain ⟨pc, L, st, M⟩ := S
  unfold cm_icmp_gt at h ⊢
  dsimp only at h ⊢
  split at h
  · rename_i y x st'
    cases hc : ev_cmp 4 x y with
    | true =>
      refine ⟨_, _, h.2.1 hc, h.2.1 hc, fun k' h1 _ => ⟨h.1, fun _ => h1, fun z => ?_⟩, fun S0 e => ?_⟩
      · cases z
      · unfold cx_icmp_gt at e
        dsimp only at e
        rw [if_pos hc] at e
        cases e
        exact ⟨rfl, rfl⟩
    | false =>
      refine ⟨_, _, h.2.2 hc, h.2.2 hc, fun k' h1 _ => ⟨h.1, fun z => ?_, fun _ => h1⟩, fun S0 e => ?_⟩
      · cases z
      · unfold cx_icmp_gt at e
        dsimp only at e
        rw [if_neg (by rw [hc]; decide)] at e
        cases e
        exact ⟨rfl, rfl⟩
  · exact h.elim
def cx_icmp_le : cm_F1 := fun E P t S => match S.2.2.1 with
  | .int y :: .int x :: st => some (if ev_cmp 5 x y = true then (((S.1 : Int) + t.1).toNat, S.2.1, st, S.2.2.2) else (S.1 + 3, S.2.1, st, S.2.2.2))
  | _ => none
theorem cd_icmp_le : cm_Dt cm_icmp_le cx_icmp_le := by
  intro E P t S k h
  obtain ⟨pc, L, st, M⟩ := S
  unfold cm_icmp_le at h ⊢
  dsimp only at h ⊢
  split at h
  · rename_i y x st'
    cases hc : ev_cmp 5 x y with
    | true =>
      refine ⟨_, _, h.2.1 hc, h.2.1 hc, fun k' h1 _ => ⟨h.1, fun _ => h1, fun z => ?_⟩, fun S0 e => ?_⟩
      · cases z
      · unfold cx_icmp_le at e
        dsimp only at e
        rw [if_pos hc] at e
        cases e
        exact ⟨rfl, rfl⟩
    | false =>
      refine ⟨_, _, h.2.2 hc, h.2.2 hc, fun k' h1 _ => ⟨h.1, fun z => ?_, fun _ => h1⟩, fun S0 e => ?_⟩
      · cases z
      · unfold cx_icmp_le at e
        dsimp only at e
        rw [if_neg (by rw [hc]; decide)] at e
        cases e
        exact ⟨rfl, rfl⟩
  · exact h.elim
def cx_if_eq : cm_F1 := fun E P t S => match S.2.2.1 with
  | .int x :: st => some (if ev_cmp 0 x 0 = true then (((S.1 : Int) + t.1).toNat, S.2.1, st, S.2.2.2) else (S.1 + 3, S.2.1, st, S.2.2.2))
  | _ => none
theorem cd_if_eq : cm_Dt cm_if_eq cx_if_eq := by
  intro E P t S k h
  obtain ⟨pc, L, st, M⟩ := S
  unfold cm_if_eq at h ⊢
  dsimp only at h ⊢
  split at h
  · rename_i x st'
    cases hc : ev_cmp 0 x 0 with
    | true =>
      refine ⟨_, _, h.2.1 hc, h.2.1 hc, fun k' h1 _ => ⟨h.1, fun _ => h1, fun z => ?_⟩, fun S0 e => ?_⟩
      · cases z
      · unfold cx_if_eq at e
        dsimp only at e
        rw [if_pos hc] at e
        cases e
        exact ⟨rfl, rfl⟩
    | false =>
      refine ⟨_, _, h.2.2 hc, h.2.2 hc, fun k' h1 _ => ⟨h.1, fun z => ?_, fun _ => h1⟩, fun S0 e => ?_⟩
      · cases z
      · unfold cx_if_eq at e
        dsimp only at e
        rw [if_neg (by rw [hc]; decide)] at e
        cases e
        exact ⟨rfl, rfl⟩
  · exact h.elim
def cx_if_ne : cm_F1 := fun E P t S => match S.2.2.1 with
  | .int x :: st => some (if ev_cmp 1 x 0 = true then (((S.1 : Int) + t.1).toNat, S.2.1, st, S.2.2.2) else (S.1 + 3, S.2.1, st, S.2.2.2))
  | _ => none
theorem cd_if_ne : cm_Dt cm_if_ne cx_if_ne := by
  intro E P t S k h
  obtain ⟨pc, L, st, M⟩ := S
  unfold cm_if_ne at h ⊢
  dsimp only at h ⊢
  split at h
  · rename_i x st'
    cases hc : ev_cmp 1 x 0 with
    | true =>
      refine ⟨_, _, h.2.1 hc, h.2.1 hc, fun k' h1 _ => ⟨h.1, fun _ => h1, fun z => ?_⟩, fun S0 e => ?_⟩
      · cases z
      · unfold cx_if_ne at e
        dsimp only at e
        rw [if_pos hc] at e
        cases e
        exact ⟨rfl, rfl⟩
    | false =>
      refine ⟨_, _, h.2.2 hc, h.2.2 hc, fun k' h1 _ => ⟨h.1, fun z => ?_, fun _ => h1⟩, fun S0 e => ?_⟩
      · cases z
      · unfold cx_if_ne at e
        dsimp only at e
        rw [if_neg (by rw [hc]; decide)] at e
        cases e
        exact ⟨rfl, rfl⟩
  · exact h.elim
def cx_if_lt : cm_F1 := fun E P t S => match S.2.2.1 with
  | .int x :: st => some (if ev_cmp 2 x 0 = true then (((S.1 : Int) + t.1).toNat, S.2.1, st, S.2.2.2) else (S.1 + 3, S.2.1, st, S.2.2.2))
  | _ => none
theorem cd_if_lt : cm_Dt cm_if_lt cx_if_lt := by
  intro E P t S k h
  obtain ⟨pc, L, st, M⟩ := S
  unfold cm_if_lt at h ⊢
  dsimp only at h ⊢
  split at h
  · rename_i x st'
    cases hc : ev_cmp 2 x 0 with
    | true =>
      refine ⟨_, _, h.2.1 hc, h.2.1 hc, fun k' h1 _ => ⟨h.1, fun _ => h1, fun z => ?_⟩, fun S0 e => ?_⟩
      · cases z
      · unfold cx_if_lt at e
        dsimp only at e
        rw [if_pos hc] at e
        cases e
        exact ⟨rfl, rfl⟩
    | false =>
      refine ⟨_, _, h.2.2 hc, h.2.2 hc, fun k' h1 _ => ⟨h.1, fun z => ?_, fun _ => h1⟩, fun S0 e => ?_⟩
      · cases z
      · unfold cx_if_lt at e
        dsimp only at e
        rw [if_neg (by rw [hc]; decide)] at e
        cases e
        exact ⟨rfl, rfl⟩
  · exact h.elim
def cx_if_ge : cm_F1 := fun E P t S => match S.2.2.1 with
  | .int x :: st => some (if ev_cmp 3 x 0 = true then (((S.1 : Int) + t.1).toNat, S.2.1, st, S.2.2.2) else (S.1 + 3, S.2.1, st, S.2.2.2))
  | _ => none
theorem cd_if_ge : cm_Dt cm_if_ge cx_if_ge := by
  intro E P t S k h
  obtain ⟨pc, L, st, M⟩ := S
  unfold cm_if_ge at h ⊢
  dsimp only at h ⊢
  split at h
  · rename_i x st'
    cases hc : ev_cmp 3 x 0 with
    | true =>
      refine ⟨_, _, h.2.1 hc, h.2.1 hc, fun k' h1 _ => ⟨h.1, fun _ => h1, fun z => ?_⟩, fun S0 e => ?_⟩
      · cases z
      · unfold cx_if_ge at e
        dsimp only at e
        rw [if_pos hc] at e
        cases e
        exact ⟨rfl, rfl⟩
    | false =>
      refine ⟨_, _, h.2.2 hc, h.2.2 hc, fun k' h1 _ => ⟨h.1, fun z => ?_, fun _ => h1⟩, fun S0 e => ?_⟩
      · cases z
      · unfold cx_if_ge at e
        dsimp only at e
        rw [if_neg (by rw [hc]; decide)] at e
        cases e
        exact ⟨rfl, rfl⟩
  · exact h.elim
def cx_if_gt : cm_F1 := fun E P t S => match S.2.2.1 with
  | .int x :: st => some (if ev_cmp 4 x 0 = true then (((S.1 : Int) + t.1).toNat, S.2.1, st, S.2.2.2) else (S.1 + 3, S.2.1, st, S.2.2.2))
  | _ => none
theorem cd_if_gt : cm_Dt cm_if_gt cx_if_gt := by
  intro E P t S k h
  obtain ⟨pc, L, st, M⟩ := S
  unfold cm_if_gt at h ⊢
  dsimp only at h ⊢
  split at h
  · rename_i x st'
    cases hc : ev_cmp 4 x 0 with
    | true =>
      refine ⟨_, _, h.2.1 hc, h.2.1 hc, fun k' h1 _ => ⟨h.1, fun _ => h1, fun z => ?_⟩, fun S0 e => ?_⟩
      · cases z
      · unfold cx_if_gt at e
        dsimp only at e
        rw [if_pos hc] at e
        cases e
        exact ⟨rfl, rfl⟩
    | false =>
      refine ⟨_, _, h.2.2 hc, h.2.2 hc, fun k' h1 _ => ⟨h.1, fun z => ?_, fun _ => h1⟩, fun S0 e => ?_⟩
      · cases z
      · unfold cx_if_gt at e
        dsimp only at e
        rw [if_neg (by rw [hc]; decide)] at e
        cases e
        exact ⟨rfl, rfl⟩
  · exact h.elim
def cx_if_le : cm_F1 := fun E P t S => match S.2.2.1 with
  | .int x :: st => some (if ev_cmp 5 x 0 = true then (((S.1 : Int) + t.1).toNat, S.2.1, st, S.2.2.2) else (S.1 + 3, S.2.1, st, S.2.2.2))
  | _ => none
theorem cd_if_le : cm_Dt cm_if_le cx_if_le := by
  intro E P t S k h
  obtain ⟨pc, L, st, M⟩ := S
  unfold cm_if_le at h ⊢
  dsimp only at h ⊢
  split at h
  · rename_i x st'
    cases hc : ev_cmp 5 x 0 with
    | true =>
      refine ⟨_, _, h.2.1 hc, h.2.1 hc, fun k' h1 _ => ⟨h.1, fun _ => h1, fun z => ?_⟩, fun S0 e => ?_⟩
      · cases z
      · unfold cx_if_le at e
        dsimp only at e
        rw [if_pos hc] at e
        cases e
        exact ⟨rfl, rfl⟩
    | false =>
      refine ⟨_, _, h.2.2 hc, h.2.2 hc, fun k' h1 _ => ⟨h.1, fun z => ?_, fun _ => h1⟩, fun S0 e => ?_⟩
      · cases z
      · unfold cx_if_le at e
        dsimp only at e
        rw [if_neg (by rw [hc]; decide)] at e
        cases e
        exact ⟨rfl, rfl⟩
  · exact h.elim
def cx_goto : cm_F1 := fun E P t S => some (((S.1 : Int) + t.1).toNat, S.2)
theorem cd_goto : cm_Dt cm_goto cx_goto := by
  intro E P t S k h
  obtain ⟨pc, L, st, M⟩ := S
  unfold cm_goto at h ⊢
  dsimp only at h ⊢
  first | exact h.elim | exact ⟨_, _, h, h, fun k' h1 _ => h1, fun S0 e => by have e : some _ = some S0 := e; cases e; exact ⟨rfl, rfl⟩⟩ | exact ⟨_, _, h.2, h.2, fun k' h1 _ => ⟨h.1, h1⟩, fun S0 e => by have e : some _ = some S0 := e; cases e; exact ⟨rfl, rfl⟩⟩ | exact ⟨_, _, h.2.2, h.2.2, fun k' h1 _ => ⟨h.1, h.2.1, h1⟩, fun S0 e => by have e : some _ = some S0 := e; cases e; exact ⟨rfl, rfl⟩⟩ | exact ⟨_, _, h.2.2.2, h.2.2.2, fun k' h1 _ => ⟨h.1, h.2.1, h.2.2.1, h1⟩, fun S0 e => by have e : some _ = some S0 := e; cases e; exact ⟨rfl, rfl⟩⟩ | exact ⟨_, _, h.2.2.2.2, h.2.2.2.2, fun k' h1 _ => ⟨h.1, h.2.1, h.2.2.1, h.2.2.2.1, h1⟩, fun S0 e => by have e : some _ = some S0 := e; cases e; exact ⟨rfl, rfl⟩⟩ | exact ⟨_, _, h.2.2.2.2.2, h.2.2.2.2.2, fun k' h1 _ => ⟨h.1, h.2.1, h.2.2.1, h.2.2.2.1, h.2.2.2.2.1, h1⟩, fun S0 e => by have e : some _ = some S0 := e; cases e; exact ⟨rfl, rfl⟩⟩ | exact ⟨_, _, h.2.2.2.2.2.2, h.2.2.2.2.2.2, fun k' h1 _ => ⟨h.1, h.2.1, h.2.2.1, h.2.2.2.1, h.2.2.2.2.1, h.2.2.2.2.2.1, h1⟩, fun S0 e => by have e : some _ = some S0 := e; cases e; exact ⟨rfl, rfl⟩⟩ | exact ⟨_, _, h.2.2.2.2.2.2.2, h.2.2.2.2.2.2.2, fun k' h1 _ => ⟨h.1, h.2.1, h.2.2.1, h.2.2.2.1, h.2.2.2.2.1, h.2.2.2.2.2.1, h.2.2.2.2.2.2.1, h1⟩, fun S0 e => by have e : some _ = some S0 := e; cases e; exact ⟨rfl, rfl⟩⟩ | exact ⟨_, _, h.2.2.2.2.2.2.2.2, h.2.2.2.2.2.2.2.2, fun k' h1 _ => ⟨h.1, h.2.1, h.2.2.1, h.2.2.2.1, h.2.2.2.2.1, h.2.2.2.2.2.1, h.2.2.2.2.2.2.1, h.2.2.2.2.2.2.2.1, h1⟩, fun S0 e => by have e : some _ = some S0 := e; cases e; exact ⟨rfl, rfl⟩⟩ | exact ⟨_, _, h.2.2.2.2.2.2.2.2.2, h.2.2.2.2.2.2.2.2.2, fun k' h1 _ => ⟨h.1, h.2.1, h.2.2.1, h.2.2.2.1, h.2.2.2.2.1, h.2.2.2.2.2.1, h.2.2.2.2.2.2.1, h.2.2.2.2.2.2.2.1, h.2.2.2.2.2.2.2.2.1, h1⟩, fun S0 e => by have e : some _ = some S0 := e; cases e; exact ⟨rfl, rfl⟩⟩
def cx_sw : cm_F1 := fun E P t S => match t.2.2.2, S.2.2.1 with
  | _ :: offs, .int x :: st => if x.toInt < t.2.1 ∨ t.2.2.1 < x.toInt then some (((S.1 : Int) + t.1).toNat, S.2.1, st, S.2.2.2) else (match offs[(x.toInt - t.2.1).toNat]? with
    | some o => some (((S.1 : Int) + o).toNat, S.2.1, st, S.2.2.2)
    | none => none)
  | _, _ => none
theorem cd_sw : cm_Dt cm_sw cx_sw := by
  intro E P t S k h
  obtain ⟨pc, L, st, M⟩ := S
  unfold cm_sw at h ⊢
  dsimp only at h ⊢
  split at h
  · rename_i y offs x st' ht
    obtain ⟨a1, a2, a3, a4, a5⟩ := h
    by_cases hc : x.toInt < t.2.1 ∨ t.2.2.1 < x.toInt
    · refine ⟨_, _, a4 hc, a4 hc, fun k' h1 _ => ⟨a1, a2, a3, fun _ => h1, fun j o q1 q2 => ?_⟩, fun S0 e => ?_⟩
      · exfalso
        have hj := (List.getElem?_eq_some_iff.mp q1).1
        omega
      · unfold cx_sw at e
        dsimp only at e
        rw [ht] at e
        dsimp only at e
        rw [if_pos hc] at e
        cases e
        exact ⟨rfl, rfl⟩
    · have hlt : (x.toInt - t.2.1).toNat < offs.length := by omega
      have hj := List.getElem?_eq_getElem hlt
      have hx : x.toInt = t.2.1 + (((x.toInt - t.2.1).toNat : Nat) : Int) := by omega
      refine ⟨_, _, a5 _ _ hj hx, a5 _ _ hj hx, fun k' h1 _ => ⟨a1, a2, a3, fun q => absurd q hc, fun j o q1 q2 => ?_⟩, fun S0 e => ?_⟩
      · have ej : j = (x.toInt - t.2.1).toNat := by omega
        subst ej
        rw [hj] at q1
        cases q1
        exact h1
      · unfold cx_sw at e
        dsimp only at e
        rw [ht] at e
        dsimp only at e
        rw [if_neg hc, hj] at e
        cases e
        exact ⟨rfl, rfl⟩
  · exact h.elim
def cx_get : cm_F1 := fun E P t S => match S.2.2.1 with
  | .ref c :: st => some (cm_adv S 3 (cm_rd S.2.2.2 (cm_ft t.1.toNat t.2.1.toNat) c t.2.1.toNat :: st))
  | _ => none
theorem cd_get : cm_Dt cm_get cx_get := by
  intro E P t S k h
  obtain ⟨pc, L, st, M⟩ := S
  unfold cm_get at h ⊢
  dsimp only at h ⊢
  split at h <;> (first | exact h.elim | exact ⟨_, _, h, h, fun k' h1 _ => h1, fun S0 e => by have e : some _ = some S0 := e; cases e; exact ⟨rfl, rfl⟩⟩ | exact ⟨_, _, h.2, h.2, fun k' h1 _ => ⟨h.1, h1⟩, fun S0 e => by have e : some _ = some S0 := e; cases e; exact ⟨rfl, rfl⟩⟩ | exact ⟨_, _, h.2.2, h.2.2, fun k' h1 _ => ⟨h.1, h.2.1, h1⟩, fun S0 e => by have e : some _ = some S0 := e; cases e; exact ⟨rfl, rfl⟩⟩ | exact ⟨_, _, h.2.2.2, h.2.2.2, fun k' h1 _ => ⟨h.1, h.2.1, h.2.2.1, h1⟩, fun S0 e => by have e : some _ = some S0 := e; cases e; exact ⟨rfl, rfl⟩⟩ | exact ⟨_, _, h.2.2.2.2, h.2.2.2.2, fun k' h1 _ => ⟨h.1, h.2.1, h.2.2.1, h.2.2.2.1, h1⟩, fun S0 e => by have e : some _ = some S0 := e; cases e; exact ⟨rfl, rfl⟩⟩ | exact ⟨_, _, h.2.2.2.2.2, h.2.2.2.2.2, fun k' h1 _ => ⟨h.1, h.2.1, h.2.2.1, h.2.2.2.1, h.2.2.2.2.1, h1⟩, fun S0 e => by have e : some _ = some S0 := e; cases e; exact ⟨rfl, rfl⟩⟩ | exact ⟨_, _, h.2.2.2.2.2.2, h.2.2.2.2.2.2, fun k' h1 _ => ⟨h.1, h.2.1, h.2.2.1, h.2.2.2.1, h.2.2.2.2.1, h.2.2.2.2.2.1, h1⟩, fun S0 e => by have e : some _ = some S0 := e; cases e; exact ⟨rfl, rfl⟩⟩ | exact ⟨_, _, h.2.2.2.2.2.2.2, h.2.2.2.2.2.2.2, fun k' h1 _ => ⟨h.1, h.2.1, h.2.2.1, h.2.2.2.1, h.2.2.2.2.1, h.2.2.2.2.2.1, h.2.2.2.2.2.2.1, h1⟩, fun S0 e => by have e : some _ = some S0 := e; cases e; exact ⟨rfl, rfl⟩⟩ | exact ⟨_, _, h.2.2.2.2.2.2.2.2, h.2.2.2.2.2.2.2.2, fun k' h1 _ => ⟨h.1, h.2.1, h.2.2.1, h.2.2.2.1, h.2.2.2.2.1, h.2.2.2.2.2.1, h.2.2.2.2.2.2.1, h.2.2.2.2.2.2.2.1, h1⟩, fun S0 e => by have e : some _ = some S0 := e; cases e; exact ⟨rfl, rfl⟩⟩ | exact ⟨_, _, h.2.2.2.2.2.2.2.2.2, h.2.2.2.2.2.2.2.2.2, fun k' h1 _ => ⟨h.1, h.2.1, h.2.2.1, h.2.2.2.1, h.2.2.2.2.1, h.2.2.2.2.2.1, h.2.2.2.2.2.2.1, h.2.2.2.2.2.2.2.1, h.2.2.2.2.2.2.2.2.1, h1⟩, fun S0 e => by have e : some _ = some S0 := e; cases e; exact ⟨rfl, rfl⟩⟩)
def cx_put : cm_F1 := fun E P t S => match S.2.2.1 with
  | v :: .ref c :: st => some (S.1 + 3, S.2.1, st, cm_wf S.2.2.2 c t.2.1.toNat v)
  | _ => none
theorem cd_put : cm_Dt cm_put cx_put := by
  intro E P t S k h
  obtain ⟨pc, L, st, M⟩ := S
  unfold cm_put at h ⊢
  dsimp only at h ⊢
  split at h <;> (first | exact h.elim | exact ⟨_, _, h, h, fun k' h1 _ => h1, fun S0 e => by have e : some _ = some S0 := e; cases e; exact ⟨rfl, rfl⟩⟩ | exact ⟨_, _, h.2, h.2, fun k' h1 _ => ⟨h.1, h1⟩, fun S0 e => by have e : some _ = some S0 := e; cases e; exact ⟨rfl, rfl⟩⟩ | exact ⟨_, _, h.2.2, h.2.2, fun k' h1 _ => ⟨h.1, h.2.1, h1⟩, fun S0 e => by have e : some _ = some S0 := e; cases e; exact ⟨rfl, rfl⟩⟩ | exact ⟨_, _, h.2.2.2, h.2.2.2, fun k' h1 _ => ⟨h.1, h.2.1, h.2.2.1, h1⟩, fun S0 e => by have e : some _ = some S0 := e; cases e; exact ⟨rfl, rfl⟩⟩ | exact ⟨_, _, h.2.2.2.2, h.2.2.2.2, fun k' h1 _ => ⟨h.1, h.2.1, h.2.2.1, h.2.2.2.1, h1⟩, fun S0 e => by have e : some _ = some S0 := e; cases e; exact ⟨rfl, rfl⟩⟩ | exact ⟨_, _, h.2.2.2.2.2, h.2.2.2.2.2, fun k' h1 _ => ⟨h.1, h.2.1, h.2.2.1, h.2.2.2.1, h.2.2.2.2.1, h1⟩, fun S0 e => by have e : some _ = some S0 := e; cases e; exact ⟨rfl, rfl⟩⟩ | exact ⟨_, _, h.2.2.2.2.2.2, h.2.2.2.2.2.2, fun k' h1 _ => ⟨h.1, h.2.1, h.2.2.1, h.2.2.2.1, h.2.2.2.2.1, h.2.2.2.2.2.1, h1⟩, fun S0 e => by have e : some _ = some S0 := e; cases e; exact ⟨rfl, rfl⟩⟩ | exact ⟨_, _, h.2.2.2.2.2.2.2, h.2.2.2.2.2.2.2, fun k' h1 _ => ⟨h.1, h.2.1, h.2.2.1, h.2.2.2.1, h.2.2.2.2.1, h.2.2.2.2.2.1, h.2.2.2.2.2.2.1, h1⟩, fun S0 e => by have e : some _ = some S0 := e; cases e; exact ⟨rfl, rfl⟩⟩ | exact ⟨_, _, h.2.2.2.2.2.2.2.2, h.2.2.2.2.2.2.2.2, fun k' h1 _ => ⟨h.1, h.2.1, h.2.2.1, h.2.2.2.1, h.2.2.2.2.1, h.2.2.2.2.2.1, h.2.2.2.2.2.2.1, h.2.2.2.2.2.2.2.1, h1⟩, fun S0 e => by have e : some _ = some S0 := e; cases e; exact ⟨rfl, rfl⟩⟩ | exact ⟨_, _, h.2.2.2.2.2.2.2.2.2, h.2.2.2.2.2.2.2.2.2, fun k' h1 _ => ⟨h.1, h.2.1, h.2.2.1, h.2.2.2.1, h.2.2.2.2.1, h.2.2.2.2.2.1, h.2.2.2.2.2.2.1, h.2.2.2.2.2.2.2.1, h.2.2.2.2.2.2.2.2.1, h1⟩, fun S0 e => by have e : some _ = some S0 := e; cases e; exact ⟨rfl, rfl⟩⟩)
def cx_iaload : cm_F1 := fun E P t S => match S.2.2.1 with
  | .int i :: .ref c :: st => some (cm_adv S 1 (.int (S.2.2.2.1 c i.toNatClampNeg) :: st))
  | _ => none
theorem cd_iaload : cm_Dt cm_iaload cx_iaload := by
  intro E P t S k h
  obtain ⟨pc, L, st, M⟩ := S
  unfold cm_iaload at h ⊢
  dsimp only at h ⊢
  split at h <;> (first | exact h.elim | exact ⟨_, _, h, h, fun k' h1 _ => h1, fun S0 e => by have e : some _ = some S0 := e; cases e; exact ⟨rfl, rfl⟩⟩ | exact ⟨_, _, h.2, h.2, fun k' h1 _ => ⟨h.1, h1⟩, fun S0 e => by have e : some _ = some S0 := e; cases e; exact ⟨rfl, rfl⟩⟩ | exact ⟨_, _, h.2.2, h.2.2, fun k' h1 _ => ⟨h.1, h.2.1, h1⟩, fun S0 e => by have e : some _ = some S0 := e; cases e; exact ⟨rfl, rfl⟩⟩ | exact ⟨_, _, h.2.2.2, h.2.2.2, fun k' h1 _ => ⟨h.1, h.2.1, h.2.2.1, h1⟩, fun S0 e => by have e : some _ = some S0 := e; cases e; exact ⟨rfl, rfl⟩⟩ | exact ⟨_, _, h.2.2.2.2, h.2.2.2.2, fun k' h1 _ => ⟨h.1, h.2.1, h.2.2.1, h.2.2.2.1, h1⟩, fun S0 e => by have e : some _ = some S0 := e; cases e; exact ⟨rfl, rfl⟩⟩ | exact ⟨_, _, h.2.2.2.2.2, h.2.2.2.2.2, fun k' h1 _ => ⟨h.1, h.2.1, h.2.2.1, h.2.2.2.1, h.2.2.2.2.1, h1⟩, fun S0 e => by have e : some _ = some S0 := e; cases e; exact ⟨rfl, rfl⟩⟩ | exact ⟨_, _, h.2.2.2.2.2.2, h.2.2.2.2.2.2, fun k' h1 _ => ⟨h.1, h.2.1, h.2.2.1, h.2.2.2.1, h.2.2.2.2.1, h.2.2.2.2.2.1, h1⟩, fun S0 e => by have e : some _ = some S0 := e; cases e; exact ⟨rfl, rfl⟩⟩ | exact ⟨_, _, h.2.2.2.2.2.2.2, h.2.2.2.2.2.2.2, fun k' h1 _ => ⟨h.1, h.2.1, h.2.2.1, h.2.2.2.1, h.2.2.2.2.1, h.2.2.2.2.2.1, h.2.2.2.2.2.2.1, h1⟩, fun S0 e => by have e : some _ = some S0 := e; cases e; exact ⟨rfl, rfl⟩⟩ | exact ⟨_, _, h.2.2.2.2.2.2.2.2, h.2.2.2.2.2.2.2.2, fun k' h1 _ => ⟨h.1, h.2.1, h.2.2.1, h.2.2.2.1, h.2.2.2.2.1, h.2.2.2.2.2.1, h.2.2.2.2.2.2.1, h.2.2.2.2.2.2.2.1, h1⟩, fun S0 e => by have e : some _ = some S0 := e; cases e; exact ⟨rfl, rfl⟩⟩ | exact ⟨_, _, h.2.2.2.2.2.2.2.2.2, h.2.2.2.2.2.2.2.2.2, fun k' h1 _ => ⟨h.1, h.2.1, h.2.2.1, h.2.2.2.1, h.2.2.2.2.1, h.2.2.2.2.2.1, h.2.2.2.2.2.2.1, h.2.2.2.2.2.2.2.1, h.2.2.2.2.2.2.2.2.1, h1⟩, fun S0 e => by have e : some _ = some S0 := e; cases e; exact ⟨rfl, rfl⟩⟩)
def cx_baload : cm_F1 := fun E P t S => match S.2.2.1 with
  | .int i :: .ref c :: st => some (cm_adv S 1 (.int (S.2.2.2.1 c i.toNatClampNeg) :: st))
  | _ => none
theorem cd_baload : cm_Dt cm_baload cx_baload := by
  intro E P t S k h
  obtain ⟨pc, L, st, M⟩ := S
  unfold cm_baload at h ⊢
  dsimp only at h ⊢
  split at h <;> (first | exact h.elim | exact ⟨_, _, h, h, fun k' h1 _ => h1, fun S0 e => by have e : some _ = some S0 := e; cases e; exact ⟨rfl, rfl⟩⟩ | exact ⟨_, _, h.2, h.2, fun k' h1 _ => ⟨h.1, h1⟩, fun S0 e => by have e : some _ = some S0 := e; cases e; exact ⟨rfl, rfl⟩⟩ | exact ⟨_, _, h.2.2, h.2.2, fun k' h1 _ => ⟨h.1, h.2.1, h1⟩, fun S0 e => by have e : some _ = some S0 := e; cases e; exact ⟨rfl, rfl⟩⟩ | exact ⟨_, _, h.2.2.2, h.2.2.2, fun k' h1 _ => ⟨h.1, h.2.1, h.2.2.1, h1⟩, fun S0 e => by have e : some _ = some S0 := e; cases e; exact ⟨rfl, rfl⟩⟩ | exact ⟨_, _, h.2.2.2.2, h.2.2.2.2, fun k' h1 _ => ⟨h.1, h.2.1, h.2.2.1, h.2.2.2.1, h1⟩, fun S0 e => by have e : some _ = some S0 := e; cases e; exact ⟨rfl, rfl⟩⟩ | exact ⟨_, _, h.2.2.2.2.2, h.2.2.2.2.2, fun k' h1 _ => ⟨h.1, h.2.1, h.2.2.1, h.2.2.2.1, h.2.2.2.2.1, h1⟩, fun S0 e => by have e : some _ = some S0 := e; cases e; exact ⟨rfl, rfl⟩⟩ | exact ⟨_, _, h.2.2.2.2.2.2, h.2.2.2.2.2.2, fun k' h1 _ => ⟨h.1, h.2.1, h.2.2.1, h.2.2.2.1, h.2.2.2.2.1, h.2.2.2.2.2.1, h1⟩, fun S0 e => by have e : some _ = some S0 := e; cases e; exact ⟨rfl, rfl⟩⟩ | exact ⟨_, _, h.2.2.2.2.2.2.2, h.2.2.2.2.2.2.2, fun k' h1 _ => ⟨h.1, h.2.1, h.2.2.1, h.2.2.2.1, h.2.2.2.2.1, h.2.2.2.2.2.1, h.2.2.2.2.2.2.1, h1⟩, fun S0 e => by have e : some _ = some S0 := e; cases e; exact ⟨rfl, rfl⟩⟩ | exact ⟨_, _, h.2.2.2.2.2.2.2.2, h.2.2.2.2.2.2.2.2, fun k' h1 _ => ⟨h.1, h.2.1, h.2.2.1, h.2.2.2.1, h.2.2.2.2.1, h.2.2.2.2.2.1, h.2.2.2.2.2.2.1, h.2.2.2.2.2.2.2.1, h1⟩, fun S0 e => by have e : some _ = some S0 := e; cases e; exact ⟨rfl, rfl⟩⟩ | exact ⟨_, _, h.2.2.2.2.2.2.2.2.2, h.2.2.2.2.2.2.2.2.2, fun k' h1 _ => ⟨h.1, h.2.1, h.2.2.1, h.2.2.2.1, h.2.2.2.2.1, h.2.2.2.2.2.1, h.2.2.2.2.2.2.1, h.2.2.2.2.2.2.2.1, h.2.2.2.2.2.2.2.2.1, h1⟩, fun S0 e => by have e : some _ = some S0 := e; cases e; exact ⟨rfl, rfl⟩⟩)
def cx_laload : cm_F1 := fun E P t S => match S.2.2.1 with
  | .int i :: .ref c :: st => some (cm_adv S 1 (.long (S.2.2.2.2.1 c i.toNatClampNeg) :: st))
  | _ => none
theorem cd_laload : cm_Dt cm_laload cx_laload := by
  intro E P t S k h
  obtain ⟨pc, L, st, M⟩ := S
  unfold cm_laload at h ⊢
  dsimp only at h ⊢
  split at h <;> (first | exact h.elim | exact ⟨_, _, h, h, fun k' h1 _ => h1, fun S0 e => by have e : some _ = some S0 := e; cases e; exact ⟨rfl, rfl⟩⟩ | exact ⟨_, _, h.2, h.2, fun k' h1 _ => ⟨h.1, h1⟩, fun S0 e => by have e : some _ = some S0 := e; cases e; exact ⟨rfl, rfl⟩⟩ | exact ⟨_, _, h.2.2, h.2.2, fun k' h1 _ => ⟨h.1, h.2.1, h1⟩, fun S0 e => by have e : some _ = some S0 := e; cases e; exact ⟨rfl, rfl⟩⟩ | exact ⟨_, _, h.2.2.2, h.2.2.2, fun k' h1 _ => ⟨h.1, h.2.1, h.2.2.1, h1⟩, fun S0 e => by have e : some _ = some S0 := e; cases e; exact ⟨rfl, rfl⟩⟩ | exact ⟨_, _, h.2.2.2.2, h.2.2.2.2, fun k' h1 _ => ⟨h.1, h.2.1, h.2.2.1, h.2.2.2.1, h1⟩, fun S0 e => by have e : some _ = some S0 := e; cases e; exact ⟨rfl, rfl⟩⟩ | exact ⟨_, _, h.2.2.2.2.2, h.2.2.2.2.2, fun k' h1 _ => ⟨h.1, h.2.1, h.2.2.1, h.2.2.2.1, h.2.2.2.2.1, h1⟩, fun S0 e => by have e : some _ = some S0 := e; cases e; exact ⟨rfl, rfl⟩⟩ | exact ⟨_, _, h.2.2.2.2.2.2, h.2.2.2.2.2.2, fun k' h1 _ => ⟨h.1, h.2.1, h.2.2.1, h.2.2.2.1, h.2.2.2.2.1, h.2.2.2.2.2.1, h1⟩, fun S0 e => by have e : some _ = some S0 := e; cases e; exact ⟨rfl, rfl⟩⟩ | exact ⟨_, _, h.2.2.2.2.2.2.2, h.2.2.2.2.2.2.2, fun k' h1 _ => ⟨h.1, h.2.1, h.2.2.1, h.2.2.2.1, h.2.2.2.2.1, h.2.2.2.2.2.1, h.2.2.2.2.2.2.1, h1⟩, fun S0 e => by have e : some _ = some S0 := e; cases e; exact ⟨rfl, rfl⟩⟩ | exact ⟨_, _, h.2.2.2.2.2.2.2.2, h.2.2.2.2.2.2.2.2, fun k' h1 _ => ⟨h.1, h.2.1, h.2.2.1, h.2.2.2.1, h.2.2.2.2.1, h.2.2.2.2.2.1, h.2.2.2.2.2.2.1, h.2.2.2.2.2.2.2.1, h1⟩, fun S0 e => by have e : some _ = some S0 := e; cases e; exact ⟨rfl, rfl⟩⟩ | exact ⟨_, _, h.2.2.2.2.2.2.2.2.2, h.2.2.2.2.2.2.2.2.2, fun k' h1 _ => ⟨h.1, h.2.1, h.2.2.1, h.2.2.2.1, h.2.2.2.2.1, h.2.2.2.2.2.1, h.2.2.2.2.2.2.1, h.2.2.2.2.2.2.2.1, h.2.2.2.2.2.2.2.2.1, h1⟩, fun S0 e => by have e : some _ = some S0 := e; cases e; exact ⟨rfl, rfl⟩⟩)
def cx_aaload : cm_F1 := fun E P t S => match S.2.2.1 with
  | .int i :: .ref c :: st => some (cm_adv S 1 (cm_rq (S.2.2.2.2.2 c i.toNatClampNeg) :: st))
  | _ => none
theorem cd_aaload : cm_Dt cm_aaload cx_aaload := by
  intro E P t S k h
  obtain ⟨pc, L, st, M⟩ := S
  unfold cm_aaload at h ⊢
  dsimp only at h ⊢
  split at h <;> (first | exact h.elim | exact ⟨_, _, h, h, fun k' h1 _ => h1, fun S0 e => by have e : some _ = some S0 := e; cases e; exact ⟨rfl, rfl⟩⟩ | exact ⟨_, _, h.2, h.2, fun k' h1 _ => ⟨h.1, h1⟩, fun S0 e => by have e : some _ = some S0 := e; cases e; exact ⟨rfl, rfl⟩⟩ | exact ⟨_, _, h.2.2, h.2.2, fun k' h1 _ => ⟨h.1, h.2.1, h1⟩, fun S0 e => by have e : some _ = some S0 := e; cases e; exact ⟨rfl, rfl⟩⟩ | exact ⟨_, _, h.2.2.2, h.2.2.2, fun k' h1 _ => ⟨h.1, h.2.1, h.2.2.1, h1⟩, fun S0 e => by have e : some _ = some S0 := e; cases e; exact ⟨rfl, rfl⟩⟩ | exact ⟨_, _, h.2.2.2.2, h.2.2.2.2, fun k' h1 _ => ⟨h.1, h.2.1, h.2.2.1, h.2.2.2.1, h1⟩, fun S0 e => by have e : some _ = some S0 := e; cases e; exact ⟨rfl, rfl⟩⟩ | exact ⟨_, _, h.2.2.2.2.2, h.2.2.2.2.2, fun k' h1 _ => ⟨h.1, h.2.1, h.2.2.1, h.2.2.2.1, h.2.2.2.2.1, h1⟩, fun S0 e => by have e : some _ = some S0 := e; cases e; exact ⟨rfl, rfl⟩⟩ | exact ⟨_, _, h.2.2.2.2.2.2, h.2.2.2.2.2.2, fun k' h1 _ => ⟨h.1, h.2.1, h.2.2.1, h.2.2.2.1, h.2.2.2.2.1, h.2.2.2.2.2.1, h1⟩, fun S0 e => by have e : some _ = some S0 := e; cases e; exact ⟨rfl, rfl⟩⟩ | exact ⟨_, _, h.2.2.2.2.2.2.2, h.2.2.2.2.2.2.2, fun k' h1 _ => ⟨h.1, h.2.1, h.2.2.1, h.2.2.2.1, h.2.2.2.2.1, h.2.2.2.2.2.1, h.2.2.2.2.2.2.1, h1⟩, fun S0 e => by have e : some _ = some S0 := e; cases e; exact ⟨rfl, rfl⟩⟩ | exact ⟨_, _, h.2.2.2.2.2.2.2.2, h.2.2.2.2.2.2.2.2, fun k' h1 _ => ⟨h.1, h.2.1, h.2.2.1, h.2.2.2.1, h.2.2.2.2.1, h.2.2.2.2.2.1, h.2.2.2.2.2.2.1, h.2.2.2.2.2.2.2.1, h1⟩, fun S0 e => by have e : some _ = some S0 := e; cases e; exact ⟨rfl, rfl⟩⟩ | exact ⟨_, _, h.2.2.2.2.2.2.2.2.2, h.2.2.2.2.2.2.2.2.2, fun k' h1 _ => ⟨h.1, h.2.1, h.2.2.1, h.2.2.2.1, h.2.2.2.2.1, h.2.2.2.2.2.1, h.2.2.2.2.2.2.1, h.2.2.2.2.2.2.2.1, h.2.2.2.2.2.2.2.2.1, h1⟩, fun S0 e => by have e : some _ = some S0 := e; cases e; exact ⟨rfl, rfl⟩⟩)
def cx_iastore : cm_F1 := fun E P t S => match S.2.2.1 with
  | .int x :: .int i :: .ref c :: st => some (S.1 + 1, S.2.1, st, cm_wi S.2.2.2 c i.toNatClampNeg x)
  | _ => none
theorem cd_iastore : cm_Dt cm_iastore cx_iastore := by
  intro E P t S k h
  obtain ⟨pc, L, st, M⟩ := S
  unfold cm_iastore at h ⊢
  dsimp only at h ⊢
  split at h <;> (first | exact h.elim | exact ⟨_, _, h, h, fun k' h1 _ => h1, fun S0 e => by have e : some _ = some S0 := e; cases e; exact ⟨rfl, rfl⟩⟩ | exact ⟨_, _, h.2, h.2, fun k' h1 _ => ⟨h.1, h1⟩, fun S0 e => by have e : some _ = some S0 := e; cases e; exact ⟨rfl, rfl⟩⟩ | exact ⟨_, _, h.2.2, h.2.2, fun k' h1 _ => ⟨h.1, h.2.1, h1⟩, fun S0 e => by have e : some _ = some S0 := e; cases e; exact ⟨rfl, rfl⟩⟩ | exact ⟨_, _, h.2.2.2, h.2.2.2, fun k' h1 _ => ⟨h.1, h.2.1, h.2.2.1, h1⟩, fun S0 e => by have e : some _ = some S0 := e; cases e; exact ⟨rfl, rfl⟩⟩ | exact ⟨_, _, h.2.2.2.2, h.2.2.2.2, fun k' h1 _ => ⟨h.1, h.2.1, h.2.2.1, h.2.2.2.1, h1⟩, fun S0 e => by have e : some _ = some S0 := e; cases e; exact ⟨rfl, rfl⟩⟩ | exact ⟨_, _, h.2.2.2.2.2, h.2.2.2.2.2, fun k' h1 _ => ⟨h.1, h.2.1, h.2.2.1, h.2.2.2.1, h.2.2.2.2.1, h1⟩, fun S0 e => by have e : some _ = some S0 := e; cases e; exact ⟨rfl, rfl⟩⟩ | exact ⟨_, _, h.2.2.2.2.2.2, h.2.2.2.2.2.2, fun k' h1 _ => ⟨h.1, h.2.1, h.2.2.1, h.2.2.2.1, h.2.2.2.2.1, h.2.2.2.2.2.1, h1⟩, fun S0 e => by have e : some _ = some S0 := e; cases e; exact ⟨rfl, rfl⟩⟩ | exact ⟨_, _, h.2.2.2.2.2.2.2, h.2.2.2.2.2.2.2, fun k' h1 _ => ⟨h.1, h.2.1, h.2.2.1, h.2.2.2.1, h.2.2.2.2.1, h.2.2.2.2.2.1, h.2.2.2.2.2.2.1, h1⟩, fun S0 e => by have e : some _ = some S0 := e; cases e; exact ⟨rfl, rfl⟩⟩ | exact ⟨_, _, h.2.2.2.2.2.2.2.2, h.2.2.2.2.2.2.2.2, fun k' h1 _ => ⟨h.1, h.2.1, h.2.2.1, h.2.2.2.1, h.2.2.2.2.1, h.2.2.2.2.2.1, h.2.2.2.2.2.2.1, h.2.2.2.2.2.2.2.1, h1⟩, fun S0 e => by have e : some _ = some S0 := e; cases e; exact ⟨rfl, rfl⟩⟩ | exact ⟨_, _, h.2.2.2.2.2.2.2.2.2, h.2.2.2.2.2.2.2.2.2, fun k' h1 _ => ⟨h.1, h.2.1, h.2.2.1, h.2.2.2.1, h.2.2.2.2.1, h.2.2.2.2.2.1, h.2.2.2.2.2.2.1, h.2.2.2.2.2.2.2.1, h.2.2.2.2.2.2.2.2.1, h1⟩, fun S0 e => by have e : some _ = some S0 := e; cases e; exact ⟨rfl, rfl⟩⟩)
def cx_bastore : cm_F1 := fun E P t S => match S.2.2.1 with
  | .int x :: .int i :: .ref c :: st => some (S.1 + 1, S.2.1, st, cm_wi S.2.2.2 c i.toNatClampNeg (vp_nar .byte x))
  | _ => none
theorem cd_bastore : cm_Dt cm_bastore cx_bastore := by
  intro E P t S k h
  obtain ⟨pc, L, st, M⟩ := S
  unfold cm_bastore at h ⊢
  dsimp only at h ⊢
  split at h <;> (first | exact h.elim | exact ⟨_, _, h, h, fun k' h1 _ => h1, fun S0 e => by have e : some _ = some S0 := e; cases e; exact ⟨rfl, rfl⟩⟩ | exact ⟨_, _, h.2, h.2, fun k' h1 _ => ⟨h.1, h1⟩, fun S0 e => by have e : some _ = some S0 := e; cases e; exact ⟨rfl, rfl⟩⟩ | exact ⟨_, _, h.2.2, h.2.2, fun k' h1 _ => ⟨h.1, h.2.1, h1⟩, fun S0 e => by have e : some _ = some S0 := e; cases e; exact ⟨rfl, rfl⟩⟩ | exact ⟨_, _, h.2.2.2, h.2.2.2, fun k' h1 _ => ⟨h.1, h.2.1, h.2.2.1, h1⟩, fun S0 e => by have e : some _ = some S0 := e; cases e; exact ⟨rfl, rfl⟩⟩ | exact ⟨_, _, h.2.2.2.2, h.2.2.2.2, fun k' h1 _ => ⟨h.1, h.2.1, h.2.2.1, h.2.2.2.1, h1⟩, fun S0 e => by have e : some _ = some S0 := e; cases e; exact ⟨rfl, rfl⟩⟩ | exact ⟨_, _, h.2.2.2.2.2, h.2.2.2.2.2, fun k' h1 _ => ⟨h.1, h.2.1, h.2.2.1, h.2.2.2.1, h.2.2.2.2.1, h1⟩, fun S0 e => by have e : some _ = some S0 := e; cases e; exact ⟨rfl, rfl⟩⟩ | exact ⟨_, _, h.2.2.2.2.2.2, h.2.2.2.2.2.2, fun k' h1 _ => ⟨h.1, h.2.1, h.2.2.1, h.2.2.2.1, h.2.2.2.2.1, h.2.2.2.2.2.1, h1⟩, fun S0 e => by have e : some _ = some S0 := e; cases e; exact ⟨rfl, rfl⟩⟩ | exact ⟨_, _, h.2.2.2.2.2.2.2, h.2.2.2.2.2.2.2, fun k' h1 _ => ⟨h.1, h.2.1, h.2.2.1, h.2.2.2.1, h.2.2.2.2.1, h.2.2.2.2.2.1, h.2.2.2.2.2.2.1, h1⟩, fun S0 e => by have e : some _ = some S0 := e; cases e; exact ⟨rfl, rfl⟩⟩ | exact ⟨_, _, h.2.2.2.2.2.2.2.2, h.2.2.2.2.2.2.2.2, fun k' h1 _ => ⟨h.1, h.2.1, h.2.2.1, h.2.2.2.1, h.2.2.2.2.1, h.2.2.2.2.2.1, h.2.2.2.2.2.2.1, h.2.2.2.2.2.2.2.1, h1⟩, fun S0 e => by have e : some _ = some S0 := e; cases e; exact ⟨rfl, rfl⟩⟩ | exact ⟨_, _, h.2.2.2.2.2.2.2.2.2, h.2.2.2.2.2.2.2.2.2, fun k' h1 _ => ⟨h.1, h.2.1, h.2.2.1, h.2.2.2.1, h.2.2.2.2.1, h.2.2.2.2.2.1, h.2.2.2.2.2.2.1, h.2.2.2.2.2.2.2.1, h.2.2.2.2.2.2.2.2.1, h1⟩, fun S0 e => by have e : some _ = some S0 := e; cases e; exact ⟨rfl, rfl⟩⟩)
def cx_alen : cm_F1 := fun E P t S => match S.2.2.1 with
  | .ref c :: st => if c = 1000 then (match E with
    | some q => some (cm_adv S 1 (.int (Int32.ofNat q.1) :: st))
    | none => none) else some (cm_adv S 1 (.int (Int32.ofNat (cm_kind c).2) :: st))
  | _ => none
theorem cd_alen : cm_Dt cm_alen cx_alen := by
  intro E P t S k h
  obtain ⟨pc, L, st, M⟩ := S
  unfold cm_alen at h ⊢
  dsimp only at h ⊢
  split at h
  · rename_i c st'
    by_cases hc : c = 1000
    · rw [if_pos hc] at h
      cases E with
      | none => exact h.elim
      | some q =>
        refine ⟨_, _, h, h, fun k' h1 _ => ?_, fun S0 e => ?_⟩
        · (try dsimp only); rw [if_pos hc]; exact h1
        · unfold cx_alen at e
          dsimp only at e
          rw [if_pos hc] at e
          cases e
          exact ⟨rfl, rfl⟩
    · rw [if_neg hc] at h
      refine ⟨_, _, h.2.2, h.2.2, fun k' h1 _ => ?_, fun S0 e => ?_⟩
      · (try dsimp only); rw [if_neg hc]; exact ⟨h.1, h.2.1, h1⟩
      · unfold cx_alen at e
        dsimp only at e
        rw [if_neg hc] at e
        cases e
        exact ⟨rfl, rfl⟩
  · exact h.elim
def cx_sald : cm_F1 := fun E P t S => match E, S.2.2.1 with
  | some q, .int i :: .ref c :: st => some (cm_adv S 1 (.int (q.2 i.toNatClampNeg) :: st))
  | _, _ => none
theorem cd_sald : cm_Dt cm_sald cx_sald := by
  intro E P t S k h
  obtain ⟨pc, L, st, M⟩ := S
  unfold cm_sald at h ⊢
  dsimp only at h ⊢
  split at h
  · exact ⟨_, _, h.2.2.2, h.2.2.2, fun k' h1 _ => ⟨h.1, h.2.1, h.2.2.1, h1⟩, fun S0 e => by have e : some _ = some S0 := e; cases e; exact ⟨rfl, rfl⟩⟩
  · exact h.elim
def cx_mmin : cm_F1 := fun E P t S => match S.2.2.1 with
  | .int y :: .int x :: st => some (cm_adv S 3 (.int (if y < x then y else x) :: st))
  | _ => none
theorem cd_mmin : cm_Dt cm_mmin cx_mmin := by
  intro E P t S k h
  obtain ⟨pc, L, st, M⟩ := S
  unfold cm_mmin at h ⊢
  dsimp only at h ⊢
  split at h <;> (first | exact h.elim | exact ⟨_, _, h, h, fun k' h1 _ => h1, fun S0 e => by have e : some _ = some S0 := e; cases e; exact ⟨rfl, rfl⟩⟩ | exact ⟨_, _, h.2, h.2, fun k' h1 _ => ⟨h.1, h1⟩, fun S0 e => by have e : some _ = some S0 := e; cases e; exact ⟨rfl, rfl⟩⟩ | exact ⟨_, _, h.2.2, h.2.2, fun k' h1 _ => ⟨h.1, h.2.1, h1⟩, fun S0 e => by have e : some _ = some S0 := e; cases e; exact ⟨rfl, rfl⟩⟩ | exact ⟨_, _, h.2.2.2, h.2.2.2, fun k' h1 _ => ⟨h.1, h.2.1, h.2.2.1, h1⟩, fun S0 e => by have e : some _ = some S0 := e; cases e; exact ⟨rfl, rfl⟩⟩ | exact ⟨_, _, h.2.2.2.2, h.2.2.2.2, fun k' h1 _ => ⟨h.1, h.2.1, h.2.2.1, h.2.2.2.1, h1⟩, fun S0 e => by have e : some _ = some S0 := e; cases e; exact ⟨rfl, rfl⟩⟩ | exact ⟨_, _, h.2.2.2.2.2, h.2.2.2.2.2, fun k' h1 _ => ⟨h.1, h.2.1, h.2.2.1, h.2.2.2.1, h.2.2.2.2.1, h1⟩, fun S0 e => by have e : some _ = some S0 := e; cases e; exact ⟨rfl, rfl⟩⟩ | exact ⟨_, _, h.2.2.2.2.2.2, h.2.2.2.2.2.2, fun k' h1 _ => ⟨h.1, h.2.1, h.2.2.1, h.2.2.2.1, h.2.2.2.2.1, h.2.2.2.2.2.1, h1⟩, fun S0 e => by have e : some _ = some S0 := e; cases e; exact ⟨rfl, rfl⟩⟩ | exact ⟨_, _, h.2.2.2.2.2.2.2, h.2.2.2.2.2.2.2, fun k' h1 _ => ⟨h.1, h.2.1, h.2.2.1, h.2.2.2.1, h.2.2.2.2.1, h.2.2.2.2.2.1, h.2.2.2.2.2.2.1, h1⟩, fun S0 e => by have e : some _ = some S0 := e; cases e; exact ⟨rfl, rfl⟩⟩ | exact ⟨_, _, h.2.2.2.2.2.2.2.2, h.2.2.2.2.2.2.2.2, fun k' h1 _ => ⟨h.1, h.2.1, h.2.2.1, h.2.2.2.1, h.2.2.2.2.1, h.2.2.2.2.2.1, h.2.2.2.2.2.2.1, h.2.2.2.2.2.2.2.1, h1⟩, fun S0 e => by have e : some _ = some S0 := e; cases e; exact ⟨rfl, rfl⟩⟩ | exact ⟨_, _, h.2.2.2.2.2.2.2.2.2, h.2.2.2.2.2.2.2.2.2, fun k' h1 _ => ⟨h.1, h.2.1, h.2.2.1, h.2.2.2.1, h.2.2.2.2.1, h.2.2.2.2.2.1, h.2.2.2.2.2.2.1, h.2.2.2.2.2.2.2.1, h.2.2.2.2.2.2.2.2.1, h1⟩, fun S0 e => by have e : some _ = some S0 := e; cases e; exact ⟨rfl, rfl⟩⟩)
def cx_ldc : cm_F1 := fun E P t S => some (cm_adv S 2 (.int (Int32.ofInt t.1) :: S.2.2.1))
theorem cd_ldc : cm_Dt cm_ldc cx_ldc := by
  intro E P t S k h
  obtain ⟨pc, L, st, M⟩ := S
  unfold cm_ldc at h ⊢
  dsimp only at h ⊢
  first | exact h.elim | exact ⟨_, _, h, h, fun k' h1 _ => h1, fun S0 e => by have e : some _ = some S0 := e; cases e; exact ⟨rfl, rfl⟩⟩ | exact ⟨_, _, h.2, h.2, fun k' h1 _ => ⟨h.1, h1⟩, fun S0 e => by have e : some _ = some S0 := e; cases e; exact ⟨rfl, rfl⟩⟩ | exact ⟨_, _, h.2.2, h.2.2, fun k' h1 _ => ⟨h.1, h.2.1, h1⟩, fun S0 e => by have e : some _ = some S0 := e; cases e; exact ⟨rfl, rfl⟩⟩ | exact ⟨_, _, h.2.2.2, h.2.2.2, fun k' h1 _ => ⟨h.1, h.2.1, h.2.2.1, h1⟩, fun S0 e => by have e : some _ = some S0 := e; cases e; exact ⟨rfl, rfl⟩⟩ | exact ⟨_, _, h.2.2.2.2, h.2.2.2.2, fun k' h1 _ => ⟨h.1, h.2.1, h.2.2.1, h.2.2.2.1, h1⟩, fun S0 e => by have e : some _ = some S0 := e; cases e; exact ⟨rfl, rfl⟩⟩ | exact ⟨_, _, h.2.2.2.2.2, h.2.2.2.2.2, fun k' h1 _ => ⟨h.1, h.2.1, h.2.2.1, h.2.2.2.1, h.2.2.2.2.1, h1⟩, fun S0 e => by have e : some _ = some S0 := e; cases e; exact ⟨rfl, rfl⟩⟩ | exact ⟨_, _, h.2.2.2.2.2.2, h.2.2.2.2.2.2, fun k' h1 _ => ⟨h.1, h.2.1, h.2.2.1, h.2.2.2.1, h.2.2.2.2.1, h.2.2.2.2.2.1, h1⟩, fun S0 e => by have e : some _ = some S0 := e; cases e; exact ⟨rfl, rfl⟩⟩ | exact ⟨_, _, h.2.2.2.2.2.2.2, h.2.2.2.2.2.2.2, fun k' h1 _ => ⟨h.1, h.2.1, h.2.2.1, h.2.2.2.1, h.2.2.2.2.1, h.2.2.2.2.2.1, h.2.2.2.2.2.2.1, h1⟩, fun S0 e => by have e : some _ = some S0 := e; cases e; exact ⟨rfl, rfl⟩⟩ | exact ⟨_, _, h.2.2.2.2.2.2.2.2, h.2.2.2.2.2.2.2.2, fun k' h1 _ => ⟨h.1, h.2.1, h.2.2.1, h.2.2.2.1, h.2.2.2.2.1, h.2.2.2.2.2.1, h.2.2.2.2.2.2.1, h.2.2.2.2.2.2.2.1, h1⟩, fun S0 e => by have e : some _ = some S0 := e; cases e; exact ⟨rfl, rfl⟩⟩ | exact ⟨_, _, h.2.2.2.2.2.2.2.2.2, h.2.2.2.2.2.2.2.2.2, fun k' h1 _ => ⟨h.1, h.2.1, h.2.2.1, h.2.2.2.1, h.2.2.2.2.1, h.2.2.2.2.2.1, h.2.2.2.2.2.2.1, h.2.2.2.2.2.2.2.1, h.2.2.2.2.2.2.2.2.1, h1⟩, fun S0 e => by have e : some _ = some S0 := e; cases e; exact ⟨rfl, rfl⟩⟩
def cx_ldcS : cm_F1 := fun E P t S => some (cm_adv S 2 (.ref (1001 + 2 * t.1.toNat) :: S.2.2.1))
theorem cd_ldcS : cm_Dt cm_ldcS cx_ldcS := by
  intro E P t S k h
  obtain ⟨pc, L, st, M⟩ := S
  unfold cm_ldcS at h ⊢
  dsimp only at h ⊢
  first | exact h.elim | exact ⟨_, _, h, h, fun k' h1 _ => h1, fun S0 e => by have e : some _ = some S0 := e; cases e; exact ⟨rfl, rfl⟩⟩ | exact ⟨_, _, h.2, h.2, fun k' h1 _ => ⟨h.1, h1⟩, fun S0 e => by have e : some _ = some S0 := e; cases e; exact ⟨rfl, rfl⟩⟩ | exact ⟨_, _, h.2.2, h.2.2, fun k' h1 _ => ⟨h.1, h.2.1, h1⟩, fun S0 e => by have e : some _ = some S0 := e; cases e; exact ⟨rfl, rfl⟩⟩ | exact ⟨_, _, h.2.2.2, h.2.2.2, fun k' h1 _ => ⟨h.1, h.2.1, h.2.2.1, h1⟩, fun S0 e => by have e : some _ = some S0 := e; cases e; exact ⟨rfl, rfl⟩⟩ | exact ⟨_, _, h.2.2.2.2, h.2.2.2.2, fun k' h1 _ => ⟨h.1, h.2.1, h.2.2.1, h.2.2.2.1, h1⟩, fun S0 e => by have e : some _ = some S0 := e; cases e; exact ⟨rfl, rfl⟩⟩ | exact ⟨_, _, h.2.2.2.2.2, h.2.2.2.2.2, fun k' h1 _ => ⟨h.1, h.2.1, h.2.2.1, h.2.2.2.1, h.2.2.2.2.1, h1⟩, fun S0 e => by have e : some _ = some S0 := e; cases e; exact ⟨rfl, rfl⟩⟩ | exact ⟨_, _, h.2.2.2.2.2.2, h.2.2.2.2.2.2, fun k' h1 _ => ⟨h.1, h.2.1, h.2.2.1, h.2.2.2.1, h.2.2.2.2.1, h.2.2.2.2.2.1, h1⟩, fun S0 e => by have e : some _ = some S0 := e; cases e; exact ⟨rfl, rfl⟩⟩ | exact ⟨_, _, h.2.2.2.2.2.2.2, h.2.2.2.2.2.2.2, fun k' h1 _ => ⟨h.1, h.2.1, h.2.2.1, h.2.2.2.1, h.2.2.2.2.1, h.2.2.2.2.2.1, h.2.2.2.2.2.2.1, h1⟩, fun S0 e => by have e : some _ = some S0 := e; cases e; exact ⟨rfl, rfl⟩⟩ | exact ⟨_, _, h.2.2.2.2.2.2.2.2, h.2.2.2.2.2.2.2.2, fun k' h1 _ => ⟨h.1, h.2.1, h.2.2.1, h.2.2.2.1, h.2.2.2.2.1, h.2.2.2.2.2.1, h.2.2.2.2.2.2.1, h.2.2.2.2.2.2.2.1, h1⟩, fun S0 e => by have e : some _ = some S0 := e; cases e; exact ⟨rfl, rfl⟩⟩ | exact ⟨_, _, h.2.2.2.2.2.2.2.2.2, h.2.2.2.2.2.2.2.2.2, fun k' h1 _ => ⟨h.1, h.2.1, h.2.2.1, h.2.2.2.1, h.2.2.2.2.1, h.2.2.2.2.2.1, h.2.2.2.2.2.2.1, h.2.2.2.2.2.2.2.1, h.2.2.2.2.2.2.2.2.1, h1⟩, fun S0 e => by have e : some _ = some S0 := e; cases e; exact ⟨rfl, rfl⟩⟩
def cx_getV : cm_F1 := fun E P t S => match S.2.2.1 with
  | .ref c :: st => some (cm_adv S 3 (.ref (c + 1) :: st))
  | _ => none
theorem cd_getV : cm_Dt cm_getV cx_getV := by
  intro E P t S k h
  obtain ⟨pc, L, st, M⟩ := S
  unfold cm_getV at h ⊢
  dsimp only at h ⊢
  split at h <;> (first | exact h.elim | exact ⟨_, _, h, h, fun k' h1 _ => h1, fun S0 e => by have e : some _ = some S0 := e; cases e; exact ⟨rfl, rfl⟩⟩ | exact ⟨_, _, h.2, h.2, fun k' h1 _ => ⟨h.1, h1⟩, fun S0 e => by have e : some _ = some S0 := e; cases e; exact ⟨rfl, rfl⟩⟩ | exact ⟨_, _, h.2.2, h.2.2, fun k' h1 _ => ⟨h.1, h.2.1, h1⟩, fun S0 e => by have e : some _ = some S0 := e; cases e; exact ⟨rfl, rfl⟩⟩ | exact ⟨_, _, h.2.2.2, h.2.2.2, fun k' h1 _ => ⟨h.1, h.2.1, h.2.2.1, h1⟩, fun S0 e => by have e : some _ = some S0 := e; cases e; exact ⟨rfl, rfl⟩⟩ | exact ⟨_, _, h.2.2.2.2, h.2.2.2.2, fun k' h1 _ => ⟨h.1, h.2.1, h.2.2.1, h.2.2.2.1, h1⟩, fun S0 e => by have e : some _ = some S0 := e; cases e; exact ⟨rfl, rfl⟩⟩ | exact ⟨_, _, h.2.2.2.2.2, h.2.2.2.2.2, fun k' h1 _ => ⟨h.1, h.2.1, h.2.2.1, h.2.2.2.1, h.2.2.2.2.1, h1⟩, fun S0 e => by have e : some _ = some S0 := e; cases e; exact ⟨rfl, rfl⟩⟩ | exact ⟨_, _, h.2.2.2.2.2.2, h.2.2.2.2.2.2, fun k' h1 _ => ⟨h.1, h.2.1, h.2.2.1, h.2.2.2.1, h.2.2.2.2.1, h.2.2.2.2.2.1, h1⟩, fun S0 e => by have e : some _ = some S0 := e; cases e; exact ⟨rfl, rfl⟩⟩ | exact ⟨_, _, h.2.2.2.2.2.2.2, h.2.2.2.2.2.2.2, fun k' h1 _ => ⟨h.1, h.2.1, h.2.2.1, h.2.2.2.1, h.2.2.2.2.1, h.2.2.2.2.2.1, h.2.2.2.2.2.2.1, h1⟩, fun S0 e => by have e : some _ = some S0 := e; cases e; exact ⟨rfl, rfl⟩⟩ | exact ⟨_, _, h.2.2.2.2.2.2.2.2, h.2.2.2.2.2.2.2.2, fun k' h1 _ => ⟨h.1, h.2.1, h.2.2.1, h.2.2.2.1, h.2.2.2.2.1, h.2.2.2.2.2.1, h.2.2.2.2.2.2.1, h.2.2.2.2.2.2.2.1, h1⟩, fun S0 e => by have e : some _ = some S0 := e; cases e; exact ⟨rfl, rfl⟩⟩ | exact ⟨_, _, h.2.2.2.2.2.2.2.2.2, h.2.2.2.2.2.2.2.2.2, fun k' h1 _ => ⟨h.1, h.2.1, h.2.2.1, h.2.2.2.1, h.2.2.2.2.1, h.2.2.2.2.2.1, h.2.2.2.2.2.2.1, h.2.2.2.2.2.2.2.1, h.2.2.2.2.2.2.2.2.1, h1⟩, fun S0 e => by have e : some _ = some S0 := e; cases e; exact ⟨rfl, rfl⟩⟩)
def cx_getC : cm_F1 := fun E P t S => match S.2.2.1 with
  | .ref c :: st => some (cm_adv S 3 (.int 0 :: st))
  | _ => none
theorem cd_getC : cm_Dt cm_getC cx_getC := by
  intro E P t S k h
  obtain ⟨pc, L, st, M⟩ := S
  unfold cm_getC at h ⊢
  dsimp only at h ⊢
  split at h <;> (first | exact h.elim | exact ⟨_, _, h, h, fun k' h1 _ => h1, fun S0 e => by have e : some _ = some S0 := e; cases e; exact ⟨rfl, rfl⟩⟩ | exact ⟨_, _, h.2, h.2, fun k' h1 _ => ⟨h.1, h1⟩, fun S0 e => by have e : some _ = some S0 := e; cases e; exact ⟨rfl, rfl⟩⟩ | exact ⟨_, _, h.2.2, h.2.2, fun k' h1 _ => ⟨h.1, h.2.1, h1⟩, fun S0 e => by have e : some _ = some S0 := e; cases e; exact ⟨rfl, rfl⟩⟩ | exact ⟨_, _, h.2.2.2, h.2.2.2, fun k' h1 _ => ⟨h.1, h.2.1, h.2.2.1, h1⟩, fun S0 e => by have e : some _ = some S0 := e; cases e; exact ⟨rfl, rfl⟩⟩ | exact ⟨_, _, h.2.2.2.2, h.2.2.2.2, fun k' h1 _ => ⟨h.1, h.2.1, h.2.2.1, h.2.2.2.1, h1⟩, fun S0 e => by have e : some _ = some S0 := e; cases e; exact ⟨rfl, rfl⟩⟩ | exact ⟨_, _, h.2.2.2.2.2, h.2.2.2.2.2, fun k' h1 _ => ⟨h.1, h.2.1, h.2.2.1, h.2.2.2.1, h.2.2.2.2.1, h1⟩, fun S0 e => by have e : some _ = some S0 := e; cases e; exact ⟨rfl, rfl⟩⟩ | exact ⟨_, _, h.2.2.2.2.2.2, h.2.2.2.2.2.2, fun k' h1 _ => ⟨h.1, h.2.1, h.2.2.1, h.2.2.2.1, h.2.2.2.2.1, h.2.2.2.2.2.1, h1⟩, fun S0 e => by have e : some _ = some S0 := e; cases e; exact ⟨rfl, rfl⟩⟩ | exact ⟨_, _, h.2.2.2.2.2.2.2, h.2.2.2.2.2.2.2, fun k' h1 _ => ⟨h.1, h.2.1, h.2.2.1, h.2.2.2.1, h.2.2.2.2.1, h.2.2.2.2.2.1, h.2.2.2.2.2.2.1, h1⟩, fun S0 e => by have e : some _ = some S0 := e; cases e; exact ⟨rfl, rfl⟩⟩ | exact ⟨_, _, h.2.2.2.2.2.2.2.2, h.2.2.2.2.2.2.2.2, fun k' h1 _ => ⟨h.1, h.2.1, h.2.2.1, h.2.2.2.1, h.2.2.2.2.1, h.2.2.2.2.2.1, h.2.2.2.2.2.2.1, h.2.2.2.2.2.2.2.1, h1⟩, fun S0 e => by have e : some _ = some S0 := e; cases e; exact ⟨rfl, rfl⟩⟩ | exact ⟨_, _, h.2.2.2.2.2.2.2.2.2, h.2.2.2.2.2.2.2.2.2, fun k' h1 _ => ⟨h.1, h.2.1, h.2.2.1, h.2.2.2.1, h.2.2.2.2.1, h.2.2.2.2.2.1, h.2.2.2.2.2.2.1, h.2.2.2.2.2.2.2.1, h.2.2.2.2.2.2.2.2.1, h1⟩, fun S0 e => by have e : some _ = some S0 := e; cases e; exact ⟨rfl, rfl⟩⟩)
def cx_gets : cm_F1 := fun E P t S => some (cm_adv S 3 (.int 1 :: S.2.2.1))
theorem cd_gets : cm_Dt cm_gets cx_gets := by
  intro E P t S k h
  obtain ⟨pc, L, st, M⟩ := S
  unfold cm_gets at h ⊢
  dsimp only at h ⊢
  first | exact h.elim | exact ⟨_, _, h, h, fun k' h1 _ => h1, fun S0 e => by have e : some _ = some S0 := e; cases e; exact ⟨rfl, rfl⟩⟩ | exact ⟨_, _, h.2, h.2, fun k' h1 _ => ⟨h.1, h1⟩, fun S0 e => by have e : some _ = some S0 := e; cases e; exact ⟨rfl, rfl⟩⟩ | exact ⟨_, _, h.2.2, h.2.2, fun k' h1 _ => ⟨h.1, h.2.1, h1⟩, fun S0 e => by have e : some _ = some S0 := e; cases e; exact ⟨rfl, rfl⟩⟩ | exact ⟨_, _, h.2.2.2, h.2.2.2, fun k' h1 _ => ⟨h.1, h.2.1, h.2.2.1, h1⟩, fun S0 e => by have e : some _ = some S0 := e; cases e; exact ⟨rfl, rfl⟩⟩ | exact ⟨_, _, h.2.2.2.2, h.2.2.2.2, fun k' h1 _ => ⟨h.1, h.2.1, h.2.2.1, h.2.2.2.1, h1⟩, fun S0 e => by have e : some _ = some S0 := e; cases e; exact ⟨rfl, rfl⟩⟩ | exact ⟨_, _, h.2.2.2.2.2, h.2.2.2.2.2, fun k' h1 _ => ⟨h.1, h.2.1, h.2.2.1, h.2.2.2.1, h.2.2.2.2.1, h1⟩, fun S0 e => by have e : some _ = some S0 := e; cases e; exact ⟨rfl, rfl⟩⟩ | exact ⟨_, _, h.2.2.2.2.2.2, h.2.2.2.2.2.2, fun k' h1 _ => ⟨h.1, h.2.1, h.2.2.1, h.2.2.2.1, h.2.2.2.2.1, h.2.2.2.2.2.1, h1⟩, fun S0 e => by have e : some _ = some S0 := e; cases e; exact ⟨rfl, rfl⟩⟩ | exact ⟨_, _, h.2.2.2.2.2.2.2, h.2.2.2.2.2.2.2, fun k' h1 _ => ⟨h.1, h.2.1, h.2.2.1, h.2.2.2.1, h.2.2.2.2.1, h.2.2.2.2.2.1, h.2.2.2.2.2.2.1, h1⟩, fun S0 e => by have e : some _ = some S0 := e; cases e; exact ⟨rfl, rfl⟩⟩ | exact ⟨_, _, h.2.2.2.2.2.2.2.2, h.2.2.2.2.2.2.2.2, fun k' h1 _ => ⟨h.1, h.2.1, h.2.2.1, h.2.2.2.1, h.2.2.2.2.1, h.2.2.2.2.2.1, h.2.2.2.2.2.2.1, h.2.2.2.2.2.2.2.1, h1⟩, fun S0 e => by have e : some _ = some S0 := e; cases e; exact ⟨rfl, rfl⟩⟩ | exact ⟨_, _, h.2.2.2.2.2.2.2.2.2, h.2.2.2.2.2.2.2.2.2, fun k' h1 _ => ⟨h.1, h.2.1, h.2.2.1, h.2.2.2.1, h.2.2.2.2.1, h.2.2.2.2.2.1, h.2.2.2.2.2.2.1, h.2.2.2.2.2.2.2.1, h.2.2.2.2.2.2.2.2.1, h1⟩, fun S0 e => by have e : some _ = some S0 := e; cases e; exact ⟨rfl, rfl⟩⟩
def cx_alenS : cm_F1 := fun E P t S => match S.2.2.1 with
  | .ref c :: st => (match ev_strs[(c - 1001) / 2]? with
    | some r => some (cm_adv S 1 (.int (Int32.ofNat r.2.2.2.length) :: st))
    | none => none)
  | _ => none
theorem cd_alenS : cm_Dt cm_alenS cx_alenS := by
  intro E P t S k h
  obtain ⟨pc, L, st, M⟩ := S
  unfold cm_alenS at h ⊢
  dsimp only at h ⊢
  split at h
  · split at h
    · rename_i hz
      refine ⟨_, _, h.2.2.2, h.2.2.2, fun k' h1 _ => ?_, fun S0 e => ?_⟩
      · exact ⟨h.1, h.2.1, h.2.2.1, h1⟩
      · unfold cx_alenS at e
        dsimp only at e
        rw [hz] at e
        cases e
        exact ⟨rfl, rfl⟩
    · exact h.elim
  · exact h.elim
def cx_baloadS : cm_F1 := fun E P t S => match S.2.2.1 with
  | .int i :: .ref c :: st => (match ev_strs[(c - 1001) / 2]? with
    | some r => some (cm_adv S 1 (.int (r.2.2.2.getD i.toNatClampNeg 0) :: st))
    | none => none)
  | _ => none
theorem cd_baloadS : cm_Dt cm_baloadS cx_baloadS := by
  intro E P t S k h
  obtain ⟨pc, L, st, M⟩ := S
  unfold cm_baloadS at h ⊢
  dsimp only at h ⊢
  split at h
  · split at h
    · rename_i hz
      refine ⟨_, _, h.2.2.2.2.2, h.2.2.2.2.2, fun k' h1 _ => ?_, fun S0 e => ?_⟩
      · exact ⟨h.1, h.2.1, h.2.2.1, h.2.2.2.1, h.2.2.2.2.1, h1⟩
      · unfold cx_baloadS at e
        dsimp only at e
        rw [hz] at e
        cases e
        exact ⟨rfl, rfl⟩
    · exact h.elim
  · exact h.elim
def cx_i2c : cm_F1 := fun E P t S => match S.2.2.1 with
  | .int x :: st => some (cm_adv S 1 (.int ((x.toUInt32 % 65536).toInt32) :: st))
  | _ => none
theorem cd_i2c : cm_Dt cm_i2c cx_i2c := by
  intro E P t S k h
  obtain ⟨pc, L, st, M⟩ := S
  unfold cm_i2c at h ⊢
  dsimp only at h ⊢
  split at h <;> (first | exact h.elim | exact ⟨_, _, h, h, fun k' h1 _ => h1, fun S0 e => by have e : some _ = some S0 := e; cases e; exact ⟨rfl, rfl⟩⟩ | exact ⟨_, _, h.2, h.2, fun k' h1 _ => ⟨h.1, h1⟩, fun S0 e => by have e : some _ = some S0 := e; cases e; exact ⟨rfl, rfl⟩⟩ | exact ⟨_, _, h.2.2, h.2.2, fun k' h1 _ => ⟨h.1, h.2.1, h1⟩, fun S0 e => by have e : some _ = some S0 := e; cases e; exact ⟨rfl, rfl⟩⟩ | exact ⟨_, _, h.2.2.2, h.2.2.2, fun k' h1 _ => ⟨h.1, h.2.1, h.2.2.1, h1⟩, fun S0 e => by have e : some _ = some S0 := e; cases e; exact ⟨rfl, rfl⟩⟩ | exact ⟨_, _, h.2.2.2.2, h.2.2.2.2, fun k' h1 _ => ⟨h.1, h.2.1, h.2.2.1, h.2.2.2.1, h1⟩, fun S0 e => by have e : some _ = some S0 := e; cases e; exact ⟨rfl, rfl⟩⟩ | exact ⟨_, _, h.2.2.2.2.2, h.2.2.2.2.2, fun k' h1 _ => ⟨h.1, h.2.1, h.2.2.1, h.2.2.2.1, h.2.2.2.2.1, h1⟩, fun S0 e => by have e : some _ = some S0 := e; cases e; exact ⟨rfl, rfl⟩⟩ | exact ⟨_, _, h.2.2.2.2.2.2, h.2.2.2.2.2.2, fun k' h1 _ => ⟨h.1, h.2.1, h.2.2.1, h.2.2.2.1, h.2.2.2.2.1, h.2.2.2.2.2.1, h1⟩, fun S0 e => by have e : some _ = some S0 := e; cases e; exact ⟨rfl, rfl⟩⟩ | exact ⟨_, _, h.2.2.2.2.2.2.2, h.2.2.2.2.2.2.2, fun k' h1 _ => ⟨h.1, h.2.1, h.2.2.1, h.2.2.2.1, h.2.2.2.2.1, h.2.2.2.2.2.1, h.2.2.2.2.2.2.1, h1⟩, fun S0 e => by have e : some _ = some S0 := e; cases e; exact ⟨rfl, rfl⟩⟩ | exact ⟨_, _, h.2.2.2.2.2.2.2.2, h.2.2.2.2.2.2.2.2, fun k' h1 _ => ⟨h.1, h.2.1, h.2.2.1, h.2.2.2.1, h.2.2.2.2.1, h.2.2.2.2.2.1, h.2.2.2.2.2.2.1, h.2.2.2.2.2.2.2.1, h1⟩, fun S0 e => by have e : some _ = some S0 := e; cases e; exact ⟨rfl, rfl⟩⟩ | exact ⟨_, _, h.2.2.2.2.2.2.2.2.2, h.2.2.2.2.2.2.2.2.2, fun k' h1 _ => ⟨h.1, h.2.1, h.2.2.1, h.2.2.2.1, h.2.2.2.2.1, h.2.2.2.2.2.1, h.2.2.2.2.2.2.1, h.2.2.2.2.2.2.2.1, h.2.2.2.2.2.2.2.2.1, h1⟩, fun S0 e => by have e : some _ = some S0 := e; cases e; exact ⟨rfl, rfl⟩⟩)
def cx_ladd : cm_F1 := fun E P t S => match S.2.2.1 with
  | .long y :: .long x :: st => some (cm_adv S 1 (.long (x + y) :: st))
  | _ => none
theorem cd_ladd : cm_Dt cm_ladd cx_ladd := by
  intro E P t S k h
  obtain ⟨pc, L, st, M⟩ := S
  unfold cm_ladd at h ⊢
  dsimp only at h ⊢
  split at h <;> (first | exact h.elim | exact ⟨_, _, h, h, fun k' h1 _ => h1, fun S0 e => by have e : some _ = some S0 := e; cases e; exact ⟨rfl, rfl⟩⟩ | exact ⟨_, _, h.2, h.2, fun k' h1 _ => ⟨h.1, h1⟩, fun S0 e => by have e : some _ = some S0 := e; cases e; exact ⟨rfl, rfl⟩⟩ | exact ⟨_, _, h.2.2, h.2.2, fun k' h1 _ => ⟨h.1, h.2.1, h1⟩, fun S0 e => by have e : some _ = some S0 := e; cases e; exact ⟨rfl, rfl⟩⟩ | exact ⟨_, _, h.2.2.2, h.2.2.2, fun k' h1 _ => ⟨h.1, h.2.1, h.2.2.1, h1⟩, fun S0 e => by have e : some _ = some S0 := e; cases e; exact ⟨rfl, rfl⟩⟩ | exact ⟨_, _, h.2.2.2.2, h.2.2.2.2, fun k' h1 _ => ⟨h.1, h.2.1, h.2.2.1, h.2.2.2.1, h1⟩, fun S0 e => by have e : some _ = some S0 := e; cases e; exact ⟨rfl, rfl⟩⟩ | exact ⟨_, _, h.2.2.2.2.2, h.2.2.2.2.2, fun k' h1 _ => ⟨h.1, h.2.1, h.2.2.1, h.2.2.2.1, h.2.2.2.2.1, h1⟩, fun S0 e => by have e : some _ = some S0 := e; cases e; exact ⟨rfl, rfl⟩⟩ | exact ⟨_, _, h.2.2.2.2.2.2, h.2.2.2.2.2.2, fun k' h1 _ => ⟨h.1, h.2.1, h.2.2.1, h.2.2.2.1, h.2.2.2.2.1, h.2.2.2.2.2.1, h1⟩, fun S0 e => by have e : some _ = some S0 := e; cases e; exact ⟨rfl, rfl⟩⟩ | exact ⟨_, _, h.2.2.2.2.2.2.2, h.2.2.2.2.2.2.2, fun k' h1 _ => ⟨h.1, h.2.1, h.2.2.1, h.2.2.2.1, h.2.2.2.2.1, h.2.2.2.2.2.1, h.2.2.2.2.2.2.1, h1⟩, fun S0 e => by have e : some _ = some S0 := e; cases e; exact ⟨rfl, rfl⟩⟩ | exact ⟨_, _, h.2.2.2.2.2.2.2.2, h.2.2.2.2.2.2.2.2, fun k' h1 _ => ⟨h.1, h.2.1, h.2.2.1, h.2.2.2.1, h.2.2.2.2.1, h.2.2.2.2.2.1, h.2.2.2.2.2.2.1, h.2.2.2.2.2.2.2.1, h1⟩, fun S0 e => by have e : some _ = some S0 := e; cases e; exact ⟨rfl, rfl⟩⟩ | exact ⟨_, _, h.2.2.2.2.2.2.2.2.2, h.2.2.2.2.2.2.2.2.2, fun k' h1 _ => ⟨h.1, h.2.1, h.2.2.1, h.2.2.2.1, h.2.2.2.2.1, h.2.2.2.2.2.1, h.2.2.2.2.2.2.1, h.2.2.2.2.2.2.2.1, h.2.2.2.2.2.2.2.2.1, h1⟩, fun S0 e => by have e : some _ = some S0 := e; cases e; exact ⟨rfl, rfl⟩⟩)
def cx_lsub : cm_F1 := fun E P t S => match S.2.2.1 with
  | .long y :: .long x :: st => some (cm_adv S 1 (.long (x - y) :: st))
  | _ => none
theorem cd_lsub : cm_Dt cm_lsub cx_lsub := by
  intro E P t S k h
  obtain ⟨pc, L, st, M⟩ := S
  unfold cm_lsub at h ⊢
  dsimp only at h ⊢
  split at h <;> (first | exact h.elim | exact ⟨_, _, h, h, fun k' h1 _ => h1, fun S0 e => by have e : some _ = some S0 := e; cases e; exact ⟨rfl, rfl⟩⟩ | exact ⟨_, _, h.2, h.2, fun k' h1 _ => ⟨h.1, h1⟩, fun S0 e => by have e : some _ = some S0 := e; cases e; exact ⟨rfl, rfl⟩⟩ | exact ⟨_, _, h.2.2, h.2.2, fun k' h1 _ => ⟨h.1, h.2.1, h1⟩, fun S0 e => by have e : some _ = some S0 := e; cases e; exact ⟨rfl, rfl⟩⟩ | exact ⟨_, _, h.2.2.2, h.2.2.2, fun k' h1 _ => ⟨h.1, h.2.1, h.2.2.1, h1⟩, fun S0 e => by have e : some _ = some S0 := e; cases e; exact ⟨rfl, rfl⟩⟩ | exact ⟨_, _, h.2.2.2.2, h.2.2.2.2, fun k' h1 _ => ⟨h.1, h.2.1, h.2.2.1, h.2.2.2.1, h1⟩, fun S0 e => by have e : some _ = some S0 := e; cases e; exact ⟨rfl, rfl⟩⟩ | exact ⟨_, _, h.2.2.2.2.2, h.2.2.2.2.2, fun k' h1 _ => ⟨h.1, h.2.1, h.2.2.1, h.2.2.2.1, h.2.2.2.2.1, h1⟩, fun S0 e => by have e : some _ = some S0 := e; cases e; exact ⟨rfl, rfl⟩⟩ | exact ⟨_, _, h.2.2.2.2.2.2, h.2.2.2.2.2.2, fun k' h1 _ => ⟨h.1, h.2.1, h.2.2.1, h.2.2.2.1, h.2.2.2.2.1, h.2.2.2.2.2.1, h1⟩, fun S0 e => by have e : some _ = some S0 := e; cases e; exact ⟨rfl, rfl⟩⟩ | exact ⟨_, _, h.2.2.2.2.2.2.2, h.2.2.2.2.2.2.2, fun k' h1 _ => ⟨h.1, h.2.1, h.2.2.1, h.2.2.2.1, h.2.2.2.2.1, h.2.2.2.2.2.1, h.2.2.2.2.2.2.1, h1⟩, fun S0 e => by have e : some _ = some S0 := e; cases e; exact ⟨rfl, rfl⟩⟩ | exact ⟨_, _, h.2.2.2.2.2.2.2.2, h.2.2.2.2.2.2.2.2, fun k' h1 _ => ⟨h.1, h.2.1, h.2.2.1, h.2.2.2.1, h.2.2.2.2.1, h.2.2.2.2.2.1, h.2.2.2.2.2.2.1, h.2.2.2.2.2.2.2.1, h1⟩, fun S0 e => by have e : some _ = some S0 := e; cases e; exact ⟨rfl, rfl⟩⟩ | exact ⟨_, _, h.2.2.2.2.2.2.2.2.2, h.2.2.2.2.2.2.2.2.2, fun k' h1 _ => ⟨h.1, h.2.1, h.2.2.1, h.2.2.2.1, h.2.2.2.2.1, h.2.2.2.2.2.1, h.2.2.2.2.2.2.1, h.2.2.2.2.2.2.2.1, h.2.2.2.2.2.2.2.2.1, h1⟩, fun S0 e => by have e : some _ = some S0 := e; cases e; exact ⟨rfl, rfl⟩⟩)
def cx_lmul : cm_F1 := fun E P t S => match S.2.2.1 with
  | .long y :: .long x :: st => some (cm_adv S 1 (.long (x * y) :: st))
  | _ => none
theorem cd_lmul : cm_Dt cm_lmul cx_lmul := by
  intro E P t S k h
  obtain ⟨pc, L, st, M⟩ := S
  unfold cm_lmul at h ⊢
  dsimp only at h ⊢
  split at h <;> (first | exact h.elim | exact ⟨_, _, h, h, fun k' h1 _ => h1, fun S0 e => by have e : some _ = some S0 := e; cases e; exact ⟨rfl, rfl⟩⟩ | exact ⟨_, _, h.2, h.2, fun k' h1 _ => ⟨h.1, h1⟩, fun S0 e => by have e : some _ = some S0 := e; cases e; exact ⟨rfl, rfl⟩⟩ | exact ⟨_, _, h.2.2, h.2.2, fun k' h1 _ => ⟨h.1, h.2.1, h1⟩, fun S0 e => by have e : some _ = some S0 := e; cases e; exact ⟨rfl, rfl⟩⟩ | exact ⟨_, _, h.2.2.2, h.2.2.2, fun k' h1 _ => ⟨h.1, h.2.1, h.2.2.1, h1⟩, fun S0 e => by have e : some _ = some S0 := e; cases e; exact ⟨rfl, rfl⟩⟩ | exact ⟨_, _, h.2.2.2.2, h.2.2.2.2, fun k' h1 _ => ⟨h.1, h.2.1, h.2.2.1, h.2.2.2.1, h1⟩, fun S0 e => by have e : some _ = some S0 := e; cases e; exact ⟨rfl, rfl⟩⟩ | exact ⟨_, _, h.2.2.2.2.2, h.2.2.2.2.2, fun k' h1 _ => ⟨h.1, h.2.1, h.2.2.1, h.2.2.2.1, h.2.2.2.2.1, h1⟩, fun S0 e => by have e : some _ = some S0 := e; cases e; exact ⟨rfl, rfl⟩⟩ | exact ⟨_, _, h.2.2.2.2.2.2, h.2.2.2.2.2.2, fun k' h1 _ => ⟨h.1, h.2.1, h.2.2.1, h.2.2.2.1, h.2.2.2.2.1, h.2.2.2.2.2.1, h1⟩, fun S0 e => by have e : some _ = some S0 := e; cases e; exact ⟨rfl, rfl⟩⟩ | exact ⟨_, _, h.2.2.2.2.2.2.2, h.2.2.2.2.2.2.2, fun k' h1 _ => ⟨h.1, h.2.1, h.2.2.1, h.2.2.2.1, h.2.2.2.2.1, h.2.2.2.2.2.1, h.2.2.2.2.2.2.1, h1⟩, fun S0 e => by have e : some _ = some S0 := e; cases e; exact ⟨rfl, rfl⟩⟩ | exact ⟨_, _, h.2.2.2.2.2.2.2.2, h.2.2.2.2.2.2.2.2, fun k' h1 _ => ⟨h.1, h.2.1, h.2.2.1, h.2.2.2.1, h.2.2.2.2.1, h.2.2.2.2.2.1, h.2.2.2.2.2.2.1, h.2.2.2.2.2.2.2.1, h1⟩, fun S0 e => by have e : some _ = some S0 := e; cases e; exact ⟨rfl, rfl⟩⟩ | exact ⟨_, _, h.2.2.2.2.2.2.2.2.2, h.2.2.2.2.2.2.2.2.2, fun k' h1 _ => ⟨h.1, h.2.1, h.2.2.1, h.2.2.2.1, h.2.2.2.2.1, h.2.2.2.2.2.1, h.2.2.2.2.2.2.1, h.2.2.2.2.2.2.2.1, h.2.2.2.2.2.2.2.2.1, h1⟩, fun S0 e => by have e : some _ = some S0 := e; cases e; exact ⟨rfl, rfl⟩⟩)
def cx_ldiv : cm_F1 := fun E P t S => match S.2.2.1 with
  | .long y :: .long x :: st => some (cm_adv S 1 (.long (x / y) :: st))
  | _ => none
theorem cd_ldiv : cm_Dt cm_ldiv cx_ldiv := by
  intro E P t S k h
  obtain ⟨pc, L, st, M⟩ := S
  unfold cm_ldiv at h ⊢
  dsimp only at h ⊢
  split at h <;> (first | exact h.elim | exact ⟨_, _, h, h, fun k' h1 _ => h1, fun S0 e => by have e : some _ = some S0 := e; cases e; exact ⟨rfl, rfl⟩⟩ | exact ⟨_, _, h.2, h.2, fun k' h1 _ => ⟨h.1, h1⟩, fun S0 e => by have e : some _ = some S0 := e; cases e; exact ⟨rfl, rfl⟩⟩ | exact ⟨_, _, h.2.2, h.2.2, fun k' h1 _ => ⟨h.1, h.2.1, h1⟩, fun S0 e => by have e : some _ = some S0 := e; cases e; exact ⟨rfl, rfl⟩⟩ | exact ⟨_, _, h.2.2.2, h.2.2.2, fun k' h1 _ => ⟨h.1, h.2.1, h.2.2.1, h1⟩, fun S0 e => by have e : some _ = some S0 := e; cases e; exact ⟨rfl, rfl⟩⟩ | exact ⟨_, _, h.2.2.2.2, h.2.2.2.2, fun k' h1 _ => ⟨h.1, h.2.1, h.2.2.1, h.2.2.2.1, h1⟩, fun S0 e => by have e : some _ = some S0 := e; cases e; exact ⟨rfl, rfl⟩⟩ | exact ⟨_, _, h.2.2.2.2.2, h.2.2.2.2.2, fun k' h1 _ => ⟨h.1, h.2.1, h.2.2.1, h.2.2.2.1, h.2.2.2.2.1, h1⟩, fun S0 e => by have e : some _ = some S0 := e; cases e; exact ⟨rfl, rfl⟩⟩ | exact ⟨_, _, h.2.2.2.2.2.2, h.2.2.2.2.2.2, fun k' h1 _ => ⟨h.1, h.2.1, h.2.2.1, h.2.2.2.1, h.2.2.2.2.1, h.2.2.2.2.2.1, h1⟩, fun S0 e => by have e : some _ = some S0 := e; cases e; exact ⟨rfl, rfl⟩⟩ | exact ⟨_, _, h.2.2.2.2.2.2.2, h.2.2.2.2.2.2.2, fun k' h1 _ => ⟨h.1, h.2.1, h.2.2.1, h.2.2.2.1, h.2.2.2.2.1, h.2.2.2.2.2.1, h.2.2.2.2.2.2.1, h1⟩, fun S0 e => by have e : some _ = some S0 := e; cases e; exact ⟨rfl, rfl⟩⟩ | exact ⟨_, _, h.2.2.2.2.2.2.2.2, h.2.2.2.2.2.2.2.2, fun k' h1 _ => ⟨h.1, h.2.1, h.2.2.1, h.2.2.2.1, h.2.2.2.2.1, h.2.2.2.2.2.1, h.2.2.2.2.2.2.1, h.2.2.2.2.2.2.2.1, h1⟩, fun S0 e => by have e : some _ = some S0 := e; cases e; exact ⟨rfl, rfl⟩⟩ | exact ⟨_, _, h.2.2.2.2.2.2.2.2.2, h.2.2.2.2.2.2.2.2.2, fun k' h1 _ => ⟨h.1, h.2.1, h.2.2.1, h.2.2.2.1, h.2.2.2.2.1, h.2.2.2.2.2.1, h.2.2.2.2.2.2.1, h.2.2.2.2.2.2.2.1, h.2.2.2.2.2.2.2.2.1, h1⟩, fun S0 e => by have e : some _ = some S0 := e; cases e; exact ⟨rfl, rfl⟩⟩)
def cx_lrem : cm_F1 := fun E P t S => match S.2.2.1 with
  | .long y :: .long x :: st => some (cm_adv S 1 (.long (x - x / y * y) :: st))
  | _ => none
theorem cd_lrem : cm_Dt cm_lrem cx_lrem := by
  intro E P t S k h
  obtain ⟨pc, L, st, M⟩ := S
  unfold cm_lrem at h ⊢
  dsimp only at h ⊢
  split at h <;> (first | exact h.elim | exact ⟨_, _, h, h, fun k' h1 _ => h1, fun S0 e => by have e : some _ = some S0 := e; cases e; exact ⟨rfl, rfl⟩⟩ | exact ⟨_, _, h.2, h.2, fun k' h1 _ => ⟨h.1, h1⟩, fun S0 e => by have e : some _ = some S0 := e; cases e; exact ⟨rfl, rfl⟩⟩ | exact ⟨_, _, h.2.2, h.2.2, fun k' h1 _ => ⟨h.1, h.2.1, h1⟩, fun S0 e => by have e : some _ = some S0 := e; cases e; exact ⟨rfl, rfl⟩⟩ | exact ⟨_, _, h.2.2.2, h.2.2.2, fun k' h1 _ => ⟨h.1, h.2.1, h.2.2.1, h1⟩, fun S0 e => by have e : some _ = some S0 := e; cases e; exact ⟨rfl, rfl⟩⟩ | exact ⟨_, _, h.2.2.2.2, h.2.2.2.2, fun k' h1 _ => ⟨h.1, h.2.1, h.2.2.1, h.2.2.2.1, h1⟩, fun S0 e => by have e : some _ = some S0 := e; cases e; exact ⟨rfl, rfl⟩⟩ | exact ⟨_, _, h.2.2.2.2.2, h.2.2.2.2.2, fun k' h1 _ => ⟨h.1, h.2.1, h.2.2.1, h.2.2.2.1, h.2.2.2.2.1, h1⟩, fun S0 e => by have e : some _ = some S0 := e; cases e; exact ⟨rfl, rfl⟩⟩ | exact ⟨_, _, h.2.2.2.2.2.2, h.2.2.2.2.2.2, fun k' h1 _ => ⟨h.1, h.2.1, h.2.2.1, h.2.2.2.1, h.2.2.2.2.1, h.2.2.2.2.2.1, h1⟩, fun S0 e => by have e : some _ = some S0 := e; cases e; exact ⟨rfl, rfl⟩⟩ | exact ⟨_, _, h.2.2.2.2.2.2.2, h.2.2.2.2.2.2.2, fun k' h1 _ => ⟨h.1, h.2.1, h.2.2.1, h.2.2.2.1, h.2.2.2.2.1, h.2.2.2.2.2.1, h.2.2.2.2.2.2.1, h1⟩, fun S0 e => by have e : some _ = some S0 := e; cases e; exact ⟨rfl, rfl⟩⟩ | exact ⟨_, _, h.2.2.2.2.2.2.2.2, h.2.2.2.2.2.2.2.2, fun k' h1 _ => ⟨h.1, h.2.1, h.2.2.1, h.2.2.2.1, h.2.2.2.2.1, h.2.2.2.2.2.1, h.2.2.2.2.2.2.1, h.2.2.2.2.2.2.2.1, h1⟩, fun S0 e => by have e : some _ = some S0 := e; cases e; exact ⟨rfl, rfl⟩⟩ | exact ⟨_, _, h.2.2.2.2.2.2.2.2.2, h.2.2.2.2.2.2.2.2.2, fun k' h1 _ => ⟨h.1, h.2.1, h.2.2.1, h.2.2.2.1, h.2.2.2.2.1, h.2.2.2.2.2.1, h.2.2.2.2.2.2.1, h.2.2.2.2.2.2.2.1, h.2.2.2.2.2.2.2.2.1, h1⟩, fun S0 e => by have e : some _ = some S0 := e; cases e; exact ⟨rfl, rfl⟩⟩)
def cx_ldc2 : cm_F1 := fun E P t S => some (cm_adv S 3 (.long (Int64.ofInt t.1) :: S.2.2.1))
theorem cd_ldc2 : cm_Dt cm_ldc2 cx_ldc2 := by
  intro E P t S k h
  obtain ⟨pc, L, st, M⟩ := S
  unfold cm_ldc2 at h ⊢
  dsimp only at h ⊢
  first | exact h.elim | exact ⟨_, _, h, h, fun k' h1 _ => h1, fun S0 e => by have e : some _ = some S0 := e; cases e; exact ⟨rfl, rfl⟩⟩ | exact ⟨_, _, h.2, h.2, fun k' h1 _ => ⟨h.1, h1⟩, fun S0 e => by have e : some _ = some S0 := e; cases e; exact ⟨rfl, rfl⟩⟩ | exact ⟨_, _, h.2.2, h.2.2, fun k' h1 _ => ⟨h.1, h.2.1, h1⟩, fun S0 e => by have e : some _ = some S0 := e; cases e; exact ⟨rfl, rfl⟩⟩ | exact ⟨_, _, h.2.2.2, h.2.2.2, fun k' h1 _ => ⟨h.1, h.2.1, h.2.2.1, h1⟩, fun S0 e => by have e : some _ = some S0 := e; cases e; exact ⟨rfl, rfl⟩⟩ | exact ⟨_, _, h.2.2.2.2, h.2.2.2.2, fun k' h1 _ => ⟨h.1, h.2.1, h.2.2.1, h.2.2.2.1, h1⟩, fun S0 e => by have e : some _ = some S0 := e; cases e; exact ⟨rfl, rfl⟩⟩ | exact ⟨_, _, h.2.2.2.2.2, h.2.2.2.2.2, fun k' h1 _ => ⟨h.1, h.2.1, h.2.2.1, h.2.2.2.1, h.2.2.2.2.1, h1⟩, fun S0 e => by have e : some _ = some S0 := e; cases e; exact ⟨rfl, rfl⟩⟩ | exact ⟨_, _, h.2.2.2.2.2.2, h.2.2.2.2.2.2, fun k' h1 _ => ⟨h.1, h.2.1, h.2.2.1, h.2.2.2.1, h.2.2.2.2.1, h.2.2.2.2.2.1, h1⟩, fun S0 e => by have e : some _ = some S0 := e; cases e; exact ⟨rfl, rfl⟩⟩ | exact ⟨_, _, h.2.2.2.2.2.2.2, h.2.2.2.2.2.2.2, fun k' h1 _ => ⟨h.1, h.2.1, h.2.2.1, h.2.2.2.1, h.2.2.2.2.1, h.2.2.2.2.2.1, h.2.2.2.2.2.2.1, h1⟩, fun S0 e => by have e : some _ = some S0 := e; cases e; exact ⟨rfl, rfl⟩⟩ | exact ⟨_, _, h.2.2.2.2.2.2.2.2, h.2.2.2.2.2.2.2.2, fun k' h1 _ => ⟨h.1, h.2.1, h.2.2.1, h.2.2.2.1, h.2.2.2.2.1, h.2.2.2.2.2.1, h.2.2.2.2.2.2.1, h.2.2.2.2.2.2.2.1, h1⟩, fun S0 e => by have e : some _ = some S0 := e; cases e; exact ⟨rfl, rfl⟩⟩ | exact ⟨_, _, h.2.2.2.2.2.2.2.2.2, h.2.2.2.2.2.2.2.2.2, fun k' h1 _ => ⟨h.1, h.2.1, h.2.2.1, h.2.2.2.1, h.2.2.2.2.1, h.2.2.2.2.2.1, h.2.2.2.2.2.2.1, h.2.2.2.2.2.2.2.1, h.2.2.2.2.2.2.2.2.1, h1⟩, fun S0 e => by have e : some _ = some S0 := e; cases e; exact ⟨rfl, rfl⟩⟩
def cx_getsF : cm_F1 := fun E P t S => none
theorem cd_getsF : cm_Dt cm_getsF cx_getsF := by
  intro E P t S k h
  obtain ⟨pc, L, st, M⟩ := S
  unfold cm_getsF at h ⊢
  dsimp only at h ⊢
  exact ⟨_, _, h.1, h.2, fun k' h1 h2 => ⟨h1, h2⟩, fun S0 e => by cases e⟩
def cx_ldcw : cm_F1 := fun E P t S => some (cm_adv S 3 (.int (Int32.ofInt t.1) :: S.2.2.1))
theorem cd_ldcw : cm_Dt cm_ldcw cx_ldcw := by
  intro E P t S k h
  obtain ⟨pc, L, st, M⟩ := S
  unfold cm_ldcw at h ⊢
  dsimp only at h ⊢
  first | exact h.elim | exact ⟨_, _, h, h, fun k' h1 _ => h1, fun S0 e => by have e : some _ = some S0 := e; cases e; exact ⟨rfl, rfl⟩⟩ | exact ⟨_, _, h.2, h.2, fun k' h1 _ => ⟨h.1, h1⟩, fun S0 e => by have e : some _ = some S0 := e; cases e; exact ⟨rfl, rfl⟩⟩ | exact ⟨_, _, h.2.2, h.2.2, fun k' h1 _ => ⟨h.1, h.2.1, h1⟩, fun S0 e => by have e : some _ = some S0 := e; cases e; exact ⟨rfl, rfl⟩⟩ | exact ⟨_, _, h.2.2.2, h.2.2.2, fun k' h1 _ => ⟨h.1, h.2.1, h.2.2.1, h1⟩, fun S0 e => by have e : some _ = some S0 := e; cases e; exact ⟨rfl, rfl⟩⟩ | exact ⟨_, _, h.2.2.2.2, h.2.2.2.2, fun k' h1 _ => ⟨h.1, h.2.1, h.2.2.1, h.2.2.2.1, h1⟩, fun S0 e => by have e : some _ = some S0 := e; cases e; exact ⟨rfl, rfl⟩⟩ | exact ⟨_, _, h.2.2.2.2.2, h.2.2.2.2.2, fun k' h1 _ => ⟨h.1, h.2.1, h.2.2.1, h.2.2.2.1, h.2.2.2.2.1, h1⟩, fun S0 e => by have e : some _ = some S0 := e; cases e; exact ⟨rfl, rfl⟩⟩ | exact ⟨_, _, h.2.2.2.2.2.2, h.2.2.2.2.2.2, fun k' h1 _ => ⟨h.1, h.2.1, h.2.2.1, h.2.2.2.1, h.2.2.2.2.1, h.2.2.2.2.2.1, h1⟩, fun S0 e => by have e : some _ = some S0 := e; cases e; exact ⟨rfl, rfl⟩⟩ | exact ⟨_, _, h.2.2.2.2.2.2.2, h.2.2.2.2.2.2.2, fun k' h1 _ => ⟨h.1, h.2.1, h.2.2.1, h.2.2.2.1, h.2.2.2.2.1, h.2.2.2.2.2.1, h.2.2.2.2.2.2.1, h1⟩, fun S0 e => by have e : some _ = some S0 := e; cases e; exact ⟨rfl, rfl⟩⟩ | exact ⟨_, _, h.2.2.2.2.2.2.2.2, h.2.2.2.2.2.2.2.2, fun k' h1 _ => ⟨h.1, h.2.1, h.2.2.1, h.2.2.2.1, h.2.2.2.2.1, h.2.2.2.2.2.1, h.2.2.2.2.2.2.1, h.2.2.2.2.2.2.2.1, h1⟩, fun S0 e => by have e : some _ = some S0 := e; cases e; exact ⟨rfl, rfl⟩⟩ | exact ⟨_, _, h.2.2.2.2.2.2.2.2.2, h.2.2.2.2.2.2.2.2.2, fun k' h1 _ => ⟨h.1, h.2.1, h.2.2.1, h.2.2.2.1, h.2.2.2.2.1, h.2.2.2.2.2.1, h.2.2.2.2.2.2.1, h.2.2.2.2.2.2.2.1, h.2.2.2.2.2.2.2.2.1, h1⟩, fun S0 e => by have e : some _ = some S0 := e; cases e; exact ⟨rfl, rfl⟩⟩
def cx_mmax : cm_F1 := fun E P t S => match S.2.2.1 with
  | .int y :: .int x :: st => some (cm_adv S 3 (.int (if x < y then y else x) :: st))
  | _ => none
theorem cd_mmax : cm_Dt cm_mmax cx_mmax := by
  intro E P t S k h
  obtain ⟨pc, L, st, M⟩ := S
  unfold cm_mmax at h ⊢
  dsimp only at h ⊢
  split at h <;> (first | exact h.elim | exact ⟨_, _, h, h, fun k' h1 _ => h1, fun S0 e => by have e : some _ = some S0 := e; cases e; exact ⟨rfl, rfl⟩⟩ | exact ⟨_, _, h.2, h.2, fun k' h1 _ => ⟨h.1, h1⟩, fun S0 e => by have e : some _ = some S0 := e; cases e; exact ⟨rfl, rfl⟩⟩ | exact ⟨_, _, h.2.2, h.2.2, fun k' h1 _ => ⟨h.1, h.2.1, h1⟩, fun S0 e => by have e : some _ = some S0 := e; cases e; exact ⟨rfl, rfl⟩⟩ | exact ⟨_, _, h.2.2.2, h.2.2.2, fun k' h1 _ => ⟨h.1, h.2.1, h.2.2.1, h1⟩, fun S0 e => by have e : some _ = some S0 := e; cases e; exact ⟨rfl, rfl⟩⟩ | exact ⟨_, _, h.2.2.2.2, h.2.2.2.2, fun k' h1 _ => ⟨h.1, h.2.1, h.2.2.1, h.2.2.2.1, h1⟩, fun S0 e => by have e : some _ = some S0 := e; cases e; exact ⟨rfl, rfl⟩⟩ | exact ⟨_, _, h.2.2.2.2.2, h.2.2.2.2.2, fun k' h1 _ => ⟨h.1, h.2.1, h.2.2.1, h.2.2.2.1, h.2.2.2.2.1, h1⟩, fun S0 e => by have e : some _ = some S0 := e; cases e; exact ⟨rfl, rfl⟩⟩ | exact ⟨_, _, h.2.2.2.2.2.2, h.2.2.2.2.2.2, fun k' h1 _ => ⟨h.1, h.2.1, h.2.2.1, h.2.2.2.1, h.2.2.2.2.1, h.2.2.2.2.2.1, h1⟩, fun S0 e => by have e : some _ = some S0 := e; cases e; exact ⟨rfl, rfl⟩⟩ | exact ⟨_, _, h.2.2.2.2.2.2.2, h.2.2.2.2.2.2.2, fun k' h1 _ => ⟨h.1, h.2.1, h.2.2.1, h.2.2.2.1, h.2.2.2.2.1, h.2.2.2.2.2.1, h.2.2.2.2.2.2.1, h1⟩, fun S0 e => by have e : some _ = some S0 := e; cases e; exact ⟨rfl, rfl⟩⟩ | exact ⟨_, _, h.2.2.2.2.2.2.2.2, h.2.2.2.2.2.2.2.2, fun k' h1 _ => ⟨h.1, h.2.1, h.2.2.1, h.2.2.2.1, h.2.2.2.2.1, h.2.2.2.2.2.1, h.2.2.2.2.2.2.1, h.2.2.2.2.2.2.2.1, h1⟩, fun S0 e => by have e : some _ = some S0 := e; cases e; exact ⟨rfl, rfl⟩⟩ | exact ⟨_, _, h.2.2.2.2.2.2.2.2.2, h.2.2.2.2.2.2.2.2.2, fun k' h1 _ => ⟨h.1, h.2.1, h.2.2.1, h.2.2.2.1, h.2.2.2.2.1, h.2.2.2.2.2.1, h.2.2.2.2.2.2.1, h.2.2.2.2.2.2.2.1, h.2.2.2.2.2.2.2.2.1, h1⟩, fun S0 e => by have e : some _ = some S0 := e; cases e; exact ⟨rfl, rfl⟩⟩)
def cx_mabs : cm_F1 := fun E P t S => match S.2.2.1 with
  | .int x :: st => some (cm_adv S 3 (.int (if 0 ≤ x then x else 0 - x) :: st))
  | _ => none
theorem cd_mabs : cm_Dt cm_mabs cx_mabs := by
  intro E P t S k h
  obtain ⟨pc, L, st, M⟩ := S
  unfold cm_mabs at h ⊢
  dsimp only at h ⊢
  split at h <;> (first | exact h.elim | exact ⟨_, _, h, h, fun k' h1 _ => h1, fun S0 e => by have e : some _ = some S0 := e; cases e; exact ⟨rfl, rfl⟩⟩ | exact ⟨_, _, h.2, h.2, fun k' h1 _ => ⟨h.1, h1⟩, fun S0 e => by have e : some _ = some S0 := e; cases e; exact ⟨rfl, rfl⟩⟩ | exact ⟨_, _, h.2.2, h.2.2, fun k' h1 _ => ⟨h.1, h.2.1, h1⟩, fun S0 e => by have e : some _ = some S0 := e; cases e; exact ⟨rfl, rfl⟩⟩ | exact ⟨_, _, h.2.2.2, h.2.2.2, fun k' h1 _ => ⟨h.1, h.2.1, h.2.2.1, h1⟩, fun S0 e => by have e : some _ = some S0 := e; cases e; exact ⟨rfl, rfl⟩⟩ | exact ⟨_, _, h.2.2.2.2, h.2.2.2.2, fun k' h1 _ => ⟨h.1, h.2.1, h.2.2.1, h.2.2.2.1, h1⟩, fun S0 e => by have e : some _ = some S0 := e; cases e; exact ⟨rfl, rfl⟩⟩ | exact ⟨_, _, h.2.2.2.2.2, h.2.2.2.2.2, fun k' h1 _ => ⟨h.1, h.2.1, h.2.2.1, h.2.2.2.1, h.2.2.2.2.1, h1⟩, fun S0 e => by have e : some _ = some S0 := e; cases e; exact ⟨rfl, rfl⟩⟩ | exact ⟨_, _, h.2.2.2.2.2.2, h.2.2.2.2.2.2, fun k' h1 _ => ⟨h.1, h.2.1, h.2.2.1, h.2.2.2.1, h.2.2.2.2.1, h.2.2.2.2.2.1, h1⟩, fun S0 e => by have e : some _ = some S0 := e; cases e; exact ⟨rfl, rfl⟩⟩ | exact ⟨_, _, h.2.2.2.2.2.2.2, h.2.2.2.2.2.2.2, fun k' h1 _ => ⟨h.1, h.2.1, h.2.2.1, h.2.2.2.1, h.2.2.2.2.1, h.2.2.2.2.2.1, h.2.2.2.2.2.2.1, h1⟩, fun S0 e => by have e : some _ = some S0 := e; cases e; exact ⟨rfl, rfl⟩⟩ | exact ⟨_, _, h.2.2.2.2.2.2.2.2, h.2.2.2.2.2.2.2.2, fun k' h1 _ => ⟨h.1, h.2.1, h.2.2.1, h.2.2.2.1, h.2.2.2.2.1, h.2.2.2.2.2.1, h.2.2.2.2.2.2.1, h.2.2.2.2.2.2.2.1, h1⟩, fun S0 e => by have e : some _ = some S0 := e; cases e; exact ⟨rfl, rfl⟩⟩ | exact ⟨_, _, h.2.2.2.2.2.2.2.2.2, h.2.2.2.2.2.2.2.2.2, fun k' h1 _ => ⟨h.1, h.2.1, h.2.2.1, h.2.2.2.1, h.2.2.2.2.1, h.2.2.2.2.2.1, h.2.2.2.2.2.2.1, h.2.2.2.2.2.2.2.1, h.2.2.2.2.2.2.2.2.1, h1⟩, fun S0 e => by have e : some _ = some S0 := e; cases e; exact ⟨rfl, rfl⟩⟩)
def cx_copyi : cm_F1 := fun E P t S => match S.2.2.1 with
  | .int n :: .int dp :: .ref d :: .int sp :: .ref c :: st => some (S.1 + 3, S.2.1, st, cm_cp S.2.2.2 c sp.toNatClampNeg d dp.toNatClampNeg n.toNatClampNeg)
  | _ => none
theorem cd_copyi : cm_Dt cm_copyi cx_copyi := by
  intro E P t S k h
  obtain ⟨pc, L, st, M⟩ := S
  unfold cm_copyi at h ⊢
  dsimp only at h ⊢
  split at h <;> (first | exact h.elim | exact ⟨_, _, h, h, fun k' h1 _ => h1, fun S0 e => by have e : some _ = some S0 := e; cases e; exact ⟨rfl, rfl⟩⟩ | exact ⟨_, _, h.2, h.2, fun k' h1 _ => ⟨h.1, h1⟩, fun S0 e => by have e : some _ = some S0 := e; cases e; exact ⟨rfl, rfl⟩⟩ | exact ⟨_, _, h.2.2, h.2.2, fun k' h1 _ => ⟨h.1, h.2.1, h1⟩, fun S0 e => by have e : some _ = some S0 := e; cases e; exact ⟨rfl, rfl⟩⟩ | exact ⟨_, _, h.2.2.2, h.2.2.2, fun k' h1 _ => ⟨h.1, h.2.1, h.2.2.1, h1⟩, fun S0 e => by have e : some _ = some S0 := e; cases e; exact ⟨rfl, rfl⟩⟩ | exact ⟨_, _, h.2.2.2.2, h.2.2.2.2, fun k' h1 _ => ⟨h.1, h.2.1, h.2.2.1, h.2.2.2.1, h1⟩, fun S0 e => by have e : some _ = some S0 := e; cases e; exact ⟨rfl, rfl⟩⟩ | exact ⟨_, _, h.2.2.2.2.2, h.2.2.2.2.2, fun k' h1 _ => ⟨h.1, h.2.1, h.2.2.1, h.2.2.2.1, h.2.2.2.2.1, h1⟩, fun S0 e => by have e : some _ = some S0 := e; cases e; exact ⟨rfl, rfl⟩⟩ | exact ⟨_, _, h.2.2.2.2.2.2, h.2.2.2.2.2.2, fun k' h1 _ => ⟨h.1, h.2.1, h.2.2.1, h.2.2.2.1, h.2.2.2.2.1, h.2.2.2.2.2.1, h1⟩, fun S0 e => by have e : some _ = some S0 := e; cases e; exact ⟨rfl, rfl⟩⟩ | exact ⟨_, _, h.2.2.2.2.2.2.2, h.2.2.2.2.2.2.2, fun k' h1 _ => ⟨h.1, h.2.1, h.2.2.1, h.2.2.2.1, h.2.2.2.2.1, h.2.2.2.2.2.1, h.2.2.2.2.2.2.1, h1⟩, fun S0 e => by have e : some _ = some S0 := e; cases e; exact ⟨rfl, rfl⟩⟩ | exact ⟨_, _, h.2.2.2.2.2.2.2.2, h.2.2.2.2.2.2.2.2, fun k' h1 _ => ⟨h.1, h.2.1, h.2.2.1, h.2.2.2.1, h.2.2.2.2.1, h.2.2.2.2.2.1, h.2.2.2.2.2.2.1, h.2.2.2.2.2.2.2.1, h1⟩, fun S0 e => by have e : some _ = some S0 := e; cases e; exact ⟨rfl, rfl⟩⟩ | exact ⟨_, _, h.2.2.2.2.2.2.2.2.2, h.2.2.2.2.2.2.2.2.2, fun k' h1 _ => ⟨h.1, h.2.1, h.2.2.1, h.2.2.2.1, h.2.2.2.2.1, h.2.2.2.2.2.1, h.2.2.2.2.2.2.1, h.2.2.2.2.2.2.2.1, h.2.2.2.2.2.2.2.2.1, h1⟩, fun S0 e => by have e : some _ = some S0 := e; cases e; exact ⟨rfl, rfl⟩⟩)
def cx_getT : cm_F1 := fun E P t S => some (cm_adv S 3 (.ref 1100 :: S.2.2.1))
theorem cd_getT : cm_Dt cm_getT cx_getT := by
  intro E P t S k h
  obtain ⟨pc, L, st, M⟩ := S
  unfold cm_getT at h ⊢
  dsimp only at h ⊢
  first | exact h.elim | exact ⟨_, _, h, h, fun k' h1 _ => h1, fun S0 e => by have e : some _ = some S0 := e; cases e; exact ⟨rfl, rfl⟩⟩ | exact ⟨_, _, h.2, h.2, fun k' h1 _ => ⟨h.1, h1⟩, fun S0 e => by have e : some _ = some S0 := e; cases e; exact ⟨rfl, rfl⟩⟩ | exact ⟨_, _, h.2.2, h.2.2, fun k' h1 _ => ⟨h.1, h.2.1, h1⟩, fun S0 e => by have e : some _ = some S0 := e; cases e; exact ⟨rfl, rfl⟩⟩ | exact ⟨_, _, h.2.2.2, h.2.2.2, fun k' h1 _ => ⟨h.1, h.2.1, h.2.2.1, h1⟩, fun S0 e => by have e : some _ = some S0 := e; cases e; exact ⟨rfl, rfl⟩⟩ | exact ⟨_, _, h.2.2.2.2, h.2.2.2.2, fun k' h1 _ => ⟨h.1, h.2.1, h.2.2.1, h.2.2.2.1, h1⟩, fun S0 e => by have e : some _ = some S0 := e; cases e; exact ⟨rfl, rfl⟩⟩ | exact ⟨_, _, h.2.2.2.2.2, h.2.2.2.2.2, fun k' h1 _ => ⟨h.1, h.2.1, h.2.2.1, h.2.2.2.1, h.2.2.2.2.1, h1⟩, fun S0 e => by have e : some _ = some S0 := e; cases e; exact ⟨rfl, rfl⟩⟩ | exact ⟨_, _, h.2.2.2.2.2.2, h.2.2.2.2.2.2, fun k' h1 _ => ⟨h.1, h.2.1, h.2.2.1, h.2.2.2.1, h.2.2.2.2.1, h.2.2.2.2.2.1, h1⟩, fun S0 e => by have e : some _ = some S0 := e; cases e; exact ⟨rfl, rfl⟩⟩ | exact ⟨_, _, h.2.2.2.2.2.2.2, h.2.2.2.2.2.2.2, fun k' h1 _ => ⟨h.1, h.2.1, h.2.2.1, h.2.2.2.1, h.2.2.2.2.1, h.2.2.2.2.2.1, h.2.2.2.2.2.2.1, h1⟩, fun S0 e => by have e : some _ = some S0 := e; cases e; exact ⟨rfl, rfl⟩⟩ | exact ⟨_, _, h.2.2.2.2.2.2.2.2, h.2.2.2.2.2.2.2.2, fun k' h1 _ => ⟨h.1, h.2.1, h.2.2.1, h.2.2.2.1, h.2.2.2.2.1, h.2.2.2.2.2.1, h.2.2.2.2.2.2.1, h.2.2.2.2.2.2.2.1, h1⟩, fun S0 e => by have e : some _ = some S0 := e; cases e; exact ⟨rfl, rfl⟩⟩ | exact ⟨_, _, h.2.2.2.2.2.2.2.2.2, h.2.2.2.2.2.2.2.2.2, fun k' h1 _ => ⟨h.1, h.2.1, h.2.2.1, h.2.2.2.1, h.2.2.2.2.1, h.2.2.2.2.2.1, h.2.2.2.2.2.2.1, h.2.2.2.2.2.2.2.1, h.2.2.2.2.2.2.2.2.1, h1⟩, fun S0 e => by have e : some _ = some S0 := e; cases e; exact ⟨rfl, rfl⟩⟩
def cx_tald : cm_F1 := fun E P t S => match S.2.2.1 with
  | .int i :: .ref c :: st => some (cm_adv S 1 (.int (cm_tens i.toNatClampNeg) :: st))
  | _ => none
theorem cd_tald : cm_Dt cm_tald cx_tald := by
  intro E P t S k h
  obtain ⟨pc, L, st, M⟩ := S
  unfold cm_tald at h ⊢
  dsimp only at h ⊢
  split at h <;> (first | exact h.elim | exact ⟨_, _, h, h, fun k' h1 _ => h1, fun S0 e => by have e : some _ = some S0 := e; cases e; exact ⟨rfl, rfl⟩⟩ | exact ⟨_, _, h.2, h.2, fun k' h1 _ => ⟨h.1, h1⟩, fun S0 e => by have e : some _ = some S0 := e; cases e; exact ⟨rfl, rfl⟩⟩ | exact ⟨_, _, h.2.2, h.2.2, fun k' h1 _ => ⟨h.1, h.2.1, h1⟩, fun S0 e => by have e : some _ = some S0 := e; cases e; exact ⟨rfl, rfl⟩⟩ | exact ⟨_, _, h.2.2.2, h.2.2.2, fun k' h1 _ => ⟨h.1, h.2.1, h.2.2.1, h1⟩, fun S0 e => by have e : some _ = some S0 := e; cases e; exact ⟨rfl, rfl⟩⟩ | exact ⟨_, _, h.2.2.2.2, h.2.2.2.2, fun k' h1 _ => ⟨h.1, h.2.1, h.2.2.1, h.2.2.2.1, h1⟩, fun S0 e => by have e : some _ = some S0 := e; cases e; exact ⟨rfl, rfl⟩⟩ | exact ⟨_, _, h.2.2.2.2.2, h.2.2.2.2.2, fun k' h1 _ => ⟨h.1, h.2.1, h.2.2.1, h.2.2.2.1, h.2.2.2.2.1, h1⟩, fun S0 e => by have e : some _ = some S0 := e; cases e; exact ⟨rfl, rfl⟩⟩ | exact ⟨_, _, h.2.2.2.2.2.2, h.2.2.2.2.2.2, fun k' h1 _ => ⟨h.1, h.2.1, h.2.2.1, h.2.2.2.1, h.2.2.2.2.1, h.2.2.2.2.2.1, h1⟩, fun S0 e => by have e : some _ = some S0 := e; cases e; exact ⟨rfl, rfl⟩⟩ | exact ⟨_, _, h.2.2.2.2.2.2.2, h.2.2.2.2.2.2.2, fun k' h1 _ => ⟨h.1, h.2.1, h.2.2.1, h.2.2.2.1, h.2.2.2.2.1, h.2.2.2.2.2.1, h.2.2.2.2.2.2.1, h1⟩, fun S0 e => by have e : some _ = some S0 := e; cases e; exact ⟨rfl, rfl⟩⟩ | exact ⟨_, _, h.2.2.2.2.2.2.2.2, h.2.2.2.2.2.2.2.2, fun k' h1 _ => ⟨h.1, h.2.1, h.2.2.1, h.2.2.2.1, h.2.2.2.2.1, h.2.2.2.2.2.1, h.2.2.2.2.2.2.1, h.2.2.2.2.2.2.2.1, h1⟩, fun S0 e => by have e : some _ = some S0 := e; cases e; exact ⟨rfl, rfl⟩⟩ | exact ⟨_, _, h.2.2.2.2.2.2.2.2.2, h.2.2.2.2.2.2.2.2.2, fun k' h1 _ => ⟨h.1, h.2.1, h.2.2.1, h.2.2.2.1, h.2.2.2.2.1, h.2.2.2.2.2.1, h.2.2.2.2.2.2.1, h.2.2.2.2.2.2.2.1, h.2.2.2.2.2.2.2.2.1, h1⟩, fun S0 e => by have e : some _ = some S0 := e; cases e; exact ⟨rfl, rfl⟩⟩)
def cx_alenT : cm_F1 := fun E P t S => match S.2.2.1 with
  | .ref c :: st => some (cm_adv S 1 (.int 5 :: st))
  | _ => none
theorem cd_alenT : cm_Dt cm_alenT cx_alenT := by
  intro E P t S k h
  obtain ⟨pc, L, st, M⟩ := S
  unfold cm_alenT at h ⊢
  dsimp only at h ⊢
  split at h <;> (first | exact h.elim | exact ⟨_, _, h, h, fun k' h1 _ => h1, fun S0 e => by have e : some _ = some S0 := e; cases e; exact ⟨rfl, rfl⟩⟩ | exact ⟨_, _, h.2, h.2, fun k' h1 _ => ⟨h.1, h1⟩, fun S0 e => by have e : some _ = some S0 := e; cases e; exact ⟨rfl, rfl⟩⟩ | exact ⟨_, _, h.2.2, h.2.2, fun k' h1 _ => ⟨h.1, h.2.1, h1⟩, fun S0 e => by have e : some _ = some S0 := e; cases e; exact ⟨rfl, rfl⟩⟩ | exact ⟨_, _, h.2.2.2, h.2.2.2, fun k' h1 _ => ⟨h.1, h.2.1, h.2.2.1, h1⟩, fun S0 e => by have e : some _ = some S0 := e; cases e; exact ⟨rfl, rfl⟩⟩ | exact ⟨_, _, h.2.2.2.2, h.2.2.2.2, fun k' h1 _ => ⟨h.1, h.2.1, h.2.2.1, h.2.2.2.1, h1⟩, fun S0 e => by have e : some _ = some S0 := e; cases e; exact ⟨rfl, rfl⟩⟩ | exact ⟨_, _, h.2.2.2.2.2, h.2.2.2.2.2, fun k' h1 _ => ⟨h.1, h.2.1, h.2.2.1, h.2.2.2.1, h.2.2.2.2.1, h1⟩, fun S0 e => by have e : some _ = some S0 := e; cases e; exact ⟨rfl, rfl⟩⟩ | exact ⟨_, _, h.2.2.2.2.2.2, h.2.2.2.2.2.2, fun k' h1 _ => ⟨h.1, h.2.1, h.2.2.1, h.2.2.2.1, h.2.2.2.2.1, h.2.2.2.2.2.1, h1⟩, fun S0 e => by have e : some _ = some S0 := e; cases e; exact ⟨rfl, rfl⟩⟩ | exact ⟨_, _, h.2.2.2.2.2.2.2, h.2.2.2.2.2.2.2, fun k' h1 _ => ⟨h.1, h.2.1, h.2.2.1, h.2.2.2.1, h.2.2.2.2.1, h.2.2.2.2.2.1, h.2.2.2.2.2.2.1, h1⟩, fun S0 e => by have e : some _ = some S0 := e; cases e; exact ⟨rfl, rfl⟩⟩ | exact ⟨_, _, h.2.2.2.2.2.2.2.2, h.2.2.2.2.2.2.2.2, fun k' h1 _ => ⟨h.1, h.2.1, h.2.2.1, h.2.2.2.1, h.2.2.2.2.1, h.2.2.2.2.2.1, h.2.2.2.2.2.2.1, h.2.2.2.2.2.2.2.1, h1⟩, fun S0 e => by have e : some _ = some S0 := e; cases e; exact ⟨rfl, rfl⟩⟩ | exact ⟨_, _, h.2.2.2.2.2.2.2.2.2, h.2.2.2.2.2.2.2.2.2, fun k' h1 _ => ⟨h.1, h.2.1, h.2.2.1, h.2.2.2.1, h.2.2.2.2.1, h.2.2.2.2.2.1, h.2.2.2.2.2.2.1, h.2.2.2.2.2.2.2.1, h.2.2.2.2.2.2.2.2.1, h1⟩, fun S0 e => by have e : some _ = some S0 := e; cases e; exact ⟨rfl, rfl⟩⟩)
def cx_lastore : cm_F1 := fun E P t S => match S.2.2.1 with
  | .long x :: .int i :: .ref c :: st => some (S.1 + 1, S.2.1, st, cm_wl S.2.2.2 c i.toNatClampNeg x)
  | _ => none
theorem cd_lastore : cm_Dt cm_lastore cx_lastore := by
  intro E P t S k h
  obtain ⟨pc, L, st, M⟩ := S
  unfold cm_lastore at h ⊢
  dsimp only at h ⊢
  split at h <;> (first | exact h.elim | exact ⟨_, _, h, h, fun k' h1 _ => h1, fun S0 e => by have e : some _ = some S0 := e; cases e; exact ⟨rfl, rfl⟩⟩ | exact ⟨_, _, h.2, h.2, fun k' h1 _ => ⟨h.1, h1⟩, fun S0 e => by have e : some _ = some S0 := e; cases e; exact ⟨rfl, rfl⟩⟩ | exact ⟨_, _, h.2.2, h.2.2, fun k' h1 _ => ⟨h.1, h.2.1, h1⟩, fun S0 e => by have e : some _ = some S0 := e; cases e; exact ⟨rfl, rfl⟩⟩ | exact ⟨_, _, h.2.2.2, h.2.2.2, fun k' h1 _ => ⟨h.1, h.2.1, h.2.2.1, h1⟩, fun S0 e => by have e : some _ = some S0 := e; cases e; exact ⟨rfl, rfl⟩⟩ | exact ⟨_, _, h.2.2.2.2, h.2.2.2.2, fun k' h1 _ => ⟨h.1, h.2.1, h.2.2.1, h.2.2.2.1, h1⟩, fun S0 e => by have e : some _ = some S0 := e; cases e; exact ⟨rfl, rfl⟩⟩ | exact ⟨_, _, h.2.2.2.2.2, h.2.2.2.2.2, fun k' h1 _ => ⟨h.1, h.2.1, h.2.2.1, h.2.2.2.1, h.2.2.2.2.1, h1⟩, fun S0 e => by have e : some _ = some S0 := e; cases e; exact ⟨rfl, rfl⟩⟩ | exact ⟨_, _, h.2.2.2.2.2.2, h.2.2.2.2.2.2, fun k' h1 _ => ⟨h.1, h.2.1, h.2.2.1, h.2.2.2.1, h.2.2.2.2.1, h.2.2.2.2.2.1, h1⟩, fun S0 e => by have e : some _ = some S0 := e; cases e; exact ⟨rfl, rfl⟩⟩ | exact ⟨_, _, h.2.2.2.2.2.2.2, h.2.2.2.2.2.2.2, fun k' h1 _ => ⟨h.1, h.2.1, h.2.2.1, h.2.2.2.1, h.2.2.2.2.1, h.2.2.2.2.2.1, h.2.2.2.2.2.2.1, h1⟩, fun S0 e => by have e : some _ = some S0 := e; cases e; exact ⟨rfl, rfl⟩⟩ | exact ⟨_, _, h.2.2.2.2.2.2.2.2, h.2.2.2.2.2.2.2.2, fun k' h1 _ => ⟨h.1, h.2.1, h.2.2.1, h.2.2.2.1, h.2.2.2.2.1, h.2.2.2.2.2.1, h.2.2.2.2.2.2.1, h.2.2.2.2.2.2.2.1, h1⟩, fun S0 e => by have e : some _ = some S0 := e; cases e; exact ⟨rfl, rfl⟩⟩ | exact ⟨_, _, h.2.2.2.2.2.2.2.2.2, h.2.2.2.2.2.2.2.2.2, fun k' h1 _ => ⟨h.1, h.2.1, h.2.2.1, h.2.2.2.1, h.2.2.2.2.1, h.2.2.2.2.2.1, h.2.2.2.2.2.2.1, h.2.2.2.2.2.2.2.1, h.2.2.2.2.2.2.2.2.1, h1⟩, fun S0 e => by have e : some _ = some S0 := e; cases e; exact ⟨rfl, rfl⟩⟩)
def cx_pop2 : cm_F1 := fun E P t S => match S.2.2.1 with
  | .long x :: st => some (cm_adv S 1 st)
  | _ => none
theorem cd_pop2 : cm_Dt cm_pop2 cx_pop2 := by
  intro E P t S k h
  obtain ⟨pc, L, st, M⟩ := S
  unfold cm_pop2 at h ⊢
  dsimp only at h ⊢
  split at h <;> (first | exact h.elim | exact ⟨_, _, h, h, fun k' h1 _ => h1, fun S0 e => by have e : some _ = some S0 := e; cases e; exact ⟨rfl, rfl⟩⟩ | exact ⟨_, _, h.2, h.2, fun k' h1 _ => ⟨h.1, h1⟩, fun S0 e => by have e : some _ = some S0 := e; cases e; exact ⟨rfl, rfl⟩⟩ | exact ⟨_, _, h.2.2, h.2.2, fun k' h1 _ => ⟨h.1, h.2.1, h1⟩, fun S0 e => by have e : some _ = some S0 := e; cases e; exact ⟨rfl, rfl⟩⟩ | exact ⟨_, _, h.2.2.2, h.2.2.2, fun k' h1 _ => ⟨h.1, h.2.1, h.2.2.1, h1⟩, fun S0 e => by have e : some _ = some S0 := e; cases e; exact ⟨rfl, rfl⟩⟩ | exact ⟨_, _, h.2.2.2.2, h.2.2.2.2, fun k' h1 _ => ⟨h.1, h.2.1, h.2.2.1, h.2.2.2.1, h1⟩, fun S0 e => by have e : some _ = some S0 := e; cases e; exact ⟨rfl, rfl⟩⟩ | exact ⟨_, _, h.2.2.2.2.2, h.2.2.2.2.2, fun k' h1 _ => ⟨h.1, h.2.1, h.2.2.1, h.2.2.2.1, h.2.2.2.2.1, h1⟩, fun S0 e => by have e : some _ = some S0 := e; cases e; exact ⟨rfl, rfl⟩⟩ | exact ⟨_, _, h.2.2.2.2.2.2, h.2.2.2.2.2.2, fun k' h1 _ => ⟨h.1, h.2.1, h.2.2.1, h.2.2.2.1, h.2.2.2.2.1, h.2.2.2.2.2.1, h1⟩, fun S0 e => by have e : some _ = some S0 := e; cases e; exact ⟨rfl, rfl⟩⟩ | exact ⟨_, _, h.2.2.2.2.2.2.2, h.2.2.2.2.2.2.2, fun k' h1 _ => ⟨h.1, h.2.1, h.2.2.1, h.2.2.2.1, h.2.2.2.2.1, h.2.2.2.2.2.1, h.2.2.2.2.2.2.1, h1⟩, fun S0 e => by have e : some _ = some S0 := e; cases e; exact ⟨rfl, rfl⟩⟩ | exact ⟨_, _, h.2.2.2.2.2.2.2.2, h.2.2.2.2.2.2.2.2, fun k' h1 _ => ⟨h.1, h.2.1, h.2.2.1, h.2.2.2.1, h.2.2.2.2.1, h.2.2.2.2.2.1, h.2.2.2.2.2.2.1, h.2.2.2.2.2.2.2.1, h1⟩, fun S0 e => by have e : some _ = some S0 := e; cases e; exact ⟨rfl, rfl⟩⟩ | exact ⟨_, _, h.2.2.2.2.2.2.2.2.2, h.2.2.2.2.2.2.2.2.2, fun k' h1 _ => ⟨h.1, h.2.1, h.2.2.1, h.2.2.2.1, h.2.2.2.2.1, h.2.2.2.2.2.1, h.2.2.2.2.2.2.1, h.2.2.2.2.2.2.2.1, h.2.2.2.2.2.2.2.2.1, h1⟩, fun S0 e => by have e : some _ = some S0 := e; cases e; exact ⟨rfl, rfl⟩⟩)
def cx_ops : List cm_F1 := [cx_iconst, cx_bipush, cx_sipush, cx_lconst, cx_iload, cx_iloadn, cx_lload, cx_lloadn, cx_aload, cx_aloadn, cx_istore, cx_istoren, cx_lstore, cx_lstoren, cx_astore, cx_astoren, cx_iadd, cx_isub, cx_imul, cx_iand, cx_ior, cx_ixor, cx_ishl, cx_ishr, cx_iushr, cx_idiv, cx_irem, cx_ineg, cx_i2b, cx_i2l, cx_lcmp, cx_dup, cx_pop, cx_dup2, cx_iinc, cx_icmp_eq, cx_icmp_ne, cx_icmp_lt, cx_icmp_ge, cx_icmp_gt, cx_icmp_le, cx_if_eq, cx_if_ne, cx_if_lt, cx_if_ge, cx_if_gt, cx_if_le, cx_goto, cx_sw, cx_get, cx_put, cx_no, cx_iaload, cx_baload, cx_laload, cx_aaload, cx_iastore, cx_bastore, cx_no, cx_no, cx_no, cx_no, cx_no, cx_no, cx_alen, cx_sald, cx_no, cx_mmin, cx_ldc, cx_ldcS, cx_getV, cx_getC, cx_gets, cx_alenS, cx_baloadS, cx_i2c, cx_ladd, cx_lsub, cx_lmul, cx_ldiv, cx_lrem, cx_ldc2, cx_getsF, cx_ldcw, cx_mmax, cx_mabs, cx_copyi, cx_getT, cx_tald, cx_alenT, cx_lastore, cx_pop2]
theorem cd_1 {l1 : List cm_O} {l2 : List cm_F1} {o : cm_O} {x : cm_F1} (h : cm_Dt o x) (h2 : ∀ (i : Nat) (o : cm_O), l1[i]? = some o → ∃ x, l2[i]? = some x ∧ cm_Dt o x) : ∀ (i : Nat) (o' : cm_O), (o :: l1)[i]? = some o' → ∃ x', (x :: l2)[i]? = some x' ∧ cm_Dt o' x'
  | 0, o', e => by cases e; exact ⟨x, rfl, h⟩
  | i + 1, o', e => by
    obtain ⟨x', e1, e2⟩ := h2 i o' (by simpa using e)
    exact ⟨x', by simpa using e1, e2⟩
theorem cd_ops : ∀ (i : Nat) (o : cm_O), cm_ops[i]? = some o → ∃ x, cx_ops[i]? = some x ∧ cm_Dt o x := cd_1 cd_iconst (cd_1 cd_bipush (cd_1 cd_sipush (cd_1 cd_lconst (cd_1 cd_iload (cd_1 cd_iloadn (cd_1 cd_lload (cd_1 cd_lloadn (cd_1 cd_aload (cd_1 cd_aloadn (cd_1 cd_istore (cd_1 cd_istoren (cd_1 cd_lstore (cd_1 cd_lstoren (cd_1 cd_astore (cd_1 cd_astoren (cd_1 cd_iadd (cd_1 cd_isub (cd_1 cd_imul (cd_1 cd_iand (cd_1 cd_ior (cd_1 cd_ixor (cd_1 cd_ishl (cd_1 cd_ishr (cd_1 cd_iushr (cd_1 cd_idiv (cd_1 cd_irem (cd_1 cd_ineg (cd_1 cd_i2b (cd_1 cd_i2l (cd_1 cd_lcmp (cd_1 cd_dup (cd_1 cd_pop (cd_1 cd_dup2 (cd_1 cd_iinc (cd_1 cd_icmp_eq (cd_1 cd_icmp_ne (cd_1 cd_icmp_lt (cd_1 cd_icmp_ge (cd_1 cd_icmp_gt (cd_1 cd_icmp_le (cd_1 cd_if_eq (cd_1 cd_if_ne (cd_1 cd_if_lt (cd_1 cd_if_ge (cd_1 cd_if_gt (cd_1 cd_if_le (cd_1 cd_goto (cd_1 cd_sw (cd_1 cd_get (cd_1 cd_put (cd_1 cd_no (cd_1 cd_iaload (cd_1 cd_baload (cd_1 cd_laload (cd_1 cd_aaload (cd_1 cd_iastore (cd_1 cd_bastore (cd_1 cd_no (cd_1 cd_no (cd_1 cd_no (cd_1 cd_no (cd_1 cd_no (cd_1 cd_no (cd_1 cd_alen (cd_1 cd_sald (cd_1 cd_no (cd_1 cd_mmin (cd_1 cd_ldc (cd_1 cd_ldcS (cd_1 cd_getV (cd_1 cd_getC (cd_1 cd_gets (cd_1 cd_alenS (cd_1 cd_baloadS (cd_1 cd_i2c (cd_1 cd_ladd (cd_1 cd_lsub (cd_1 cd_lmul (cd_1 cd_ldiv (cd_1 cd_lrem (cd_1 cd_ldc2 (cd_1 cd_getsF (cd_1 cd_ldcw (cd_1 cd_mmax (cd_1 cd_mabs (cd_1 cd_copyi (cd_1 cd_getT (cd_1 cd_tald (cd_1 cd_alenT (cd_1 cd_lastore (cd_1 cd_pop2 (fun i o e => by cases e))))))))))))))))))))))))))))))))))))))))))))))))))))))))))))))))))))))))))))))))))))))))))))
