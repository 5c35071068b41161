noncomputable def cm_adv (S : cm_S) (n : Nat) (st : List Value) : cm_S := (S.1 + n, S.2.1, st, S.2.2.2)
noncomputable def cm_iconst : cm_O := (ev_iconst.1, fun E P t S k => k (cm_adv S 1 (.int (Int32.ofInt t.1) :: S.2.2.1)))
theorem cm_iconst_ok : cm_Snd cm_iconst := by
  intro p l e R s m args below meth c cc Q D A adr ce sl E P t S i n cs X h1 hd hw h2 ws H locs ls hR
  obtain ⟨hx, hb, hml, hown, hts, hK, hA, hN, hcC, hcS, hf, hlc, hscr⟩ := X
  obtain ⟨pc, L, st, M⟩ := S
  have h1 : some ((.iconst t.1 : Instr), (1 : Nat), ([] : List Cond)) = some (i, n, cs) := h1
  cases h1
  exact lv_iconst (v := Int32.ofInt t.1) hx hb hd rfl (h2 ws H locs ls hR)

noncomputable def cm_bipush : cm_O := (ev_bipush.1, fun E P t S k => k (cm_adv S 2 (.int ((Int8.ofInt t.1).toInt32) :: S.2.2.1)))
theorem cm_bipush_ok : cm_Snd cm_bipush := by
  intro p l e R s m args below meth c cc Q D A adr ce sl E P t S i n cs X h1 hd hw h2 ws H locs ls hR
  obtain ⟨hx, hb, hml, hown, hts, hK, hA, hN, hcC, hcS, hf, hlc, hscr⟩ := X
  obtain ⟨pc, L, st, M⟩ := S
  have h1 : some ((.bipush t.1 : Instr), (2 : Nat), ([] : List Cond)) = some (i, n, cs) := h1
  cases h1
  exact lv_bipush (v := (Int8.ofInt t.1).toInt32) hx hb hd rfl (h2 ws H locs ls hR)

noncomputable def cm_sipush : cm_O := (ev_sipush.1, fun E P t S k => k (cm_adv S 3 (.int ((Int16.ofInt t.1).toInt32) :: S.2.2.1)))
theorem cm_sipush_ok : cm_Snd cm_sipush := by
  intro p l e R s m args below meth c cc Q D A adr ce sl E P t S i n cs X h1 hd hw h2 ws H locs ls hR
  obtain ⟨hx, hb, hml, hown, hts, hK, hA, hN, hcC, hcS, hf, hlc, hscr⟩ := X
  obtain ⟨pc, L, st, M⟩ := S
  have h1 : some ((.sipush t.1 : Instr), (3 : Nat), ([] : List Cond)) = some (i, n, cs) := h1
  cases h1
  exact lv_sipush (v := (Int16.ofInt t.1).toInt32) hx hb hd rfl (h2 ws H locs ls hR)

noncomputable def cm_lconst : cm_O := (ev_lconst.1, fun E P t S k => k (cm_adv S 1 (.long (Int64.ofNat t.1.toNat) :: S.2.2.1)))
theorem cm_lconst_ok : cm_Snd cm_lconst := by
  intro p l e R s m args below meth c cc Q D A adr ce sl E P t S i n cs X h1 hd hw h2 ws H locs ls hR
  obtain ⟨hx, hb, hml, hown, hts, hK, hA, hN, hcC, hcS, hf, hlc, hscr⟩ := X
  obtain ⟨pc, L, st, M⟩ := S
  have h1 : (if h : t.1.toNat < 2 then some ((.lconst ⟨t.1.toNat, h⟩ : Instr), (1 : Nat), ([] : List Cond)) else none) = some (i, n, cs) := h1
  split at h1
  · cases h1
    exact lv_lconst (v := Int64.ofNat t.1.toNat) hx hb hd rfl (h2 ws H locs ls hR)
  · cases h1

noncomputable def cm_ld (ty : Nat) (n i : Nat) (S : cm_S) (k : cm_S → Prop) : Prop := match ty, cm_look S.2.1 i with
  | 0, some (.int x) => k (cm_adv S n (.int x :: S.2.2.1))
  | 1, some (.long x) => k (cm_adv S n (.long x :: S.2.2.1))
  | 2, some (.ref x) => k (cm_adv S n (.ref x :: S.2.2.1))
  | _, _ => False
theorem cm_ld_ok {ty n i : Nat} {S : cm_S} {k : cm_S → Prop} (h : cm_ld ty n i S k) : ∃ v, cm_look S.2.1 i = some v ∧ k (cm_adv S n (v :: S.2.2.1)) ∧ (ty = 0 → ∃ x, v = .int x) ∧ (ty = 1 → ∃ x, v = .long x) ∧ (ty = 2 → ∃ x, v = .ref x) := by
  unfold cm_ld at h
  split at h
  · rename_i x hx
    exact ⟨_, hx, h, fun _ => ⟨x, rfl⟩, fun q => (by cases q), fun q => (by cases q)⟩
  · rename_i x hx
    exact ⟨_, hx, h, fun q => (by cases q), fun _ => ⟨x, rfl⟩, fun q => (by cases q)⟩
  · rename_i x hx
    exact ⟨_, hx, h, fun q => (by cases q), fun q => (by cases q), fun _ => ⟨x, rfl⟩⟩
  · exact h.elim
noncomputable def cm_iload : cm_O := (ev_iload.1, fun E P t S k => cm_ld 0 2 t.1.toNat S k)
theorem cm_iload_ok : cm_Snd cm_iload := by
  intro p l e R s m args below meth c cc Q D A adr ce sl E P t S i n cs X h1 hd hw h2 ws H locs ls hR
  obtain ⟨hx, hb, hml, hown, hts, hK, hA, hN, hcC, hcS, hf, hlc, hscr⟩ := X
  obtain ⟨pc, L, st, M⟩ := S
  have h1 : some ((.iload t.1.toNat : Instr), (2 : Nat), ([] : List Cond)) = some (i, n, cs) := h1
  cases h1
  obtain ⟨v, hv, hk, q0, q1, q2⟩ := cm_ld_ok h2
  obtain ⟨x, rfl⟩ := q0 rfl
  exact lv_iload hx hb hd (cm_l_at hR.2.2.2.2 hv) (hk ws H locs ls hR)

noncomputable def cm_iloadn : cm_O := (ev_iloadn.1, fun E P t S k => cm_ld 0 1 t.1.toNat S k)
theorem cm_iloadn_ok : cm_Snd cm_iloadn := by
  intro p l e R s m args below meth c cc Q D A adr ce sl E P t S i n cs X h1 hd hw h2 ws H locs ls hR
  obtain ⟨hx, hb, hml, hown, hts, hK, hA, hN, hcC, hcS, hf, hlc, hscr⟩ := X
  obtain ⟨pc, L, st, M⟩ := S
  have h1 : (if h : t.1.toNat < 4 then some ((.iload_n ⟨t.1.toNat, h⟩ : Instr), (1 : Nat), ([] : List Cond)) else none) = some (i, n, cs) := h1
  split at h1
  rotate_left
  · cases h1
  cases h1
  obtain ⟨v, hv, hk, q0, q1, q2⟩ := cm_ld_ok h2
  obtain ⟨x, rfl⟩ := q0 rfl
  exact lv_iload_n hx hb hd rfl (cm_l_at hR.2.2.2.2 hv) (hk ws H locs ls hR)

noncomputable def cm_lload : cm_O := (ev_lload.1, fun E P t S k => cm_ld 1 2 t.1.toNat S k)
theorem cm_lload_ok : cm_Snd cm_lload := by
  intro p l e R s m args below meth c cc Q D A adr ce sl E P t S i n cs X h1 hd hw h2 ws H locs ls hR
  obtain ⟨hx, hb, hml, hown, hts, hK, hA, hN, hcC, hcS, hf, hlc, hscr⟩ := X
  obtain ⟨pc, L, st, M⟩ := S
  have h1 : some ((.lload t.1.toNat : Instr), (2 : Nat), ([] : List Cond)) = some (i, n, cs) := h1
  cases h1
  obtain ⟨v, hv, hk, q0, q1, q2⟩ := cm_ld_ok h2
  obtain ⟨x, rfl⟩ := q1 rfl
  exact lv_lload hx hb hd (cm_l_at hR.2.2.2.2 hv) (hk ws H locs ls hR)

noncomputable def cm_lloadn : cm_O := (ev_lloadn.1, fun E P t S k => cm_ld 1 1 t.1.toNat S k)
theorem cm_lloadn_ok : cm_Snd cm_lloadn := by
  intro p l e R s m args below meth c cc Q D A adr ce sl E P t S i n cs X h1 hd hw h2 ws H locs ls hR
  obtain ⟨hx, hb, hml, hown, hts, hK, hA, hN, hcC, hcS, hf, hlc, hscr⟩ := X
  obtain ⟨pc, L, st, M⟩ := S
  have h1 : (if h : t.1.toNat < 4 then some ((.lload_n ⟨t.1.toNat, h⟩ : Instr), (1 : Nat), ([] : List Cond)) else none) = some (i, n, cs) := h1
  split at h1
  rotate_left
  · cases h1
  cases h1
  obtain ⟨v, hv, hk, q0, q1, q2⟩ := cm_ld_ok h2
  obtain ⟨x, rfl⟩ := q1 rfl
  exact lv_lload_n hx hb hd rfl (cm_l_at hR.2.2.2.2 hv) (hk ws H locs ls hR)

noncomputable def cm_aload : cm_O := (ev_aload.1, fun E P t S k => cm_ld 2 2 t.1.toNat S k)
theorem cm_aload_ok : cm_Snd cm_aload := by
  intro p l e R s m args below meth c cc Q D A adr ce sl E P t S i n cs X h1 hd hw h2 ws H locs ls hR
  obtain ⟨hx, hb, hml, hown, hts, hK, hA, hN, hcC, hcS, hf, hlc, hscr⟩ := X
  obtain ⟨pc, L, st, M⟩ := S
  have h1 : some ((.aload t.1.toNat : Instr), (2 : Nat), ([] : List Cond)) = some (i, n, cs) := h1
  cases h1
  obtain ⟨v, hv, hk, q0, q1, q2⟩ := cm_ld_ok h2
  obtain ⟨x, rfl⟩ := q2 rfl
  exact lv_aload hx hb hd (cm_l_at hR.2.2.2.2 hv) (hk ws H locs ls hR)

noncomputable def cm_aloadn : cm_O := (ev_aloadn.1, fun E P t S k => cm_ld 2 1 t.1.toNat S k)
theorem cm_aloadn_ok : cm_Snd cm_aloadn := by
  intro p l e R s m args below meth c cc Q D A adr ce sl E P t S i n cs X h1 hd hw h2 ws H locs ls hR
  obtain ⟨hx, hb, hml, hown, hts, hK, hA, hN, hcC, hcS, hf, hlc, hscr⟩ := X
  obtain ⟨pc, L, st, M⟩ := S
  have h1 : (if h : t.1.toNat < 4 then some ((.aload_n ⟨t.1.toNat, h⟩ : Instr), (1 : Nat), ([] : List Cond)) else none) = some (i, n, cs) := h1
  split at h1
  rotate_left
  · cases h1
  cases h1
  obtain ⟨v, hv, hk, q0, q1, q2⟩ := cm_ld_ok h2
  obtain ⟨x, rfl⟩ := q2 rfl
  exact lv_aload_n hx hb hd rfl (cm_l_at hR.2.2.2.2 hv) (hk ws H locs ls hR)

noncomputable def cm_sto (ty : Nat) (n i nL : Nat) (S : cm_S) (k : cm_S → Prop) : Prop := match ty, S.2.2.1 with
  | 0, .int x :: st => i < nL ∧ k (S.1 + n, cm_st1 S.2.1 i (.int x), st, S.2.2.2)
  | 1, .long x :: st => i + 1 < nL ∧ k (S.1 + n, cm_st2 S.2.1 i (.long x), st, S.2.2.2)
  | 2, .ref x :: st => i < nL ∧ k (S.1 + n, cm_st1 S.2.1 i (.ref x), st, S.2.2.2)
  | _, _ => False
noncomputable def cm_istore : cm_O := (ev_istore.1, fun E P t S k => cm_sto 0 2 t.1.toNat P.2.2.2.2.1 S k)
theorem cm_istore_ok : cm_Snd cm_istore := by
  intro p l e R s m args below meth c cc Q D A adr ce sl E P t S i n cs X h1 hd hw h2 ws H locs ls hR
  obtain ⟨hx, hb, hml, hown, hts, hK, hA, hN, hcC, hcS, hf, hlc, hscr⟩ := X
  obtain ⟨pc, L, st, M⟩ := S
  have h1 : some ((.istore t.1.toNat : Instr), (2 : Nat), ([] : List Cond)) = some (i, n, cs) := h1
  cases h1
  obtain ⟨hP, hD, hS, hW, hL⟩ := hR
  cases st with
  | nil => exact h2.elim
  | cons v st' =>
    cases v with
    | int x =>
      exact lv_istore hx hb hd hL h2.1 (cm_st1_eq adr L t.1.toNat (.int x)) (fun ls' hl' => h2.2 ws H locs ls' ⟨hP, hD, hS, hW, hl'⟩)
    | _ => exact h2.elim

noncomputable def cm_istoren : cm_O := (ev_istoren.1, fun E P t S k => cm_sto 0 1 t.1.toNat P.2.2.2.2.1 S k)
theorem cm_istoren_ok : cm_Snd cm_istoren := by
  intro p l e R s m args below meth c cc Q D A adr ce sl E P t S i n cs X h1 hd hw h2 ws H locs ls hR
  obtain ⟨hx, hb, hml, hown, hts, hK, hA, hN, hcC, hcS, hf, hlc, hscr⟩ := X
  obtain ⟨pc, L, st, M⟩ := S
  have h1 : (if h : t.1.toNat < 4 then some ((.istore_n ⟨t.1.toNat, h⟩ : Instr), (1 : Nat), ([] : List Cond)) else none) = some (i, n, cs) := h1
  split at h1
  rotate_left
  · cases h1
  cases h1
  obtain ⟨hP, hD, hS, hW, hL⟩ := hR
  cases st with
  | nil => exact h2.elim
  | cons v st' =>
    cases v with
    | int x =>
      exact lv_istore_n hx hb hd rfl hL h2.1 (cm_st1_eq adr L t.1.toNat (.int x)) (fun ls' hl' => h2.2 ws H locs ls' ⟨hP, hD, hS, hW, hl'⟩)
    | _ => exact h2.elim

noncomputable def cm_lstore : cm_O := (ev_lstore.1, fun E P t S k => cm_sto 1 2 t.1.toNat P.2.2.2.2.1 S k)
theorem cm_lstore_ok : cm_Snd cm_lstore := by
  intro p l e R s m args below meth c cc Q D A adr ce sl E P t S i n cs X h1 hd hw h2 ws H locs ls hR
  obtain ⟨hx, hb, hml, hown, hts, hK, hA, hN, hcC, hcS, hf, hlc, hscr⟩ := X
  obtain ⟨pc, L, st, M⟩ := S
  have h1 : some ((.lstore t.1.toNat : Instr), (2 : Nat), ([] : List Cond)) = some (i, n, cs) := h1
  cases h1
  obtain ⟨hP, hD, hS, hW, hL⟩ := hR
  cases st with
  | nil => exact h2.elim
  | cons v st' =>
    cases v with
    | long x =>
      exact lv_lstore hx hb hd hL h2.1 (cm_st2_eq adr L t.1.toNat (.long x)) (fun ls' hl' => h2.2 ws H locs ls' ⟨hP, hD, hS, hW, hl'⟩)
    | _ => exact h2.elim

noncomputable def cm_lstoren : cm_O := (ev_lstoren.1, fun E P t S k => cm_sto 1 1 t.1.toNat P.2.2.2.2.1 S k)
theorem cm_lstoren_ok : cm_Snd cm_lstoren := by
  intro p l e R s m args below meth c cc Q D A adr ce sl E P t S i n cs X h1 hd hw h2 ws H locs ls hR
  obtain ⟨hx, hb, hml, hown, hts, hK, hA, hN, hcC, hcS, hf, hlc, hscr⟩ := X
  obtain ⟨pc, L, st, M⟩ := S
  have h1 : (if h : t.1.toNat < 4 then some ((.lstore_n ⟨t.1.toNat, h⟩ : Instr), (1 : Nat), ([] : List Cond)) else none) = some (i, n, cs) := h1
  split at h1
  rotate_left
  · cases h1
  cases h1
  obtain ⟨hP, hD, hS, hW, hL⟩ := hR
  cases st with
  | nil => exact h2.elim
  | cons v st' =>
    cases v with
    | long x =>
      exact lv_lstore_n hx hb hd rfl hL h2.1 (cm_st2_eq adr L t.1.toNat (.long x)) (fun ls' hl' => h2.2 ws H locs ls' ⟨hP, hD, hS, hW, hl'⟩)
    | _ => exact h2.elim

noncomputable def cm_astore : cm_O := (ev_astore.1, fun E P t S k => cm_sto 2 2 t.1.toNat P.2.2.2.2.1 S k)
theorem cm_astore_ok : cm_Snd cm_astore := by
  intro p l e R s m args below meth c cc Q D A adr ce sl E P t S i n cs X h1 hd hw h2 ws H locs ls hR
  obtain ⟨hx, hb, hml, hown, hts, hK, hA, hN, hcC, hcS, hf, hlc, hscr⟩ := X
  obtain ⟨pc, L, st, M⟩ := S
  have h1 : some ((.astore t.1.toNat : Instr), (2 : Nat), ([] : List Cond)) = some (i, n, cs) := h1
  cases h1
  obtain ⟨hP, hD, hS, hW, hL⟩ := hR
  cases st with
  | nil => exact h2.elim
  | cons v st' =>
    cases v with
    | ref x =>
      exact lv_astore hx hb hd hL h2.1 (cm_st1_eq adr L t.1.toNat (.ref x)) (fun ls' hl' => h2.2 ws H locs ls' ⟨hP, hD, hS, hW, hl'⟩)
    | _ => exact h2.elim

noncomputable def cm_astoren : cm_O := (ev_astoren.1, fun E P t S k => cm_sto 2 1 t.1.toNat P.2.2.2.2.1 S k)
theorem cm_astoren_ok : cm_Snd cm_astoren := by
  intro p l e R s m args below meth c cc Q D A adr ce sl E P t S i n cs X h1 hd hw h2 ws H locs ls hR
  obtain ⟨hx, hb, hml, hown, hts, hK, hA, hN, hcC, hcS, hf, hlc, hscr⟩ := X
  obtain ⟨pc, L, st, M⟩ := S
  have h1 : (if h : t.1.toNat < 4 then some ((.astore_n ⟨t.1.toNat, h⟩ : Instr), (1 : Nat), ([] : List Cond)) else none) = some (i, n, cs) := h1
  split at h1
  rotate_left
  · cases h1
  cases h1
  obtain ⟨hP, hD, hS, hW, hL⟩ := hR
  cases st with
  | nil => exact h2.elim
  | cons v st' =>
    cases v with
    | ref x =>
      exact lv_astore_n hx hb hd rfl hL h2.1 (cm_st1_eq adr L t.1.toNat (.ref x)) (fun ls' hl' => h2.2 ws H locs ls' ⟨hP, hD, hS, hW, hl'⟩)
    | _ => exact h2.elim

noncomputable def cm_iadd : cm_O := (ev_iadd.1, fun E P t S k => match S.2.2.1 with
  | .int y :: .int x :: st => k (cm_adv S 1 (.int (x + y) :: st))
  | _ => False)
theorem cm_iadd_ok : cm_Snd cm_iadd := by
  intro p l e R s m args below meth c cc Q D A adr ce sl E P t S i n cs X h1 hd hw h2 ws H locs ls hR
  obtain ⟨hx, hb, hml, hown, hts, hK, hA, hN, hcC, hcS, hf, hlc, hscr⟩ := X
  obtain ⟨pc, L, st, M⟩ := S
  have h1 : some ((.iadd : Instr), (1 : Nat), ([] : List Cond)) = some (i, n, cs) := h1
  cases h1
  unfold cm_iadd at h2
  dsimp only at h2
  split at h2
  · exact lv_iadd hx hb hd (h2 ws H locs ls hR)
  · exact h2.elim

noncomputable def cm_isub : cm_O := (ev_isub.1, fun E P t S k => match S.2.2.1 with
  | .int y :: .int x :: st => k (cm_adv S 1 (.int (x - y) :: st))
  | _ => False)
theorem cm_isub_ok : cm_Snd cm_isub := by
  intro p l e R s m args below meth c cc Q D A adr ce sl E P t S i n cs X h1 hd hw h2 ws H locs ls hR
  obtain ⟨hx, hb, hml, hown, hts, hK, hA, hN, hcC, hcS, hf, hlc, hscr⟩ := X
  obtain ⟨pc, L, st, M⟩ := S
  have h1 : some ((.isub : Instr), (1 : Nat), ([] : List Cond)) = some (i, n, cs) := h1
  cases h1
  unfold cm_isub at h2
  dsimp only at h2
  split at h2
  · exact lv_isub hx hb hd (h2 ws H locs ls hR)
  · exact h2.elim

noncomputable def cm_imul : cm_O := (ev_imul.1, fun E P t S k => match S.2.2.1 with
  | .int y :: .int x :: st => k (cm_adv S 1 (.int (x * y) :: st))
  | _ => False)
theorem cm_imul_ok : cm_Snd cm_imul := by
  intro p l e R s m args below meth c cc Q D A adr ce sl E P t S i n cs X h1 hd hw h2 ws H locs ls hR
  obtain ⟨hx, hb, hml, hown, hts, hK, hA, hN, hcC, hcS, hf, hlc, hscr⟩ := X
  obtain ⟨pc, L, st, M⟩ := S
  have h1 : some ((.imul : Instr), (1 : Nat), ([] : List Cond)) = some (i, n, cs) := h1
  cases h1
  unfold cm_imul at h2
  dsimp only at h2
  split at h2
  · exact lv_imul hx hb hd (h2 ws H locs ls hR)
  · exact h2.elim

noncomputable def cm_iand : cm_O := (ev_iand.1, fun E P t S k => match S.2.2.1 with
  | .int y :: .int x :: st => k (cm_adv S 1 (.int (x &&& y) :: st))
  | _ => False)
theorem cm_iand_ok : cm_Snd cm_iand := by
  intro p l e R s m args below meth c cc Q D A adr ce sl E P t S i n cs X h1 hd hw h2 ws H locs ls hR
  obtain ⟨hx, hb, hml, hown, hts, hK, hA, hN, hcC, hcS, hf, hlc, hscr⟩ := X
  obtain ⟨pc, L, st, M⟩ := S
  have h1 : some ((.iand : Instr), (1 : Nat), ([] : List Cond)) = some (i, n, cs) := h1
  cases h1
  unfold cm_iand at h2
  dsimp only at h2
  split at h2
  · exact lv_iand hx hb hd (h2 ws H locs ls hR)
  · exact h2.elim

noncomputable def cm_ior : cm_O := (ev_ior.1, fun E P t S k => match S.2.2.1 with
  | .int y :: .int x :: st => k (cm_adv S 1 (.int (x ||| y) :: st))
  | _ => False)
theorem cm_ior_ok : cm_Snd cm_ior := by
  intro p l e R s m args below meth c cc Q D A adr ce sl E P t S i n cs X h1 hd hw h2 ws H locs ls hR
  obtain ⟨hx, hb, hml, hown, hts, hK, hA, hN, hcC, hcS, hf, hlc, hscr⟩ := X
  obtain ⟨pc, L, st, M⟩ := S
  have h1 : some ((.ior : Instr), (1 : Nat), ([] : List Cond)) = some (i, n, cs) := h1
  cases h1
  unfold cm_ior at h2
  dsimp only at h2
  split at h2
  · exact lv_ior hx hb hd (h2 ws H locs ls hR)
  · exact h2.elim

noncomputable def cm_ixor : cm_O := (ev_ixor.1, fun E P t S k => match S.2.2.1 with
  | .int y :: .int x :: st => k (cm_adv S 1 (.int (x ^^^ y) :: st))
  | _ => False)
theorem cm_ixor_ok : cm_Snd cm_ixor := by
  intro p l e R s m args below meth c cc Q D A adr ce sl E P t S i n cs X h1 hd hw h2 ws H locs ls hR
  obtain ⟨hx, hb, hml, hown, hts, hK, hA, hN, hcC, hcS, hf, hlc, hscr⟩ := X
  obtain ⟨pc, L, st, M⟩ := S
  have h1 : some ((.ixor : Instr), (1 : Nat), ([] : List Cond)) = some (i, n, cs) := h1
  cases h1
  unfold cm_ixor at h2
  dsimp only at h2
  split at h2
  · exact lv_ixor hx hb hd (h2 ws H locs ls hR)
  · exact h2.elim

noncomputable def cm_ishl : cm_O := (ev_ishl.1, fun E P t S k => match S.2.2.1 with
  | .int y :: .int x :: st => k (cm_adv S 1 (.int (x <<< (y &&& 31)) :: st))
  | _ => False)
theorem cm_ishl_ok : cm_Snd cm_ishl := by
  intro p l e R s m args below meth c cc Q D A adr ce sl E P t S i n cs X h1 hd hw h2 ws H locs ls hR
  obtain ⟨hx, hb, hml, hown, hts, hK, hA, hN, hcC, hcS, hf, hlc, hscr⟩ := X
  obtain ⟨pc, L, st, M⟩ := S
  have h1 : some ((.ishl : Instr), (1 : Nat), ([] : List Cond)) = some (i, n, cs) := h1
  cases h1
  unfold cm_ishl at h2
  dsimp only at h2
  split at h2
  · exact lv_ishl hx hb hd (h2 ws H locs ls hR)
  · exact h2.elim

noncomputable def cm_ishr : cm_O := (ev_ishr.1, fun E P t S k => match S.2.2.1 with
  | .int y :: .int x :: st => k (cm_adv S 1 (.int (x >>> (y &&& 31)) :: st))
  | _ => False)
theorem cm_ishr_ok : cm_Snd cm_ishr := by
  intro p l e R s m args below meth c cc Q D A adr ce sl E P t S i n cs X h1 hd hw h2 ws H locs ls hR
  obtain ⟨hx, hb, hml, hown, hts, hK, hA, hN, hcC, hcS, hf, hlc, hscr⟩ := X
  obtain ⟨pc, L, st, M⟩ := S
  have h1 : some ((.ishr : Instr), (1 : Nat), ([] : List Cond)) = some (i, n, cs) := h1
  cases h1
  unfold cm_ishr at h2
  dsimp only at h2
  split at h2
  · exact lv_ishr hx hb hd (h2 ws H locs ls hR)
  · exact h2.elim

noncomputable def cm_iushr : cm_O := (ev_iushr.1, fun E P t S k => match S.2.2.1 with
  | .int y :: .int x :: st => k (cm_adv S 1 (.int ((x.toUInt32 >>> (y.toUInt32 &&& Int32.toUInt32 31)).toInt32) :: st))
  | _ => False)
theorem cm_iushr_ok : cm_Snd cm_iushr := by
  intro p l e R s m args below meth c cc Q D A adr ce sl E P t S i n cs X h1 hd hw h2 ws H locs ls hR
  obtain ⟨hx, hb, hml, hown, hts, hK, hA, hN, hcC, hcS, hf, hlc, hscr⟩ := X
  obtain ⟨pc, L, st, M⟩ := S
  have h1 : some ((.iushr : Instr), (1 : Nat), ([] : List Cond)) = some (i, n, cs) := h1
  cases h1
  unfold cm_iushr at h2
  dsimp only at h2
  split at h2
  · exact lv_iushr hx hb hd rfl (h2 ws H locs ls hR)
  · exact h2.elim

noncomputable def cm_idiv : cm_O := (ev_idiv.1, fun E P t S k => match S.2.2.1 with
  | .int y :: .int x :: st => ¬ y = 0 ∧ k (cm_adv S 1 (.int (x / y) :: st))
  | _ => False)
theorem cm_idiv_ok : cm_Snd cm_idiv := by
  intro p l e R s m args below meth c cc Q D A adr ce sl E P t S i n cs X h1 hd hw h2 ws H locs ls hR
  obtain ⟨hx, hb, hml, hown, hts, hK, hA, hN, hcC, hcS, hf, hlc, hscr⟩ := X
  obtain ⟨pc, L, st, M⟩ := S
  have h1 : some ((.idiv : Instr), (1 : Nat), ([] : List Cond)) = some (i, n, cs) := h1
  cases h1
  unfold cm_idiv at h2
  dsimp only at h2
  split at h2
  · exact lv_idiv hx hb hd h2.1 (h2.2 ws H locs ls hR)
  · exact h2.elim

noncomputable def cm_irem : cm_O := (ev_irem.1, fun E P t S k => match S.2.2.1 with
  | .int y :: .int x :: st => ¬ y = 0 ∧ k (cm_adv S 1 (.int (x - x / y * y) :: st))
  | _ => False)
theorem cm_irem_ok : cm_Snd cm_irem := by
  intro p l e R s m args below meth c cc Q D A adr ce sl E P t S i n cs X h1 hd hw h2 ws H locs ls hR
  obtain ⟨hx, hb, hml, hown, hts, hK, hA, hN, hcC, hcS, hf, hlc, hscr⟩ := X
  obtain ⟨pc, L, st, M⟩ := S
  have h1 : some ((.irem : Instr), (1 : Nat), ([] : List Cond)) = some (i, n, cs) := h1
  cases h1
  unfold cm_irem at h2
  dsimp only at h2
  split at h2
  · exact lv_irem hx hb hd h2.1 (h2.2 ws H locs ls hR)
  · exact h2.elim

noncomputable def cm_ineg : cm_O := (ev_ineg.1, fun E P t S k => match S.2.2.1 with
  | .int x :: st => k (cm_adv S 1 (.int (-x) :: st))
  | _ => False)
theorem cm_ineg_ok : cm_Snd cm_ineg := by
  intro p l e R s m args below meth c cc Q D A adr ce sl E P t S i n cs X h1 hd hw h2 ws H locs ls hR
  obtain ⟨hx, hb, hml, hown, hts, hK, hA, hN, hcC, hcS, hf, hlc, hscr⟩ := X
  obtain ⟨pc, L, st, M⟩ := S
  have h1 : some ((.ineg : Instr), (1 : Nat), ([] : List Cond)) = some (i, n, cs) := h1
  cases h1
  unfold cm_ineg at h2
  dsimp only at h2
  split at h2
  · exact lv_ineg hx hb hd (h2 ws H locs ls hR)
  · exact h2.elim

noncomputable def cm_i2b : cm_O := (ev_i2b.1, fun E P t S k => match S.2.2.1 with
  | .int x :: st => k (cm_adv S 1 (.int (x.toInt8.toInt32) :: st))
  | _ => False)
theorem cm_i2b_ok : cm_Snd cm_i2b := by
  intro p l e R s m args below meth c cc Q D A adr ce sl E P t S i n cs X h1 hd hw h2 ws H locs ls hR
  obtain ⟨hx, hb, hml, hown, hts, hK, hA, hN, hcC, hcS, hf, hlc, hscr⟩ := X
  obtain ⟨pc, L, st, M⟩ := S
  have h1 : some ((.i2b : Instr), (1 : Nat), ([] : List Cond)) = some (i, n, cs) := h1
  cases h1
  unfold cm_i2b at h2
  dsimp only at h2
  split at h2
  · exact lv_i2b hx hb hd rfl (h2 ws H locs ls hR)
  · exact h2.elim

noncomputable def cm_i2c : cm_O := (ev_i2c.1, fun E P t S k => match S.2.2.1 with
  | .int x :: st => k (cm_adv S 1 (.int ((x.toUInt32 % 65536).toInt32) :: st))
  | _ => False)
theorem cm_i2c_ok : cm_Snd cm_i2c := by
  intro p l e R s m args below meth c cc Q D A adr ce sl E P t S i n cs X h1 hd hw h2 ws H locs ls hR
  obtain ⟨hx, hb, hml, hown, hts, hK, hA, hN, hcC, hcS, hf, hlc, hscr⟩ := X
  obtain ⟨pc, L, st, M⟩ := S
  have h1 : some ((.i2c : Instr), (1 : Nat), ([] : List Cond)) = some (i, n, cs) := h1
  cases h1
  unfold cm_i2c at h2
  dsimp only at h2
  split at h2
  · exact lv_i2c hx hb hd rfl (h2 ws H locs ls hR)
  · exact h2.elim

noncomputable def cm_i2l : cm_O := (ev_i2l.1, fun E P t S k => match S.2.2.1 with
  | .int x :: st => k (cm_adv S 1 (.long x.toInt64 :: st))
  | _ => False)
theorem cm_i2l_ok : cm_Snd cm_i2l := by
  intro p l e R s m args below meth c cc Q D A adr ce sl E P t S i n cs X h1 hd hw h2 ws H locs ls hR
  obtain ⟨hx, hb, hml, hown, hts, hK, hA, hN, hcC, hcS, hf, hlc, hscr⟩ := X
  obtain ⟨pc, L, st, M⟩ := S
  have h1 : some ((.i2l : Instr), (1 : Nat), ([] : List Cond)) = some (i, n, cs) := h1
  cases h1
  unfold cm_i2l at h2
  dsimp only at h2
  split at h2
  · exact lv_i2l hx hb hd rfl (h2 ws H locs ls hR)
  · exact h2.elim

noncomputable def cm_lcmp : cm_O := (ev_lcmp.1, fun E P t S k => match S.2.2.1 with
  | .long y :: .long x :: st => k (cm_adv S 1 (.int (lg_cmp x y) :: st))
  | _ => False)
theorem cm_lcmp_ok : cm_Snd cm_lcmp := by
  intro p l e R s m args below meth c cc Q D A adr ce sl E P t S i n cs X h1 hd hw h2 ws H locs ls hR
  obtain ⟨hx, hb, hml, hown, hts, hK, hA, hN, hcC, hcS, hf, hlc, hscr⟩ := X
  obtain ⟨pc, L, st, M⟩ := S
  have h1 : some ((.lcmp : Instr), (1 : Nat), ([] : List Cond)) = some (i, n, cs) := h1
  cases h1
  unfold cm_lcmp at h2
  dsimp only at h2
  split at h2
  · exact W.lcmp hx hb hd (h2 ws H locs ls hR)
  · exact h2.elim

noncomputable def cm_ladd : cm_O := (ev_ladd.1, fun E P t S k => match S.2.2.1 with
  | .long y :: .long x :: st => k (cm_adv S 1 (.long (x + y) :: st))
  | _ => False)
theorem cm_ladd_ok : cm_Snd cm_ladd := by
  intro p l e R s m args below meth c cc Q D A adr ce sl E P t S i n cs X h1 hd hw h2 ws H locs ls hR
  obtain ⟨hx, hb, hml, hown, hts, hK, hA, hN, hcC, hcS, hf, hlc, hscr⟩ := X
  obtain ⟨pc, L, st, M⟩ := S
  have h1 : some ((.ladd : Instr), (1 : Nat), ([] : List Cond)) = some (i, n, cs) := h1
  cases h1
  unfold cm_ladd at h2
  dsimp only at h2
  split at h2
  · exact lv_ladd hx hb hd (h2 ws H locs ls hR)
  · exact h2.elim

noncomputable def cm_lsub : cm_O := (ev_lsub.1, fun E P t S k => match S.2.2.1 with
  | .long y :: .long x :: st => k (cm_adv S 1 (.long (x - y) :: st))
  | _ => False)
theorem cm_lsub_ok : cm_Snd cm_lsub := by
  intro p l e R s m args below meth c cc Q D A adr ce sl E P t S i n cs X h1 hd hw h2 ws H locs ls hR
  obtain ⟨hx, hb, hml, hown, hts, hK, hA, hN, hcC, hcS, hf, hlc, hscr⟩ := X
  obtain ⟨pc, L, st, M⟩ := S
  have h1 : some ((.lsub : Instr), (1 : Nat), ([] : List Cond)) = some (i, n, cs) := h1
  cases h1
  unfold cm_lsub at h2
  dsimp only at h2
  split at h2
  · exact lv_lsub hx hb hd (h2 ws H locs ls hR)
  · exact h2.elim

noncomputable def cm_lmul : cm_O := (ev_lmul.1, fun E P t S k => match S.2.2.1 with
  | .long y :: .long x :: st => k (cm_adv S 1 (.long (x * y) :: st))
  | _ => False)
theorem cm_lmul_ok : cm_Snd cm_lmul := by
  intro p l e R s m args below meth c cc Q D A adr ce sl E P t S i n cs X h1 hd hw h2 ws H locs ls hR
  obtain ⟨hx, hb, hml, hown, hts, hK, hA, hN, hcC, hcS, hf, hlc, hscr⟩ := X
  obtain ⟨pc, L, st, M⟩ := S
  have h1 : some ((.lmul : Instr), (1 : Nat), ([] : List Cond)) = some (i, n, cs) := h1
  cases h1
  unfold cm_lmul at h2
  dsimp only at h2
  split at h2
  · exact lv_lmul hx hb hd (h2 ws H locs ls hR)
  · exact h2.elim

noncomputable def cm_ldiv : cm_O := (ev_ldiv.1, fun E P t S k => match S.2.2.1 with
  | .long y :: .long x :: st => ¬ y = 0 ∧ k (cm_adv S 1 (.long (x / y) :: st))
  | _ => False)
theorem cm_ldiv_ok : cm_Snd cm_ldiv := by
  intro p l e R s m args below meth c cc Q D A adr ce sl E P t S i n cs X h1 hd hw h2 ws H locs ls hR
  obtain ⟨hx, hb, hml, hown, hts, hK, hA, hN, hcC, hcS, hf, hlc, hscr⟩ := X
  obtain ⟨pc, L, st, M⟩ := S
  have h1 : some ((.ldiv : Instr), (1 : Nat), ([] : List Cond)) = some (i, n, cs) := h1
  cases h1
  unfold cm_ldiv at h2
  dsimp only at h2
  split at h2
  · exact lv_ldiv hx hb hd h2.1 (h2.2 ws H locs ls hR)
  · exact h2.elim

noncomputable def cm_lrem : cm_O := (ev_lrem.1, fun E P t S k => match S.2.2.1 with
  | .long y :: .long x :: st => ¬ y = 0 ∧ k (cm_adv S 1 (.long (x - x / y * y) :: st))
  | _ => False)
theorem cm_lrem_ok : cm_Snd cm_lrem := by
  intro p l e R s m args below meth c cc Q D A adr ce sl E P t S i n cs X h1 hd hw h2 ws H locs ls hR
  obtain ⟨hx, hb, hml, hown, hts, hK, hA, hN, hcC, hcS, hf, hlc, hscr⟩ := X
  obtain ⟨pc, L, st, M⟩ := S
  have h1 : some ((.lrem : Instr), (1 : Nat), ([] : List Cond)) = some (i, n, cs) := h1
  cases h1
  unfold cm_lrem at h2
  dsimp only at h2
  split at h2
  · exact lv_lrem hx hb hd h2.1 (h2.2 ws H locs ls hR)
  · exact h2.elim

noncomputable def cm_dup : cm_O := (ev_dup.1, fun E P t S k => match S.2.2.1 with
  | x :: st => x.category = 1 ∧ k (cm_adv S 1 (x :: x :: st))
  | _ => False)
theorem cm_dup_ok : cm_Snd cm_dup := by
  intro p l e R s m args below meth c cc Q D A adr ce sl E P t S i n cs X h1 hd hw h2 ws H locs ls hR
  obtain ⟨hx, hb, hml, hown, hts, hK, hA, hN, hcC, hcS, hf, hlc, hscr⟩ := X
  obtain ⟨pc, L, st, M⟩ := S
  have h1 : some ((.dup : Instr), (1 : Nat), ([] : List Cond)) = some (i, n, cs) := h1
  cases h1
  unfold cm_dup at h2
  dsimp only at h2
  split at h2
  · exact lv_dup hx hb hd (by rw [cm_v_cat]; exact h2.1) (h2.2 ws H locs ls hR)
  · exact h2.elim

noncomputable def cm_pop : cm_O := (ev_pop.1, fun E P t S k => match S.2.2.1 with
  | x :: st => x.category = 1 ∧ k (cm_adv S 1 st)
  | _ => False)
theorem cm_pop_ok : cm_Snd cm_pop := by
  intro p l e R s m args below meth c cc Q D A adr ce sl E P t S i n cs X h1 hd hw h2 ws H locs ls hR
  obtain ⟨hx, hb, hml, hown, hts, hK, hA, hN, hcC, hcS, hf, hlc, hscr⟩ := X
  obtain ⟨pc, L, st, M⟩ := S
  have h1 : some ((.pop : Instr), (1 : Nat), ([] : List Cond)) = some (i, n, cs) := h1
  cases h1
  unfold cm_pop at h2
  dsimp only at h2
  split at h2
  · exact lv_pop hx hb hd (by rw [cm_v_cat]; exact h2.1) (h2.2 ws H locs ls hR)
  · exact h2.elim

noncomputable def cm_pop2 : cm_O := ((fun _ _ => some (.pop2, 1, [])), fun E P t S k => match S.2.2.1 with
  | .long x :: st => k (cm_adv S 1 st)
  | _ => False)
theorem cm_pop2_ok : cm_Snd cm_pop2 := by
  intro p l e R s m args below meth c cc Q D A adr ce sl E P t S i n cs X h1 hd hw h2 ws H locs ls hR
  obtain ⟨hx, hb, hml, hown, hts, hK, hA, hN, hcC, hcS, hf, hlc, hscr⟩ := X
  obtain ⟨pc, L, st, M⟩ := S
  have h1 : some ((.pop2 : Instr), (1 : Nat), ([] : List Cond)) = some (i, n, cs) := h1
  cases h1
  unfold cm_pop2 at h2
  dsimp only at h2
  split at h2
  · exact lv_pop2_2 (va := .long _) hx hb hd rfl (h2 ws H locs ls hR)
  · exact h2.elim

noncomputable def cm_dup2 : cm_O := (ev_dup2.1, fun E P t S k => match S.2.2.1 with
  | x :: y :: st => x.category = 1 ∧ y.category = 1 ∧ k (cm_adv S 1 (x :: y :: x :: y :: st))
  | _ => False)
theorem cm_dup2_ok : cm_Snd cm_dup2 := by
  intro p l e R s m args below meth c cc Q D A adr ce sl E P t S i n cs X h1 hd hw h2 ws H locs ls hR
  obtain ⟨hx, hb, hml, hown, hts, hK, hA, hN, hcC, hcS, hf, hlc, hscr⟩ := X
  obtain ⟨pc, L, st, M⟩ := S
  have h1 : some ((.dup2 : Instr), (1 : Nat), ([] : List Cond)) = some (i, n, cs) := h1
  cases h1
  unfold cm_dup2 at h2
  dsimp only at h2
  split at h2
  · exact lv_dup2_11 hx hb hd (by rw [cm_v_cat]; exact h2.1) (by rw [cm_v_cat]; exact h2.2.1) (h2.2.2 ws H locs ls hR)
  · exact h2.elim

noncomputable def cm_iinc : cm_O := (ev_iinc.1, fun E P t S k => match cm_look S.2.1 t.1.toNat with
  | some (.int x) => t.1.toNat < P.2.2.2.2.1 ∧ k (S.1 + 3, cm_st1 S.2.1 t.1.toNat (.int (x + Int32.ofInt t.2.1)), S.2.2)
  | _ => False)
theorem cm_iinc_ok : cm_Snd cm_iinc := by
  intro p l e R s m args below meth c cc Q D A adr ce sl E P t S i n cs X h1 hd hw h2 ws H locs ls hR
  obtain ⟨hx, hb, hml, hown, hts, hK, hA, hN, hcC, hcS, hf, hlc, hscr⟩ := X
  obtain ⟨pc, L, st, M⟩ := S
  have h1 : some ((.iinc t.1.toNat t.2.1 : Instr), (3 : Nat), ([] : List Cond)) = some (i, n, cs) := h1
  cases h1
  unfold cm_iinc at h2
  dsimp only at h2
  split at h2
  · rename_i x ha
    obtain ⟨hP, hD, hS, hW, hL⟩ := hR
    obtain ⟨q, hq⟩ := List.getElem?_of_mem (List.mem_map.mpr ⟨_, cm_look_mem ha, rfl⟩ : (t.1.toNat, cm_v adr (.int x)) ∈ L.map (fun q => (q.1, cm_v adr q.2)))
    exact lv_iinc hx hb hd hL hq rfl h2.1 (cm_st1_eq adr L t.1.toNat (.int (x + Int32.ofInt t.2.1))) (fun ls' hl' => h2.2 ws H locs ls' ⟨hP, hD, hS, hW, hl'⟩)
  · exact h2.elim

noncomputable def cm_icmp_eq : cm_O := (ev_icmp_eq.1, fun E P t S k => match S.2.2.1 with
  | .int y :: .int x :: st => 0 ≤ (S.1 : Int) + t.1 ∧ (ev_cmp 0 x y = true → k (((S.1 : Int) + t.1).toNat, S.2.1, st, S.2.2.2)) ∧ (ev_cmp 0 x y = false → k (S.1 + 3, S.2.1, st, S.2.2.2))
  | _ => False)
theorem cm_icmp_eq_ok : cm_Snd cm_icmp_eq := by
  intro p l e R s m args below meth c cc Q D A adr ce sl E P t S i n cs X h1 hd hw h2 ws H locs ls hR
  obtain ⟨hx, hb, hml, hown, hts, hK, hA, hN, hcC, hcS, hf, hlc, hscr⟩ := X
  obtain ⟨pc, L, st, M⟩ := S
  have h1 : some ((.if_icmp .eq t.1 : Instr), (3 : Nat), ([] : List Cond)) = some (i, n, cs) := h1
  cases h1
  unfold cm_icmp_eq at h2
  dsimp only at h2
  split at h2
  · obtain ⟨h0, k1, k2⟩ := h2
    exact lv_icmp_eq (tgt := ((pc : Int) + t.1).toNat) hx hb hd (by omega) (fun q => k1 (by simpa [ev_cmp] using q) ws H locs ls hR) (fun q => k2 (by simpa [ev_cmp] using q) ws H locs ls hR)
  · exact h2.elim

noncomputable def cm_if_eq : cm_O := (ev_if_eq.1, fun E P t S k => match S.2.2.1 with
  | .int x :: st => 0 ≤ (S.1 : Int) + t.1 ∧ (ev_cmp 0 x 0 = true → k (((S.1 : Int) + t.1).toNat, S.2.1, st, S.2.2.2)) ∧ (ev_cmp 0 x 0 = false → k (S.1 + 3, S.2.1, st, S.2.2.2))
  | _ => False)
theorem cm_if_eq_ok : cm_Snd cm_if_eq := by
  intro p l e R s m args below meth c cc Q D A adr ce sl E P t S i n cs X h1 hd hw h2 ws H locs ls hR
  obtain ⟨hx, hb, hml, hown, hts, hK, hA, hN, hcC, hcS, hf, hlc, hscr⟩ := X
  obtain ⟨pc, L, st, M⟩ := S
  have h1 : some ((.ifCond .eq t.1 : Instr), (3 : Nat), ([] : List Cond)) = some (i, n, cs) := h1
  cases h1
  unfold cm_if_eq at h2
  dsimp only at h2
  split at h2
  · obtain ⟨h0, k1, k2⟩ := h2
    exact lv_if_eq (tgt := ((pc : Int) + t.1).toNat) hx hb hd (by omega) (fun q => k1 (by simpa [ev_cmp] using q) ws H locs ls hR) (fun q => k2 (by simpa [ev_cmp] using q) ws H locs ls hR)
  · exact h2.elim

noncomputable def cm_icmp_ne : cm_O := (ev_icmp_ne.1, fun E P t S k => match S.2.2.1 with
  | .int y :: .int x :: st => 0 ≤ (S.1 : Int) + t.1 ∧ (ev_cmp 1 x y = true → k (((S.1 : Int) + t.1).toNat, S.2.1, st, S.2.2.2)) ∧ (ev_cmp 1 x y = false → k (S.1 + 3, S.2.1, st, S.2.2.2))
  | _ => False)
theorem cm_icmp_ne_ok : cm_Snd cm_icmp_ne := by
  intro p l e R s m args below meth c cc Q D A adr ce sl E P t S i n cs X h1 hd hw h2 ws H locs ls hR
  obtain ⟨hx, hb, hml, hown, hts, hK, hA, hN, hcC, hcS, hf, hlc, hscr⟩ := X
  obtain ⟨pc, L, st, M⟩ := S
  have h1 : some ((.if_icmp .ne t.1 : Instr), (3 : Nat), ([] : List Cond)) = some (i, n, cs) := h1
  cases h1
  unfold cm_icmp_ne at h2
  dsimp only at h2
  split at h2
  · obtain ⟨h0, k1, k2⟩ := h2
    exact lv_icmp_ne (tgt := ((pc : Int) + t.1).toNat) hx hb hd (by omega) (fun q => k1 (by simpa [ev_cmp] using q) ws H locs ls hR) (fun q => k2 (by simpa [ev_cmp] using q) ws H locs ls hR)
  · exact h2.elim

noncomputable def cm_if_ne : cm_O := (ev_if_ne.1, fun E P t S k => match S.2.2.1 with
  | .int x :: st => 0 ≤ (S.1 : Int) + t.1 ∧ (ev_cmp 1 x 0 = true → k (((S.1 : Int) + t.1).toNat, S.2.1, st, S.2.2.2)) ∧ (ev_cmp 1 x 0 = false → k (S.1 + 3, S.2.1, st, S.2.2.2))
  | _ => False)
theorem cm_if_ne_ok : cm_Snd cm_if_ne := by
  intro p l e R s m args below meth c cc Q D A adr ce sl E P t S i n cs X h1 hd hw h2 ws H locs ls hR
  obtain ⟨hx, hb, hml, hown, hts, hK, hA, hN, hcC, hcS, hf, hlc, hscr⟩ := X
  obtain ⟨pc, L, st, M⟩ := S
  have h1 : some ((.ifCond .ne t.1 : Instr), (3 : Nat), ([] : List Cond)) = some (i, n, cs) := h1
  cases h1
  unfold cm_if_ne at h2
  dsimp only at h2
  split at h2
  · obtain ⟨h0, k1, k2⟩ := h2
    exact lv_if_ne (tgt := ((pc : Int) + t.1).toNat) hx hb hd (by omega) (fun q => k1 (by simpa [ev_cmp] using q) ws H locs ls hR) (fun q => k2 (by simpa [ev_cmp] using q) ws H locs ls hR)
  · exact h2.elim

noncomputable def cm_icmp_lt : cm_O := (ev_icmp_lt.1, fun E P t S k => match S.2.2.1 with
  | .int y :: .int x :: st => 0 ≤ (S.1 : Int) + t.1 ∧ (ev_cmp 2 x y = true → k (((S.1 : Int) + t.1).toNat, S.2.1, st, S.2.2.2)) ∧ (ev_cmp 2 x y = false → k (S.1 + 3, S.2.1, st, S.2.2.2))
  | _ => False)
theorem cm_icmp_lt_ok : cm_Snd cm_icmp_lt := by
  intro p l e R s m args below meth c cc Q D A adr ce sl E P t S i n cs X h1 hd hw h2 ws H locs ls hR
  obtain ⟨hx, hb, hml, hown, hts, hK, hA, hN, hcC, hcS, hf, hlc, hscr⟩ := X
  obtain ⟨pc, L, st, M⟩ := S
  have h1 : some ((.if_icmp .lt t.1 : Instr), (3 : Nat), ([] : List Cond)) = some (i, n, cs) := h1
  cases h1
  unfold cm_icmp_lt at h2
  dsimp only at h2
  split at h2
  · obtain ⟨h0, k1, k2⟩ := h2
    exact lv_icmp_lt (tgt := ((pc : Int) + t.1).toNat) hx hb hd (by omega) (fun q => k1 (by simpa [ev_cmp] using q) ws H locs ls hR) (fun q => k2 (by simpa [ev_cmp] using q) ws H locs ls hR)
  · exact h2.elim

noncomputable def cm_if_lt : cm_O := (ev_if_lt.1, fun E P t S k => match S.2.2.1 with
  | .int x :: st => 0 ≤ (S.1 : Int) + t.1 ∧ (ev_cmp 2 x 0 = true → k (((S.1 : Int) + t.1).toNat, S.2.1, st, S.2.2.2)) ∧ (ev_cmp 2 x 0 = false → k (S.1 + 3, S.2.1, st, S.2.2.2))
  | _ => False)
theorem cm_if_lt_ok : cm_Snd cm_if_lt := by
  intro p l e R s m args below meth c cc Q D A adr ce sl E P t S i n cs X h1 hd hw h2 ws H locs ls hR
  obtain ⟨hx, hb, hml, hown, hts, hK, hA, hN, hcC, hcS, hf, hlc, hscr⟩ := X
  obtain ⟨pc, L, st, M⟩ := S
  have h1 : some ((.ifCond .lt t.1 : Instr), (3 : Nat), ([] : List Cond)) = some (i, n, cs) := h1
  cases h1
  unfold cm_if_lt at h2
  dsimp only at h2
  split at h2
  · obtain ⟨h0, k1, k2⟩ := h2
    exact lv_if_lt (tgt := ((pc : Int) + t.1).toNat) hx hb hd (by omega) (fun q => k1 (by simpa [ev_cmp] using q) ws H locs ls hR) (fun q => k2 (by simpa [ev_cmp] using q) ws H locs ls hR)
  · exact h2.elim

noncomputable def cm_icmp_ge : cm_O := (ev_icmp_ge.1, fun E P t S k => match S.2.2.1 with
  | .int y :: .int x :: st => 0 ≤ (S.1 : Int) + t.1 ∧ (ev_cmp 3 x y = true → k (((S.1 : Int) + t.1).toNat, S.2.1, st, S.2.2.2)) ∧ (ev_cmp 3 x y = false → k (S.1 + 3, S.2.1, st, S.2.2.2))
  | _ => False)
theorem cm_icmp_ge_ok : cm_Snd cm_icmp_ge := by
  intro p l e R s m args below meth c cc Q D A adr ce sl E P t S i n cs X h1 hd hw h2 ws H locs ls hR
  obtain ⟨hx, hb, hml, hown, hts, hK, hA, hN, hcC, hcS, hf, hlc, hscr⟩ := X
  obtain ⟨pc, L, st, M⟩ := S
  have h1 : some ((.if_icmp .ge t.1 : Instr), (3 : Nat), ([] : List Cond)) = some (i, n, cs) := h1
  cases h1
  unfold cm_icmp_ge at h2
  dsimp only at h2
  split at h2
  · obtain ⟨h0, k1, k2⟩ := h2
    exact lv_icmp_ge (tgt := ((pc : Int) + t.1).toNat) hx hb hd (by omega) (fun q => k1 (by simpa [ev_cmp] using q) ws H locs ls hR) (fun q => k2 (by simpa [ev_cmp] using q) ws H locs ls hR)
  · exact h2.elim

noncomputable def cm_if_ge : cm_O := (ev_if_ge.1, fun E P t S k => match S.2.2.1 with
  | .int x :: st => 0 ≤ (S.1 : Int) + t.1 ∧ (ev_cmp 3 x 0 = true → k (((S.1 : Int) + t.1).toNat, S.2.1, st, S.2.2.2)) ∧ (ev_cmp 3 x 0 = false → k (S.1 + 3, S.2.1, st, S.2.2.2))
  | _ => False)
theorem cm_if_ge_ok : cm_Snd cm_if_ge := by
  intro p l e R s m args below meth c cc Q D A adr ce sl E P t S i n cs X h1 hd hw h2 ws H locs ls hR
  obtain ⟨hx, hb, hml, hown, hts, hK, hA, hN, hcC, hcS, hf, hlc, hscr⟩ := X
  obtain ⟨pc, L, st, M⟩ := S
  have h1 : some ((.ifCond .ge t.1 : Instr), (3 : Nat), ([] : List Cond)) = some (i, n, cs) := h1
  cases h1
  unfold cm_if_ge at h2
  dsimp only at h2
  split at h2
  · obtain ⟨h0, k1, k2⟩ := h2
    exact lv_if_ge (tgt := ((pc : Int) + t.1).toNat) hx hb hd (by omega) (fun q => k1 (by simpa [ev_cmp] using q) ws H locs ls hR) (fun q => k2 (by simpa [ev_cmp] using q) ws H locs ls hR)
  · exact h2.elim

noncomputable def cm_icmp_gt : cm_O := (ev_icmp_gt.1, fun E P t S k => match S.2.2.1 with
  | .int y :: .int x :: st => 0 ≤ (S.1 : Int) + t.1 ∧ (ev_cmp 4 x y = true → k (((S.1 : Int) + t.1).toNat, S.2.1, st, S.2.2.2)) ∧ (ev_cmp 4 x y = false → k (S.1 + 3, S.2.1, st, S.2.2.2))
  | _ => False)
theorem cm_icmp_gt_ok : cm_Snd cm_icmp_gt := by
  intro p l e R s m args below meth c cc Q D A adr ce sl E P t S i n cs X h1 hd hw h2 ws H locs ls hR
  obtain ⟨hx, hb, hml, hown, hts, hK, hA, hN, hcC, hcS, hf, hlc, hscr⟩ := X
  obtain ⟨pc, L, st, M⟩ := S
  have h1 : some ((.if_icmp .gt t.1 : Instr), (3 : Nat), ([] : List Cond)) = some (i, n, cs) := h1
  cases h1
  unfold cm_icmp_gt at h2
  dsimp only at h2
  split at h2
  · obtain ⟨h0, k1, k2⟩ := h2
    exact lv_icmp_gt (tgt := ((pc : Int) + t.1).toNat) hx hb hd (by omega) (fun q => k1 (by simpa [ev_cmp] using q) ws H locs ls hR) (fun q => k2 (by simpa [ev_cmp] using q) ws H locs ls hR)
  · exact h2.elim

noncomputable def cm_if_gt : cm_O := (ev_if_gt.1, fun E P t S k => match S.2.2.1 with
  | .int x :: st => 0 ≤ (S.1 : Int) + t.1 ∧ (ev_cmp 4 x 0 = true → k (((S.1 : Int) + t.1).toNat, S.2.1, st, S.2.2.2)) ∧ (ev_cmp 4 x 0 = false → k (S.1 + 3, S.2.1, st, S.2.2.2))
  | _ => False)
theorem cm_if_gt_ok : cm_Snd cm_if_gt := by
  intro p l e R s m args below meth c cc Q D A adr ce sl E P t S i n cs X h1 hd hw h2 ws H locs ls hR
  obtain ⟨hx, hb, hml, hown, hts, hK, hA, hN, hcC, hcS, hf, hlc, hscr⟩ := X
  obtain ⟨pc, L, st, M⟩ := S
  have h1 : some ((.ifCond .gt t.1 : Instr), (3 : Nat), ([] : List Cond)) = some (i, n, cs) := h1
  cases h1
  unfold cm_if_gt at h2
  dsimp only at h2
  split at h2
  · obtain ⟨h0, k1, k2⟩ := h2
    exact lv_if_gt (tgt := ((pc : Int) + t.1).toNat) hx hb hd (by omega) (fun q => k1 (by simpa [ev_cmp] using q) ws H locs ls hR) (fun q => k2 (by simpa [ev_cmp] using q) ws H locs ls hR)
  · exact h2.elim

noncomputable def cm_icmp_le : cm_O := (ev_icmp_le.1, fun E P t S k => match S.2.2.1 with
  | .int y :: .int x :: st => 0 ≤ (S.1 : Int) + t.1 ∧ (ev_cmp 5 x y = true → k (((S.1 : Int) + t.1).toNat, S.2.1, st, S.2.2.2)) ∧ (ev_cmp 5 x y = false → k (S.1 + 3, S.2.1, st, S.2.2.2))
  | _ => False)
theorem cm_icmp_le_ok : cm_Snd cm_icmp_le := by
  intro p l e R s m args below meth c cc Q D A adr ce sl E P t S i n cs X h1 hd hw h2 ws H locs ls hR
  obtain ⟨hx, hb, hml, hown, hts, hK, hA, hN, hcC, hcS, hf, hlc, hscr⟩ := X
  obtain ⟨pc, L, st, M⟩ := S
  have h1 : some ((.if_icmp .le t.1 : Instr), (3 : Nat), ([] : List Cond)) = some (i, n, cs) := h1
  cases h1
  unfold cm_icmp_le at h2
  dsimp only at h2
  split at h2
  · obtain ⟨h0, k1, k2⟩ := h2
    exact lv_icmp_le (tgt := ((pc : Int) + t.1).toNat) hx hb hd (by omega) (fun q => k1 (by simpa [ev_cmp] using q) ws H locs ls hR) (fun q => k2 (by simpa [ev_cmp] using q) ws H locs ls hR)
  · exact h2.elim

noncomputable def cm_if_le : cm_O := (ev_if_le.1, fun E P t S k => match S.2.2.1 with
  | .int x :: st => 0 ≤ (S.1 : Int) + t.1 ∧ (ev_cmp 5 x 0 = true → k (((S.1 : Int) + t.1).toNat, S.2.1, st, S.2.2.2)) ∧ (ev_cmp 5 x 0 = false → k (S.1 + 3, S.2.1, st, S.2.2.2))
  | _ => False)
theorem cm_if_le_ok : cm_Snd cm_if_le := by
  intro p l e R s m args below meth c cc Q D A adr ce sl E P t S i n cs X h1 hd hw h2 ws H locs ls hR
  obtain ⟨hx, hb, hml, hown, hts, hK, hA, hN, hcC, hcS, hf, hlc, hscr⟩ := X
  obtain ⟨pc, L, st, M⟩ := S
  have h1 : some ((.ifCond .le t.1 : Instr), (3 : Nat), ([] : List Cond)) = some (i, n, cs) := h1
  cases h1
  unfold cm_if_le at h2
  dsimp only at h2
  split at h2
  · obtain ⟨h0, k1, k2⟩ := h2
    exact lv_if_le (tgt := ((pc : Int) + t.1).toNat) hx hb hd (by omega) (fun q => k1 (by simpa [ev_cmp] using q) ws H locs ls hR) (fun q => k2 (by simpa [ev_cmp] using q) ws H locs ls hR)
  · exact h2.elim

noncomputable def cm_goto : cm_O := (ev_goto.1, fun E P t S k => 0 ≤ (S.1 : Int) + t.1 ∧ k (((S.1 : Int) + t.1).toNat, S.2))
theorem cm_goto_ok : cm_Snd cm_goto := by
  intro p l e R s m args below meth c cc Q D A adr ce sl E P t S i n cs X h1 hd hw h2 ws H locs ls hR
  obtain ⟨hx, hb, hml, hown, hts, hK, hA, hN, hcC, hcS, hf, hlc, hscr⟩ := X
  obtain ⟨pc, L, st, M⟩ := S
  have h1 : some ((.goto t.1 : Instr), (3 : Nat), ([] : List Cond)) = some (i, n, cs) := h1
  cases h1
  unfold cm_goto at h2
  dsimp only at h2
  exact lv_goto (tgt := ((pc : Int) + t.1).toNat) hx hb hd (by omega) (h2.2 ws H locs ls hR)

noncomputable def cm_sw : cm_O := (ev_sw.1, fun E P t S k => match t.2.2.2, S.2.2.1 with
  | _ :: offs, .int x :: st => t.2.2.1 - t.2.1 + 1 = (offs.length : Int) ∧ 0 ≤ (S.1 : Int) + t.1 ∧ offs.all (fun o => decide (0 ≤ (S.1 : Int) + o)) = true ∧ (x.toInt < t.2.1 ∨ t.2.2.1 < x.toInt → k (((S.1 : Int) + t.1).toNat, S.2.1, st, S.2.2.2)) ∧ (∀ (j : Nat) (o : Int), offs[j]? = some o → x.toInt = t.2.1 + (j : Int) → k (((S.1 : Int) + o).toNat, S.2.1, st, S.2.2.2))
  | _, _ => False)
theorem cm_sw_ok : cm_Snd cm_sw := by
  intro p l e R s m args below meth c cc Q D A adr ce sl E P t S i n cs X h1 hd hw h2 ws H locs ls hR
  obtain ⟨hx, hb, hml, hown, hts, hK, hA, hN, hcC, hcS, hf, hlc, hscr⟩ := X
  obtain ⟨pc, L, st, M⟩ := S
  obtain ⟨dflt, lo, hi, offs0⟩ := t
  cases offs0 with
  | nil => cases h1
  | cons len offs =>
    have h1 : some ((.tableswitch dflt lo hi offs.toArray : Instr), len.toNat, ([] : List Cond)) = some (i, n, cs) := h1
    cases h1
    cases st with
    | nil => exact h2.elim
    | cons v st' =>
      cases v with
      | int x =>
        obtain ⟨hlen, hd0, hall, k1, k2⟩ := h2
        dsimp only at hlen hd0 hall k1 k2
        by_cases hq : x.toInt < lo ∨ hi < x.toInt
        · exact lv_tableOut (tgt := ((pc : Int) + dflt).toNat) hx hb hd hq (by omega) (k1 hq ws H locs ls hR)
        · have q1 : ¬ x.toInt < lo := fun z => hq (Or.inl z)
          have q2 : ¬ hi < x.toInt := fun z => hq (Or.inr z)
          have hj : (x.toInt - lo).toNat < offs.length := by omega
          have ho := List.getElem?_eq_getElem hj
          have h0 := List.all_eq_true.mp hall _ (List.getElem_mem hj)
          simp only [decide_eq_true_eq] at h0
          exact lv_tableIn (off := offs[(x.toInt - lo).toNat]) hx hb hd q1 q2 (by rw [List.getElem?_toArray]; exact ho) (tgt := ((pc : Int) + offs[(x.toInt - lo).toNat]).toNat) (by omega) (k2 _ _ ho (by omega) ws H locs ls hR)
      | _ => exact h2.elim
theorem cm_ty_at {ci : Nat} {r : vw_C} (h : vwCl[ci]? = some r) : ∃ ty, ev_tyl[ci]? = some ty := ⟨_, List.getElem?_eq_getElem (show ci < ev_tyl.length from (List.getElem?_eq_some_iff.mp h).1)⟩
theorem cm_obj {s : State} {adr : Nat → Nat} {M : cm_M} {ws : va_W} {k ci N : Nat} (h : cm_w s adr M ws) (hk : cm_kind k = (ci, N)) (hci : ci < 100) : ∃ fs, ws[k]? = some (adr k, .inr (ci, fs)) ∧ fs.length = N ∧ ∀ j, j < N → fs[j]? = some (cm_v adr (cm_rd M (cm_ft ci j) k j)) := by
  obtain ⟨x, h1, h2⟩ := cm_cell h (cm_kind_at hk (by dsimp only; omega))
  cases x with
  | inl a =>
    obtain ⟨t, a1, a2, -⟩ := h2
    dsimp only at a2
    omega
  | inr o =>
    obtain ⟨c1, fs⟩ := o
    obtain ⟨b1, b2, b3, b4⟩ := h2
    dsimp only at b1 b3 b4
    subst b1
    exact ⟨fs, h1, b3, b4⟩
theorem cm_arr {s : State} {adr : Nat → Nat} {M : cm_M} {ws : va_W} {k t N : Nat} (h : cm_w s adr M ws) (hk : cm_kind k = (100 + t, N)) (ht : t < 4) : ∃ cA arr, ws[k]? = some (adr k, .inl (cA, N, arr)) ∧ ArrOfT s cA (ev_ty t) ∧ va_RA s cA (ev_ty t) ∧ cm_ar adr M k t N arr := by
  obtain ⟨x, h1, h2⟩ := cm_cell h (cm_kind_at hk (by dsimp only; omega))
  cases x with
  | inr o =>
    obtain ⟨b1, b2, -⟩ := h2
    dsimp only at b2
    omega
  | inl a =>
    obtain ⟨cA, n, arr⟩ := a
    obtain ⟨tt, a1, a2, a3, a4, a5, a6⟩ := h2
    dsimp only at a2 a3 a4 a5 a6
    have : tt = t := by omega
    subst this
    subst a3
    exact ⟨cA, arr, h1, a4, a5, a6⟩
theorem cm_in {i : Int32} {n : Nat} (h1 : 0 ≤ i.toInt) (h2 : i.toInt < (n : Int)) : vp_in i n ∧ i.toNatClampNeg < n := by
  have hv : vp_in i n := by rw [vp_in_iff]; exact ⟨h1, h2⟩
  refine ⟨hv, ?_⟩
  unfold vp_in at hv
  exact Nat.lt_of_not_le (fun q => hv (Or.inr q))
/-- a value that a field may hold -/
noncomputable def cm_fit (ci j : Nat) (v : Value) : Prop := match v with
  | .int x => cm_ft ci j = 0 ∧ (cm_isB ci j = true → x = 0 ∨ x = 1)
  | .long _ => cm_ft ci j = 2
  | .ref _ => cm_ft ci j = 3
  | .null => cm_ft ci j = 3
  | _ => False
noncomputable def cm_wf (M : cm_M) (c j : Nat) (v : Value) : cm_M := match v with
  | .int x => cm_wi M c j x
  | .long x => cm_wl M c j x
  | .ref q => cm_wr M c j (some q)
  | .null => cm_wr M c j none
  | _ => M
/-- all fields of our classes are ints, truth values, longs or references -/
noncomputable def cm_tyok (ty : FieldType) : Bool := match ty with
  | .int => true
  | .boolean => true
  | .long => true
  | .object _ => true
  | .array _ => true
  | _ => false
theorem cm_tys : ∀ (ci : Nat) (r : vw_C) (ty : Nat → FieldType), vwCl[ci]? = some r → ev_tyl[ci]? = some ty → ∀ k, k < r.2.2 → cm_tyok (ty k) = true
  | 0, r, ty, h1, h2 => by cases h1; cases h2; decide
  | 1, r, ty, h1, h2 => by cases h1; cases h2; decide
  | 2, r, ty, h1, h2 => by cases h1; cases h2; decide
  | 3, r, ty, h1, h2 => by cases h1; cases h2; decide
  | 4, r, ty, h1, h2 => by cases h1; cases h2; decide
  | 5, r, ty, h1, h2 => by cases h1; cases h2; decide
  | 6, r, ty, h1, h2 => by cases h1; cases h2; decide
  | 7, r, ty, h1, h2 => by cases h1; cases h2; decide
  | 8, r, ty, h1, h2 => by cases h1; cases h2; decide
  | 9, r, ty, h1, h2 => by cases h1; cases h2; decide
  | n + 10, r, ty, h1, h2 => by cases h1
theorem cm_fit_ok {ci j : Nat} {ty : Nat → FieldType} (hty : ev_tyl[ci]? = some ty) (hok : cm_tyok (ty j) = true) {v : Value} (h : cm_fit ci j v) (adr : Nat → Nat) : narrow (ty j) (cm_v adr v) = cm_v adr v ∧ fits (ty j) (cm_v adr v) = true := by
  unfold cm_fit at h
  split at h
  · rename_i x
    obtain ⟨h1, h2⟩ := h
    simp only [cm_ft, hty] at h1
    simp only [cm_isB, hty] at h2
    cases hz : ty j <;> rw [hz] at hok h1 h2 <;> simp [cm_tyok] at hok h1 h2
    · exact ⟨rfl, rfl⟩
    · rcases h2 with rfl | rfl
      · exact (by decide : narrow .boolean (.int 0) = .int 0 ∧ fits .boolean (.int 0) = true)
      · exact (by decide : narrow .boolean (.int 1) = .int 1 ∧ fits .boolean (.int 1) = true)
  · simp only [cm_ft, hty] at h
    cases hz : ty j <;> rw [hz] at hok h <;> simp [cm_tyok] at hok h
    exact ⟨rfl, rfl⟩
  · simp only [cm_ft, hty] at h
    cases hz : ty j <;> rw [hz] at hok h <;> simp [cm_tyok] at hok h
    · exact ⟨rfl, rfl⟩
    · exact ⟨rfl, rfl⟩
  · simp only [cm_ft, hty] at h
    cases hz : ty j <;> rw [hz] at hok h <;> simp [cm_tyok] at hok h
    · exact ⟨rfl, rfl⟩
    · exact ⟨rfl, rfl⟩
  · exact h.elim
theorem cm_wf_rd {ci c j : Nat} {M : cm_M} {v : Value} (h : cm_fit ci j v) (j' : Nat) : cm_rd (cm_wf M c j v) (cm_ft ci j') c j' = if j' = j then v else cm_rd M (cm_ft ci j') c j' := by
  by_cases hj : j' = j
  · subst hj
    rw [if_pos rfl]
    unfold cm_fit at h
    split at h
    · rw [h.1]; simp [cm_rd, cm_wf, cm_wi]
    · rw [h]; simp [cm_rd, cm_wf, cm_wl]
    · rw [h]; simp [cm_rd, cm_wf, cm_wr, cm_rq]
    · rw [h]; simp [cm_rd, cm_wf, cm_wr, cm_rq]
    · exact h.elim
  · rw [if_neg hj]
    unfold cm_wf
    split <;> (unfold cm_rd; split <;> simp [cm_wi, cm_wl, cm_wr, hj])
theorem cm_wf_ne {s : State} {adr : Nat → Nat} {M : cm_M} {c j : Nat} {v : Value} : ∀ k q y, k ≠ c → cm_c s adr M k q y → cm_c s adr (cm_wf M c j v) k q y := by
  intro k q y hk h
  refine cm_c_ne (fun i => ?_) (fun i => ?_) (fun i => ?_) h <;> (unfold cm_wf; split <;> simp [cm_wi, cm_wl, cm_wr, hk])
theorem cm_nfs : ∀ q ∈ cm_lay, q.1 < 10 → (vwCl[q.1]?).map (fun r => r.2.2) = some q.2 := by decide +kernel
theorem cm_nf {c ci j : Nat} {r : vw_C} (hr : vwCl[ci]? = some r) (h1 : (cm_kind c).1 = ci) (h2 : j < (cm_kind c).2) : j < r.2.2 := by
  have hci : ci < 10 := (List.getElem?_eq_some_iff.mp hr).1
  have h3 := cm_nfs _ (List.mem_of_getElem? (cm_kind_at (c := c) rfl (by omega))) (by omega)
  rw [h1, hr] at h3
  have h4 : r.2.2 = (cm_kind c).2 := Option.some.inj h3
  omega
noncomputable def cm_get : cm_O := (ev_get.1, fun E P t S k => match S.2.2.1 with
  | .ref c :: st => (cm_kind c).1 = t.1.toNat ∧ t.2.1.toNat < (cm_kind c).2 ∧ k (cm_adv S 3 (cm_rd S.2.2.2 (cm_ft t.1.toNat t.2.1.toNat) c t.2.1.toNat :: st))
  | _ => False)
theorem cm_get_ok : cm_Snd cm_get := by
  intro p l e R s m args below meth c cc Q D A adr ce sl E P t S i n cs X h1 hd hw h2 ws H locs ls hR
  obtain ⟨hx, hb, hml, hown, hts, hK, hA, hN, hcC, hcS, hf, hlc, hscr⟩ := X
  obtain ⟨pc, L, st, M⟩ := S
  obtain ⟨t1, t2, t3, t4⟩ := t
  unfold cm_get ev_get at h1
  unfold cm_get at h2
  dsimp only at h1 h2
  cases hr : vwCl[t1.toNat]? with
  | none => simp [hr] at h1
  | some r =>
    rw [hr] at h1
    dsimp only at h1
    cases h1
    obtain ⟨hP, hD, hS, hW, hL⟩ := id hR
    have hci : t1.toNat < 10 := (List.getElem?_eq_some_iff.mp hr).1
    obtain ⟨ty, hty⟩ := cm_ty_at hr
    obtain ⟨k1, k2, k3, -⟩ := ev_cls _ r ty hr hty
    split at h2
    rotate_left
    · exact h2.elim
    rename_i c st'
    obtain ⟨hc1, hc2, hk⟩ := h2
    obtain ⟨fs, e1, e2, e3⟩ := cm_obj hW (show cm_kind c = (t1.toNat, (cm_kind c).2) from by rw [← hc1]) (by omega)
    exact va_get hx hb hts k1 hown hK hP _ e1 hr t2.toNat (cm_nf hr hc1 hc2) (hts _ (hw _ (List.mem_singleton.mpr rfl))) (fun _ h => h) (e3 _ hc2) hd (hk ws H locs ls hR)

noncomputable def cm_fin (ci j : Nat) : Bool := match vwCl[ci]? with
  | some r => (r.2.1 j).2.2.2
  | none => true
noncomputable def cm_put : cm_O := (ev_put.1, fun E P t S k => match S.2.2.1 with
  | v :: .ref c :: st => (cm_kind c).1 = t.1.toNat ∧ t.2.1.toNat < (cm_kind c).2 ∧ cm_fin t.1.toNat t.2.1.toNat = false ∧ cm_fit t.1.toNat t.2.1.toNat v ∧ k (S.1 + 3, S.2.1, st, cm_wf S.2.2.2 c t.2.1.toNat v)
  | _ => False)
theorem cm_put_ok : cm_Snd cm_put := by
  intro p l e R s m args below meth c cc Q D A adr ce sl E P t S i n cs X h1 hd hw h2 ws H locs ls hR
  obtain ⟨hx, hb, hml, hown, hts, hK, hA, hN, hcC, hcS, hf, hlc, hscr⟩ := X
  obtain ⟨pc, L, st, M⟩ := S
  obtain ⟨t1, t2, t3, t4⟩ := t
  unfold cm_put ev_put at h1
  unfold cm_put at h2
  dsimp only at h1 h2
  cases hr : vwCl[t1.toNat]? with
  | none => simp [hr] at h1
  | some r =>
    rw [hr] at h1
    dsimp only at h1
    cases h1
    obtain ⟨hP, hD, hS, hW, hL⟩ := id hR
    have hci : t1.toNat < 10 := (List.getElem?_eq_some_iff.mp hr).1
    obtain ⟨ty, hty⟩ := cm_ty_at hr
    obtain ⟨k1, k2, k3, -⟩ := ev_cls _ r ty hr hty
    split at h2
    rotate_left
    · exact h2.elim
    rename_i v c st'
    obtain ⟨hc1, hc2, hfin, hft, hk⟩ := h2
    obtain ⟨fs, e1, e2, e3⟩ := cm_obj hW (show cm_kind c = (t1.toNat, (cm_kind c).2) from by rw [← hc1]) (by omega)
    have hn := cm_nf hr hc1 hc2
    obtain ⟨hn1, hn2⟩ := cm_fit_ok hty (cm_tys _ r ty hr hty _ hn) hft adr
    simp only [cm_fin, hr] at hfin
    refine va_put hx hb hts k1 ty k2 k3 hown hK hP hD hS _ e1 hr t2.toNat hn (hts _ (hw _ (List.mem_singleton.mpr rfl))) (fun _ h => h) hfin (k2 _ hn) hn1 hn2 (by rw [e2]; exact hc2) hd (fun H1 locs1 hP1 hD1 hS1 => hk _ H1 locs1 ls ⟨hP1, hD1, hS1, cm_w_set hW (cm_kind_at (q := (t1.toNat, (cm_kind c).2)) (by rw [← hc1]) (by dsimp only; omega)) ⟨rfl, by dsimp only; omega, by dsimp only; rw [List.length_set]; exact e2, fun j hj => ?_⟩ cm_wf_ne, hL⟩)
    dsimp only at hj ⊢
    rw [cm_wf_rd hft]
    by_cases hjk : j = t2.toNat
    · subst hjk
      rw [if_pos rfl]
      exact List.getElem?_set_self (by rw [e2]; exact hj)
    · rw [if_neg hjk, List.getElem?_set_ne (Ne.symm hjk)]
      exact e3 j hj

noncomputable def cm_iaload : cm_O := (ev_iaload.1, fun E P t S k => match S.2.2.1 with
  | .int i :: .ref c :: st => (cm_kind c).1 = 100 + 0 ∧ 0 ≤ i.toInt ∧ i.toInt < ((cm_kind c).2 : Int) ∧ k (cm_adv S 1 (.int (S.2.2.2.1 c i.toNatClampNeg) :: st))
  | _ => False)
theorem cm_iaload_ok : cm_Snd cm_iaload := by
  intro p l e R s m args below meth c cc Q D A adr ce sl E P t S i n cs X h1 hd hw h2 ws H locs ls hR
  obtain ⟨hx, hb, hml, hown, hts, hK, hA, hN, hcC, hcS, hf, hlc, hscr⟩ := X
  obtain ⟨pc, L, st, M⟩ := S
  have h1 : some ((.iaload : Instr), (1 : Nat), ([] : List Cond)) = some (i, n, cs) := h1
  cases h1
  unfold cm_iaload at h2
  dsimp only at h2
  split at h2
  rotate_left
  · exact h2.elim
  rename_i i c st'
  obtain ⟨hc1, hi1, hi2, hk⟩ := h2
  obtain ⟨hP, hD, hS, hW, hL⟩ := id hR
  obtain ⟨cA, arr, e1, e2, e3, e4⟩ := cm_arr (t := 0) hW (show cm_kind c = (100 + 0, (cm_kind c).2) from by rw [← hc1]) (by decide)
  obtain ⟨hv, hj⟩ := cm_in hi1 hi2
  rcases arr with f | f | f | f | f
  · refine va_iald hx hb (ev_K1 hK e2 e3) hP _ 0 e1 rfl hv hd ?_
    rw [e4.2 _ hj]
    exact hk ws H locs ls hR
  · first | exact e4.elim | (have := e4.1; omega)
  · first | exact e4.elim | (have := e4.1; omega)
  · first | exact e4.elim | (have := e4.1; omega)
  · first | exact e4.elim | (have := e4.1; omega)

noncomputable def cm_baload : cm_O := (ev_baload.1, fun E P t S k => match S.2.2.1 with
  | .int i :: .ref c :: st => (cm_kind c).1 = 100 + 1 ∧ 0 ≤ i.toInt ∧ i.toInt < ((cm_kind c).2 : Int) ∧ k (cm_adv S 1 (.int (S.2.2.2.1 c i.toNatClampNeg) :: st))
  | _ => False)
theorem cm_baload_ok : cm_Snd cm_baload := by
  intro p l e R s m args below meth c cc Q D A adr ce sl E P t S i n cs X h1 hd hw h2 ws H locs ls hR
  obtain ⟨hx, hb, hml, hown, hts, hK, hA, hN, hcC, hcS, hf, hlc, hscr⟩ := X
  obtain ⟨pc, L, st, M⟩ := S
  have h1 : some ((.baload : Instr), (1 : Nat), ([] : List Cond)) = some (i, n, cs) := h1
  cases h1
  unfold cm_baload at h2
  dsimp only at h2
  split at h2
  rotate_left
  · exact h2.elim
  rename_i i c st'
  obtain ⟨hc1, hi1, hi2, hk⟩ := h2
  obtain ⟨hP, hD, hS, hW, hL⟩ := id hR
  obtain ⟨cA, arr, e1, e2, e3, e4⟩ := cm_arr (t := 1) hW (show cm_kind c = (100 + 1, (cm_kind c).2) from by rw [← hc1]) (by decide)
  obtain ⟨hv, hj⟩ := cm_in hi1 hi2
  rcases arr with f | f | f | f | f
  · refine va_bald hx hb (ev_K1 hK e2 e3) hP _ 0 e1 rfl hv hd ?_
    rw [e4.2 _ hj]
    exact hk ws H locs ls hR
  · first | exact e4.elim | (have := e4.1; omega)
  · first | exact e4.elim | (have := e4.1; omega)
  · first | exact e4.elim | (have := e4.1; omega)
  · first | exact e4.elim | (have := e4.1; omega)

noncomputable def cm_laload : cm_O := (ev_laload.1, fun E P t S k => match S.2.2.1 with
  | .int i :: .ref c :: st => (cm_kind c).1 = 100 + 2 ∧ 0 ≤ i.toInt ∧ i.toInt < ((cm_kind c).2 : Int) ∧ k (cm_adv S 1 (.long (S.2.2.2.2.1 c i.toNatClampNeg) :: st))
  | _ => False)
theorem cm_laload_ok : cm_Snd cm_laload := by
  intro p l e R s m args below meth c cc Q D A adr ce sl E P t S i n cs X h1 hd hw h2 ws H locs ls hR
  obtain ⟨hx, hb, hml, hown, hts, hK, hA, hN, hcC, hcS, hf, hlc, hscr⟩ := X
  obtain ⟨pc, L, st, M⟩ := S
  have h1 : some ((.laload : Instr), (1 : Nat), ([] : List Cond)) = some (i, n, cs) := h1
  cases h1
  unfold cm_laload at h2
  dsimp only at h2
  split at h2
  rotate_left
  · exact h2.elim
  rename_i i c st'
  obtain ⟨hc1, hi1, hi2, hk⟩ := h2
  obtain ⟨hP, hD, hS, hW, hL⟩ := id hR
  obtain ⟨cA, arr, e1, e2, e3, e4⟩ := cm_arr (t := 2) hW (show cm_kind c = (100 + 2, (cm_kind c).2) from by rw [← hc1]) (by decide)
  obtain ⟨hv, hj⟩ := cm_in hi1 hi2
  rcases arr with f | f | f | f | f
  · first | exact e4.elim | (have := e4.1; omega)
  · refine va_lald hx hb (ev_K1 hK e2 e3) hP _ 0 e1 rfl hv hd ?_
    rw [e4.2 _ hj]
    exact hk ws H locs ls hR
  · first | exact e4.elim | (have := e4.1; omega)
  · first | exact e4.elim | (have := e4.1; omega)
  · first | exact e4.elim | (have := e4.1; omega)

noncomputable def cm_aaload : cm_O := (ev_aaload.1, fun E P t S k => match S.2.2.1 with
  | .int i :: .ref c :: st => (cm_kind c).1 = 100 + 3 ∧ 0 ≤ i.toInt ∧ i.toInt < ((cm_kind c).2 : Int) ∧ k (cm_adv S 1 (cm_rq (S.2.2.2.2.2 c i.toNatClampNeg) :: st))
  | _ => False)
theorem cm_aaload_ok : cm_Snd cm_aaload := by
  intro p l e R s m args below meth c cc Q D A adr ce sl E P t S i n cs X h1 hd hw h2 ws H locs ls hR
  obtain ⟨hx, hb, hml, hown, hts, hK, hA, hN, hcC, hcS, hf, hlc, hscr⟩ := X
  obtain ⟨pc, L, st, M⟩ := S
  have h1 : some ((.aaload : Instr), (1 : Nat), ([] : List Cond)) = some (i, n, cs) := h1
  cases h1
  unfold cm_aaload at h2
  dsimp only at h2
  split at h2
  rotate_left
  · exact h2.elim
  rename_i i c st'
  obtain ⟨hc1, hi1, hi2, hk⟩ := h2
  obtain ⟨hP, hD, hS, hW, hL⟩ := id hR
  obtain ⟨cA, arr, e1, e2, e3, e4⟩ := cm_arr (t := 3) hW (show cm_kind c = (100 + 3, (cm_kind c).2) from by rw [← hc1]) (by decide)
  obtain ⟨hv, hj⟩ := cm_in hi1 hi2
  rcases arr with f | f | f | f | f
  · first | exact e4.elim | (have := e4.1; omega)
  · first | exact e4.elim | (have := e4.1; omega)
  · first | exact e4.elim | (have := e4.1; omega)
  · first | exact e4.elim | (have := e4.1; omega)
  · refine va_aldq hx hb (ev_K1 hK e2 e3) hP _ 0 e1 rfl hv hd ?_
    rw [e4.2 _ hj]
    have := hk ws H locs ls hR
    cases hz : M.2.2 c i.toNatClampNeg with
    | none => rw [hz] at this; exact this
    | some q => rw [hz] at this; exact this

theorem cm_wi_ne {s : State} {adr : Nat → Nat} {M : cm_M} {c j : Nat} {x : Int32} : ∀ k q y, k ≠ c → cm_c s adr M k q y → cm_c s adr (cm_wi M c j x) k q y := fun k q y hk h => cm_c_ne (M := M) (fun i => by simp [cm_wi, hk]) (fun i => rfl) (fun i => rfl) h
theorem cm_wl_ne {s : State} {adr : Nat → Nat} {M : cm_M} {c j : Nat} {x : Int64} : ∀ k q y, k ≠ c → cm_c s adr M k q y → cm_c s adr (cm_wl M c j x) k q y := fun k q y hk h => cm_c_ne (M := M) (fun i => rfl) (fun i => by simp [cm_wl, hk]) (fun i => rfl) h
theorem cm_cp_ne {s : State} {adr : Nat → Nat} {M : cm_M} {a sp d dp n : Nat} : ∀ k q y, k ≠ d → cm_c s adr M k q y → cm_c s adr (cm_cp M a sp d dp n) k q y := fun k q y hk h => cm_c_ne (M := M) (fun i => by simp [cm_cp, hk]) (fun i => rfl) (fun i => rfl) h
noncomputable def cm_iastore : cm_O := (ev_iastore.1, fun E P t S k => match S.2.2.1 with
  | .int x :: .int i :: .ref c :: st => (cm_kind c).1 = 100 + 0 ∧ 0 ≤ i.toInt ∧ i.toInt < ((cm_kind c).2 : Int) ∧ k (S.1 + 1, S.2.1, st, cm_wi S.2.2.2 c i.toNatClampNeg x)
  | _ => False)
theorem cm_iastore_ok : cm_Snd cm_iastore := by
  intro p l e R s m args below meth c cc Q D A adr ce sl E P t S i n cs X h1 hd hw h2 ws H locs ls hR
  obtain ⟨hx, hb, hml, hown, hts, hK, hA, hN, hcC, hcS, hf, hlc, hscr⟩ := X
  obtain ⟨pc, L, st, M⟩ := S
  have h1 : some ((.iastore : Instr), (1 : Nat), ([] : List Cond)) = some (i, n, cs) := h1
  cases h1
  unfold cm_iastore at h2
  dsimp only at h2
  split at h2
  rotate_left
  · exact h2.elim
  rename_i x i c st'
  obtain ⟨hc1, hi1, hi2, hk⟩ := h2
  obtain ⟨hP, hD, hS, hW, hL⟩ := id hR
  obtain ⟨cA, arr, e1, e2, e3, e4⟩ := cm_arr (t := 0) hW (show cm_kind c = (100 + 0, (cm_kind c).2) from by rw [← hc1]) (by decide)
  obtain ⟨hv, hj⟩ := cm_in hi1 hi2
  rcases arr with f | f | f | f | f
  · refine va_iast hx hb (ev_K1 hK e2 e3) hP hD hS _ 0 e1 rfl hv hd (fun H1 locs1 hP1 hD1 hS1 => hk _ H1 locs1 ls ⟨hP1, hD1, hS1, cm_w_set hW (cm_kind_at (q := (100 + 0, (cm_kind c).2)) (by rw [← hc1]) (by dsimp only; omega)) ⟨0, by decide, rfl, rfl, e2, e3, by decide, fun j hj => ?_⟩ cm_wi_ne, hL⟩)
    dsimp only [upd, cm_wi, cm_wl]
    by_cases hji : j = i.toNatClampNeg
    · simp [hji]
    · simp only [hji, and_false, if_false]
      exact e4.2 j hj
  · first | exact e4.elim | (have := e4.1; omega)
  · first | exact e4.elim | (have := e4.1; omega)
  · first | exact e4.elim | (have := e4.1; omega)
  · first | exact e4.elim | (have := e4.1; omega)

noncomputable def cm_bastore : cm_O := (ev_bastore.1, fun E P t S k => match S.2.2.1 with
  | .int x :: .int i :: .ref c :: st => (cm_kind c).1 = 100 + 1 ∧ 0 ≤ i.toInt ∧ i.toInt < ((cm_kind c).2 : Int) ∧ k (S.1 + 1, S.2.1, st, cm_wi S.2.2.2 c i.toNatClampNeg (vp_nar .byte x))
  | _ => False)
theorem cm_bastore_ok : cm_Snd cm_bastore := by
  intro p l e R s m args below meth c cc Q D A adr ce sl E P t S i n cs X h1 hd hw h2 ws H locs ls hR
  obtain ⟨hx, hb, hml, hown, hts, hK, hA, hN, hcC, hcS, hf, hlc, hscr⟩ := X
  obtain ⟨pc, L, st, M⟩ := S
  have h1 : some ((.bastore : Instr), (1 : Nat), ([] : List Cond)) = some (i, n, cs) := h1
  cases h1
  unfold cm_bastore at h2
  dsimp only at h2
  split at h2
  rotate_left
  · exact h2.elim
  rename_i x i c st'
  obtain ⟨hc1, hi1, hi2, hk⟩ := h2
  obtain ⟨hP, hD, hS, hW, hL⟩ := id hR
  obtain ⟨cA, arr, e1, e2, e3, e4⟩ := cm_arr (t := 1) hW (show cm_kind c = (100 + 1, (cm_kind c).2) from by rw [← hc1]) (by decide)
  obtain ⟨hv, hj⟩ := cm_in hi1 hi2
  rcases arr with f | f | f | f | f
  · refine va_bast hx hb (ev_K1 hK e2 e3) hP hD hS _ 0 e1 rfl hv hd (fun H1 locs1 hP1 hD1 hS1 => hk _ H1 locs1 ls ⟨hP1, hD1, hS1, cm_w_set hW (cm_kind_at (q := (100 + 1, (cm_kind c).2)) (by rw [← hc1]) (by dsimp only; omega)) ⟨1, by decide, rfl, rfl, e2, e3, by decide, fun j hj => ?_⟩ cm_wi_ne, hL⟩)
    dsimp only [upd, cm_wi, cm_wl]
    by_cases hji : j = i.toNatClampNeg
    · simp [hji]
    · simp only [hji, and_false, if_false]
      exact e4.2 j hj
  · first | exact e4.elim | (have := e4.1; omega)
  · first | exact e4.elim | (have := e4.1; omega)
  · first | exact e4.elim | (have := e4.1; omega)
  · first | exact e4.elim | (have := e4.1; omega)

noncomputable def cm_lastore : cm_O := ((fun _ _ => some (.lastore, 1, [])), fun E P t S k => match S.2.2.1 with
  | .long x :: .int i :: .ref c :: st => (cm_kind c).1 = 100 + 2 ∧ 0 ≤ i.toInt ∧ i.toInt < ((cm_kind c).2 : Int) ∧ k (S.1 + 1, S.2.1, st, cm_wl S.2.2.2 c i.toNatClampNeg x)
  | _ => False)
theorem cm_lastore_ok : cm_Snd cm_lastore := by
  intro p l e R s m args below meth c cc Q D A adr ce sl E P t S i n cs X h1 hd hw h2 ws H locs ls hR
  obtain ⟨hx, hb, hml, hown, hts, hK, hA, hN, hcC, hcS, hf, hlc, hscr⟩ := X
  obtain ⟨pc, L, st, M⟩ := S
  have h1 : some ((.lastore : Instr), (1 : Nat), ([] : List Cond)) = some (i, n, cs) := h1
  cases h1
  unfold cm_lastore at h2
  dsimp only at h2
  split at h2
  rotate_left
  · exact h2.elim
  rename_i x i c st'
  obtain ⟨hc1, hi1, hi2, hk⟩ := h2
  obtain ⟨hP, hD, hS, hW, hL⟩ := id hR
  obtain ⟨cA, arr, e1, e2, e3, e4⟩ := cm_arr (t := 2) hW (show cm_kind c = (100 + 2, (cm_kind c).2) from by rw [← hc1]) (by decide)
  obtain ⟨hv, hj⟩ := cm_in hi1 hi2
  rcases arr with f | f | f | f | f
  · first | exact e4.elim | (have := e4.1; omega)
  · refine va_last hx hb (ev_K1 hK e2 e3) hP hD hS _ 0 e1 rfl hv hd (fun H1 locs1 hP1 hD1 hS1 => hk _ H1 locs1 ls ⟨hP1, hD1, hS1, cm_w_set hW (cm_kind_at (q := (100 + 2, (cm_kind c).2)) (by rw [← hc1]) (by dsimp only; omega)) ⟨2, by decide, rfl, rfl, e2, e3, by decide, fun j hj => ?_⟩ cm_wl_ne, hL⟩)
    dsimp only [vp_updL, cm_wi, cm_wl]
    by_cases hji : j = i.toNatClampNeg
    · simp [hji]
    · simp only [hji, and_false, if_false]
      exact e4.2 j hj
  · first | exact e4.elim | (have := e4.1; omega)
  · first | exact e4.elim | (have := e4.1; omega)
  · first | exact e4.elim | (have := e4.1; omega)

noncomputable def cm_alen : cm_O := (ev_alen.1, fun E P t S k => match S.2.2.1 with
  | .ref c :: st => if c = 1000 then (match E with
    | some q => k (cm_adv S 1 (.int (Int32.ofNat q.1) :: st))
    | none => False) else (100 ≤ (cm_kind c).1 ∧ (cm_kind c).1 < 104 ∧ k (cm_adv S 1 (.int (Int32.ofNat (cm_kind c).2) :: st)))
  | _ => False)
theorem cm_alen_ok : cm_Snd cm_alen := by
  intro p l e R s m args below meth c cc Q D A adr ce sl E P t S i n cs X h1 hd hw h2 ws H locs ls hR
  obtain ⟨hx, hb, hml, hown, hts, hK, hA, hN, hcC, hcS, hf, hlc, hscr⟩ := X
  obtain ⟨pc, L, st, M⟩ := S
  have h1 : some ((.arraylength : Instr), (1 : Nat), ([] : List Cond)) = some (i, n, cs) := h1
  cases h1
  unfold cm_alen at h2
  dsimp only at h2
  split at h2
  rotate_left
  · exact h2.elim
  rename_i c st'
  split at h2
  · rename_i hc
    subst hc
    split at h2
    · rename_i q
      exact va_slen hx hb hscr.1 hscr.2.1 hscr.2.2 hR.2.2.1 hd (h2 ws H locs ls hR)
    · exact h2.elim
  · obtain ⟨hc1, hc2, hk⟩ := h2
    obtain ⟨hP, hD, hS, hW, hL⟩ := id hR
    obtain ⟨cA, arr, e1, e2, e3, e4⟩ := cm_arr (t := (cm_kind c).1 - 100) hW (show cm_kind c = (100 + ((cm_kind c).1 - 100), (cm_kind c).2) from Prod.ext (by dsimp only; omega) rfl) (by omega)
    exact va_alen hx hb (ev_K1 hK e2 e3) hP _ 0 e1 rfl rfl hd (hk ws H locs ls hR)

noncomputable def cm_sald : cm_O := (ev_sald.1, fun E P t S k => match E, S.2.2.1 with
  | some q, .int i :: .ref c :: st => c = 1000 ∧ 0 ≤ i.toInt ∧ i.toInt < (q.1 : Int) ∧ k (cm_adv S 1 (.int (q.2 i.toNatClampNeg) :: st))
  | _, _ => False)
theorem cm_sald_ok : cm_Snd cm_sald := by
  intro p l e R s m args below meth c cc Q D A adr ce sl E P t S i n cs X h1 hd hw h2 ws H locs ls hR
  obtain ⟨hx, hb, hml, hown, hts, hK, hA, hN, hcC, hcS, hf, hlc, hscr⟩ := X
  obtain ⟨pc, L, st, M⟩ := S
  have h1 : some ((.iaload : Instr), (1 : Nat), ([] : List Cond)) = some (i, n, cs) := h1
  cases h1
  unfold cm_sald at h2
  dsimp only at h2
  split at h2
  rotate_left
  · exact h2.elim
  rename_i q i c st'
  obtain ⟨rfl, hi1, hi2, hk⟩ := h2
  exact va_sld hx hb hscr.1 hscr.2.1 hscr.2.2 hR.2.2.1 (cm_in hi1 hi2).1 hd (hk ws H locs ls hR)
noncomputable def cm_ldc : cm_O := (ev_ldc.1, fun E P t S k => k (cm_adv S 2 (.int (Int32.ofInt t.1) :: S.2.2.1)))
theorem cm_ldc_ok : cm_Snd cm_ldc := by
  intro p l e R s m args below meth c cc Q D A adr ce sl E P t S i n cs X h1 hd hw h2 ws H locs ls hR
  obtain ⟨hx, hb, hml, hown, hts, hK, hA, hN, hcC, hcS, hf, hlc, hscr⟩ := X
  obtain ⟨pc, L, st, M⟩ := S
  have h1 : some ((.ldc t.2.1.toNat : Instr), (2 : Nat), ([.constant P.2.2.2.1 t.2.1.toNat (Int32.ofInt t.1)] : List Cond)) = some (i, n, cs) := h1
  cases h1
  exact W.ldc hx hb hown (hts _ (hw _ (List.mem_singleton.mpr rfl))) (g := F0 m pc ls (st.map (cm_v adr))) rfl hd (h2 ws H locs ls hR)

noncomputable def cm_ldcw : cm_O := (ev_ldcw.1, fun E P t S k => k (cm_adv S 3 (.int (Int32.ofInt t.1) :: S.2.2.1)))
theorem cm_ldcw_ok : cm_Snd cm_ldcw := by
  intro p l e R s m args below meth c cc Q D A adr ce sl E P t S i n cs X h1 hd hw h2 ws H locs ls hR
  obtain ⟨hx, hb, hml, hown, hts, hK, hA, hN, hcC, hcS, hf, hlc, hscr⟩ := X
  obtain ⟨pc, L, st, M⟩ := S
  have h1 : some ((.ldc_w t.2.1.toNat : Instr), (3 : Nat), ([.constant P.2.2.2.1 t.2.1.toNat (Int32.ofInt t.1)] : List Cond)) = some (i, n, cs) := h1
  cases h1
  exact lv_ldcw hx hb hown (hts _ (hw _ (List.mem_singleton.mpr rfl))) hd (h2 ws H locs ls hR)

noncomputable def cm_ldc2 : cm_O := (ev_ldc2.1, fun E P t S k => k (cm_adv S 3 (.long (Int64.ofInt t.1) :: S.2.2.1)))
theorem cm_ldc2_ok : cm_Snd cm_ldc2 := by
  intro p l e R s m args below meth c cc Q D A adr ce sl E P t S i n cs X h1 hd hw h2 ws H locs ls hR
  obtain ⟨hx, hb, hml, hown, hts, hK, hA, hN, hcC, hcS, hf, hlc, hscr⟩ := X
  obtain ⟨pc, L, st, M⟩ := S
  have h1 : some ((.ldc2_w t.2.1.toNat : Instr), (3 : Nat), ([.constantLong P.2.2.2.1 t.2.1.toNat (Int64.ofInt t.1)] : List Cond)) = some (i, n, cs) := h1
  cases h1
  exact W.ldc2 hx hb hown (hts _ (hw _ (List.mem_singleton.mpr rfl))) (g := F0 m pc ls (st.map (cm_v adr))) rfl hd (h2 ws H locs ls hR)

noncomputable def cm_ldcS : cm_O := (ev_ldcS.1, fun E P t S k => k (cm_adv S 2 (.ref (1001 + 2 * t.1.toNat) :: S.2.2.1)))
theorem cm_ldcS_ok : cm_Snd cm_ldcS := by
  intro p l e R s m args below meth c cc Q D A adr ce sl E P t S i n cs X h1 hd hw h2 ws H locs ls hR
  obtain ⟨hx, hb, hml, hown, hts, hK, hA, hN, hcC, hcS, hf, hlc, hscr⟩ := X
  obtain ⟨pc, L, st, M⟩ := S
  unfold cm_ldcS ev_ldcS at h1
  dsimp only at h1
  split at h1
  · rename_i r hr
    split at h1
    · rename_i ho
      cases h1
      have hz := hN.1.2.1 _ r hr
      rw [ho] at hz
      have e : 1000 + (1 + 2 * t.1.toNat) = 1001 + 2 * t.1.toNat := by omega
      dsimp only at hz
      rw [e] at hz
      exact va_ldcS hx hb hown hz hd (h2 ws H locs ls hR)
    · cases h1
  · cases h1

theorem cm_str {adr : Nat → Nat} {A : Nat → Prop} {s : State} {c : Nat} (hN : cm_N adr A s s.heap) (h1 : 1001 ≤ c) (h2 : c < 1081) : ∃ r, ev_strs[(c - 1001) / 2]? = some r ∧ (c % 2 = 1 → va_OF "java/lang/String" "coder" "B" (.int 0) (adr c) A s s.heap ∧ va_OF "java/lang/String" "value" "[B" (.ref (adr (c + 1))) (adr c) A s s.heap ∧ va_O "java/lang/String" (adr c) A s s.heap) ∧ (c % 2 = 0 → va_T .byte (adr c) r.2.2.2.length (fun j => .int (r.2.2.2.getD j 0)) A s s.heap) := by
  have hl : (c - 1001) / 2 < ev_strs.length := by
    have : ev_strs.length = 40 := rfl
    omega
  refine ⟨_, List.getElem?_eq_getElem hl, fun h => ?_, fun h => ?_⟩
  · obtain ⟨a1, a2, a3, a4⟩ := hN.1.2.2.1 _ _ (List.getElem?_eq_getElem hl)
    dsimp only at a1 a2 a3
    rw [show 1000 + (1 + 2 * ((c - 1001) / 2)) = c by omega] at a1 a2 a3
    rw [show 1000 + (2 + 2 * ((c - 1001) / 2)) = c + 1 by omega] at a3
    exact ⟨a2, a3, a1⟩
  · obtain ⟨a1, a2, a3, a4⟩ := hN.1.2.2.1 _ _ (List.getElem?_eq_getElem hl)
    dsimp only at a4
    rw [show 1000 + (2 + 2 * ((c - 1001) / 2)) = c by omega] at a4
    exact a4
noncomputable def cm_getV : cm_O := (ev_getV.1, fun E P t S k => match S.2.2.1 with
  | .ref c :: st => 1001 ≤ c ∧ c < 1081 ∧ c % 2 = 1 ∧ k (cm_adv S 3 (.ref (c + 1) :: st))
  | _ => False)
theorem cm_getV_ok : cm_Snd cm_getV := by
  intro p l e R s m args below meth c cc Q D A adr ce sl E P t S i n cs X h1 hd hw h2 ws H locs ls hR
  obtain ⟨hx, hb, hml, hown, hts, hK, hA, hN, hcC, hcS, hf, hlc, hscr⟩ := X
  obtain ⟨pc, L, st, M⟩ := S
  have h1 : some ((.getfield t.1.toNat : Instr), (3 : Nat), ([.fieldLink P.2.2.2.1 t.1.toNat "java/lang/String" "value" "[B"] : List Cond)) = some (i, n, cs) := h1
  cases h1
  unfold cm_getV at h2
  dsimp only at h2
  split at h2
  rotate_left
  · exact h2.elim
  rename_i c st'
  obtain ⟨q1, q2, q3, hk⟩ := h2
  obtain ⟨r, -, a1, -⟩ := cm_str hN q1 q2
  exact vk_getf hx hb (a1 q3).2.1 hR.2.2.1 hown (hts _ (hw _ (List.mem_singleton.mpr rfl))) (fun _ h => h) hd (hk ws H locs ls hR)

noncomputable def cm_getC : cm_O := (ev_getC.1, fun E P t S k => match S.2.2.1 with
  | .ref c :: st => 1001 ≤ c ∧ c < 1081 ∧ c % 2 = 1 ∧ k (cm_adv S 3 (.int 0 :: st))
  | _ => False)
theorem cm_getC_ok : cm_Snd cm_getC := by
  intro p l e R s m args below meth c cc Q D A adr ce sl E P t S i n cs X h1 hd hw h2 ws H locs ls hR
  obtain ⟨hx, hb, hml, hown, hts, hK, hA, hN, hcC, hcS, hf, hlc, hscr⟩ := X
  obtain ⟨pc, L, st, M⟩ := S
  have h1 : some ((.getfield t.1.toNat : Instr), (3 : Nat), ([.fieldLink P.2.2.2.1 t.1.toNat "java/lang/String" "coder" "B"] : List Cond)) = some (i, n, cs) := h1
  cases h1
  unfold cm_getC at h2
  dsimp only at h2
  split at h2
  rotate_left
  · exact h2.elim
  rename_i c st'
  obtain ⟨q1, q2, q3, hk⟩ := h2
  obtain ⟨r, -, a1, -⟩ := cm_str hN q1 q2
  exact vk_getf hx hb (a1 q3).1 hR.2.2.1 hown (hts _ (hw _ (List.mem_singleton.mpr rfl))) (fun _ h => h) hd (hk ws H locs ls hR)

noncomputable def cm_gets : cm_O := (ev_gets.1, fun E P t S k => k (cm_adv S 3 (.int 1 :: S.2.2.1)))
theorem cm_gets_ok : cm_Snd cm_gets := by
  intro p l e R s m args below meth c cc Q D A adr ce sl E P t S i n cs X h1 hd hw h2 ws H locs ls hR
  obtain ⟨hx, hb, hml, hown, hts, hK, hA, hN, hcC, hcS, hf, hlc, hscr⟩ := X
  obtain ⟨pc, L, st, M⟩ := S
  have h1 : some ((.getstatic t.1.toNat : Instr), (3 : Nat), ([.fieldLink P.2.2.2.1 t.1.toNat "java/lang/String" "COMPACT_STRINGS" "Z"] : List Cond)) = some (i, n, cs) := h1
  cases h1
  exact va_gets hx hb hN.1.2.2.2.1 hR.2.2.1 hown (hts _ (hw _ (List.mem_singleton.mpr rfl))) (fun _ h => h) hd (h2 ws H locs ls hR)

noncomputable def cm_getsF : cm_O := (ev_getsF.1, fun E P t S k => k (cm_adv S 3 (.null :: S.2.2.1)) ∧ k (cm_adv S 3 (.ref 1101 :: S.2.2.1)))
theorem cm_getsF_ok : cm_Snd cm_getsF := by
  intro p l e R s m args below meth c cc Q D A adr ce sl E P t S i n cs X h1 hd hw h2 ws H locs ls hR
  obtain ⟨hx, hb, hml, hown, hts, hK, hA, hN, hcC, hcS, hf, hlc, hscr⟩ := X
  obtain ⟨pc, L, st, M⟩ := S
  have h1 : some ((.getstatic t.1.toNat : Instr), (3 : Nat), ([.fieldLink P.2.2.2.1 t.1.toNat "jdk/internal/util/Preconditions" "SIOOBE_FORMATTER" "Ljava/util/function/BiFunction;"] : List Cond)) = some (i, n, cs) := h1
  cases h1
  rcases hN.2.2.2 with hz | hz
  · exact va_gets hx hb hz hR.2.2.1 hown (hts _ (hw _ (List.mem_singleton.mpr rfl))) (fun _ h => h) hd (h2.1 ws H locs ls hR)
  · exact va_gets hx hb hz hR.2.2.1 hown (hts _ (hw _ (List.mem_singleton.mpr rfl))) (fun _ h => h) hd (h2.2 ws H locs ls hR)

noncomputable def cm_alenS : cm_O := (ev_alenS.1, fun E P t S k => match S.2.2.1 with
  | .ref c :: st => (match ev_strs[(c - 1001) / 2]? with
    | some r => 1001 ≤ c ∧ c < 1081 ∧ c % 2 = 0 ∧ k (cm_adv S 1 (.int (Int32.ofNat r.2.2.2.length) :: st))
    | none => False)
  | _ => False)
theorem cm_alenS_ok : cm_Snd cm_alenS := by
  intro p l e R s m args below meth c cc Q D A adr ce sl E P t S i n cs X h1 hd hw h2 ws H locs ls hR
  obtain ⟨hx, hb, hml, hown, hts, hK, hA, hN, hcC, hcS, hf, hlc, hscr⟩ := X
  obtain ⟨pc, L, st, M⟩ := S
  have h1 : some ((.arraylength : Instr), (1 : Nat), ([] : List Cond)) = some (i, n, cs) := h1
  cases h1
  unfold cm_alenS at h2
  dsimp only at h2
  split at h2
  rotate_left
  · exact h2.elim
  rename_i c st'
  split at h2
  · rename_i r hr
    obtain ⟨q1, q2, q3, hk⟩ := h2
    obtain ⟨r', hr', -, a1⟩ := cm_str hN q1 q2
    rw [hr] at hr'
    cases hr'
    exact va_tlen hx hb (a1 q3) hR.2.2.1 rfl hd (hk ws H locs ls hR)
  · exact h2.elim

noncomputable def cm_baloadS : cm_O := (ev_baloadS.1, fun E P t S k => match S.2.2.1 with
  | .int i :: .ref c :: st => (match ev_strs[(c - 1001) / 2]? with
    | some r => 1001 ≤ c ∧ c < 1081 ∧ c % 2 = 0 ∧ 0 ≤ i.toInt ∧ i.toInt < (r.2.2.2.length : Int) ∧ k (cm_adv S 1 (.int (r.2.2.2.getD i.toNatClampNeg 0) :: st))
    | none => False)
  | _ => False)
theorem cm_baloadS_ok : cm_Snd cm_baloadS := by
  intro p l e R s m args below meth c cc Q D A adr ce sl E P t S i n cs X h1 hd hw h2 ws H locs ls hR
  obtain ⟨hx, hb, hml, hown, hts, hK, hA, hN, hcC, hcS, hf, hlc, hscr⟩ := X
  obtain ⟨pc, L, st, M⟩ := S
  have h1 : some ((.baload : Instr), (1 : Nat), ([] : List Cond)) = some (i, n, cs) := h1
  cases h1
  unfold cm_baloadS at h2
  dsimp only at h2
  split at h2
  rotate_left
  · exact h2.elim
  rename_i i c st'
  split at h2
  · rename_i r hr
    obtain ⟨q1, q2, q3, q4, q5, hk⟩ := h2
    obtain ⟨r', hr', -, a1⟩ := cm_str hN q1 q2
    rw [hr] at hr'
    cases hr'
    exact va_tb hx hb (a1 q3) hR.2.2.1 (by rw [vp_in_iff]; exact ⟨q4, q5⟩) rfl hd (hk ws H locs ls hR)
  · exact h2.elim

set_option maxRecDepth 1000000 in
theorem cm_tl : Cond.fieldLinkNest "BarberMinutes$Agenda" 18 "BarberMinutes" "TENS" "[I" "BarberMinutes" ∈ lw_nest := List.mem_filter.mpr ⟨List.mem_of_getElem? (i := 899) (by decide +kernel), rfl⟩
noncomputable def cm_getT : cm_O := ((fun P _ => if P.2.2.2.1 = "BarberMinutes$Agenda" then some (.getstatic 18, 3, []) else none), fun E P t S k => k (cm_adv S 3 (.ref 1100 :: S.2.2.1)))
theorem cm_getT_ok : cm_Snd cm_getT := by
  intro p l e R s m args below meth c cc Q D A adr ce sl E P t S i n cs X h1 hd hw h2 ws H locs ls hR
  obtain ⟨hx, hb, hml, hown, hts, hK, hA, hN, hcC, hcS, hf, hlc, hscr⟩ := X
  obtain ⟨pc, L, st, M⟩ := S
  have h1 : (if P.2.2.2.1 = "BarberMinutes$Agenda" then some ((.getstatic 18 : Instr), (3 : Nat), ([] : List Cond)) else none) = some (i, n, cs) := h1
  split at h1
  · rename_i ho
    cases h1
    rw [ho] at hown
    exact va_getsN hx hb hN.2.1 hR.2.2.1 hown (va_Nw.use rfl (hN.1.1.1 _ cm_tl)) (fun _ h => h) hd (h2 ws H locs ls hR)
  · cases h1

noncomputable def cm_tald : cm_O := ((fun _ _ => some (.iaload, 1, [])), fun E P t S k => match S.2.2.1 with
  | .int i :: .ref c :: st => c = 1100 ∧ 0 ≤ i.toInt ∧ i.toInt < 5 ∧ k (cm_adv S 1 (.int (cm_tens i.toNatClampNeg) :: st))
  | _ => False)
theorem cm_tald_ok : cm_Snd cm_tald := by
  intro p l e R s m args below meth c cc Q D A adr ce sl E P t S i n cs X h1 hd hw h2 ws H locs ls hR
  obtain ⟨hx, hb, hml, hown, hts, hK, hA, hN, hcC, hcS, hf, hlc, hscr⟩ := X
  obtain ⟨pc, L, st, M⟩ := S
  have h1 : some ((.iaload : Instr), (1 : Nat), ([] : List Cond)) = some (i, n, cs) := h1
  cases h1
  unfold cm_tald at h2
  dsimp only at h2
  split at h2
  rotate_left
  · exact h2.elim
  rename_i i c st'
  obtain ⟨rfl, q4, q5, hk⟩ := h2
  exact va_ti hx hb hN.2.2.1 hR.2.2.1 (by rw [vp_in_iff]; exact ⟨q4, q5⟩) rfl hd (hk ws H locs ls hR)

noncomputable def cm_alenT : cm_O := ((fun _ _ => some (.arraylength, 1, [])), fun E P t S k => match S.2.2.1 with
  | .ref c :: st => c = 1100 ∧ k (cm_adv S 1 (.int 5 :: st))
  | _ => False)
theorem cm_alenT_ok : cm_Snd cm_alenT := by
  intro p l e R s m args below meth c cc Q D A adr ce sl E P t S i n cs X h1 hd hw h2 ws H locs ls hR
  obtain ⟨hx, hb, hml, hown, hts, hK, hA, hN, hcC, hcS, hf, hlc, hscr⟩ := X
  obtain ⟨pc, L, st, M⟩ := S
  have h1 : some ((.arraylength : Instr), (1 : Nat), ([] : List Cond)) = some (i, n, cs) := h1
  cases h1
  unfold cm_alenT at h2
  dsimp only at h2
  split at h2
  rotate_left
  · exact h2.elim
  rename_i c st'
  obtain ⟨rfl, hk⟩ := h2
  exact va_tlen hx hb hN.2.2.1 hR.2.2.1 rfl hd (hk ws H locs ls hR)

noncomputable def cm_cs (st : List Value) : Nat := (st.map fun v => v.category).sum
noncomputable def cm_mmin : cm_O := (ev_mmin.1, fun E P t S k => match S.2.2.1 with
  | .int y :: .int x :: st => cm_cs st ≤ 8 ∧ k (cm_adv S 3 (.int (if y < x then y else x) :: st))
  | _ => False)
theorem cm_mmin_ok : cm_Snd cm_mmin := by
  intro p l e R s m args below meth c cc Q D A adr ce sl E P t S i n cs X h1 hd hw h2 ws H locs ls hR
  obtain ⟨hx, hb, hml, hown, hts, hK, hA, hN, hcC, hcS, hf, hlc, hscr⟩ := X
  obtain ⟨pc, L, st, M⟩ := S
  have h1 : some ((.invokestatic t.1.toNat : Instr), (3 : Nat), ([.methodLink P.2.2.2.1 t.1.toNat Lib.Math.min.name, .static Lib.Math.min.name, .initialized "java/lang/Math", .code Lib.Math.min.name Lib.Math.min.code 2 (some .int)] : List Cond)) = some (i, n, cs) := h1
  cases h1
  unfold cm_mmin at h2
  dsimp only at h2
  split at h2
  rotate_left
  · exact h2.elim
  rename_i y x st'
  obtain ⟨q1, hk⟩ := h2
  have hsum : (((st'.map (cm_v adr)).map fun v => v.category).sum) ≤ 8 := by rw [cm_v_cats]; exact q1
  exact va_mmin hx hb (hml.trans hR.2.2.2.2.1.symm) hown (hts _ (hw _ (by simp))) (hts _ (hw _ (by simp))) (hts _ (hw _ (by simp))) (hts _ (hw _ (by simp))) hf (by omega) hcC hcS hd (hk ws H locs ls hR)

noncomputable def cm_mmax : cm_O := ((fun P t => some (.invokestatic t.1.toNat, 3, [.methodLink P.2.2.2.1 t.1.toNat Lib.Math.max.name, .static Lib.Math.max.name, .initialized "java/lang/Math", .code Lib.Math.max.name Lib.Math.max.code 2 (some .int)])), fun E P t S k => match S.2.2.1 with
  | .int y :: .int x :: st => cm_cs st ≤ 8 ∧ k (cm_adv S 3 (.int (if x < y then y else x) :: st))
  | _ => False)
theorem cm_mmax_ok : cm_Snd cm_mmax := by
  intro p l e R s m args below meth c cc Q D A adr ce sl E P t S i n cs X h1 hd hw h2 ws H locs ls hR
  obtain ⟨hx, hb, hml, hown, hts, hK, hA, hN, hcC, hcS, hf, hlc, hscr⟩ := X
  obtain ⟨pc, L, st, M⟩ := S
  have h1 : some ((.invokestatic t.1.toNat : Instr), (3 : Nat), ([.methodLink P.2.2.2.1 t.1.toNat Lib.Math.max.name, .static Lib.Math.max.name, .initialized "java/lang/Math", .code Lib.Math.max.name Lib.Math.max.code 2 (some .int)] : List Cond)) = some (i, n, cs) := h1
  cases h1
  unfold cm_mmax at h2
  dsimp only at h2
  split at h2
  rotate_left
  · exact h2.elim
  rename_i y x st'
  obtain ⟨q1, hk⟩ := h2
  have hsum : (((st'.map (cm_v adr)).map fun v => v.category).sum) ≤ 8 := by rw [cm_v_cats]; exact q1
  exact va_mmax hx hb (hml.trans hR.2.2.2.2.1.symm) hown (hts _ (hw _ (by simp))) (hts _ (hw _ (by simp))) (hts _ (hw _ (by simp))) (hts _ (hw _ (by simp))) hf (by omega) hcC hcS hd (hk ws H locs ls hR)

noncomputable def cm_mabs : cm_O := ((fun P t => some (.invokestatic t.1.toNat, 3, [.methodLink P.2.2.2.1 t.1.toNat Lib.Math.abs.name, .static Lib.Math.abs.name, .initialized "java/lang/Math", .code Lib.Math.abs.name Lib.Math.abs.code 1 (some .int)])), fun E P t S k => match S.2.2.1 with
  | .int x :: st => cm_cs st ≤ 8 ∧ k (cm_adv S 3 (.int (if 0 ≤ x then x else 0 - x) :: st))
  | _ => False)
theorem cm_mabs_ok : cm_Snd cm_mabs := by
  intro p l e R s m args below meth c cc Q D A adr ce sl E P t S i n cs X h1 hd hw h2 ws H locs ls hR
  obtain ⟨hx, hb, hml, hown, hts, hK, hA, hN, hcC, hcS, hf, hlc, hscr⟩ := X
  obtain ⟨pc, L, st, M⟩ := S
  have h1 : some ((.invokestatic t.1.toNat : Instr), (3 : Nat), ([.methodLink P.2.2.2.1 t.1.toNat Lib.Math.abs.name, .static Lib.Math.abs.name, .initialized "java/lang/Math", .code Lib.Math.abs.name Lib.Math.abs.code 1 (some .int)] : List Cond)) = some (i, n, cs) := h1
  cases h1
  unfold cm_mabs at h2
  dsimp only at h2
  split at h2
  rotate_left
  · exact h2.elim
  rename_i x st'
  obtain ⟨q1, hk⟩ := h2
  have hsum : (((st'.map (cm_v adr)).map fun v => v.category).sum) ≤ 8 := by rw [cm_v_cats]; exact q1
  exact va_mabs hx hb (hml.trans hR.2.2.2.2.1.symm) hown (hts _ (hw _ (by simp))) (hts _ (hw _ (by simp))) (hts _ (hw _ (by simp))) (hts _ (hw _ (by simp))) hf (by omega) hcC hcS hd (hk ws H locs ls hR)

noncomputable def cm_copyi : cm_O := ((fun P t => some (.invokestatic t.1.toNat, 3, [.methodLink P.2.2.2.1 t.1.toNat arraycopyName, .native arraycopyName, .static arraycopyName, .initialized "java/lang/System"])), fun E P t S k => match S.2.2.1 with
  | .int n :: .int dp :: .ref d :: .int sp :: .ref c :: st => cm_cs st ≤ 8 ∧ (cm_kind c).1 = 100 ∧ (cm_kind d).1 = 100 ∧ 0 ≤ sp.toInt ∧ 0 ≤ dp.toInt ∧ 0 ≤ n.toInt ∧ sp.toInt + n.toInt ≤ ((cm_kind c).2 : Int) ∧ dp.toInt + n.toInt ≤ ((cm_kind d).2 : Int) ∧ k (S.1 + 3, S.2.1, st, cm_cp S.2.2.2 c sp.toNatClampNeg d dp.toNatClampNeg n.toNatClampNeg)
  | _ => False)
theorem cm_copyi_ok : cm_Snd cm_copyi := by
  intro p l e R s m args below meth c cc Q D A adr ce sl E P t S i n cs X h1 hd hw h2 ws H locs ls hR
  obtain ⟨hx, hb, hml, hown, hts, hK, hA, hN, hcC, hcS, hf, hlc, hscr⟩ := X
  obtain ⟨pc, L, st, M⟩ := S
  have h1 : some ((.invokestatic t.1.toNat : Instr), (3 : Nat), ([.methodLink P.2.2.2.1 t.1.toNat arraycopyName, .native arraycopyName, .static arraycopyName, .initialized "java/lang/System"] : List Cond)) = some (i, n, cs) := h1
  cases h1
  unfold cm_copyi at h2
  dsimp only at h2
  split at h2
  rotate_left
  · exact h2.elim
  rename_i n dp d sp c st'
  obtain ⟨q1, k1, k2, z1, z2, z3, z4, z5, hk⟩ := h2
  obtain ⟨hP, hD, hS, hW, hL⟩ := id hR
  have hsum : (((st'.map (cm_v adr)).map fun v => v.category).sum) ≤ 8 := by rw [cm_v_cats]; exact q1
  obtain ⟨cA, arr, e1, e2, e3, e4⟩ := cm_arr (t := 0) hW (show cm_kind c = (100 + 0, (cm_kind c).2) from Prod.ext k1 rfl) (by decide)
  obtain ⟨dA, brr, d1, d2, d3, d4⟩ := cm_arr (t := 0) hW (show cm_kind d = (100 + 0, (cm_kind d).2) from Prod.ext k2 rfl) (by decide)
  have nn : ∀ z : Int32, 0 ≤ z.toInt → z.toInt = (z.toNatClampNeg : Int) := by
    intro z hz
    show z.toInt = ((z.toInt.toNat : Nat) : Int)
    omega
  have y1 := nn sp z1
  have y2 := nn dp z2
  have y3 := nn n z3
  have hK2 : va_K D vwCl [(cA, .int), (dA, .int)] s := ⟨hK.1, fun j q hq => by
    have hz : j < 2 := (List.getElem?_eq_some_iff.mp hq).1
    have : j = 0 ∨ j = 1 := by omega
    rcases this with rfl | rfl
    · cases hq; exact ⟨e2, e3⟩
    · cases hq; exact ⟨d2, d3⟩⟩
  cases arr with
  | inr z => rcases z with z | z | z | z <;> first | exact e4.elim | (have := e4.1; omega)
  | inl f =>
    cases brr with
    | inr z => rcases z with z | z | z | z <;> first | exact d4.elim | (have := d4.1; omega)
    | inl g =>
      refine va_copyi hx hb (hml.trans hL.1.symm) hown (hts _ (hw _ (by simp))) (hts _ (hw _ (by simp))) (hts _ (hw _ (by simp))) (hts _ (hw _ (by simp))) hK2 hP hD hS c d 0 1 e1 d1 rfl rfl rfl (ev_nn z1) (ev_nn z2) (ev_nn z3) (by omega) (by omega) (fun _ _ => rfl) hf ?_ hd (fun H1 locs1 hP1 hD1 hS1 => hk _ H1 locs1 ls ⟨hP1, hD1, hS1, cm_w_set hW (cm_kind_at (q := (100 + 0, (cm_kind d).2)) (Prod.ext k2 rfl) (by dsimp only; omega)) ⟨0, by decide, rfl, rfl, d2, d3, by decide, fun j hj => ?_⟩ cm_cp_ne, hL⟩)
      · have : nativeFrameWords "java/lang/System" "arraycopy" 5 ≤ 20 := by decide +kernel
        omega
      · dsimp only [va_cpy, cm_cp] at hj ⊢
        by_cases hq : dp.toNatClampNeg ≤ j ∧ j < dp.toNatClampNeg + n.toNatClampNeg
        · rw [if_pos hq, if_pos ⟨rfl, hq⟩]
          exact e4.2 _ (by omega)
        · rw [if_neg hq, if_neg (fun z => hq z.2)]
          exact d4.2 _ hj
noncomputable def cm_no : cm_O := (fun _ _ => none, fun _ _ _ _ _ => False)
theorem cm_no_ok : cm_Snd cm_no := fun p l e R s m args below meth c cc Q D A adr ce sl E P t S i n cs X h1 => by cases h1
noncomputable def cm_ops : List cm_O := [cm_iconst, cm_bipush, cm_sipush, cm_lconst, cm_iload, cm_iloadn, cm_lload, cm_lloadn, cm_aload, cm_aloadn, cm_istore, cm_istoren, cm_lstore, cm_lstoren, cm_astore, cm_astoren, cm_iadd, cm_isub, cm_imul, cm_iand, cm_ior, cm_ixor, cm_ishl, cm_ishr, cm_iushr, cm_idiv, cm_irem, cm_ineg, cm_i2b, cm_i2l, cm_lcmp, cm_dup, cm_pop, cm_dup2, cm_iinc, cm_icmp_eq, cm_icmp_ne, cm_icmp_lt, cm_icmp_ge, cm_icmp_gt, cm_icmp_le, cm_if_eq, cm_if_ne, cm_if_lt, cm_if_ge, cm_if_gt, cm_if_le, cm_goto, cm_sw, cm_get, cm_put, cm_no, cm_iaload, cm_baload, cm_laload, cm_aaload, cm_iastore, cm_bastore, cm_no, cm_no, cm_no, cm_no, cm_no, cm_no, cm_alen, cm_sald, cm_no, cm_mmin, cm_ldc, cm_ldcS, cm_getV, cm_getC, cm_gets, cm_alenS, cm_baloadS, cm_i2c, cm_ladd, cm_lsub, cm_lmul, cm_ldiv, cm_lrem, cm_ldc2, cm_getsF, cm_ldcw, cm_mmax, cm_mabs, cm_copyi, cm_getT, cm_tald, cm_alenT, cm_lastore, cm_pop2]
theorem cm_c1 {o : cm_O} {l : List cm_O} (h : cm_Snd o) (h2 : ∀ o ∈ l, cm_Snd o) : ∀ o' ∈ o :: l, cm_Snd o' := List.forall_mem_cons.mpr ⟨h, h2⟩
theorem cm_ops_ok : ∀ o ∈ cm_ops, cm_Snd o := cm_c1 cm_iconst_ok (cm_c1 cm_bipush_ok (cm_c1 cm_sipush_ok (cm_c1 cm_lconst_ok (cm_c1 cm_iload_ok (cm_c1 cm_iloadn_ok (cm_c1 cm_lload_ok (cm_c1 cm_lloadn_ok (cm_c1 cm_aload_ok (cm_c1 cm_aloadn_ok (cm_c1 cm_istore_ok (cm_c1 cm_istoren_ok (cm_c1 cm_lstore_ok (cm_c1 cm_lstoren_ok (cm_c1 cm_astore_ok (cm_c1 cm_astoren_ok (cm_c1 cm_iadd_ok (cm_c1 cm_isub_ok (cm_c1 cm_imul_ok (cm_c1 cm_iand_ok (cm_c1 cm_ior_ok (cm_c1 cm_ixor_ok (cm_c1 cm_ishl_ok (cm_c1 cm_ishr_ok (cm_c1 cm_iushr_ok (cm_c1 cm_idiv_ok (cm_c1 cm_irem_ok (cm_c1 cm_ineg_ok (cm_c1 cm_i2b_ok (cm_c1 cm_i2l_ok (cm_c1 cm_lcmp_ok (cm_c1 cm_dup_ok (cm_c1 cm_pop_ok (cm_c1 cm_dup2_ok (cm_c1 cm_iinc_ok (cm_c1 cm_icmp_eq_ok (cm_c1 cm_icmp_ne_ok (cm_c1 cm_icmp_lt_ok (cm_c1 cm_icmp_ge_ok (cm_c1 cm_icmp_gt_ok (cm_c1 cm_icmp_le_ok (cm_c1 cm_if_eq_ok (cm_c1 cm_if_ne_ok (cm_c1 cm_if_lt_ok (cm_c1 cm_if_ge_ok (cm_c1 cm_if_gt_ok (cm_c1 cm_if_le_ok (cm_c1 cm_goto_ok (cm_c1 cm_sw_ok (cm_c1 cm_get_ok (cm_c1 cm_put_ok (cm_c1 cm_no_ok (cm_c1 cm_iaload_ok (cm_c1 cm_baload_ok (cm_c1 cm_laload_ok (cm_c1 cm_aaload_ok (cm_c1 cm_iastore_ok (cm_c1 cm_bastore_ok (cm_c1 cm_no_ok (cm_c1 cm_no_ok (cm_c1 cm_no_ok (cm_c1 cm_no_ok (cm_c1 cm_no_ok (cm_c1 cm_no_ok (cm_c1 cm_alen_ok (cm_c1 cm_sald_ok (cm_c1 cm_no_ok (cm_c1 cm_mmin_ok (cm_c1 cm_ldc_ok (cm_c1 cm_ldcS_ok (cm_c1 cm_getV_ok (cm_c1 cm_getC_ok (cm_c1 cm_gets_ok (cm_c1 cm_alenS_ok (cm_c1 cm_baloadS_ok (cm_c1 cm_i2c_ok (cm_c1 cm_ladd_ok (cm_c1 cm_lsub_ok (cm_c1 cm_lmul_ok (cm_c1 cm_ldiv_ok (cm_c1 cm_lrem_ok (cm_c1 cm_ldc2_ok (cm_c1 cm_getsF_ok (cm_c1 cm_ldcw_ok (cm_c1 cm_mmax_ok (cm_c1 cm_mabs_ok (cm_c1 cm_copyi_ok (cm_c1 cm_getT_ok (cm_c1 cm_tald_ok (cm_c1 cm_alenT_ok (cm_c1 cm_lastore_ok (cm_c1 cm_pop2_ok (fun _ h => absurd h List.not_mem_nil))))))))))))))))))))))))))))))))))))))))))))))))))))))))))))))))))))))))))))))))))))))))))))
/-- what an instruction's row says -/
noncomputable def cm_rowI (ms : List ev_MI) (P : ev_P) (r : ev_Row) : Option (Instr × Nat × List Cond) :=
  match r.1 with
  | 200 => (match ms[r.2.1.toNat]? with
    | some mi => some (.invokevirtual r.2.2.1.toNat, 3, [.methodLink P.2.2.2.1 r.2.2.1.toNat mi.1, .instanceMethod mi.1, .selects mi.1.cls mi.1 mi.1, .initialized mi.1.cls])
    | none => none)
  | 201 => (match ms[r.2.1.toNat]? with
    | some mi => some (.invokestatic r.2.2.1.toNat, 3, [.methodLink P.2.2.2.1 r.2.2.1.toNat mi.1, .static mi.1, .initialized mi.1.cls])
    | none => none)
  | 210 => some (.ireturn, 1, [])
  | 211 => some (.lreturn, 1, [])
  | 212 => some (.areturn, 1, [])
  | 213 => some (.return_, 1, [])
  | k => (match cm_ops[k]? with
    | some o => o.1 P r.2
    | none => none)
noncomputable def cm_RowOK (ms : List ev_MI) (P : ev_P) (cc : ByteArray) (q : Nat × ev_Row) : Prop := ∃ i n cs, cm_rowI ms P q.2 = some (i, n, cs) ∧ decode cc q.1 = .ok (i, n) ∧ ∀ w ∈ cs, w ∈ lw_good
noncomputable def cm_P (mi : ev_MI) : ev_P := (0, 0, false, mi.1.cls, mi.2.2.1, 0)
/-- a method is right: its code, its rows -/
noncomputable def cm_MOK (ms : List ev_MI) (mi : ev_MI) : Prop :=
  plainName mi.1.cls = true ∧ Cond.code mi.1 mi.2.1 mi.2.2.1 mi.2.2.2.1 ∈ lw_good ∧ mi.2.2.1 ≤ 21 ∧ (mi.1.cls ≠ "java/lang/invoke/MethodHandle" ∧ mi.1.cls ≠ "java/lang/invoke/VarHandle") ∧ ∀ q ∈ mi.2.2.2.2.2.2, cm_RowOK ms (cm_P mi) mi.2.1 q
noncomputable def cm_args : Nat → List Value → List (Nat × Value)
  | _, [] => []
  | i, a :: as => (i, a) :: cm_args (i + a.category) as
noncomputable def cm_take (recv : Bool) (n : Nat) (st : List Value) : Option (List Value × List Value) :=
  if recv = true then (match st.drop n with
    | x :: rest => if (st.take n).length = n then some (x :: (st.take n).reverse, rest) else none
    | [] => none)
  else (if (st.take n).length = n then some ((st.take n).reverse, st.drop n) else none)
/-- the receiver is of the class -/
noncomputable def cm_recv (cls : String) : List Value → Prop
  | .ref c :: _ => (1001 ≤ c ∧ c < 1081 ∧ c % 2 = 1 ∧ cls = "java/lang/String") ∨ (vwCl[(cm_kind c).1]?).map (fun q => q.1) = some cls
  | _ => False
noncomputable abbrev cm_K : Type := Option Value → cm_M → Prop
/-- calls: method, arguments, memory, what is wanted of its answer and of the memory behind it -/
noncomputable abbrev cm_C : Type := Nat → List Value → cm_M → cm_K → Prop
noncomputable def cm_inv (ms : List ev_MI) (C : cm_C) (r : ev_Row) (S : cm_S) (k : cm_S → Prop) : Prop :=
  match ms[r.2.1.toNat]? with
  | some mi => (match cm_take (!(r.1 == 201)) r.2.2.2.1.toNat S.2.2.1 with
    | some (as, rest) => cm_cs rest ≤ 8 ∧ ev_nar1 mi.1 r.2.2.2.1.toNat = true ∧ (r.1 = 200 → cm_recv mi.1.cls as) ∧ C r.2.1.toNat as S.2.2.2 (fun v M' => k (S.1 + 3, S.2.1, v.toList ++ rest, M'))
    | none => False)
  | none => False
/-- stops, with the locals that are told there -/
noncomputable def cm_pick (L : List (Nat × Value)) : List Nat → Option (List (Nat × Value))
  | [] => some []
  | i :: r => match cm_look L i, cm_pick L r with
    | some v, some l => some ((i, v) :: l)
    | _, _ => none
noncomputable def cm_stop (stops : List (Nat × List Nat)) (J : cm_S → Prop) (k : cm_S → Prop) (S : cm_S) : Prop := match ev_at stops S.1 with
  | none => k S
  | some live => (match cm_pick S.2.1 live with
    | some L => J (S.1, L, S.2.2)
    | none => False)
/-- what must hold for a run to be good: Z at an instruction that returns, J at a stop -/
noncomputable def cm_wp (ms : List ev_MI) (C : cm_C) (E : cm_E) (P : ev_P) (rows : List (Nat × ev_Row)) (stops : List (Nat × List Nat)) (J : cm_S → Prop) (Z : Nat → cm_S → Prop) : Nat → cm_S → Prop
  | 0, _ => False
  | n + 1, S => match ev_at rows S.1 with
    | none => False
    | some r =>
      if 210 ≤ r.1 then Z r.1 S
      else if 200 ≤ r.1 then cm_inv ms C r S (cm_stop stops J (cm_wp ms C E P rows stops J Z n))
      else (match cm_ops[r.1]? with
        | some o => o.2 E P r.2 S (cm_stop stops J (cm_wp ms C E P rows stops J Z n))
        | none => False)
/-- a method's end: its answer -/
noncomputable def cm_ret (ret : Option FieldType) (Post : cm_K) (op : Nat) (S : cm_S) : Prop := match op, ret, S.2.2.1 with
  | 210, some .int, [.int x] => Post (some (.int x)) S.2.2.2
  | 210, some .boolean, [.int x] => (x = 0 ∨ x = 1) ∧ Post (some (.int x)) S.2.2.2
  | 210, some .char, [.int x] => 0 ≤ x.toInt ∧ x.toInt < 65536 ∧ Post (some (.int x)) S.2.2.2
  | 210, some .byte, [.int x] => x = 0 ∧ Post (some (.int x)) S.2.2.2
  | 211, some .long, [.long x] => Post (some (.long x)) S.2.2.2
  | 212, some (.object _), [.ref x] => Post (some (.ref x)) S.2.2.2
  | 213, none, [] => Post none S.2.2.2
  | _, _, _ => False
noncomputable def cm_rm (d : Nat) : Room := { frames := d + 1, cells := 0, slots := 0, locals := 40 * (d + 1) }
noncomputable def cm_Q (D : va_G) (adr : Nat → Nat) (A : Nat → Prop) (Post : cm_K) : Array Value → State → Outcome → State → Prop := fun _ st oc t =>
  (∃ (v : Option Value) (M' : cm_M) (ws' : va_W), Post v M' ∧ oc = .returned (v.map (cm_v adr)) ∧ va_P D vwCl ws' t.heap ∧ va_D A ws' ∧ cm_w t adr M' ws') ∧ va_F A st t
noncomputable def cm_Pb (D : va_G) (adr : Nat → Nat) (ws : va_W) (sz : Nat) (M : cm_M) (U : State) : Prop := U.heap.size = sz ∧ va_P D vwCl ws U.heap ∧ va_K D vwCl [] U ∧ va_D (fun _ => True) ws ∧ cm_w U adr M ws ∧ cm_N adr (va_A ws sz) U U.heap
noncomputable def cm_Met (l : Launch) (mi : ev_MI) (d : Nat) (D : va_G) (adr : Nat → Nat) (ws : va_W) (sz : Nat) (as : List Value) (M : cm_M) (Post : cm_K) : Prop :=
  Met l mi.1 (Cond.code mi.1 mi.2.1 mi.2.2.1 mi.2.2.2.1 :: lw_good) (cm_rm d) (va_Pc (as.map (cm_v adr)) (cm_Pb D adr ws sz M)) (cm_Q D adr (va_A ws sz) Post) 0 0 (va_A ws sz)
/-- a call is good, at a depth -/
noncomputable def cm_Call0 (ms : List ev_MI) (d : Nat) : cm_C := fun k as M Post => ∃ mi d' P0, ms[k]? = some mi ∧ d' + 1 ≤ d ∧ (∀ v M', P0 v M' → Post v M') ∧ ∀ (l : Launch) (D : va_G) (adr : Nat → Nat) (ws : va_W) (sz : Nat), cm_Met l mi d' D adr ws sz as M P0
theorem cm_Call_up0 {ms : List ev_MI} {d e k : Nat} {as : List Value} {M : cm_M} {Post Post' : cm_K} (h : cm_Call0 ms d k as M Post) (hd : d ≤ e) (hp : ∀ v M', Post v M' → Post' v M') : cm_Call0 ms e k as M Post' := by
  obtain ⟨mi, d', P0, h1, h2, h3, h4⟩ := h
  exact ⟨mi, d', P0, h1, by omega, fun v M' q => hp v M' (h3 v M' q), h4⟩
noncomputable def cm_Mon (o : cm_O) : Prop := ∀ (E : cm_E) (P : ev_P) (t : ev_T) (S : cm_S) (k1 k2 : cm_S → Prop), o.2 E P t S k1 → (∀ S, k1 S → k2 S) → o.2 E P t S k2
theorem cm_no_im : cm_Mon cm_no := fun E P t S k1 k2 h hk => h.elim
theorem cm_iconst_im : cm_Mon cm_iconst := by
  intro E P t S k1 k2 h hk
  obtain ⟨pc, L, st, M⟩ := S
  unfold cm_iconst at h ⊢
  dsimp only at h ⊢
  first | exact h.elim | exact hk _ h | exact ⟨h.1, hk _ h.2⟩ | exact ⟨h.1, h.2.1, hk _ h.2.2⟩ | exact ⟨h.1, h.2.1, h.2.2.1, hk _ h.2.2.2⟩ | exact ⟨h.1, h.2.1, h.2.2.1, h.2.2.2.1, hk _ h.2.2.2.2⟩ | exact ⟨h.1, h.2.1, h.2.2.1, h.2.2.2.1, h.2.2.2.2.1, hk _ h.2.2.2.2.2⟩ | exact ⟨h.1, h.2.1, h.2.2.1, h.2.2.2.1, h.2.2.2.2.1, h.2.2.2.2.2.1, h.2.2.2.2.2.2.1, h.2.2.2.2.2.2.2.1, hk _ h.2.2.2.2.2.2.2.2⟩ | exact ⟨h.1, fun q => hk _ (h.2.1 q), fun q => hk _ (h.2.2 q)⟩ | exact ⟨h.1, h.2.1, h.2.2.1, fun q => hk _ (h.2.2.2.1 q), fun j o q1 q2 => hk _ (h.2.2.2.2 j o q1 q2)⟩ | exact ⟨hk _ h.1, hk _ h.2⟩

theorem cm_bipush_im : cm_Mon cm_bipush := by
  intro E P t S k1 k2 h hk
  obtain ⟨pc, L, st, M⟩ := S
  unfold cm_bipush at h ⊢
  dsimp only at h ⊢
  first | exact h.elim | exact hk _ h | exact ⟨h.1, hk _ h.2⟩ | exact ⟨h.1, h.2.1, hk _ h.2.2⟩ | exact ⟨h.1, h.2.1, h.2.2.1, hk _ h.2.2.2⟩ | exact ⟨h.1, h.2.1, h.2.2.1, h.2.2.2.1, hk _ h.2.2.2.2⟩ | exact ⟨h.1, h.2.1, h.2.2.1, h.2.2.2.1, h.2.2.2.2.1, hk _ h.2.2.2.2.2⟩ | exact ⟨h.1, h.2.1, h.2.2.1, h.2.2.2.1, h.2.2.2.2.1, h.2.2.2.2.2.1, h.2.2.2.2.2.2.1, h.2.2.2.2.2.2.2.1, hk _ h.2.2.2.2.2.2.2.2⟩ | exact ⟨h.1, fun q => hk _ (h.2.1 q), fun q => hk _ (h.2.2 q)⟩ | exact ⟨h.1, h.2.1, h.2.2.1, fun q => hk _ (h.2.2.2.1 q), fun j o q1 q2 => hk _ (h.2.2.2.2 j o q1 q2)⟩ | exact ⟨hk _ h.1, hk _ h.2⟩

theorem cm_sipush_im : cm_Mon cm_sipush := by
  intro E P t S k1 k2 h hk
  obtain ⟨pc, L, st, M⟩ := S
  unfold cm_sipush at h ⊢
  dsimp only at h ⊢
  first | exact h.elim | exact hk _ h | exact ⟨h.1, hk _ h.2⟩ | exact ⟨h.1, h.2.1, hk _ h.2.2⟩ | exact ⟨h.1, h.2.1, h.2.2.1, hk _ h.2.2.2⟩ | exact ⟨h.1, h.2.1, h.2.2.1, h.2.2.2.1, hk _ h.2.2.2.2⟩ | exact ⟨h.1, h.2.1, h.2.2.1, h.2.2.2.1, h.2.2.2.2.1, hk _ h.2.2.2.2.2⟩ | exact ⟨h.1, h.2.1, h.2.2.1, h.2.2.2.1, h.2.2.2.2.1, h.2.2.2.2.2.1, h.2.2.2.2.2.2.1, h.2.2.2.2.2.2.2.1, hk _ h.2.2.2.2.2.2.2.2⟩ | exact ⟨h.1, fun q => hk _ (h.2.1 q), fun q => hk _ (h.2.2 q)⟩ | exact ⟨h.1, h.2.1, h.2.2.1, fun q => hk _ (h.2.2.2.1 q), fun j o q1 q2 => hk _ (h.2.2.2.2 j o q1 q2)⟩ | exact ⟨hk _ h.1, hk _ h.2⟩

theorem cm_lconst_im : cm_Mon cm_lconst := by
  intro E P t S k1 k2 h hk
  obtain ⟨pc, L, st, M⟩ := S
  unfold cm_lconst at h ⊢
  dsimp only at h ⊢
  first | exact h.elim | exact hk _ h | exact ⟨h.1, hk _ h.2⟩ | exact ⟨h.1, h.2.1, hk _ h.2.2⟩ | exact ⟨h.1, h.2.1, h.2.2.1, hk _ h.2.2.2⟩ | exact ⟨h.1, h.2.1, h.2.2.1, h.2.2.2.1, hk _ h.2.2.2.2⟩ | exact ⟨h.1, h.2.1, h.2.2.1, h.2.2.2.1, h.2.2.2.2.1, hk _ h.2.2.2.2.2⟩ | exact ⟨h.1, h.2.1, h.2.2.1, h.2.2.2.1, h.2.2.2.2.1, h.2.2.2.2.2.1, h.2.2.2.2.2.2.1, h.2.2.2.2.2.2.2.1, hk _ h.2.2.2.2.2.2.2.2⟩ | exact ⟨h.1, fun q => hk _ (h.2.1 q), fun q => hk _ (h.2.2 q)⟩ | exact ⟨h.1, h.2.1, h.2.2.1, fun q => hk _ (h.2.2.2.1 q), fun j o q1 q2 => hk _ (h.2.2.2.2 j o q1 q2)⟩ | exact ⟨hk _ h.1, hk _ h.2⟩

theorem cm_iload_im : cm_Mon cm_iload := by
  intro E P t S k1 k2 h hk
  obtain ⟨pc, L, st, M⟩ := S
  unfold cm_iload cm_ld at h ⊢
  dsimp only at h ⊢
  split at h <;> first | exact h.elim | exact hk _ h

theorem cm_iloadn_im : cm_Mon cm_iloadn := by
  intro E P t S k1 k2 h hk
  obtain ⟨pc, L, st, M⟩ := S
  unfold cm_iloadn cm_ld at h ⊢
  dsimp only at h ⊢
  split at h <;> first | exact h.elim | exact hk _ h

theorem cm_lload_im : cm_Mon cm_lload := by
  intro E P t S k1 k2 h hk
  obtain ⟨pc, L, st, M⟩ := S
  unfold cm_lload cm_ld at h ⊢
  dsimp only at h ⊢
  split at h <;> first | exact h.elim | exact hk _ h

theorem cm_lloadn_im : cm_Mon cm_lloadn := by
  intro E P t S k1 k2 h hk
  obtain ⟨pc, L, st, M⟩ := S
  unfold cm_lloadn cm_ld at h ⊢
  dsimp only at h ⊢
  split at h <;> first | exact h.elim | exact hk _ h

theorem cm_aload_im : cm_Mon cm_aload := by
  intro E P t S k1 k2 h hk
  obtain ⟨pc, L, st, M⟩ := S
  unfold cm_aload cm_ld at h ⊢
  dsimp only at h ⊢
  split at h <;> first | exact h.elim | exact hk _ h

theorem cm_aloadn_im : cm_Mon cm_aloadn := by
  intro E P t S k1 k2 h hk
  obtain ⟨pc, L, st, M⟩ := S
  unfold cm_aloadn cm_ld at h ⊢
  dsimp only at h ⊢
  split at h <;> first | exact h.elim | exact hk _ h

theorem cm_istore_im : cm_Mon cm_istore := by
  intro E P t S k1 k2 h hk
  obtain ⟨pc, L, st, M⟩ := S
  unfold cm_istore cm_sto at h ⊢
  dsimp only at h ⊢
  split at h <;> (first | exact h.elim | exact hk _ h | exact ⟨h.1, hk _ h.2⟩ | exact ⟨h.1, h.2.1, hk _ h.2.2⟩ | exact ⟨h.1, h.2.1, h.2.2.1, hk _ h.2.2.2⟩ | exact ⟨h.1, h.2.1, h.2.2.1, h.2.2.2.1, hk _ h.2.2.2.2⟩ | exact ⟨h.1, h.2.1, h.2.2.1, h.2.2.2.1, h.2.2.2.2.1, hk _ h.2.2.2.2.2⟩ | exact ⟨h.1, h.2.1, h.2.2.1, h.2.2.2.1, h.2.2.2.2.1, h.2.2.2.2.2.1, h.2.2.2.2.2.2.1, h.2.2.2.2.2.2.2.1, hk _ h.2.2.2.2.2.2.2.2⟩ | exact ⟨h.1, fun q => hk _ (h.2.1 q), fun q => hk _ (h.2.2 q)⟩ | exact ⟨h.1, h.2.1, h.2.2.1, fun q => hk _ (h.2.2.2.1 q), fun j o q1 q2 => hk _ (h.2.2.2.2 j o q1 q2)⟩ | exact ⟨hk _ h.1, hk _ h.2⟩)

theorem cm_istoren_im : cm_Mon cm_istoren := by
  intro E P t S k1 k2 h hk
  obtain ⟨pc, L, st, M⟩ := S
  unfold cm_istoren cm_sto at h ⊢
  dsimp only at h ⊢
  split at h <;> (first | exact h.elim | exact hk _ h | exact ⟨h.1, hk _ h.2⟩ | exact ⟨h.1, h.2.1, hk _ h.2.2⟩ | exact ⟨h.1, h.2.1, h.2.2.1, hk _ h.2.2.2⟩ | exact ⟨h.1, h.2.1, h.2.2.1, h.2.2.2.1, hk _ h.2.2.2.2⟩ | exact ⟨h.1, h.2.1, h.2.2.1, h.2.2.2.1, h.2.2.2.2.1, hk _ h.2.2.2.2.2⟩ | exact ⟨h.1, h.2.1, h.2.2.1, h.2.2.2.1, h.2.2.2.2.1, h.2.2.2.2.2.1, h.2.2.2.2.2.2.1, h.2.2.2.2.2.2.2.1, hk _ h.2.2.2.2.2.2.2.2⟩ | exact ⟨h.1, fun q => hk _ (h.2.1 q), fun q => hk _ (h.2.2 q)⟩ | exact ⟨h.1, h.2.1, h.2.2.1, fun q => hk _ (h.2.2.2.1 q), fun j o q1 q2 => hk _ (h.2.2.2.2 j o q1 q2)⟩ | exact ⟨hk _ h.1, hk _ h.2⟩)

theorem cm_lstore_im : cm_Mon cm_lstore := by
  intro E P t S k1 k2 h hk
  obtain ⟨pc, L, st, M⟩ := S
  unfold cm_lstore cm_sto at h ⊢
  dsimp only at h ⊢
  split at h <;> (first | exact h.elim | exact hk _ h | exact ⟨h.1, hk _ h.2⟩ | exact ⟨h.1, h.2.1, hk _ h.2.2⟩ | exact ⟨h.1, h.2.1, h.2.2.1, hk _ h.2.2.2⟩ | exact ⟨h.1, h.2.1, h.2.2.1, h.2.2.2.1, hk _ h.2.2.2.2⟩ | exact ⟨h.1, h.2.1, h.2.2.1, h.2.2.2.1, h.2.2.2.2.1, hk _ h.2.2.2.2.2⟩ | exact ⟨h.1, h.2.1, h.2.2.1, h.2.2.2.1, h.2.2.2.2.1, h.2.2.2.2.2.1, h.2.2.2.2.2.2.1, h.2.2.2.2.2.2.2.1, hk _ h.2.2.2.2.2.2.2.2⟩ | exact ⟨h.1, fun q => hk _ (h.2.1 q), fun q => hk _ (h.2.2 q)⟩ | exact ⟨h.1, h.2.1, h.2.2.1, fun q => hk _ (h.2.2.2.1 q), fun j o q1 q2 => hk _ (h.2.2.2.2 j o q1 q2)⟩ | exact ⟨hk _ h.1, hk _ h.2⟩)

theorem cm_lstoren_im : cm_Mon cm_lstoren := by
  intro E P t S k1 k2 h hk
  obtain ⟨pc, L, st, M⟩ := S
  unfold cm_lstoren cm_sto at h ⊢
  dsimp only at h ⊢
  split at h <;> (first | exact h.elim | exact hk _ h | exact ⟨h.1, hk _ h.2⟩ | exact ⟨h.1, h.2.1, hk _ h.2.2⟩ | exact ⟨h.1, h.2.1, h.2.2.1, hk _ h.2.2.2⟩ | exact ⟨h.1, h.2.1, h.2.2.1, h.2.2.2.1, hk _ h.2.2.2.2⟩ | exact ⟨h.1, h.2.1, h.2.2.1, h.2.2.2.1, h.2.2.2.2.1, hk _ h.2.2.2.2.2⟩ | exact ⟨h.1, h.2.1, h.2.2.1, h.2.2.2.1, h.2.2.2.2.1, h.2.2.2.2.2.1, h.2.2.2.2.2.2.1, h.2.2.2.2.2.2.2.1, hk _ h.2.2.2.2.2.2.2.2⟩ | exact ⟨h.1, fun q => hk _ (h.2.1 q), fun q => hk _ (h.2.2 q)⟩ | exact ⟨h.1, h.2.1, h.2.2.1, fun q => hk _ (h.2.2.2.1 q), fun j o q1 q2 => hk _ (h.2.2.2.2 j o q1 q2)⟩ | exact ⟨hk _ h.1, hk _ h.2⟩)

theorem cm_astore_im : cm_Mon cm_astore := by
  intro E P t S k1 k2 h hk
  obtain ⟨pc, L, st, M⟩ := S
  unfold cm_astore cm_sto at h ⊢
  dsimp only at h ⊢
  split at h <;> (first | exact h.elim | exact hk _ h | exact ⟨h.1, hk _ h.2⟩ | exact ⟨h.1, h.2.1, hk _ h.2.2⟩ | exact ⟨h.1, h.2.1, h.2.2.1, hk _ h.2.2.2⟩ | exact ⟨h.1, h.2.1, h.2.2.1, h.2.2.2.1, hk _ h.2.2.2.2⟩ | exact ⟨h.1, h.2.1, h.2.2.1, h.2.2.2.1, h.2.2.2.2.1, hk _ h.2.2.2.2.2⟩ | exact ⟨h.1, h.2.1, h.2.2.1, h.2.2.2.1, h.2.2.2.2.1, h.2.2.2.2.2.1, h.2.2.2.2.2.2.1, h.2.2.2.2.2.2.2.1, hk _ h.2.2.2.2.2.2.2.2⟩ | exact ⟨h.1, fun q => hk _ (h.2.1 q), fun q => hk _ (h.2.2 q)⟩ | exact ⟨h.1, h.2.1, h.2.2.1, fun q => hk _ (h.2.2.2.1 q), fun j o q1 q2 => hk _ (h.2.2.2.2 j o q1 q2)⟩ | exact ⟨hk _ h.1, hk _ h.2⟩)

theorem cm_astoren_im : cm_Mon cm_astoren := by
  intro E P t S k1 k2 h hk
  obtain ⟨pc, L, st, M⟩ := S
  unfold cm_astoren cm_sto at h ⊢
  dsimp only at h ⊢
  split at h <;> (first | exact h.elim | exact hk _ h | exact ⟨h.1, hk _ h.2⟩ | exact ⟨h.1, h.2.1, hk _ h.2.2⟩ | exact ⟨h.1, h.2.1, h.2.2.1, hk _ h.2.2.2⟩ | exact ⟨h.1, h.2.1, h.2.2.1, h.2.2.2.1, hk _ h.2.2.2.2⟩ | exact ⟨h.1, h.2.1, h.2.2.1, h.2.2.2.1, h.2.2.2.2.1, hk _ h.2.2.2.2.2⟩ | exact ⟨h.1, h.2.1, h.2.2.1, h.2.2.2.1, h.2.2.2.2.1, h.2.2.2.2.2.1, h.2.2.2.2.2.2.1, h.2.2.2.2.2.2.2.1, hk _ h.2.2.2.2.2.2.2.2⟩ | exact ⟨h.1, fun q => hk _ (h.2.1 q), fun q => hk _ (h.2.2 q)⟩ | exact ⟨h.1, h.2.1, h.2.2.1, fun q => hk _ (h.2.2.2.1 q), fun j o q1 q2 => hk _ (h.2.2.2.2 j o q1 q2)⟩ | exact ⟨hk _ h.1, hk _ h.2⟩)

theorem cm_iadd_im : cm_Mon cm_iadd := by
  intro E P t S k1 k2 h hk
  obtain ⟨pc, L, st, M⟩ := S
  unfold cm_iadd at h ⊢
  dsimp only at h ⊢
  split at h <;> (first | exact h.elim | exact hk _ h | exact ⟨h.1, hk _ h.2⟩ | exact ⟨h.1, h.2.1, hk _ h.2.2⟩ | exact ⟨h.1, h.2.1, h.2.2.1, hk _ h.2.2.2⟩ | exact ⟨h.1, h.2.1, h.2.2.1, h.2.2.2.1, hk _ h.2.2.2.2⟩ | exact ⟨h.1, h.2.1, h.2.2.1, h.2.2.2.1, h.2.2.2.2.1, hk _ h.2.2.2.2.2⟩ | exact ⟨h.1, h.2.1, h.2.2.1, h.2.2.2.1, h.2.2.2.2.1, h.2.2.2.2.2.1, h.2.2.2.2.2.2.1, h.2.2.2.2.2.2.2.1, hk _ h.2.2.2.2.2.2.2.2⟩ | exact ⟨h.1, fun q => hk _ (h.2.1 q), fun q => hk _ (h.2.2 q)⟩ | exact ⟨h.1, h.2.1, h.2.2.1, fun q => hk _ (h.2.2.2.1 q), fun j o q1 q2 => hk _ (h.2.2.2.2 j o q1 q2)⟩ | exact ⟨hk _ h.1, hk _ h.2⟩)

theorem cm_isub_im : cm_Mon cm_isub := by
  intro E P t S k1 k2 h hk
  obtain ⟨pc, L, st, M⟩ := S
  unfold cm_isub at h ⊢
  dsimp only at h ⊢
  split at h <;> (first | exact h.elim | exact hk _ h | exact ⟨h.1, hk _ h.2⟩ | exact ⟨h.1, h.2.1, hk _ h.2.2⟩ | exact ⟨h.1, h.2.1, h.2.2.1, hk _ h.2.2.2⟩ | exact ⟨h.1, h.2.1, h.2.2.1, h.2.2.2.1, hk _ h.2.2.2.2⟩ | exact ⟨h.1, h.2.1, h.2.2.1, h.2.2.2.1, h.2.2.2.2.1, hk _ h.2.2.2.2.2⟩ | exact ⟨h.1, h.2.1, h.2.2.1, h.2.2.2.1, h.2.2.2.2.1, h.2.2.2.2.2.1, h.2.2.2.2.2.2.1, h.2.2.2.2.2.2.2.1, hk _ h.2.2.2.2.2.2.2.2⟩ | exact ⟨h.1, fun q => hk _ (h.2.1 q), fun q => hk _ (h.2.2 q)⟩ | exact ⟨h.1, h.2.1, h.2.2.1, fun q => hk _ (h.2.2.2.1 q), fun j o q1 q2 => hk _ (h.2.2.2.2 j o q1 q2)⟩ | exact ⟨hk _ h.1, hk _ h.2⟩)

theorem cm_imul_im : cm_Mon cm_imul := by
  intro E P t S k1 k2 h hk
  obtain ⟨pc, L, st, M⟩ := S
  unfold cm_imul at h ⊢
  dsimp only at h ⊢
  split at h <;> (first | exact h.elim | exact hk _ h | exact ⟨h.1, hk _ h.2⟩ | exact ⟨h.1, h.2.1, hk _ h.2.2⟩ | exact ⟨h.1, h.2.1, h.2.2.1, hk _ h.2.2.2⟩ | exact ⟨h.1, h.2.1, h.2.2.1, h.2.2.2.1, hk _ h.2.2.2.2⟩ | exact ⟨h.1, h.2.1, h.2.2.1, h.2.2.2.1, h.2.2.2.2.1, hk _ h.2.2.2.2.2⟩ | exact ⟨h.1, h.2.1, h.2.2.1, h.2.2.2.1, h.2.2.2.2.1, h.2.2.2.2.2.1, h.2.2.2.2.2.2.1, h.2.2.2.2.2.2.2.1, hk _ h.2.2.2.2.2.2.2.2⟩ | exact ⟨h.1, fun q => hk _ (h.2.1 q), fun q => hk _ (h.2.2 q)⟩ | exact ⟨h.1, h.2.1, h.2.2.1, fun q => hk _ (h.2.2.2.1 q), fun j o q1 q2 => hk _ (h.2.2.2.2 j o q1 q2)⟩ | exact ⟨hk _ h.1, hk _ h.2⟩)

theorem cm_iand_im : cm_Mon cm_iand := by
  intro E P t S k1 k2 h hk
  obtain ⟨pc, L, st, M⟩ := S
  unfold cm_iand at h ⊢
  dsimp only at h ⊢
  split at h <;> (first | exact h.elim | exact hk _ h | exact ⟨h.1, hk _ h.2⟩ | exact ⟨h.1, h.2.1, hk _ h.2.2⟩ | exact ⟨h.1, h.2.1, h.2.2.1, hk _ h.2.2.2⟩ | exact ⟨h.1, h.2.1, h.2.2.1, h.2.2.2.1, hk _ h.2.2.2.2⟩ | exact ⟨h.1, h.2.1, h.2.2.1, h.2.2.2.1, h.2.2.2.2.1, hk _ h.2.2.2.2.2⟩ | exact ⟨h.1, h.2.1, h.2.2.1, h.2.2.2.1, h.2.2.2.2.1, h.2.2.2.2.2.1, h.2.2.2.2.2.2.1, h.2.2.2.2.2.2.2.1, hk _ h.2.2.2.2.2.2.2.2⟩ | exact ⟨h.1, fun q => hk _ (h.2.1 q), fun q => hk _ (h.2.2 q)⟩ | exact ⟨h.1, h.2.1, h.2.2.1, fun q => hk _ (h.2.2.2.1 q), fun j o q1 q2 => hk _ (h.2.2.2.2 j o q1 q2)⟩ | exact ⟨hk _ h.1, hk _ h.2⟩)

theorem cm_ior_im : cm_Mon cm_ior := by
  intro E P t S k1 k2 h hk
  obtain ⟨pc, L, st, M⟩ := S
  unfold cm_ior at h ⊢
  dsimp only at h ⊢
  split at h <;> (first | exact h.elim | exact hk _ h | exact ⟨h.1, hk _ h.2⟩ | exact ⟨h.1, h.2.1, hk _ h.2.2⟩ | exact ⟨h.1, h.2.1, h.2.2.1, hk _ h.2.2.2⟩ | exact ⟨h.1, h.2.1, h.2.2.1, h.2.2.2.1, hk _ h.2.2.2.2⟩ | exact ⟨h.1, h.2.1, h.2.2.1, h.2.2.2.1, h.2.2.2.2.1, hk _ h.2.2.2.2.2⟩ | exact ⟨h.1, h.2.1, h.2.2.1, h.2.2.2.1, h.2.2.2.2.1, h.2.2.2.2.2.1, h.2.2.2.2.2.2.1, h.2.2.2.2.2.2.2.1, hk _ h.2.2.2.2.2.2.2.2⟩ | exact ⟨h.1, fun q => hk _ (h.2.1 q), fun q => hk _ (h.2.2 q)⟩ | exact ⟨h.1, h.2.1, h.2.2.1, fun q => hk _ (h.2.2.2.1 q), fun j o q1 q2 => hk _ (h.2.2.2.2 j o q1 q2)⟩ | exact ⟨hk _ h.1, hk _ h.2⟩)

theorem cm_ixor_im : cm_Mon cm_ixor := by
  intro E P t S k1 k2 h hk
  obtain ⟨pc, L, st, M⟩ := S
  unfold cm_ixor at h ⊢
  dsimp only at h ⊢
  split at h <;> (first | exact h.elim | exact hk _ h | exact ⟨h.1, hk _ h.2⟩ | exact ⟨h.1, h.2.1, hk _ h.2.2⟩ | exact ⟨h.1, h.2.1, h.2.2.1, hk _ h.2.2.2⟩ | exact ⟨h.1, h.2.1, h.2.2.1, h.2.2.2.1, hk _ h.2.2.2.2⟩ | exact ⟨h.1, h.2.1, h.2.2.1, h.2.2.2.1, h.2.2.2.2.1, hk _ h.2.2.2.2.2⟩ | exact ⟨h.1, h.2.1, h.2.2.1, h.2.2.2.1, h.2.2.2.2.1, h.2.2.2.2.2.1, h.2.2.2.2.2.2.1, h.2.2.2.2.2.2.2.1, hk _ h.2.2.2.2.2.2.2.2⟩ | exact ⟨h.1, fun q => hk _ (h.2.1 q), fun q => hk _ (h.2.2 q)⟩ | exact ⟨h.1, h.2.1, h.2.2.1, fun q => hk _ (h.2.2.2.1 q), fun j o q1 q2 => hk _ (h.2.2.2.2 j o q1 q2)⟩ | exact ⟨hk _ h.1, hk _ h.2⟩)

theorem cm_ishl_im : cm_Mon cm_ishl := by
  intro E P t S k1 k2 h hk
  obtain ⟨pc, L, st, M⟩ := S
  unfold cm_ishl at h ⊢
  dsimp only at h ⊢
  split at h <;> (first | exact h.elim | exact hk _ h | exact ⟨h.1, hk _ h.2⟩ | exact ⟨h.1, h.2.1, hk _ h.2.2⟩ | exact ⟨h.1, h.2.1, h.2.2.1, hk _ h.2.2.2⟩ | exact ⟨h.1, h.2.1, h.2.2.1, h.2.2.2.1, hk _ h.2.2.2.2⟩ | exact ⟨h.1, h.2.1, h.2.2.1, h.2.2.2.1, h.2.2.2.2.1, hk _ h.2.2.2.2.2⟩ | exact ⟨h.1, h.2.1, h.2.2.1, h.2.2.2.1, h.2.2.2.2.1, h.2.2.2.2.2.1, h.2.2.2.2.2.2.1, h.2.2.2.2.2.2.2.1, hk _ h.2.2.2.2.2.2.2.2⟩ | exact ⟨h.1, fun q => hk _ (h.2.1 q), fun q => hk _ (h.2.2 q)⟩ | exact ⟨h.1, h.2.1, h.2.2.1, fun q => hk _ (h.2.2.2.1 q), fun j o q1 q2 => hk _ (h.2.2.2.2 j o q1 q2)⟩ | exact ⟨hk _ h.1, hk _ h.2⟩)

theorem cm_ishr_im : cm_Mon cm_ishr := by
  intro E P t S k1 k2 h hk
  obtain ⟨pc, L, st, M⟩ := S
  unfold cm_ishr at h ⊢
  dsimp only at h ⊢
  split at h <;> (first | exact h.elim | exact hk _ h | exact ⟨h.1, hk _ h.2⟩ | exact ⟨h.1, h.2.1, hk _ h.2.2⟩ | exact ⟨h.1, h.2.1, h.2.2.1, hk _ h.2.2.2⟩ | exact ⟨h.1, h.2.1, h.2.2.1, h.2.2.2.1, hk _ h.2.2.2.2⟩ | exact ⟨h.1, h.2.1, h.2.2.1, h.2.2.2.1, h.2.2.2.2.1, hk _ h.2.2.2.2.2⟩ | exact ⟨h.1, h.2.1, h.2.2.1, h.2.2.2.1, h.2.2.2.2.1, h.2.2.2.2.2.1, h.2.2.2.2.2.2.1, h.2.2.2.2.2.2.2.1, hk _ h.2.2.2.2.2.2.2.2⟩ | exact ⟨h.1, fun q => hk _ (h.2.1 q), fun q => hk _ (h.2.2 q)⟩ | exact ⟨h.1, h.2.1, h.2.2.1, fun q => hk _ (h.2.2.2.1 q), fun j o q1 q2 => hk _ (h.2.2.2.2 j o q1 q2)⟩ | exact ⟨hk _ h.1, hk _ h.2⟩)

theorem cm_iushr_im : cm_Mon cm_iushr := by
  intro E P t S k1 k2 h hk
  obtain ⟨pc, L, st, M⟩ := S
  unfold cm_iushr at h ⊢
  dsimp only at h ⊢
  split at h <;> (first | exact h.elim | exact hk _ h | exact ⟨h.1, hk _ h.2⟩ | exact ⟨h.1, h.2.1, hk _ h.2.2⟩ | exact ⟨h.1, h.2.1, h.2.2.1, hk _ h.2.2.2⟩ | exact ⟨h.1, h.2.1, h.2.2.1, h.2.2.2.1, hk _ h.2.2.2.2⟩ | exact ⟨h.1, h.2.1, h.2.2.1, h.2.2.2.1, h.2.2.2.2.1, hk _ h.2.2.2.2.2⟩ | exact ⟨h.1, h.2.1, h.2.2.1, h.2.2.2.1, h.2.2.2.2.1, h.2.2.2.2.2.1, h.2.2.2.2.2.2.1, h.2.2.2.2.2.2.2.1, hk _ h.2.2.2.2.2.2.2.2⟩ | exact ⟨h.1, fun q => hk _ (h.2.1 q), fun q => hk _ (h.2.2 q)⟩ | exact ⟨h.1, h.2.1, h.2.2.1, fun q => hk _ (h.2.2.2.1 q), fun j o q1 q2 => hk _ (h.2.2.2.2 j o q1 q2)⟩ | exact ⟨hk _ h.1, hk _ h.2⟩)

theorem cm_idiv_im : cm_Mon cm_idiv := by
  intro E P t S k1 k2 h hk
  obtain ⟨pc, L, st, M⟩ := S
  unfold cm_idiv at h ⊢
  dsimp only at h ⊢
  split at h <;> (first | exact h.elim | exact hk _ h | exact ⟨h.1, hk _ h.2⟩ | exact ⟨h.1, h.2.1, hk _ h.2.2⟩ | exact ⟨h.1, h.2.1, h.2.2.1, hk _ h.2.2.2⟩ | exact ⟨h.1, h.2.1, h.2.2.1, h.2.2.2.1, hk _ h.2.2.2.2⟩ | exact ⟨h.1, h.2.1, h.2.2.1, h.2.2.2.1, h.2.2.2.2.1, hk _ h.2.2.2.2.2⟩ | exact ⟨h.1, h.2.1, h.2.2.1, h.2.2.2.1, h.2.2.2.2.1, h.2.2.2.2.2.1, h.2.2.2.2.2.2.1, h.2.2.2.2.2.2.2.1, hk _ h.2.2.2.2.2.2.2.2⟩ | exact ⟨h.1, fun q => hk _ (h.2.1 q), fun q => hk _ (h.2.2 q)⟩ | exact ⟨h.1, h.2.1, h.2.2.1, fun q => hk _ (h.2.2.2.1 q), fun j o q1 q2 => hk _ (h.2.2.2.2 j o q1 q2)⟩ | exact ⟨hk _ h.1, hk _ h.2⟩)

theorem cm_irem_im : cm_Mon cm_irem := by
  intro E P t S k1 k2 h hk
  obtain ⟨pc, L, st, M⟩ := S
  unfold cm_irem at h ⊢
  dsimp only at h ⊢
  split at h <;> (first | exact h.elim | exact hk _ h | exact ⟨h.1, hk _ h.2⟩ | exact ⟨h.1, h.2.1, hk _ h.2.2⟩ | exact ⟨h.1, h.2.1, h.2.2.1, hk _ h.2.2.2⟩ | exact ⟨h.1, h.2.1, h.2.2.1, h.2.2.2.1, hk _ h.2.2.2.2⟩ | exact ⟨h.1, h.2.1, h.2.2.1, h.2.2.2.1, h.2.2.2.2.1, hk _ h.2.2.2.2.2⟩ | exact ⟨h.1, h.2.1, h.2.2.1, h.2.2.2.1, h.2.2.2.2.1, h.2.2.2.2.2.1, h.2.2.2.2.2.2.1, h.2.2.2.2.2.2.2.1, hk _ h.2.2.2.2.2.2.2.2⟩ | exact ⟨h.1, fun q => hk _ (h.2.1 q), fun q => hk _ (h.2.2 q)⟩ | exact ⟨h.1, h.2.1, h.2.2.1, fun q => hk _ (h.2.2.2.1 q), fun j o q1 q2 => hk _ (h.2.2.2.2 j o q1 q2)⟩ | exact ⟨hk _ h.1, hk _ h.2⟩)

theorem cm_ineg_im : cm_Mon cm_ineg := by
  intro E P t S k1 k2 h hk
  obtain ⟨pc, L, st, M⟩ := S
  unfold cm_ineg at h ⊢
  dsimp only at h ⊢
  split at h <;> (first | exact h.elim | exact hk _ h | exact ⟨h.1, hk _ h.2⟩ | exact ⟨h.1, h.2.1, hk _ h.2.2⟩ | exact ⟨h.1, h.2.1, h.2.2.1, hk _ h.2.2.2⟩ | exact ⟨h.1, h.2.1, h.2.2.1, h.2.2.2.1, hk _ h.2.2.2.2⟩ | exact ⟨h.1, h.2.1, h.2.2.1, h.2.2.2.1, h.2.2.2.2.1, hk _ h.2.2.2.2.2⟩ | exact ⟨h.1, h.2.1, h.2.2.1, h.2.2.2.1, h.2.2.2.2.1, h.2.2.2.2.2.1, h.2.2.2.2.2.2.1, h.2.2.2.2.2.2.2.1, hk _ h.2.2.2.2.2.2.2.2⟩ | exact ⟨h.1, fun q => hk _ (h.2.1 q), fun q => hk _ (h.2.2 q)⟩ | exact ⟨h.1, h.2.1, h.2.2.1, fun q => hk _ (h.2.2.2.1 q), fun j o q1 q2 => hk _ (h.2.2.2.2 j o q1 q2)⟩ | exact ⟨hk _ h.1, hk _ h.2⟩)

theorem cm_i2b_im : cm_Mon cm_i2b := by
  intro E P t S k1 k2 h hk
  obtain ⟨pc, L, st, M⟩ := S
  unfold cm_i2b at h ⊢
  dsimp only at h ⊢
  split at h <;> (first | exact h.elim | exact hk _ h | exact ⟨h.1, hk _ h.2⟩ | exact ⟨h.1, h.2.1, hk _ h.2.2⟩ | exact ⟨h.1, h.2.1, h.2.2.1, hk _ h.2.2.2⟩ | exact ⟨h.1, h.2.1, h.2.2.1, h.2.2.2.1, hk _ h.2.2.2.2⟩ | exact ⟨h.1, h.2.1, h.2.2.1, h.2.2.2.1, h.2.2.2.2.1, hk _ h.2.2.2.2.2⟩ | exact ⟨h.1, h.2.1, h.2.2.1, h.2.2.2.1, h.2.2.2.2.1, h.2.2.2.2.2.1, h.2.2.2.2.2.2.1, h.2.2.2.2.2.2.2.1, hk _ h.2.2.2.2.2.2.2.2⟩ | exact ⟨h.1, fun q => hk _ (h.2.1 q), fun q => hk _ (h.2.2 q)⟩ | exact ⟨h.1, h.2.1, h.2.2.1, fun q => hk _ (h.2.2.2.1 q), fun j o q1 q2 => hk _ (h.2.2.2.2 j o q1 q2)⟩ | exact ⟨hk _ h.1, hk _ h.2⟩)

theorem cm_i2l_im : cm_Mon cm_i2l := by
  intro E P t S k1 k2 h hk
  obtain ⟨pc, L, st, M⟩ := S
  unfold cm_i2l at h ⊢
  dsimp only at h ⊢
  split at h <;> (first | exact h.elim | exact hk _ h | exact ⟨h.1, hk _ h.2⟩ | exact ⟨h.1, h.2.1, hk _ h.2.2⟩ | exact ⟨h.1, h.2.1, h.2.2.1, hk _ h.2.2.2⟩ | exact ⟨h.1, h.2.1, h.2.2.1, h.2.2.2.1, hk _ h.2.2.2.2⟩ | exact ⟨h.1, h.2.1, h.2.2.1, h.2.2.2.1, h.2.2.2.2.1, hk _ h.2.2.2.2.2⟩ | exact ⟨h.1, h.2.1, h.2.2.1, h.2.2.2.1, h.2.2.2.2.1, h.2.2.2.2.2.1, h.2.2.2.2.2.2.1, h.2.2.2.2.2.2.2.1, hk _ h.2.2.2.2.2.2.2.2⟩ | exact ⟨h.1, fun q => hk _ (h.2.1 q), fun q => hk _ (h.2.2 q)⟩ | exact ⟨h.1, h.2.1, h.2.2.1, fun q => hk _ (h.2.2.2.1 q), fun j o q1 q2 => hk _ (h.2.2.2.2 j o q1 q2)⟩ | exact ⟨hk _ h.1, hk _ h.2⟩)

theorem cm_lcmp_im : cm_Mon cm_lcmp := by
  intro E P t S k1 k2 h hk
  obtain ⟨pc, L, st, M⟩ := S
  unfold cm_lcmp at h ⊢
  dsimp only at h ⊢
  split at h <;> (first | exact h.elim | exact hk _ h | exact ⟨h.1, hk _ h.2⟩ | exact ⟨h.1, h.2.1, hk _ h.2.2⟩ | exact ⟨h.1, h.2.1, h.2.2.1, hk _ h.2.2.2⟩ | exact ⟨h.1, h.2.1, h.2.2.1, h.2.2.2.1, hk _ h.2.2.2.2⟩ | exact ⟨h.1, h.2.1, h.2.2.1, h.2.2.2.1, h.2.2.2.2.1, hk _ h.2.2.2.2.2⟩ | exact ⟨h.1, h.2.1, h.2.2.1, h.2.2.2.1, h.2.2.2.2.1, h.2.2.2.2.2.1, h.2.2.2.2.2.2.1, h.2.2.2.2.2.2.2.1, hk _ h.2.2.2.2.2.2.2.2⟩ | exact ⟨h.1, fun q => hk _ (h.2.1 q), fun q => hk _ (h.2.2 q)⟩ | exact ⟨h.1, h.2.1, h.2.2.1, fun q => hk _ (h.2.2.2.1 q), fun j o q1 q2 => hk _ (h.2.2.2.2 j o q1 q2)⟩ | exact ⟨hk _ h.1, hk _ h.2⟩)

theorem cm_dup_im : cm_Mon cm_dup := by
  intro E P t S k1 k2 h hk
  obtain ⟨pc, L, st, M⟩ := S
  unfold cm_dup at h ⊢
  dsimp only at h ⊢
  split at h <;> (first | exact h.elim | exact hk _ h | exact ⟨h.1, hk _ h.2⟩ | exact ⟨h.1, h.2.1, hk _ h.2.2⟩ | exact ⟨h.1, h.2.1, h.2.2.1, hk _ h.2.2.2⟩ | exact ⟨h.1, h.2.1, h.2.2.1, h.2.2.2.1, hk _ h.2.2.2.2⟩ | exact ⟨h.1, h.2.1, h.2.2.1, h.2.2.2.1, h.2.2.2.2.1, hk _ h.2.2.2.2.2⟩ | exact ⟨h.1, h.2.1, h.2.2.1, h.2.2.2.1, h.2.2.2.2.1, h.2.2.2.2.2.1, h.2.2.2.2.2.2.1, h.2.2.2.2.2.2.2.1, hk _ h.2.2.2.2.2.2.2.2⟩ | exact ⟨h.1, fun q => hk _ (h.2.1 q), fun q => hk _ (h.2.2 q)⟩ | exact ⟨h.1, h.2.1, h.2.2.1, fun q => hk _ (h.2.2.2.1 q), fun j o q1 q2 => hk _ (h.2.2.2.2 j o q1 q2)⟩ | exact ⟨hk _ h.1, hk _ h.2⟩)

theorem cm_pop_im : cm_Mon cm_pop := by
  intro E P t S k1 k2 h hk
  obtain ⟨pc, L, st, M⟩ := S
  unfold cm_pop at h ⊢
  dsimp only at h ⊢
  split at h <;> (first | exact h.elim | exact hk _ h | exact ⟨h.1, hk _ h.2⟩ | exact ⟨h.1, h.2.1, hk _ h.2.2⟩ | exact ⟨h.1, h.2.1, h.2.2.1, hk _ h.2.2.2⟩ | exact ⟨h.1, h.2.1, h.2.2.1, h.2.2.2.1, hk _ h.2.2.2.2⟩ | exact ⟨h.1, h.2.1, h.2.2.1, h.2.2.2.1, h.2.2.2.2.1, hk _ h.2.2.2.2.2⟩ | exact ⟨h.1, h.2.1, h.2.2.1, h.2.2.2.1, h.2.2.2.2.1, h.2.2.2.2.2.1, h.2.2.2.2.2.2.1, h.2.2.2.2.2.2.2.1, hk _ h.2.2.2.2.2.2.2.2⟩ | exact ⟨h.1, fun q => hk _ (h.2.1 q), fun q => hk _ (h.2.2 q)⟩ | exact ⟨h.1, h.2.1, h.2.2.1, fun q => hk _ (h.2.2.2.1 q), fun j o q1 q2 => hk _ (h.2.2.2.2 j o q1 q2)⟩ | exact ⟨hk _ h.1, hk _ h.2⟩)

theorem cm_dup2_im : cm_Mon cm_dup2 := by
  intro E P t S k1 k2 h hk
  obtain ⟨pc, L, st, M⟩ := S
  unfold cm_dup2 at h ⊢
  dsimp only at h ⊢
  split at h <;> (first | exact h.elim | exact hk _ h | exact ⟨h.1, hk _ h.2⟩ | exact ⟨h.1, h.2.1, hk _ h.2.2⟩ | exact ⟨h.1, h.2.1, h.2.2.1, hk _ h.2.2.2⟩ | exact ⟨h.1, h.2.1, h.2.2.1, h.2.2.2.1, hk _ h.2.2.2.2⟩ | exact ⟨h.1, h.2.1, h.2.2.1, h.2.2.2.1, h.2.2.2.2.1, hk _ h.2.2.2.2.2⟩ | exact ⟨h.1, h.2.1, h.2.2.1, h.2.2.2.1, h.2.2.2.2.1, h.2.2.2.2.2.1, h.2.2.2.2.2.2.1, h.2.2.2.2.2.2.2.1, hk _ h.2.2.2.2.2.2.2.2⟩ | exact ⟨h.1, fun q => hk _ (h.2.1 q), fun q => hk _ (h.2.2 q)⟩ | exact ⟨h.1, h.2.1, h.2.2.1, fun q => hk _ (h.2.2.2.1 q), fun j o q1 q2 => hk _ (h.2.2.2.2 j o q1 q2)⟩ | exact ⟨hk _ h.1, hk _ h.2⟩)

theorem cm_iinc_im : cm_Mon cm_iinc := by
  intro E P t S k1 k2 h hk
  obtain ⟨pc, L, st, M⟩ := S
  unfold cm_iinc at h ⊢
  dsimp only at h ⊢
  split at h <;> first | exact h.elim | exact ⟨h.1, hk _ h.2⟩

theorem cm_icmp_eq_im : cm_Mon cm_icmp_eq := by
  intro E P t S k1 k2 h hk
  obtain ⟨pc, L, st, M⟩ := S
  unfold cm_icmp_eq at h ⊢
  dsimp only at h ⊢
  split at h <;> (first | exact h.elim | exact hk _ h | exact ⟨h.1, hk _ h.2⟩ | exact ⟨h.1, h.2.1, hk _ h.2.2⟩ | exact ⟨h.1, h.2.1, h.2.2.1, hk _ h.2.2.2⟩ | exact ⟨h.1, h.2.1, h.2.2.1, h.2.2.2.1, hk _ h.2.2.2.2⟩ | exact ⟨h.1, h.2.1, h.2.2.1, h.2.2.2.1, h.2.2.2.2.1, hk _ h.2.2.2.2.2⟩ | exact ⟨h.1, h.2.1, h.2.2.1, h.2.2.2.1, h.2.2.2.2.1, h.2.2.2.2.2.1, h.2.2.2.2.2.2.1, h.2.2.2.2.2.2.2.1, hk _ h.2.2.2.2.2.2.2.2⟩ | exact ⟨h.1, fun q => hk _ (h.2.1 q), fun q => hk _ (h.2.2 q)⟩ | exact ⟨h.1, h.2.1, h.2.2.1, fun q => hk _ (h.2.2.2.1 q), fun j o q1 q2 => hk _ (h.2.2.2.2 j o q1 q2)⟩ | exact ⟨hk _ h.1, hk _ h.2⟩)

theorem cm_icmp_ne_im : cm_Mon cm_icmp_ne := by
  intro E P t S k1 k2 h hk
  obtain ⟨pc, L, st, M⟩ := S
  unfold cm_icmp_ne at h ⊢
  dsimp only at h ⊢
  split at h <;> (first | exact h.elim | exact hk _ h | exact ⟨h.1, hk _ h.2⟩ | exact ⟨h.1, h.2.1, hk _ h.2.2⟩ | exact ⟨h.1, h.2.1, h.2.2.1, hk _ h.2.2.2⟩ | exact ⟨h.1, h.2.1, h.2.2.1, h.2.2.2.1, hk _ h.2.2.2.2⟩ | exact ⟨h.1, h.2.1, h.2.2.1, h.2.2.2.1, h.2.2.2.2.1, hk _ h.2.2.2.2.2⟩ | exact ⟨h.1, h.2.1, h.2.2.1, h.2.2.2.1, h.2.2.2.2.1, h.2.2.2.2.2.1, h.2.2.2.2.2.2.1, h.2.2.2.2.2.2.2.1, hk _ h.2.2.2.2.2.2.2.2⟩ | exact ⟨h.1, fun q => hk _ (h.2.1 q), fun q => hk _ (h.2.2 q)⟩ | exact ⟨h.1, h.2.1, h.2.2.1, fun q => hk _ (h.2.2.2.1 q), fun j o q1 q2 => hk _ (h.2.2.2.2 j o q1 q2)⟩ | exact ⟨hk _ h.1, hk _ h.2⟩)

theorem cm_icmp_lt_im : cm_Mon cm_icmp_lt := by
  intro E P t S k1 k2 h hk
  obtain ⟨pc, L, st, M⟩ := S
  unfold cm_icmp_lt at h ⊢
  dsimp only at h ⊢
  split at h <;> (first | exact h.elim | exact hk _ h | exact ⟨h.1, hk _ h.2⟩ | exact ⟨h.1, h.2.1, hk _ h.2.2⟩ | exact ⟨h.1, h.2.1, h.2.2.1, hk _ h.2.2.2⟩ | exact ⟨h.1, h.2.1, h.2.2.1, h.2.2.2.1, hk _ h.2.2.2.2⟩ | exact ⟨h.1, h.2.1, h.2.2.1, h.2.2.2.1, h.2.2.2.2.1, hk _ h.2.2.2.2.2⟩ | exact ⟨h.1, h.2.1, h.2.2.1, h.2.2.2.1, h.2.2.2.2.1, h.2.2.2.2.2.1, h.2.2.2.2.2.2.1, h.2.2.2.2.2.2.2.1, hk _ h.2.2.2.2.2.2.2.2⟩ | exact ⟨h.1, fun q => hk _ (h.2.1 q), fun q => hk _ (h.2.2 q)⟩ | exact ⟨h.1, h.2.1, h.2.2.1, fun q => hk _ (h.2.2.2.1 q), fun j o q1 q2 => hk _ (h.2.2.2.2 j o q1 q2)⟩ | exact ⟨hk _ h.1, hk _ h.2⟩)

theorem cm_icmp_ge_im : cm_Mon cm_icmp_ge := by
  intro E P t S k1 k2 h hk
  obtain ⟨pc, L, st, M⟩ := S
  unfold cm_icmp_ge at h ⊢
  dsimp only at h ⊢
  split at h <;> (first | exact h.elim | exact hk _ h | exact ⟨h.1, hk _ h.2⟩ | exact ⟨h.1, h.2.1, hk _ h.2.2⟩ | exact ⟨h.1, h.2.1, h.2.2.1, hk _ h.2.2.2⟩ | exact ⟨h.1, h.2.1, h.2.2.1, h.2.2.2.1, hk _ h.2.2.2.2⟩ | exact ⟨h.1, h.2.1, h.2.2.1, h.2.2.2.1, h.2.2.2.2.1, hk _ h.2.2.2.2.2⟩ | exact ⟨h.1, h.2.1, h.2.2.1, h.2.2.2.1, h.2.2.2.2.1, h.2.2.2.2.2.1, h.2.2.2.2.2.2.1, h.2.2.2.2.2.2.2.1, hk _ h.2.2.2.2.2.2.2.2⟩ | exact ⟨h.1, fun q => hk _ (h.2.1 q), fun q => hk _ (h.2.2 q)⟩ | exact ⟨h.1, h.2.1, h.2.2.1, fun q => hk _ (h.2.2.2.1 q), fun j o q1 q2 => hk _ (h.2.2.2.2 j o q1 q2)⟩ | exact ⟨hk _ h.1, hk _ h.2⟩)

theorem cm_icmp_gt_im : cm_Mon cm_icmp_gt := by
  intro E P t S k1 k2 h hk
  obtain ⟨pc, L, st, M⟩ := S
  unfold cm_icmp_gt at h ⊢
  dsimp only at h ⊢
  split at h <;> (first | exact h.elim | exact hk _ h | exact ⟨h.1, hk _ h.2⟩ | exact ⟨h.1, h.2.1, hk _ h.2.2⟩ | exact ⟨h.1, h.2.1, h.2.2.1, hk _ h.2.2.2⟩ | exact ⟨h.1, h.2.1, h.2.2.1, h.2.2.2.1, hk _ h.2.2.2.2⟩ | exact ⟨h.1, h.2.1, h.2.2.1, h.2.2.2.1, h.2.2.2.2.1, hk _ h.2.2.2.2.2⟩ | exact ⟨h.1, h.2.1, h.2.2.1, h.2.2.2.1, h.2.2.2.2.1, h.2.2.2.2.2.1, h.2.2.2.2.2.2.1, h.2.2.2.2.2.2.2.1, hk _ h.2.2.2.2.2.2.2.2⟩ | exact ⟨h.1, fun q => hk _ (h.2.1 q), fun q => hk _ (h.2.2 q)⟩ | exact ⟨h.1, h.2.1, h.2.2.1, fun q => hk _ (h.2.2.2.1 q), fun j o q1 q2 => hk _ (h.2.2.2.2 j o q1 q2)⟩ | exact ⟨hk _ h.1, hk _ h.2⟩)

theorem cm_icmp_le_im : cm_Mon cm_icmp_le := by
  intro E P t S k1 k2 h hk
  obtain ⟨pc, L, st, M⟩ := S
  unfold cm_icmp_le at h ⊢
  dsimp only at h ⊢
  split at h <;> (first | exact h.elim | exact hk _ h | exact ⟨h.1, hk _ h.2⟩ | exact ⟨h.1, h.2.1, hk _ h.2.2⟩ | exact ⟨h.1, h.2.1, h.2.2.1, hk _ h.2.2.2⟩ | exact ⟨h.1, h.2.1, h.2.2.1, h.2.2.2.1, hk _ h.2.2.2.2⟩ | exact ⟨h.1, h.2.1, h.2.2.1, h.2.2.2.1, h.2.2.2.2.1, hk _ h.2.2.2.2.2⟩ | exact ⟨h.1, h.2.1, h.2.2.1, h.2.2.2.1, h.2.2.2.2.1, h.2.2.2.2.2.1, h.2.2.2.2.2.2.1, h.2.2.2.2.2.2.2.1, hk _ h.2.2.2.2.2.2.2.2⟩ | exact ⟨h.1, fun q => hk _ (h.2.1 q), fun q => hk _ (h.2.2 q)⟩ | exact ⟨h.1, h.2.1, h.2.2.1, fun q => hk _ (h.2.2.2.1 q), fun j o q1 q2 => hk _ (h.2.2.2.2 j o q1 q2)⟩ | exact ⟨hk _ h.1, hk _ h.2⟩)

theorem cm_if_eq_im : cm_Mon cm_if_eq := by
  intro E P t S k1 k2 h hk
  obtain ⟨pc, L, st, M⟩ := S
  unfold cm_if_eq at h ⊢
  dsimp only at h ⊢
  split at h <;> (first | exact h.elim | exact hk _ h | exact ⟨h.1, hk _ h.2⟩ | exact ⟨h.1, h.2.1, hk _ h.2.2⟩ | exact ⟨h.1, h.2.1, h.2.2.1, hk _ h.2.2.2⟩ | exact ⟨h.1, h.2.1, h.2.2.1, h.2.2.2.1, hk _ h.2.2.2.2⟩ | exact ⟨h.1, h.2.1, h.2.2.1, h.2.2.2.1, h.2.2.2.2.1, hk _ h.2.2.2.2.2⟩ | exact ⟨h.1, h.2.1, h.2.2.1, h.2.2.2.1, h.2.2.2.2.1, h.2.2.2.2.2.1, h.2.2.2.2.2.2.1, h.2.2.2.2.2.2.2.1, hk _ h.2.2.2.2.2.2.2.2⟩ | exact ⟨h.1, fun q => hk _ (h.2.1 q), fun q => hk _ (h.2.2 q)⟩ | exact ⟨h.1, h.2.1, h.2.2.1, fun q => hk _ (h.2.2.2.1 q), fun j o q1 q2 => hk _ (h.2.2.2.2 j o q1 q2)⟩ | exact ⟨hk _ h.1, hk _ h.2⟩)

theorem cm_if_ne_im : cm_Mon cm_if_ne := by
  intro E P t S k1 k2 h hk
  obtain ⟨pc, L, st, M⟩ := S
  unfold cm_if_ne at h ⊢
  dsimp only at h ⊢
  split at h <;> (first | exact h.elim | exact hk _ h | exact ⟨h.1, hk _ h.2⟩ | exact ⟨h.1, h.2.1, hk _ h.2.2⟩ | exact ⟨h.1, h.2.1, h.2.2.1, hk _ h.2.2.2⟩ | exact ⟨h.1, h.2.1, h.2.2.1, h.2.2.2.1, hk _ h.2.2.2.2⟩ | exact ⟨h.1, h.2.1, h.2.2.1, h.2.2.2.1, h.2.2.2.2.1, hk _ h.2.2.2.2.2⟩ | exact ⟨h.1, h.2.1, h.2.2.1, h.2.2.2.1, h.2.2.2.2.1, h.2.2.2.2.2.1, h.2.2.2.2.2.2.1, h.2.2.2.2.2.2.2.1, hk _ h.2.2.2.2.2.2.2.2⟩ | exact ⟨h.1, fun q => hk _ (h.2.1 q), fun q => hk _ (h.2.2 q)⟩ | exact ⟨h.1, h.2.1, h.2.2.1, fun q => hk _ (h.2.2.2.1 q), fun j o q1 q2 => hk _ (h.2.2.2.2 j o q1 q2)⟩ | exact ⟨hk _ h.1, hk _ h.2⟩)

theorem cm_if_lt_im : cm_Mon cm_if_lt := by
  intro E P t S k1 k2 h hk
  obtain ⟨pc, L, st, M⟩ := S
  unfold cm_if_lt at h ⊢
  dsimp only at h ⊢
  split at h <;> (first | exact h.elim | exact hk _ h | exact ⟨h.1, hk _ h.2⟩ | exact ⟨h.1, h.2.1, hk _ h.2.2⟩ | exact ⟨h.1, h.2.1, h.2.2.1, hk _ h.2.2.2⟩ | exact ⟨h.1, h.2.1, h.2.2.1, h.2.2.2.1, hk _ h.2.2.2.2⟩ | exact ⟨h.1, h.2.1, h.2.2.1, h.2.2.2.1, h.2.2.2.2.1, hk _ h.2.2.2.2.2⟩ | exact ⟨h.1, h.2.1, h.2.2.1, h.2.2.2.1, h.2.2.2.2.1, h.2.2.2.2.2.1, h.2.2.2.2.2.2.1, h.2.2.2.2.2.2.2.1, hk _ h.2.2.2.2.2.2.2.2⟩ | exact ⟨h.1, fun q => hk _ (h.2.1 q), fun q => hk _ (h.2.2 q)⟩ | exact ⟨h.1, h.2.1, h.2.2.1, fun q => hk _ (h.2.2.2.1 q), fun j o q1 q2 => hk _ (h.2.2.2.2 j o q1 q2)⟩ | exact ⟨hk _ h.1, hk _ h.2⟩)

theorem cm_if_ge_im : cm_Mon cm_if_ge := by
  intro E P t S k1 k2 h hk
  obtain ⟨pc, L, st, M⟩ := S
  unfold cm_if_ge at h ⊢
  dsimp only at h ⊢
  split at h <;> (first | exact h.elim | exact hk _ h | exact ⟨h.1, hk _ h.2⟩ | exact ⟨h.1, h.2.1, hk _ h.2.2⟩ | exact ⟨h.1, h.2.1, h.2.2.1, hk _ h.2.2.2⟩ | exact ⟨h.1, h.2.1, h.2.2.1, h.2.2.2.1, hk _ h.2.2.2.2⟩ | exact ⟨h.1, h.2.1, h.2.2.1, h.2.2.2.1, h.2.2.2.2.1, hk _ h.2.2.2.2.2⟩ | exact ⟨h.1, h.2.1, h.2.2.1, h.2.2.2.1, h.2.2.2.2.1, h.2.2.2.2.2.1, h.2.2.2.2.2.2.1, h.2.2.2.2.2.2.2.1, hk _ h.2.2.2.2.2.2.2.2⟩ | exact ⟨h.1, fun q => hk _ (h.2.1 q), fun q => hk _ (h.2.2 q)⟩ | exact ⟨h.1, h.2.1, h.2.2.1, fun q => hk _ (h.2.2.2.1 q), fun j o q1 q2 => hk _ (h.2.2.2.2 j o q1 q2)⟩ | exact ⟨hk _ h.1, hk _ h.2⟩)

theorem cm_if_gt_im : cm_Mon cm_if_gt := by
  intro E P t S k1 k2 h hk
  obtain ⟨pc, L, st, M⟩ := S
  unfold cm_if_gt at h ⊢
  dsimp only at h ⊢
  split at h <;> (first | exact h.elim | exact hk _ h | exact ⟨h.1, hk _ h.2⟩ | exact ⟨h.1, h.2.1, hk _ h.2.2⟩ | exact ⟨h.1, h.2.1, h.2.2.1, hk _ h.2.2.2⟩ | exact ⟨h.1, h.2.1, h.2.2.1, h.2.2.2.1, hk _ h.2.2.2.2⟩ | exact ⟨h.1, h.2.1, h.2.2.1, h.2.2.2.1, h.2.2.2.2.1, hk _ h.2.2.2.2.2⟩ | exact ⟨h.1, h.2.1, h.2.2.1, h.2.2.2.1, h.2.2.2.2.1, h.2.2.2.2.2.1, h.2.2.2.2.2.2.1, h.2.2.2.2.2.2.2.1, hk _ h.2.2.2.2.2.2.2.2⟩ | exact ⟨h.1, fun q => hk _ (h.2.1 q), fun q => hk _ (h.2.2 q)⟩ | exact ⟨h.1, h.2.1, h.2.2.1, fun q => hk _ (h.2.2.2.1 q), fun j o q1 q2 => hk _ (h.2.2.2.2 j o q1 q2)⟩ | exact ⟨hk _ h.1, hk _ h.2⟩)

theorem cm_if_le_im : cm_Mon cm_if_le := by
  intro E P t S k1 k2 h hk
  obtain ⟨pc, L, st, M⟩ := S
  unfold cm_if_le at h ⊢
  dsimp only at h ⊢
  split at h <;> (first | exact h.elim | exact hk _ h | exact ⟨h.1, hk _ h.2⟩ | exact ⟨h.1, h.2.1, hk _ h.2.2⟩ | exact ⟨h.1, h.2.1, h.2.2.1, hk _ h.2.2.2⟩ | exact ⟨h.1, h.2.1, h.2.2.1, h.2.2.2.1, hk _ h.2.2.2.2⟩ | exact ⟨h.1, h.2.1, h.2.2.1, h.2.2.2.1, h.2.2.2.2.1, hk _ h.2.2.2.2.2⟩ | exact ⟨h.1, h.2.1, h.2.2.1, h.2.2.2.1, h.2.2.2.2.1, h.2.2.2.2.2.1, h.2.2.2.2.2.2.1, h.2.2.2.2.2.2.2.1, hk _ h.2.2.2.2.2.2.2.2⟩ | exact ⟨h.1, fun q => hk _ (h.2.1 q), fun q => hk _ (h.2.2 q)⟩ | exact ⟨h.1, h.2.1, h.2.2.1, fun q => hk _ (h.2.2.2.1 q), fun j o q1 q2 => hk _ (h.2.2.2.2 j o q1 q2)⟩ | exact ⟨hk _ h.1, hk _ h.2⟩)

theorem cm_goto_im : cm_Mon cm_goto := by
  intro E P t S k1 k2 h hk
  obtain ⟨pc, L, st, M⟩ := S
  unfold cm_goto at h ⊢
  dsimp only at h ⊢
  first | exact h.elim | exact hk _ h | exact ⟨h.1, hk _ h.2⟩ | exact ⟨h.1, h.2.1, hk _ h.2.2⟩ | exact ⟨h.1, h.2.1, h.2.2.1, hk _ h.2.2.2⟩ | exact ⟨h.1, h.2.1, h.2.2.1, h.2.2.2.1, hk _ h.2.2.2.2⟩ | exact ⟨h.1, h.2.1, h.2.2.1, h.2.2.2.1, h.2.2.2.2.1, hk _ h.2.2.2.2.2⟩ | exact ⟨h.1, h.2.1, h.2.2.1, h.2.2.2.1, h.2.2.2.2.1, h.2.2.2.2.2.1, h.2.2.2.2.2.2.1, h.2.2.2.2.2.2.2.1, hk _ h.2.2.2.2.2.2.2.2⟩ | exact ⟨h.1, fun q => hk _ (h.2.1 q), fun q => hk _ (h.2.2 q)⟩ | exact ⟨h.1, h.2.1, h.2.2.1, fun q => hk _ (h.2.2.2.1 q), fun j o q1 q2 => hk _ (h.2.2.2.2 j o q1 q2)⟩ | exact ⟨hk _ h.1, hk _ h.2⟩

theorem cm_sw_im : cm_Mon cm_sw := by
  intro E P t S k1 k2 h hk
  obtain ⟨pc, L, st, M⟩ := S
  unfold cm_sw at h ⊢
  dsimp only at h ⊢
  split at h
  · exact ⟨h.1, h.2.1, h.2.2.1, fun q => hk _ (h.2.2.2.1 q), fun j o q1 q2 => hk _ (h.2.2.2.2 j o q1 q2)⟩
  · exact h.elim

theorem cm_get_im : cm_Mon cm_get := by
  intro E P t S k1 k2 h hk
  obtain ⟨pc, L, st, M⟩ := S
  unfold cm_get at h ⊢
  dsimp only at h ⊢
  split at h <;> (first | exact h.elim | exact hk _ h | exact ⟨h.1, hk _ h.2⟩ | exact ⟨h.1, h.2.1, hk _ h.2.2⟩ | exact ⟨h.1, h.2.1, h.2.2.1, hk _ h.2.2.2⟩ | exact ⟨h.1, h.2.1, h.2.2.1, h.2.2.2.1, hk _ h.2.2.2.2⟩ | exact ⟨h.1, h.2.1, h.2.2.1, h.2.2.2.1, h.2.2.2.2.1, hk _ h.2.2.2.2.2⟩ | exact ⟨h.1, h.2.1, h.2.2.1, h.2.2.2.1, h.2.2.2.2.1, h.2.2.2.2.2.1, h.2.2.2.2.2.2.1, h.2.2.2.2.2.2.2.1, hk _ h.2.2.2.2.2.2.2.2⟩ | exact ⟨h.1, fun q => hk _ (h.2.1 q), fun q => hk _ (h.2.2 q)⟩ | exact ⟨h.1, h.2.1, h.2.2.1, fun q => hk _ (h.2.2.2.1 q), fun j o q1 q2 => hk _ (h.2.2.2.2 j o q1 q2)⟩ | exact ⟨hk _ h.1, hk _ h.2⟩)

theorem cm_put_im : cm_Mon cm_put := by
  intro E P t S k1 k2 h hk
  obtain ⟨pc, L, st, M⟩ := S
  unfold cm_put at h ⊢
  dsimp only at h ⊢
  split at h <;> (first | exact h.elim | exact hk _ h | exact ⟨h.1, hk _ h.2⟩ | exact ⟨h.1, h.2.1, hk _ h.2.2⟩ | exact ⟨h.1, h.2.1, h.2.2.1, hk _ h.2.2.2⟩ | exact ⟨h.1, h.2.1, h.2.2.1, h.2.2.2.1, hk _ h.2.2.2.2⟩ | exact ⟨h.1, h.2.1, h.2.2.1, h.2.2.2.1, h.2.2.2.2.1, hk _ h.2.2.2.2.2⟩ | exact ⟨h.1, h.2.1, h.2.2.1, h.2.2.2.1, h.2.2.2.2.1, h.2.2.2.2.2.1, h.2.2.2.2.2.2.1, h.2.2.2.2.2.2.2.1, hk _ h.2.2.2.2.2.2.2.2⟩ | exact ⟨h.1, fun q => hk _ (h.2.1 q), fun q => hk _ (h.2.2 q)⟩ | exact ⟨h.1, h.2.1, h.2.2.1, fun q => hk _ (h.2.2.2.1 q), fun j o q1 q2 => hk _ (h.2.2.2.2 j o q1 q2)⟩ | exact ⟨hk _ h.1, hk _ h.2⟩)

theorem cm_iaload_im : cm_Mon cm_iaload := by
  intro E P t S k1 k2 h hk
  obtain ⟨pc, L, st, M⟩ := S
  unfold cm_iaload at h ⊢
  dsimp only at h ⊢
  split at h <;> (first | exact h.elim | exact hk _ h | exact ⟨h.1, hk _ h.2⟩ | exact ⟨h.1, h.2.1, hk _ h.2.2⟩ | exact ⟨h.1, h.2.1, h.2.2.1, hk _ h.2.2.2⟩ | exact ⟨h.1, h.2.1, h.2.2.1, h.2.2.2.1, hk _ h.2.2.2.2⟩ | exact ⟨h.1, h.2.1, h.2.2.1, h.2.2.2.1, h.2.2.2.2.1, hk _ h.2.2.2.2.2⟩ | exact ⟨h.1, h.2.1, h.2.2.1, h.2.2.2.1, h.2.2.2.2.1, h.2.2.2.2.2.1, h.2.2.2.2.2.2.1, h.2.2.2.2.2.2.2.1, hk _ h.2.2.2.2.2.2.2.2⟩ | exact ⟨h.1, fun q => hk _ (h.2.1 q), fun q => hk _ (h.2.2 q)⟩ | exact ⟨h.1, h.2.1, h.2.2.1, fun q => hk _ (h.2.2.2.1 q), fun j o q1 q2 => hk _ (h.2.2.2.2 j o q1 q2)⟩ | exact ⟨hk _ h.1, hk _ h.2⟩)

theorem cm_baload_im : cm_Mon cm_baload := by
  intro E P t S k1 k2 h hk
  obtain ⟨pc, L, st, M⟩ := S
  unfold cm_baload at h ⊢
  dsimp only at h ⊢
  split at h <;> (first | exact h.elim | exact hk _ h | exact ⟨h.1, hk _ h.2⟩ | exact ⟨h.1, h.2.1, hk _ h.2.2⟩ | exact ⟨h.1, h.2.1, h.2.2.1, hk _ h.2.2.2⟩ | exact ⟨h.1, h.2.1, h.2.2.1, h.2.2.2.1, hk _ h.2.2.2.2⟩ | exact ⟨h.1, h.2.1, h.2.2.1, h.2.2.2.1, h.2.2.2.2.1, hk _ h.2.2.2.2.2⟩ | exact ⟨h.1, h.2.1, h.2.2.1, h.2.2.2.1, h.2.2.2.2.1, h.2.2.2.2.2.1, h.2.2.2.2.2.2.1, h.2.2.2.2.2.2.2.1, hk _ h.2.2.2.2.2.2.2.2⟩ | exact ⟨h.1, fun q => hk _ (h.2.1 q), fun q => hk _ (h.2.2 q)⟩ | exact ⟨h.1, h.2.1, h.2.2.1, fun q => hk _ (h.2.2.2.1 q), fun j o q1 q2 => hk _ (h.2.2.2.2 j o q1 q2)⟩ | exact ⟨hk _ h.1, hk _ h.2⟩)

theorem cm_laload_im : cm_Mon cm_laload := by
  intro E P t S k1 k2 h hk
  obtain ⟨pc, L, st, M⟩ := S
  unfold cm_laload at h ⊢
  dsimp only at h ⊢
  split at h <;> (first | exact h.elim | exact hk _ h | exact ⟨h.1, hk _ h.2⟩ | exact ⟨h.1, h.2.1, hk _ h.2.2⟩ | exact ⟨h.1, h.2.1, h.2.2.1, hk _ h.2.2.2⟩ | exact ⟨h.1, h.2.1, h.2.2.1, h.2.2.2.1, hk _ h.2.2.2.2⟩ | exact ⟨h.1, h.2.1, h.2.2.1, h.2.2.2.1, h.2.2.2.2.1, hk _ h.2.2.2.2.2⟩ | exact ⟨h.1, h.2.1, h.2.2.1, h.2.2.2.1, h.2.2.2.2.1, h.2.2.2.2.2.1, h.2.2.2.2.2.2.1, h.2.2.2.2.2.2.2.1, hk _ h.2.2.2.2.2.2.2.2⟩ | exact ⟨h.1, fun q => hk _ (h.2.1 q), fun q => hk _ (h.2.2 q)⟩ | exact ⟨h.1, h.2.1, h.2.2.1, fun q => hk _ (h.2.2.2.1 q), fun j o q1 q2 => hk _ (h.2.2.2.2 j o q1 q2)⟩ | exact ⟨hk _ h.1, hk _ h.2⟩)

theorem cm_aaload_im : cm_Mon cm_aaload := by
  intro E P t S k1 k2 h hk
  obtain ⟨pc, L, st, M⟩ := S
  unfold cm_aaload at h ⊢
  dsimp only at h ⊢
  split at h <;> (first | exact h.elim | exact hk _ h | exact ⟨h.1, hk _ h.2⟩ | exact ⟨h.1, h.2.1, hk _ h.2.2⟩ | exact ⟨h.1, h.2.1, h.2.2.1, hk _ h.2.2.2⟩ | exact ⟨h.1, h.2.1, h.2.2.1, h.2.2.2.1, hk _ h.2.2.2.2⟩ | exact ⟨h.1, h.2.1, h.2.2.1, h.2.2.2.1, h.2.2.2.2.1, hk _ h.2.2.2.2.2⟩ | exact ⟨h.1, h.2.1, h.2.2.1, h.2.2.2.1, h.2.2.2.2.1, h.2.2.2.2.2.1, h.2.2.2.2.2.2.1, h.2.2.2.2.2.2.2.1, hk _ h.2.2.2.2.2.2.2.2⟩ | exact ⟨h.1, fun q => hk _ (h.2.1 q), fun q => hk _ (h.2.2 q)⟩ | exact ⟨h.1, h.2.1, h.2.2.1, fun q => hk _ (h.2.2.2.1 q), fun j o q1 q2 => hk _ (h.2.2.2.2 j o q1 q2)⟩ | exact ⟨hk _ h.1, hk _ h.2⟩)

theorem cm_iastore_im : cm_Mon cm_iastore := by
  intro E P t S k1 k2 h hk
  obtain ⟨pc, L, st, M⟩ := S
  unfold cm_iastore at h ⊢
  dsimp only at h ⊢
  split at h <;> (first | exact h.elim | exact hk _ h | exact ⟨h.1, hk _ h.2⟩ | exact ⟨h.1, h.2.1, hk _ h.2.2⟩ | exact ⟨h.1, h.2.1, h.2.2.1, hk _ h.2.2.2⟩ | exact ⟨h.1, h.2.1, h.2.2.1, h.2.2.2.1, hk _ h.2.2.2.2⟩ | exact ⟨h.1, h.2.1, h.2.2.1, h.2.2.2.1, h.2.2.2.2.1, hk _ h.2.2.2.2.2⟩ | exact ⟨h.1, h.2.1, h.2.2.1, h.2.2.2.1, h.2.2.2.2.1, h.2.2.2.2.2.1, h.2.2.2.2.2.2.1, h.2.2.2.2.2.2.2.1, hk _ h.2.2.2.2.2.2.2.2⟩ | exact ⟨h.1, fun q => hk _ (h.2.1 q), fun q => hk _ (h.2.2 q)⟩ | exact ⟨h.1, h.2.1, h.2.2.1, fun q => hk _ (h.2.2.2.1 q), fun j o q1 q2 => hk _ (h.2.2.2.2 j o q1 q2)⟩ | exact ⟨hk _ h.1, hk _ h.2⟩)

theorem cm_bastore_im : cm_Mon cm_bastore := by
  intro E P t S k1 k2 h hk
  obtain ⟨pc, L, st, M⟩ := S
  unfold cm_bastore at h ⊢
  dsimp only at h ⊢
  split at h <;> (first | exact h.elim | exact hk _ h | exact ⟨h.1, hk _ h.2⟩ | exact ⟨h.1, h.2.1, hk _ h.2.2⟩ | exact ⟨h.1, h.2.1, h.2.2.1, hk _ h.2.2.2⟩ | exact ⟨h.1, h.2.1, h.2.2.1, h.2.2.2.1, hk _ h.2.2.2.2⟩ | exact ⟨h.1, h.2.1, h.2.2.1, h.2.2.2.1, h.2.2.2.2.1, hk _ h.2.2.2.2.2⟩ | exact ⟨h.1, h.2.1, h.2.2.1, h.2.2.2.1, h.2.2.2.2.1, h.2.2.2.2.2.1, h.2.2.2.2.2.2.1, h.2.2.2.2.2.2.2.1, hk _ h.2.2.2.2.2.2.2.2⟩ | exact ⟨h.1, fun q => hk _ (h.2.1 q), fun q => hk _ (h.2.2 q)⟩ | exact ⟨h.1, h.2.1, h.2.2.1, fun q => hk _ (h.2.2.2.1 q), fun j o q1 q2 => hk _ (h.2.2.2.2 j o q1 q2)⟩ | exact ⟨hk _ h.1, hk _ h.2⟩)

theorem cm_alen_im : cm_Mon cm_alen := by
  intro E P t S k1 k2 h hk
  obtain ⟨pc, L, st, M⟩ := S
  unfold cm_alen at h ⊢
  dsimp only at h ⊢
  split at h
  · rename_i c st'
    by_cases hc : c = 1000
    · rw [if_pos hc] at h ⊢
      cases E with
      | none => exact h.elim
      | some q => exact hk _ h
    · rw [if_neg hc] at h ⊢
      exact ⟨h.1, h.2.1, hk _ h.2.2⟩
  · exact h.elim

theorem cm_sald_im : cm_Mon cm_sald := by
  intro E P t S k1 k2 h hk
  obtain ⟨pc, L, st, M⟩ := S
  unfold cm_sald at h ⊢
  dsimp only at h ⊢
  split at h
  · exact ⟨h.1, h.2.1, h.2.2.1, hk _ h.2.2.2⟩
  · exact h.elim

theorem cm_mmin_im : cm_Mon cm_mmin := by
  intro E P t S k1 k2 h hk
  obtain ⟨pc, L, st, M⟩ := S
  unfold cm_mmin at h ⊢
  dsimp only at h ⊢
  split at h <;> (first | exact h.elim | exact hk _ h | exact ⟨h.1, hk _ h.2⟩ | exact ⟨h.1, h.2.1, hk _ h.2.2⟩ | exact ⟨h.1, h.2.1, h.2.2.1, hk _ h.2.2.2⟩ | exact ⟨h.1, h.2.1, h.2.2.1, h.2.2.2.1, hk _ h.2.2.2.2⟩ | exact ⟨h.1, h.2.1, h.2.2.1, h.2.2.2.1, h.2.2.2.2.1, hk _ h.2.2.2.2.2⟩ | exact ⟨h.1, h.2.1, h.2.2.1, h.2.2.2.1, h.2.2.2.2.1, h.2.2.2.2.2.1, h.2.2.2.2.2.2.1, h.2.2.2.2.2.2.2.1, hk _ h.2.2.2.2.2.2.2.2⟩ | exact ⟨h.1, fun q => hk _ (h.2.1 q), fun q => hk _ (h.2.2 q)⟩ | exact ⟨h.1, h.2.1, h.2.2.1, fun q => hk _ (h.2.2.2.1 q), fun j o q1 q2 => hk _ (h.2.2.2.2 j o q1 q2)⟩ | exact ⟨hk _ h.1, hk _ h.2⟩)

theorem cm_ldc_im : cm_Mon cm_ldc := by
  intro E P t S k1 k2 h hk
  obtain ⟨pc, L, st, M⟩ := S
  unfold cm_ldc at h ⊢
  dsimp only at h ⊢
  first | exact h.elim | exact hk _ h | exact ⟨h.1, hk _ h.2⟩ | exact ⟨h.1, h.2.1, hk _ h.2.2⟩ | exact ⟨h.1, h.2.1, h.2.2.1, hk _ h.2.2.2⟩ | exact ⟨h.1, h.2.1, h.2.2.1, h.2.2.2.1, hk _ h.2.2.2.2⟩ | exact ⟨h.1, h.2.1, h.2.2.1, h.2.2.2.1, h.2.2.2.2.1, hk _ h.2.2.2.2.2⟩ | exact ⟨h.1, h.2.1, h.2.2.1, h.2.2.2.1, h.2.2.2.2.1, h.2.2.2.2.2.1, h.2.2.2.2.2.2.1, h.2.2.2.2.2.2.2.1, hk _ h.2.2.2.2.2.2.2.2⟩ | exact ⟨h.1, fun q => hk _ (h.2.1 q), fun q => hk _ (h.2.2 q)⟩ | exact ⟨h.1, h.2.1, h.2.2.1, fun q => hk _ (h.2.2.2.1 q), fun j o q1 q2 => hk _ (h.2.2.2.2 j o q1 q2)⟩ | exact ⟨hk _ h.1, hk _ h.2⟩

theorem cm_ldcS_im : cm_Mon cm_ldcS := by
  intro E P t S k1 k2 h hk
  obtain ⟨pc, L, st, M⟩ := S
  unfold cm_ldcS at h ⊢
  dsimp only at h ⊢
  first | exact h.elim | exact hk _ h | exact ⟨h.1, hk _ h.2⟩ | exact ⟨h.1, h.2.1, hk _ h.2.2⟩ | exact ⟨h.1, h.2.1, h.2.2.1, hk _ h.2.2.2⟩ | exact ⟨h.1, h.2.1, h.2.2.1, h.2.2.2.1, hk _ h.2.2.2.2⟩ | exact ⟨h.1, h.2.1, h.2.2.1, h.2.2.2.1, h.2.2.2.2.1, hk _ h.2.2.2.2.2⟩ | exact ⟨h.1, h.2.1, h.2.2.1, h.2.2.2.1, h.2.2.2.2.1, h.2.2.2.2.2.1, h.2.2.2.2.2.2.1, h.2.2.2.2.2.2.2.1, hk _ h.2.2.2.2.2.2.2.2⟩ | exact ⟨h.1, fun q => hk _ (h.2.1 q), fun q => hk _ (h.2.2 q)⟩ | exact ⟨h.1, h.2.1, h.2.2.1, fun q => hk _ (h.2.2.2.1 q), fun j o q1 q2 => hk _ (h.2.2.2.2 j o q1 q2)⟩ | exact ⟨hk _ h.1, hk _ h.2⟩

theorem cm_getV_im : cm_Mon cm_getV := by
  intro E P t S k1 k2 h hk
  obtain ⟨pc, L, st, M⟩ := S
  unfold cm_getV at h ⊢
  dsimp only at h ⊢
  split at h <;> (first | exact h.elim | exact hk _ h | exact ⟨h.1, hk _ h.2⟩ | exact ⟨h.1, h.2.1, hk _ h.2.2⟩ | exact ⟨h.1, h.2.1, h.2.2.1, hk _ h.2.2.2⟩ | exact ⟨h.1, h.2.1, h.2.2.1, h.2.2.2.1, hk _ h.2.2.2.2⟩ | exact ⟨h.1, h.2.1, h.2.2.1, h.2.2.2.1, h.2.2.2.2.1, hk _ h.2.2.2.2.2⟩ | exact ⟨h.1, h.2.1, h.2.2.1, h.2.2.2.1, h.2.2.2.2.1, h.2.2.2.2.2.1, h.2.2.2.2.2.2.1, h.2.2.2.2.2.2.2.1, hk _ h.2.2.2.2.2.2.2.2⟩ | exact ⟨h.1, fun q => hk _ (h.2.1 q), fun q => hk _ (h.2.2 q)⟩ | exact ⟨h.1, h.2.1, h.2.2.1, fun q => hk _ (h.2.2.2.1 q), fun j o q1 q2 => hk _ (h.2.2.2.2 j o q1 q2)⟩ | exact ⟨hk _ h.1, hk _ h.2⟩)

theorem cm_getC_im : cm_Mon cm_getC := by
  intro E P t S k1 k2 h hk
  obtain ⟨pc, L, st, M⟩ := S
  unfold cm_getC at h ⊢
  dsimp only at h ⊢
  split at h <;> (first | exact h.elim | exact hk _ h | exact ⟨h.1, hk _ h.2⟩ | exact ⟨h.1, h.2.1, hk _ h.2.2⟩ | exact ⟨h.1, h.2.1, h.2.2.1, hk _ h.2.2.2⟩ | exact ⟨h.1, h.2.1, h.2.2.1, h.2.2.2.1, hk _ h.2.2.2.2⟩ | exact ⟨h.1, h.2.1, h.2.2.1, h.2.2.2.1, h.2.2.2.2.1, hk _ h.2.2.2.2.2⟩ | exact ⟨h.1, h.2.1, h.2.2.1, h.2.2.2.1, h.2.2.2.2.1, h.2.2.2.2.2.1, h.2.2.2.2.2.2.1, h.2.2.2.2.2.2.2.1, hk _ h.2.2.2.2.2.2.2.2⟩ | exact ⟨h.1, fun q => hk _ (h.2.1 q), fun q => hk _ (h.2.2 q)⟩ | exact ⟨h.1, h.2.1, h.2.2.1, fun q => hk _ (h.2.2.2.1 q), fun j o q1 q2 => hk _ (h.2.2.2.2 j o q1 q2)⟩ | exact ⟨hk _ h.1, hk _ h.2⟩)

theorem cm_gets_im : cm_Mon cm_gets := by
  intro E P t S k1 k2 h hk
  obtain ⟨pc, L, st, M⟩ := S
  unfold cm_gets at h ⊢
  dsimp only at h ⊢
  first | exact h.elim | exact hk _ h | exact ⟨h.1, hk _ h.2⟩ | exact ⟨h.1, h.2.1, hk _ h.2.2⟩ | exact ⟨h.1, h.2.1, h.2.2.1, hk _ h.2.2.2⟩ | exact ⟨h.1, h.2.1, h.2.2.1, h.2.2.2.1, hk _ h.2.2.2.2⟩ | exact ⟨h.1, h.2.1, h.2.2.1, h.2.2.2.1, h.2.2.2.2.1, hk _ h.2.2.2.2.2⟩ | exact ⟨h.1, h.2.1, h.2.2.1, h.2.2.2.1, h.2.2.2.2.1, h.2.2.2.2.2.1, h.2.2.2.2.2.2.1, h.2.2.2.2.2.2.2.1, hk _ h.2.2.2.2.2.2.2.2⟩ | exact ⟨h.1, fun q => hk _ (h.2.1 q), fun q => hk _ (h.2.2 q)⟩ | exact ⟨h.1, h.2.1, h.2.2.1, fun q => hk _ (h.2.2.2.1 q), fun j o q1 q2 => hk _ (h.2.2.2.2 j o q1 q2)⟩ | exact ⟨hk _ h.1, hk _ h.2⟩

theorem cm_alenS_im : cm_Mon cm_alenS := by
  intro E P t S k1 k2 h hk
  obtain ⟨pc, L, st, M⟩ := S
  unfold cm_alenS at h ⊢
  dsimp only at h ⊢
  split at h
  · split at h
    · rename_i hz
      first | (first | exact h.elim | exact hk _ h | exact ⟨h.1, hk _ h.2⟩ | exact ⟨h.1, h.2.1, hk _ h.2.2⟩ | exact ⟨h.1, h.2.1, h.2.2.1, hk _ h.2.2.2⟩ | exact ⟨h.1, h.2.1, h.2.2.1, h.2.2.2.1, hk _ h.2.2.2.2⟩ | exact ⟨h.1, h.2.1, h.2.2.1, h.2.2.2.1, h.2.2.2.2.1, hk _ h.2.2.2.2.2⟩ | exact ⟨h.1, h.2.1, h.2.2.1, h.2.2.2.1, h.2.2.2.2.1, h.2.2.2.2.2.1, h.2.2.2.2.2.2.1, h.2.2.2.2.2.2.2.1, hk _ h.2.2.2.2.2.2.2.2⟩ | exact ⟨h.1, fun q => hk _ (h.2.1 q), fun q => hk _ (h.2.2 q)⟩ | exact ⟨h.1, h.2.1, h.2.2.1, fun q => hk _ (h.2.2.2.1 q), fun j o q1 q2 => hk _ (h.2.2.2.2 j o q1 q2)⟩ | exact ⟨hk _ h.1, hk _ h.2⟩) | (dsimp only; rw [hz]; first | exact h.elim | exact hk _ h | exact ⟨h.1, hk _ h.2⟩ | exact ⟨h.1, h.2.1, hk _ h.2.2⟩ | exact ⟨h.1, h.2.1, h.2.2.1, hk _ h.2.2.2⟩ | exact ⟨h.1, h.2.1, h.2.2.1, h.2.2.2.1, hk _ h.2.2.2.2⟩ | exact ⟨h.1, h.2.1, h.2.2.1, h.2.2.2.1, h.2.2.2.2.1, hk _ h.2.2.2.2.2⟩ | exact ⟨h.1, h.2.1, h.2.2.1, h.2.2.2.1, h.2.2.2.2.1, h.2.2.2.2.2.1, h.2.2.2.2.2.2.1, h.2.2.2.2.2.2.2.1, hk _ h.2.2.2.2.2.2.2.2⟩ | exact ⟨h.1, fun q => hk _ (h.2.1 q), fun q => hk _ (h.2.2 q)⟩ | exact ⟨h.1, h.2.1, h.2.2.1, fun q => hk _ (h.2.2.2.1 q), fun j o q1 q2 => hk _ (h.2.2.2.2 j o q1 q2)⟩ | exact ⟨hk _ h.1, hk _ h.2⟩)
    · exact h.elim
  · exact h.elim

theorem cm_baloadS_im : cm_Mon cm_baloadS := by
  intro E P t S k1 k2 h hk
  obtain ⟨pc, L, st, M⟩ := S
  unfold cm_baloadS at h ⊢
  dsimp only at h ⊢
  split at h
  · split at h
    · rename_i hz
      first | (first | exact h.elim | exact hk _ h | exact ⟨h.1, hk _ h.2⟩ | exact ⟨h.1, h.2.1, hk _ h.2.2⟩ | exact ⟨h.1, h.2.1, h.2.2.1, hk _ h.2.2.2⟩ | exact ⟨h.1, h.2.1, h.2.2.1, h.2.2.2.1, hk _ h.2.2.2.2⟩ | exact ⟨h.1, h.2.1, h.2.2.1, h.2.2.2.1, h.2.2.2.2.1, hk _ h.2.2.2.2.2⟩ | exact ⟨h.1, h.2.1, h.2.2.1, h.2.2.2.1, h.2.2.2.2.1, h.2.2.2.2.2.1, h.2.2.2.2.2.2.1, h.2.2.2.2.2.2.2.1, hk _ h.2.2.2.2.2.2.2.2⟩ | exact ⟨h.1, fun q => hk _ (h.2.1 q), fun q => hk _ (h.2.2 q)⟩ | exact ⟨h.1, h.2.1, h.2.2.1, fun q => hk _ (h.2.2.2.1 q), fun j o q1 q2 => hk _ (h.2.2.2.2 j o q1 q2)⟩ | exact ⟨hk _ h.1, hk _ h.2⟩) | (dsimp only; rw [hz]; first | exact h.elim | exact hk _ h | exact ⟨h.1, hk _ h.2⟩ | exact ⟨h.1, h.2.1, hk _ h.2.2⟩ | exact ⟨h.1, h.2.1, h.2.2.1, hk _ h.2.2.2⟩ | exact ⟨h.1, h.2.1, h.2.2.1, h.2.2.2.1, hk _ h.2.2.2.2⟩ | exact ⟨h.1, h.2.1, h.2.2.1, h.2.2.2.1, h.2.2.2.2.1, hk _ h.2.2.2.2.2⟩ | exact ⟨h.1, h.2.1, h.2.2.1, h.2.2.2.1, h.2.2.2.2.1, h.2.2.2.2.2.1, h.2.2.2.2.2.2.1, h.2.2.2.2.2.2.2.1, hk _ h.2.2.2.2.2.2.2.2⟩ | exact ⟨h.1, fun q => hk _ (h.2.1 q), fun q => hk _ (h.2.2 q)⟩ | exact ⟨h.1, h.2.1, h.2.2.1, fun q => hk _ (h.2.2.2.1 q), fun j o q1 q2 => hk _ (h.2.2.2.2 j o q1 q2)⟩ | exact ⟨hk _ h.1, hk _ h.2⟩)
    · exact h.elim
  · exact h.elim

theorem cm_i2c_im : cm_Mon cm_i2c := by
  intro E P t S k1 k2 h hk
  obtain ⟨pc, L, st, M⟩ := S
  unfold cm_i2c at h ⊢
  dsimp only at h ⊢
  split at h <;> (first | exact h.elim | exact hk _ h | exact ⟨h.1, hk _ h.2⟩ | exact ⟨h.1, h.2.1, hk _ h.2.2⟩ | exact ⟨h.1, h.2.1, h.2.2.1, hk _ h.2.2.2⟩ | exact ⟨h.1, h.2.1, h.2.2.1, h.2.2.2.1, hk _ h.2.2.2.2⟩ | exact ⟨h.1, h.2.1, h.2.2.1, h.2.2.2.1, h.2.2.2.2.1, hk _ h.2.2.2.2.2⟩ | exact ⟨h.1, h.2.1, h.2.2.1, h.2.2.2.1, h.2.2.2.2.1, h.2.2.2.2.2.1, h.2.2.2.2.2.2.1, h.2.2.2.2.2.2.2.1, hk _ h.2.2.2.2.2.2.2.2⟩ | exact ⟨h.1, fun q => hk _ (h.2.1 q), fun q => hk _ (h.2.2 q)⟩ | exact ⟨h.1, h.2.1, h.2.2.1, fun q => hk _ (h.2.2.2.1 q), fun j o q1 q2 => hk _ (h.2.2.2.2 j o q1 q2)⟩ | exact ⟨hk _ h.1, hk _ h.2⟩)

theorem cm_ladd_im : cm_Mon cm_ladd := by
  intro E P t S k1 k2 h hk
  obtain ⟨pc, L, st, M⟩ := S
  unfold cm_ladd at h ⊢
  dsimp only at h ⊢
  split at h <;> (first | exact h.elim | exact hk _ h | exact ⟨h.1, hk _ h.2⟩ | exact ⟨h.1, h.2.1, hk _ h.2.2⟩ | exact ⟨h.1, h.2.1, h.2.2.1, hk _ h.2.2.2⟩ | exact ⟨h.1, h.2.1, h.2.2.1, h.2.2.2.1, hk _ h.2.2.2.2⟩ | exact ⟨h.1, h.2.1, h.2.2.1, h.2.2.2.1, h.2.2.2.2.1, hk _ h.2.2.2.2.2⟩ | exact ⟨h.1, h.2.1, h.2.2.1, h.2.2.2.1, h.2.2.2.2.1, h.2.2.2.2.2.1, h.2.2.2.2.2.2.1, h.2.2.2.2.2.2.2.1, hk _ h.2.2.2.2.2.2.2.2⟩ | exact ⟨h.1, fun q => hk _ (h.2.1 q), fun q => hk _ (h.2.2 q)⟩ | exact ⟨h.1, h.2.1, h.2.2.1, fun q => hk _ (h.2.2.2.1 q), fun j o q1 q2 => hk _ (h.2.2.2.2 j o q1 q2)⟩ | exact ⟨hk _ h.1, hk _ h.2⟩)

theorem cm_lsub_im : cm_Mon cm_lsub := by
  intro E P t S k1 k2 h hk
  obtain ⟨pc, L, st, M⟩ := S
  unfold cm_lsub at h ⊢
  dsimp only at h ⊢
  split at h <;> (first | exact h.elim | exact hk _ h | exact ⟨h.1, hk _ h.2⟩ | exact ⟨h.1, h.2.1, hk _ h.2.2⟩ | exact ⟨h.1, h.2.1, h.2.2.1, hk _ h.2.2.2⟩ | exact ⟨h.1, h.2.1, h.2.2.1, h.2.2.2.1, hk _ h.2.2.2.2⟩ | exact ⟨h.1, h.2.1, h.2.2.1, h.2.2.2.1, h.2.2.2.2.1, hk _ h.2.2.2.2.2⟩ | exact ⟨h.1, h.2.1, h.2.2.1, h.2.2.2.1, h.2.2.2.2.1, h.2.2.2.2.2.1, h.2.2.2.2.2.2.1, h.2.2.2.2.2.2.2.1, hk _ h.2.2.2.2.2.2.2.2⟩ | exact ⟨h.1, fun q => hk _ (h.2.1 q), fun q => hk _ (h.2.2 q)⟩ | exact ⟨h.1, h.2.1, h.2.2.1, fun q => hk _ (h.2.2.2.1 q), fun j o q1 q2 => hk _ (h.2.2.2.2 j o q1 q2)⟩ | exact ⟨hk _ h.1, hk _ h.2⟩)

theorem cm_lmul_im : cm_Mon cm_lmul := by
  intro E P t S k1 k2 h hk
  obtain ⟨pc, L, st, M⟩ := S
  unfold cm_lmul at h ⊢
  dsimp only at h ⊢
  split at h <;> (first | exact h.elim | exact hk _ h | exact ⟨h.1, hk _ h.2⟩ | exact ⟨h.1, h.2.1, hk _ h.2.2⟩ | exact ⟨h.1, h.2.1, h.2.2.1, hk _ h.2.2.2⟩ | exact ⟨h.1, h.2.1, h.2.2.1, h.2.2.2.1, hk _ h.2.2.2.2⟩ | exact ⟨h.1, h.2.1, h.2.2.1, h.2.2.2.1, h.2.2.2.2.1, hk _ h.2.2.2.2.2⟩ | exact ⟨h.1, h.2.1, h.2.2.1, h.2.2.2.1, h.2.2.2.2.1, h.2.2.2.2.2.1, h.2.2.2.2.2.2.1, h.2.2.2.2.2.2.2.1, hk _ h.2.2.2.2.2.2.2.2⟩ | exact ⟨h.1, fun q => hk _ (h.2.1 q), fun q => hk _ (h.2.2 q)⟩ | exact ⟨h.1, h.2.1, h.2.2.1, fun q => hk _ (h.2.2.2.1 q), fun j o q1 q2 => hk _ (h.2.2.2.2 j o q1 q2)⟩ | exact ⟨hk _ h.1, hk _ h.2⟩)

theorem cm_ldiv_im : cm_Mon cm_ldiv := by
  intro E P t S k1 k2 h hk
  obtain ⟨pc, L, st, M⟩ := S
  unfold cm_ldiv at h ⊢
  dsimp only at h ⊢
  split at h <;> (first | exact h.elim | exact hk _ h | exact ⟨h.1, hk _ h.2⟩ | exact ⟨h.1, h.2.1, hk _ h.2.2⟩ | exact ⟨h.1, h.2.1, h.2.2.1, hk _ h.2.2.2⟩ | exact ⟨h.1, h.2.1, h.2.2.1, h.2.2.2.1, hk _ h.2.2.2.2⟩ | exact ⟨h.1, h.2.1, h.2.2.1, h.2.2.2.1, h.2.2.2.2.1, hk _ h.2.2.2.2.2⟩ | exact ⟨h.1, h.2.1, h.2.2.1, h.2.2.2.1, h.2.2.2.2.1, h.2.2.2.2.2.1, h.2.2.2.2.2.2.1, h.2.2.2.2.2.2.2.1, hk _ h.2.2.2.2.2.2.2.2⟩ | exact ⟨h.1, fun q => hk _ (h.2.1 q), fun q => hk _ (h.2.2 q)⟩ | exact ⟨h.1, h.2.1, h.2.2.1, fun q => hk _ (h.2.2.2.1 q), fun j o q1 q2 => hk _ (h.2.2.2.2 j o q1 q2)⟩ | exact ⟨hk _ h.1, hk _ h.2⟩)

theorem cm_lrem_im : cm_Mon cm_lrem := by
  intro E P t S k1 k2 h hk
  obtain ⟨pc, L, st, M⟩ := S
  unfold cm_lrem at h ⊢
  dsimp only at h ⊢
  split at h <;> (first | exact h.elim | exact hk _ h | exact ⟨h.1, hk _ h.2⟩ | exact ⟨h.1, h.2.1, hk _ h.2.2⟩ | exact ⟨h.1, h.2.1, h.2.2.1, hk _ h.2.2.2⟩ | exact ⟨h.1, h.2.1, h.2.2.1, h.2.2.2.1, hk _ h.2.2.2.2⟩ | exact ⟨h.1, h.2.1, h.2.2.1, h.2.2.2.1, h.2.2.2.2.1, hk _ h.2.2.2.2.2⟩ | exact ⟨h.1, h.2.1, h.2.2.1, h.2.2.2.1, h.2.2.2.2.1, h.2.2.2.2.2.1, h.2.2.2.2.2.2.1, h.2.2.2.2.2.2.2.1, hk _ h.2.2.2.2.2.2.2.2⟩ | exact ⟨h.1, fun q => hk _ (h.2.1 q), fun q => hk _ (h.2.2 q)⟩ | exact ⟨h.1, h.2.1, h.2.2.1, fun q => hk _ (h.2.2.2.1 q), fun j o q1 q2 => hk _ (h.2.2.2.2 j o q1 q2)⟩ | exact ⟨hk _ h.1, hk _ h.2⟩)

theorem cm_ldc2_im : cm_Mon cm_ldc2 := by
  intro E P t S k1 k2 h hk
  obtain ⟨pc, L, st, M⟩ := S
  unfold cm_ldc2 at h ⊢
  dsimp only at h ⊢
  first | exact h.elim | exact hk _ h | exact ⟨h.1, hk _ h.2⟩ | exact ⟨h.1, h.2.1, hk _ h.2.2⟩ | exact ⟨h.1, h.2.1, h.2.2.1, hk _ h.2.2.2⟩ | exact ⟨h.1, h.2.1, h.2.2.1, h.2.2.2.1, hk _ h.2.2.2.2⟩ | exact ⟨h.1, h.2.1, h.2.2.1, h.2.2.2.1, h.2.2.2.2.1, hk _ h.2.2.2.2.2⟩ | exact ⟨h.1, h.2.1, h.2.2.1, h.2.2.2.1, h.2.2.2.2.1, h.2.2.2.2.2.1, h.2.2.2.2.2.2.1, h.2.2.2.2.2.2.2.1, hk _ h.2.2.2.2.2.2.2.2⟩ | exact ⟨h.1, fun q => hk _ (h.2.1 q), fun q => hk _ (h.2.2 q)⟩ | exact ⟨h.1, h.2.1, h.2.2.1, fun q => hk _ (h.2.2.2.1 q), fun j o q1 q2 => hk _ (h.2.2.2.2 j o q1 q2)⟩ | exact ⟨hk _ h.1, hk _ h.2⟩

theorem cm_getsF_im : cm_Mon cm_getsF := by
  intro E P t S k1 k2 h hk
  obtain ⟨pc, L, st, M⟩ := S
  unfold cm_getsF at h ⊢
  dsimp only at h ⊢
  first | exact h.elim | exact hk _ h | exact ⟨h.1, hk _ h.2⟩ | exact ⟨h.1, h.2.1, hk _ h.2.2⟩ | exact ⟨h.1, h.2.1, h.2.2.1, hk _ h.2.2.2⟩ | exact ⟨h.1, h.2.1, h.2.2.1, h.2.2.2.1, hk _ h.2.2.2.2⟩ | exact ⟨h.1, h.2.1, h.2.2.1, h.2.2.2.1, h.2.2.2.2.1, hk _ h.2.2.2.2.2⟩ | exact ⟨h.1, h.2.1, h.2.2.1, h.2.2.2.1, h.2.2.2.2.1, h.2.2.2.2.2.1, h.2.2.2.2.2.2.1, h.2.2.2.2.2.2.2.1, hk _ h.2.2.2.2.2.2.2.2⟩ | exact ⟨h.1, fun q => hk _ (h.2.1 q), fun q => hk _ (h.2.2 q)⟩ | exact ⟨h.1, h.2.1, h.2.2.1, fun q => hk _ (h.2.2.2.1 q), fun j o q1 q2 => hk _ (h.2.2.2.2 j o q1 q2)⟩ | exact ⟨hk _ h.1, hk _ h.2⟩

theorem cm_ldcw_im : cm_Mon cm_ldcw := by
  intro E P t S k1 k2 h hk
  obtain ⟨pc, L, st, M⟩ := S
  unfold cm_ldcw at h ⊢
  dsimp only at h ⊢
  first | exact h.elim | exact hk _ h | exact ⟨h.1, hk _ h.2⟩ | exact ⟨h.1, h.2.1, hk _ h.2.2⟩ | exact ⟨h.1, h.2.1, h.2.2.1, hk _ h.2.2.2⟩ | exact ⟨h.1, h.2.1, h.2.2.1, h.2.2.2.1, hk _ h.2.2.2.2⟩ | exact ⟨h.1, h.2.1, h.2.2.1, h.2.2.2.1, h.2.2.2.2.1, hk _ h.2.2.2.2.2⟩ | exact ⟨h.1, h.2.1, h.2.2.1, h.2.2.2.1, h.2.2.2.2.1, h.2.2.2.2.2.1, h.2.2.2.2.2.2.1, h.2.2.2.2.2.2.2.1, hk _ h.2.2.2.2.2.2.2.2⟩ | exact ⟨h.1, fun q => hk _ (h.2.1 q), fun q => hk _ (h.2.2 q)⟩ | exact ⟨h.1, h.2.1, h.2.2.1, fun q => hk _ (h.2.2.2.1 q), fun j o q1 q2 => hk _ (h.2.2.2.2 j o q1 q2)⟩ | exact ⟨hk _ h.1, hk _ h.2⟩

theorem cm_mmax_im : cm_Mon cm_mmax := by
  intro E P t S k1 k2 h hk
  obtain ⟨pc, L, st, M⟩ := S
  unfold cm_mmax at h ⊢
  dsimp only at h ⊢
  split at h <;> (first | exact h.elim | exact hk _ h | exact ⟨h.1, hk _ h.2⟩ | exact ⟨h.1, h.2.1, hk _ h.2.2⟩ | exact ⟨h.1, h.2.1, h.2.2.1, hk _ h.2.2.2⟩ | exact ⟨h.1, h.2.1, h.2.2.1, h.2.2.2.1, hk _ h.2.2.2.2⟩ | exact ⟨h.1, h.2.1, h.2.2.1, h.2.2.2.1, h.2.2.2.2.1, hk _ h.2.2.2.2.2⟩ | exact ⟨h.1, h.2.1, h.2.2.1, h.2.2.2.1, h.2.2.2.2.1, h.2.2.2.2.2.1, h.2.2.2.2.2.2.1, h.2.2.2.2.2.2.2.1, hk _ h.2.2.2.2.2.2.2.2⟩ | exact ⟨h.1, fun q => hk _ (h.2.1 q), fun q => hk _ (h.2.2 q)⟩ | exact ⟨h.1, h.2.1, h.2.2.1, fun q => hk _ (h.2.2.2.1 q), fun j o q1 q2 => hk _ (h.2.2.2.2 j o q1 q2)⟩ | exact ⟨hk _ h.1, hk _ h.2⟩)

theorem cm_mabs_im : cm_Mon cm_mabs := by
  intro E P t S k1 k2 h hk
  obtain ⟨pc, L, st, M⟩ := S
  unfold cm_mabs at h ⊢
  dsimp only at h ⊢
  split at h <;> (first | exact h.elim | exact hk _ h | exact ⟨h.1, hk _ h.2⟩ | exact ⟨h.1, h.2.1, hk _ h.2.2⟩ | exact ⟨h.1, h.2.1, h.2.2.1, hk _ h.2.2.2⟩ | exact ⟨h.1, h.2.1, h.2.2.1, h.2.2.2.1, hk _ h.2.2.2.2⟩ | exact ⟨h.1, h.2.1, h.2.2.1, h.2.2.2.1, h.2.2.2.2.1, hk _ h.2.2.2.2.2⟩ | exact ⟨h.1, h.2.1, h.2.2.1, h.2.2.2.1, h.2.2.2.2.1, h.2.2.2.2.2.1, h.2.2.2.2.2.2.1, h.2.2.2.2.2.2.2.1, hk _ h.2.2.2.2.2.2.2.2⟩ | exact ⟨h.1, fun q => hk _ (h.2.1 q), fun q => hk _ (h.2.2 q)⟩ | exact ⟨h.1, h.2.1, h.2.2.1, fun q => hk _ (h.2.2.2.1 q), fun j o q1 q2 => hk _ (h.2.2.2.2 j o q1 q2)⟩ | exact ⟨hk _ h.1, hk _ h.2⟩)

theorem cm_copyi_im : cm_Mon cm_copyi := by
  intro E P t S k1 k2 h hk
  obtain ⟨pc, L, st, M⟩ := S
  unfold cm_copyi at h ⊢
  dsimp only at h ⊢
  split at h <;> (first | exact h.elim | exact hk _ h | exact ⟨h.1, hk _ h.2⟩ | exact ⟨h.1, h.2.1, hk _ h.2.2⟩ | exact ⟨h.1, h.2.1, h.2.2.1, hk _ h.2.2.2⟩ | exact ⟨h.1, h.2.1, h.2.2.1, h.2.2.2.1, hk _ h.2.2.2.2⟩ | exact ⟨h.1, h.2.1, h.2.2.1, h.2.2.2.1, h.2.2.2.2.1, hk _ h.2.2.2.2.2⟩ | exact ⟨h.1, h.2.1, h.2.2.1, h.2.2.2.1, h.2.2.2.2.1, h.2.2.2.2.2.1, h.2.2.2.2.2.2.1, h.2.2.2.2.2.2.2.1, hk _ h.2.2.2.2.2.2.2.2⟩ | exact ⟨h.1, fun q => hk _ (h.2.1 q), fun q => hk _ (h.2.2 q)⟩ | exact ⟨h.1, h.2.1, h.2.2.1, fun q => hk _ (h.2.2.2.1 q), fun j o q1 q2 => hk _ (h.2.2.2.2 j o q1 q2)⟩ | exact ⟨hk _ h.1, hk _ h.2⟩)

theorem cm_getT_im : cm_Mon cm_getT := by
  intro E P t S k1 k2 h hk
  obtain ⟨pc, L, st, M⟩ := S
  unfold cm_getT at h ⊢
  dsimp only at h ⊢
  first | exact h.elim | exact hk _ h | exact ⟨h.1, hk _ h.2⟩ | exact ⟨h.1, h.2.1, hk _ h.2.2⟩ | exact ⟨h.1, h.2.1, h.2.2.1, hk _ h.2.2.2⟩ | exact ⟨h.1, h.2.1, h.2.2.1, h.2.2.2.1, hk _ h.2.2.2.2⟩ | exact ⟨h.1, h.2.1, h.2.2.1, h.2.2.2.1, h.2.2.2.2.1, hk _ h.2.2.2.2.2⟩ | exact ⟨h.1, h.2.1, h.2.2.1, h.2.2.2.1, h.2.2.2.2.1, h.2.2.2.2.2.1, h.2.2.2.2.2.2.1, h.2.2.2.2.2.2.2.1, hk _ h.2.2.2.2.2.2.2.2⟩ | exact ⟨h.1, fun q => hk _ (h.2.1 q), fun q => hk _ (h.2.2 q)⟩ | exact ⟨h.1, h.2.1, h.2.2.1, fun q => hk _ (h.2.2.2.1 q), fun j o q1 q2 => hk _ (h.2.2.2.2 j o q1 q2)⟩ | exact ⟨hk _ h.1, hk _ h.2⟩

theorem cm_tald_im : cm_Mon cm_tald := by
  intro E P t S k1 k2 h hk
  obtain ⟨pc, L, st, M⟩ := S
  unfold cm_tald at h ⊢
  dsimp only at h ⊢
  split at h <;> (first | exact h.elim | exact hk _ h | exact ⟨h.1, hk _ h.2⟩ | exact ⟨h.1, h.2.1, hk _ h.2.2⟩ | exact ⟨h.1, h.2.1, h.2.2.1, hk _ h.2.2.2⟩ | exact ⟨h.1, h.2.1, h.2.2.1, h.2.2.2.1, hk _ h.2.2.2.2⟩ | exact ⟨h.1, h.2.1, h.2.2.1, h.2.2.2.1, h.2.2.2.2.1, hk _ h.2.2.2.2.2⟩ | exact ⟨h.1, h.2.1, h.2.2.1, h.2.2.2.1, h.2.2.2.2.1, h.2.2.2.2.2.1, h.2.2.2.2.2.2.1, h.2.2.2.2.2.2.2.1, hk _ h.2.2.2.2.2.2.2.2⟩ | exact ⟨h.1, fun q => hk _ (h.2.1 q), fun q => hk _ (h.2.2 q)⟩ | exact ⟨h.1, h.2.1, h.2.2.1, fun q => hk _ (h.2.2.2.1 q), fun j o q1 q2 => hk _ (h.2.2.2.2 j o q1 q2)⟩ | exact ⟨hk _ h.1, hk _ h.2⟩)

theorem cm_alenT_im : cm_Mon cm_alenT := by
  intro E P t S k1 k2 h hk
  obtain ⟨pc, L, st, M⟩ := S
  unfold cm_alenT at h ⊢
  dsimp only at h ⊢
  split at h <;> (first | exact h.elim | exact hk _ h | exact ⟨h.1, hk _ h.2⟩ | exact ⟨h.1, h.2.1, hk _ h.2.2⟩ | exact ⟨h.1, h.2.1, h.2.2.1, hk _ h.2.2.2⟩ | exact ⟨h.1, h.2.1, h.2.2.1, h.2.2.2.1, hk _ h.2.2.2.2⟩ | exact ⟨h.1, h.2.1, h.2.2.1, h.2.2.2.1, h.2.2.2.2.1, hk _ h.2.2.2.2.2⟩ | exact ⟨h.1, h.2.1, h.2.2.1, h.2.2.2.1, h.2.2.2.2.1, h.2.2.2.2.2.1, h.2.2.2.2.2.2.1, h.2.2.2.2.2.2.2.1, hk _ h.2.2.2.2.2.2.2.2⟩ | exact ⟨h.1, fun q => hk _ (h.2.1 q), fun q => hk _ (h.2.2 q)⟩ | exact ⟨h.1, h.2.1, h.2.2.1, fun q => hk _ (h.2.2.2.1 q), fun j o q1 q2 => hk _ (h.2.2.2.2 j o q1 q2)⟩ | exact ⟨hk _ h.1, hk _ h.2⟩)

theorem cm_lastore_im : cm_Mon cm_lastore := by
  intro E P t S k1 k2 h hk
  obtain ⟨pc, L, st, M⟩ := S
  unfold cm_lastore at h ⊢
  dsimp only at h ⊢
  split at h <;> (first | exact h.elim | exact hk _ h | exact ⟨h.1, hk _ h.2⟩ | exact ⟨h.1, h.2.1, hk _ h.2.2⟩ | exact ⟨h.1, h.2.1, h.2.2.1, hk _ h.2.2.2⟩ | exact ⟨h.1, h.2.1, h.2.2.1, h.2.2.2.1, hk _ h.2.2.2.2⟩ | exact ⟨h.1, h.2.1, h.2.2.1, h.2.2.2.1, h.2.2.2.2.1, hk _ h.2.2.2.2.2⟩ | exact ⟨h.1, h.2.1, h.2.2.1, h.2.2.2.1, h.2.2.2.2.1, h.2.2.2.2.2.1, h.2.2.2.2.2.2.1, h.2.2.2.2.2.2.2.1, hk _ h.2.2.2.2.2.2.2.2⟩ | exact ⟨h.1, fun q => hk _ (h.2.1 q), fun q => hk _ (h.2.2 q)⟩ | exact ⟨h.1, h.2.1, h.2.2.1, fun q => hk _ (h.2.2.2.1 q), fun j o q1 q2 => hk _ (h.2.2.2.2 j o q1 q2)⟩ | exact ⟨hk _ h.1, hk _ h.2⟩)

theorem cm_pop2_im : cm_Mon cm_pop2 := by
  intro E P t S k1 k2 h hk
  obtain ⟨pc, L, st, M⟩ := S
  unfold cm_pop2 at h ⊢
  dsimp only at h ⊢
  split at h <;> (first | exact h.elim | exact hk _ h | exact ⟨h.1, hk _ h.2⟩ | exact ⟨h.1, h.2.1, hk _ h.2.2⟩ | exact ⟨h.1, h.2.1, h.2.2.1, hk _ h.2.2.2⟩ | exact ⟨h.1, h.2.1, h.2.2.1, h.2.2.2.1, hk _ h.2.2.2.2⟩ | exact ⟨h.1, h.2.1, h.2.2.1, h.2.2.2.1, h.2.2.2.2.1, hk _ h.2.2.2.2.2⟩ | exact ⟨h.1, h.2.1, h.2.2.1, h.2.2.2.1, h.2.2.2.2.1, h.2.2.2.2.2.1, h.2.2.2.2.2.2.1, h.2.2.2.2.2.2.2.1, hk _ h.2.2.2.2.2.2.2.2⟩ | exact ⟨h.1, fun q => hk _ (h.2.1 q), fun q => hk _ (h.2.2 q)⟩ | exact ⟨h.1, h.2.1, h.2.2.1, fun q => hk _ (h.2.2.2.1 q), fun j o q1 q2 => hk _ (h.2.2.2.2 j o q1 q2)⟩ | exact ⟨hk _ h.1, hk _ h.2⟩)

theorem cm_d1 {o : cm_O} {l : List cm_O} (h : cm_Mon o) (h2 : ∀ o ∈ l, cm_Mon o) : ∀ o' ∈ o :: l, cm_Mon o' := List.forall_mem_cons.mpr ⟨h, h2⟩
theorem cm_ops_im : ∀ o ∈ cm_ops, cm_Mon o := cm_d1 cm_iconst_im (cm_d1 cm_bipush_im (cm_d1 cm_sipush_im (cm_d1 cm_lconst_im (cm_d1 cm_iload_im (cm_d1 cm_iloadn_im (cm_d1 cm_lload_im (cm_d1 cm_lloadn_im (cm_d1 cm_aload_im (cm_d1 cm_aloadn_im (cm_d1 cm_istore_im (cm_d1 cm_istoren_im (cm_d1 cm_lstore_im (cm_d1 cm_lstoren_im (cm_d1 cm_astore_im (cm_d1 cm_astoren_im (cm_d1 cm_iadd_im (cm_d1 cm_isub_im (cm_d1 cm_imul_im (cm_d1 cm_iand_im (cm_d1 cm_ior_im (cm_d1 cm_ixor_im (cm_d1 cm_ishl_im (cm_d1 cm_ishr_im (cm_d1 cm_iushr_im (cm_d1 cm_idiv_im (cm_d1 cm_irem_im (cm_d1 cm_ineg_im (cm_d1 cm_i2b_im (cm_d1 cm_i2l_im (cm_d1 cm_lcmp_im (cm_d1 cm_dup_im (cm_d1 cm_pop_im (cm_d1 cm_dup2_im (cm_d1 cm_iinc_im (cm_d1 cm_icmp_eq_im (cm_d1 cm_icmp_ne_im (cm_d1 cm_icmp_lt_im (cm_d1 cm_icmp_ge_im (cm_d1 cm_icmp_gt_im (cm_d1 cm_icmp_le_im (cm_d1 cm_if_eq_im (cm_d1 cm_if_ne_im (cm_d1 cm_if_lt_im (cm_d1 cm_if_ge_im (cm_d1 cm_if_gt_im (cm_d1 cm_if_le_im (cm_d1 cm_goto_im (cm_d1 cm_sw_im (cm_d1 cm_get_im (cm_d1 cm_put_im (cm_d1 cm_no_im (cm_d1 cm_iaload_im (cm_d1 cm_baload_im (cm_d1 cm_laload_im (cm_d1 cm_aaload_im (cm_d1 cm_iastore_im (cm_d1 cm_bastore_im (cm_d1 cm_no_im (cm_d1 cm_no_im (cm_d1 cm_no_im (cm_d1 cm_no_im (cm_d1 cm_no_im (cm_d1 cm_no_im (cm_d1 cm_alen_im (cm_d1 cm_sald_im (cm_d1 cm_no_im (cm_d1 cm_mmin_im (cm_d1 cm_ldc_im (cm_d1 cm_ldcS_im (cm_d1 cm_getV_im (cm_d1 cm_getC_im (cm_d1 cm_gets_im (cm_d1 cm_alenS_im (cm_d1 cm_baloadS_im (cm_d1 cm_i2c_im (cm_d1 cm_ladd_im (cm_d1 cm_lsub_im (cm_d1 cm_lmul_im (cm_d1 cm_ldiv_im (cm_d1 cm_lrem_im (cm_d1 cm_ldc2_im (cm_d1 cm_getsF_im (cm_d1 cm_ldcw_im (cm_d1 cm_mmax_im (cm_d1 cm_mabs_im (cm_d1 cm_copyi_im (cm_d1 cm_getT_im (cm_d1 cm_tald_im (cm_d1 cm_alenT_im (cm_d1 cm_lastore_im (cm_d1 cm_pop2_im (fun _ h => absurd h List.not_mem_nil))))))))))))))))))))))))))))))))))))))))))))))))))))))))))))))))))))))))))))))))))))))))))))
/-- what the smaller list tells is told by the larger one; the smaller list tells each but once -/
noncomputable def cm_le (L' L : List (Nat × Value)) : Prop := (∀ q ∈ L', cm_look L' q.1 = some q.2) ∧ ∀ i v, cm_look L' i = some v → cm_look L i = some v
theorem cm_look_fl {p : Nat × Value → Bool} : ∀ {L : List (Nat × Value)} {j : Nat} {u : Value}, cm_look L j = some u → p (j, u) = true → cm_look (L.filter p) j = some u
  | [], j, u, h, _ => by cases h
  | q :: L, j, u, h, hp => by
    obtain ⟨a, b⟩ := q
    unfold cm_look at h
    by_cases ha : a = j
    · rw [if_pos ha] at h
      cases h
      subst ha
      rw [List.filter_cons_of_pos hp]
      unfold cm_look
      rw [if_pos rfl]
    · rw [if_neg ha] at h
      have ih := cm_look_fl h hp
      by_cases hq : p (a, b) = true
      · rw [List.filter_cons_of_pos hq]
        unfold cm_look
        rw [if_neg ha]
        exact ih
      · rw [List.filter_cons_of_neg hq]
        exact ih
theorem cm_le_st {p : Nat × Value → Bool} {L' L : List (Nat × Value)} {i : Nat} {v : Value} (hp : ∀ q, p q = true → q.1 ≠ i) (h : cm_le L' L) : cm_le ((i, v) :: L'.filter p) ((i, v) :: L.filter p) := by
  have key : ∀ j u, (j, u) ∈ L'.filter p → cm_look (L'.filter p) j = some u ∧ cm_look (L.filter p) j = some u ∧ j ≠ i := by
    intro j u hm
    obtain ⟨m1, m2⟩ := List.mem_filter.mp hm
    have l1 := h.1 _ m1
    exact ⟨cm_look_fl l1 m2, cm_look_fl (h.2 _ _ l1) m2, hp _ m2⟩
  refine ⟨fun q hq => ?_, fun j u hl => ?_⟩
  · rcases List.mem_cons.mp hq with rfl | hq
    · unfold cm_look
      rw [if_pos rfl]
    · obtain ⟨a, b⟩ := q
      obtain ⟨k1, -, k3⟩ := key a b hq
      unfold cm_look
      rw [if_neg (fun e => k3 e.symm)]
      exact k1
  · unfold cm_look at hl ⊢
    by_cases hj : i = j
    · rw [if_pos hj] at hl ⊢
      exact hl
    · rw [if_neg hj] at hl ⊢
      exact (key j u (cm_look_mem hl)).2.1
theorem cm_le_1 {L' L : List (Nat × Value)} (i : Nat) (v : Value) (h : cm_le L' L) : cm_le (cm_st1 L' i v) (cm_st1 L i v) := cm_le_st (fun q hq => by
  simp only [Bool.and_eq_true, Bool.not_eq_true', beq_eq_false_iff_ne] at hq
  exact hq.1) h
theorem cm_le_2 {L' L : List (Nat × Value)} (i : Nat) (v : Value) (h : cm_le L' L) : cm_le (cm_st2 L' i v) (cm_st2 L i v) := cm_le_st (fun q hq => by
  simp only [Bool.and_eq_true, Bool.not_eq_true', beq_eq_false_iff_ne] at hq
  exact hq.1) h
theorem cm_le_tr {A B C : List (Nat × Value)} (h1 : cm_le A B) (h2 : ∀ i v, cm_look B i = some v → cm_look C i = some v) : cm_le A C := ⟨h1.1, fun i v h => h2 i v (h1.2 i v h)⟩
noncomputable def cm_Lo (o : cm_O) : Prop := ∀ (E : cm_E) (P : ev_P) (t : ev_T) (pc : Nat) (L' L : List (Nat × Value)) (st : List Value) (M : cm_M) (k' k : cm_S → Prop), cm_le L' L → (∀ (pc2 : Nat) (A B : List (Nat × Value)) (st2 : List Value) (M2 : cm_M), cm_le A B → k' (pc2, A, st2, M2) → k (pc2, B, st2, M2)) → o.2 E P t (pc, L', st, M) k' → o.2 E P t (pc, L, st, M) k
theorem cl_no : cm_Lo cm_no := fun E P t pc L' L st M k' k hL hk h => h.elim
theorem cl_ld {ty n i pc : Nat} {L' L : List (Nat × Value)} {st : List Value} {M : cm_M} {k' k : cm_S → Prop} (hL : cm_le L' L) (hk : ∀ (pc2 : Nat) (A B : List (Nat × Value)) (st2 : List Value) (M2 : cm_M), cm_le A B → k' (pc2, A, st2, M2) → k (pc2, B, st2, M2)) (h : cm_ld ty n i (pc, L', st, M) k') : cm_ld ty n i (pc, L, st, M) k := by
  unfold cm_ld at h
  split at h
  · rename_i x hx
    unfold cm_ld
    dsimp only at hx ⊢
    rw [hL.2 _ _ hx]
    exact hk _ _ _ _ _ hL h
  · rename_i x hx
    unfold cm_ld
    dsimp only at hx ⊢
    rw [hL.2 _ _ hx]
    exact hk _ _ _ _ _ hL h
  · rename_i x hx
    unfold cm_ld
    dsimp only at hx ⊢
    rw [hL.2 _ _ hx]
    exact hk _ _ _ _ _ hL h
  · exact h.elim
theorem cl_sto {ty n i nL pc : Nat} {L' L : List (Nat × Value)} {st : List Value} {M : cm_M} {k' k : cm_S → Prop} (hL : cm_le L' L) (hk : ∀ (pc2 : Nat) (A B : List (Nat × Value)) (st2 : List Value) (M2 : cm_M), cm_le A B → k' (pc2, A, st2, M2) → k (pc2, B, st2, M2)) (h : cm_sto ty n i nL (pc, L', st, M) k') : cm_sto ty n i nL (pc, L, st, M) k := by
  unfold cm_sto at h
  dsimp only at h
  split at h
  · exact ⟨h.1, hk _ _ _ _ _ (cm_le_1 _ _ hL) h.2⟩
  · exact ⟨h.1, hk _ _ _ _ _ (cm_le_2 _ _ hL) h.2⟩
  · exact ⟨h.1, hk _ _ _ _ _ (cm_le_1 _ _ hL) h.2⟩
  · exact h.elim
theorem cl_iconst : cm_Lo cm_iconst := by
  intro E P t pc L' L st M k' k hL hk h
  unfold cm_iconst at h ⊢
  dsimp only at h ⊢
  first | exact h.elim | exact hk _ _ _ _ _ hL h | exact ⟨h.1, hk _ _ _ _ _ hL h.2⟩ | exact ⟨h.1, h.2.1, hk _ _ _ _ _ hL h.2.2⟩ | exact ⟨h.1, h.2.1, h.2.2.1, hk _ _ _ _ _ hL h.2.2.2⟩ | exact ⟨h.1, h.2.1, h.2.2.1, h.2.2.2.1, hk _ _ _ _ _ hL h.2.2.2.2⟩ | exact ⟨h.1, h.2.1, h.2.2.1, h.2.2.2.1, h.2.2.2.2.1, hk _ _ _ _ _ hL h.2.2.2.2.2⟩ | exact ⟨h.1, h.2.1, h.2.2.1, h.2.2.2.1, h.2.2.2.2.1, h.2.2.2.2.2.1, hk _ _ _ _ _ hL h.2.2.2.2.2.2⟩ | exact ⟨h.1, h.2.1, h.2.2.1, h.2.2.2.1, h.2.2.2.2.1, h.2.2.2.2.2.1, h.2.2.2.2.2.2.1, hk _ _ _ _ _ hL h.2.2.2.2.2.2.2⟩ | exact ⟨h.1, h.2.1, h.2.2.1, h.2.2.2.1, h.2.2.2.2.1, h.2.2.2.2.2.1, h.2.2.2.2.2.2.1, h.2.2.2.2.2.2.2.1, hk _ _ _ _ _ hL h.2.2.2.2.2.2.2.2⟩ | exact ⟨h.1, h.2.1, h.2.2.1, h.2.2.2.1, h.2.2.2.2.1, h.2.2.2.2.2.1, h.2.2.2.2.2.2.1, h.2.2.2.2.2.2.2.1, h.2.2.2.2.2.2.2.2.1, hk _ _ _ _ _ hL h.2.2.2.2.2.2.2.2.2⟩
theorem cl_bipush : cm_Lo cm_bipush := by
  intro E P t pc L' L st M k' k hL hk h
  unfold cm_bipush at h ⊢
  dsimp only at h ⊢
  first | exact h.elim | exact hk _ _ _ _ _ hL h | exact ⟨h.1, hk _ _ _ _ _ hL h.2⟩ | exact ⟨h.1, h.2.1, hk _ _ _ _ _ hL h.2.2⟩ | exact ⟨h.1, h.2.1, h.2.2.1, hk _ _ _ _ _ hL h.2.2.2⟩ | exact ⟨h.1, h.2.1, h.2.2.1, h.2.2.2.1, hk _ _ _ _ _ hL h.2.2.2.2⟩ | exact ⟨h.1, h.2.1, h.2.2.1, h.2.2.2.1, h.2.2.2.2.1, hk _ _ _ _ _ hL h.2.2.2.2.2⟩ | exact ⟨h.1, h.2.1, h.2.2.1, h.2.2.2.1, h.2.2.2.2.1, h.2.2.2.2.2.1, hk _ _ _ _ _ hL h.2.2.2.2.2.2⟩ | exact ⟨h.1, h.2.1, h.2.2.1, h.2.2.2.1, h.2.2.2.2.1, h.2.2.2.2.2.1, h.2.2.2.2.2.2.1, hk _ _ _ _ _ hL h.2.2.2.2.2.2.2⟩ | exact ⟨h.1, h.2.1, h.2.2.1, h.2.2.2.1, h.2.2.2.2.1, h.2.2.2.2.2.1, h.2.2.2.2.2.2.1, h.2.2.2.2.2.2.2.1, hk _ _ _ _ _ hL h.2.2.2.2.2.2.2.2⟩ | exact ⟨h.1, h.2.1, h.2.2.1, h.2.2.2.1, h.2.2.2.2.1, h.2.2.2.2.2.1, h.2.2.2.2.2.2.1, h.2.2.2.2.2.2.2.1, h.2.2.2.2.2.2.2.2.1, hk _ _ _ _ _ hL h.2.2.2.2.2.2.2.2.2⟩
theorem cl_sipush : cm_Lo cm_sipush := by
  intro E P t pc L' L st M k' k hL hk h
  unfold cm_sipush at h ⊢
  dsimp only at h ⊢
  first | exact h.elim | exact hk _ _ _ _ _ hL h | exact ⟨h.1, hk _ _ _ _ _ hL h.2⟩ | exact ⟨h.1, h.2.1, hk _ _ _ _ _ hL h.2.2⟩ | exact ⟨h.1, h.2.1, h.2.2.1, hk _ _ _ _ _ hL h.2.2.2⟩ | exact ⟨h.1, h.2.1, h.2.2.1, h.2.2.2.1, hk _ _ _ _ _ hL h.2.2.2.2⟩ | exact ⟨h.1, h.2.1, h.2.2.1, h.2.2.2.1, h.2.2.2.2.1, hk _ _ _ _ _ hL h.2.2.2.2.2⟩ | exact ⟨h.1, h.2.1, h.2.2.1, h.2.2.2.1, h.2.2.2.2.1, h.2.2.2.2.2.1, hk _ _ _ _ _ hL h.2.2.2.2.2.2⟩ | exact ⟨h.1, h.2.1, h.2.2.1, h.2.2.2.1, h.2.2.2.2.1, h.2.2.2.2.2.1, h.2.2.2.2.2.2.1, hk _ _ _ _ _ hL h.2.2.2.2.2.2.2⟩ | exact ⟨h.1, h.2.1, h.2.2.1, h.2.2.2.1, h.2.2.2.2.1, h.2.2.2.2.2.1, h.2.2.2.2.2.2.1, h.2.2.2.2.2.2.2.1, hk _ _ _ _ _ hL h.2.2.2.2.2.2.2.2⟩ | exact ⟨h.1, h.2.1, h.2.2.1, h.2.2.2.1, h.2.2.2.2.1, h.2.2.2.2.2.1, h.2.2.2.2.2.2.1, h.2.2.2.2.2.2.2.1, h.2.2.2.2.2.2.2.2.1, hk _ _ _ _ _ hL h.2.2.2.2.2.2.2.2.2⟩
theorem cl_lconst : cm_Lo cm_lconst := by
  intro E P t pc L' L st M k' k hL hk h
  unfold cm_lconst at h ⊢
  dsimp only at h ⊢
  first | exact h.elim | exact hk _ _ _ _ _ hL h | exact ⟨h.1, hk _ _ _ _ _ hL h.2⟩ | exact ⟨h.1, h.2.1, hk _ _ _ _ _ hL h.2.2⟩ | exact ⟨h.1, h.2.1, h.2.2.1, hk _ _ _ _ _ hL h.2.2.2⟩ | exact ⟨h.1, h.2.1, h.2.2.1, h.2.2.2.1, hk _ _ _ _ _ hL h.2.2.2.2⟩ | exact ⟨h.1, h.2.1, h.2.2.1, h.2.2.2.1, h.2.2.2.2.1, hk _ _ _ _ _ hL h.2.2.2.2.2⟩ | exact ⟨h.1, h.2.1, h.2.2.1, h.2.2.2.1, h.2.2.2.2.1, h.2.2.2.2.2.1, hk _ _ _ _ _ hL h.2.2.2.2.2.2⟩ | exact ⟨h.1, h.2.1, h.2.2.1, h.2.2.2.1, h.2.2.2.2.1, h.2.2.2.2.2.1, h.2.2.2.2.2.2.1, hk _ _ _ _ _ hL h.2.2.2.2.2.2.2⟩ | exact ⟨h.1, h.2.1, h.2.2.1, h.2.2.2.1, h.2.2.2.2.1, h.2.2.2.2.2.1, h.2.2.2.2.2.2.1, h.2.2.2.2.2.2.2.1, hk _ _ _ _ _ hL h.2.2.2.2.2.2.2.2⟩ | exact ⟨h.1, h.2.1, h.2.2.1, h.2.2.2.1, h.2.2.2.2.1, h.2.2.2.2.2.1, h.2.2.2.2.2.2.1, h.2.2.2.2.2.2.2.1, h.2.2.2.2.2.2.2.2.1, hk _ _ _ _ _ hL h.2.2.2.2.2.2.2.2.2⟩
theorem cl_iload : cm_Lo cm_iload := fun E P t pc L' L st M k' k hL hk h => cl_ld hL hk h
theorem cl_iloadn : cm_Lo cm_iloadn := fun E P t pc L' L st M k' k hL hk h => cl_ld hL hk h
theorem cl_lload : cm_Lo cm_lload := fun E P t pc L' L st M k' k hL hk h => cl_ld hL hk h
theorem cl_lloadn : cm_Lo cm_lloadn := fun E P t pc L' L st M k' k hL hk h => cl_ld hL hk h
theorem cl_aload : cm_Lo cm_aload := fun E P t pc L' L st M k' k hL hk h => cl_ld hL hk h
theorem cl_aloadn : cm_Lo cm_aloadn := fun E P t pc L' L st M k' k hL hk h => cl_ld hL hk h
theorem cl_istore : cm_Lo cm_istore := fun E P t pc L' L st M k' k hL hk h => cl_sto hL hk h
theorem cl_istoren : cm_Lo cm_istoren := fun E P t pc L' L st M k' k hL hk h => cl_sto hL hk h
theorem cl_lstore : cm_Lo cm_lstore := fun E P t pc L' L st M k' k hL hk h => cl_sto hL hk h
theorem cl_lstoren : cm_Lo cm_lstoren := fun E P t pc L' L st M k' k hL hk h => cl_sto hL hk h
theorem cl_astore : cm_Lo cm_astore := fun E P t pc L' L st M k' k hL hk h => cl_sto hL hk h
theorem cl_astoren : cm_Lo cm_astoren := fun E P t pc L' L st M k' k hL hk h => cl_sto hL hk h
theorem cl_iadd : cm_Lo cm_iadd := by
  intro E P t pc L' L st M k' k hL hk h
  unfold cm_iadd at h ⊢
  dsimp only at h ⊢
  split at h <;> (first | exact h.elim | exact hk _ _ _ _ _ hL h | exact ⟨h.1, hk _ _ _ _ _ hL h.2⟩ | exact ⟨h.1, h.2.1, hk _ _ _ _ _ hL h.2.2⟩ | exact ⟨h.1, h.2.1, h.2.2.1, hk _ _ _ _ _ hL h.2.2.2⟩ | exact ⟨h.1, h.2.1, h.2.2.1, h.2.2.2.1, hk _ _ _ _ _ hL h.2.2.2.2⟩ | exact ⟨h.1, h.2.1, h.2.2.1, h.2.2.2.1, h.2.2.2.2.1, hk _ _ _ _ _ hL h.2.2.2.2.2⟩ | exact ⟨h.1, h.2.1, h.2.2.1, h.2.2.2.1, h.2.2.2.2.1, h.2.2.2.2.2.1, hk _ _ _ _ _ hL h.2.2.2.2.2.2⟩ | exact ⟨h.1, h.2.1, h.2.2.1, h.2.2.2.1, h.2.2.2.2.1, h.2.2.2.2.2.1, h.2.2.2.2.2.2.1, hk _ _ _ _ _ hL h.2.2.2.2.2.2.2⟩ | exact ⟨h.1, h.2.1, h.2.2.1, h.2.2.2.1, h.2.2.2.2.1, h.2.2.2.2.2.1, h.2.2.2.2.2.2.1, h.2.2.2.2.2.2.2.1, hk _ _ _ _ _ hL h.2.2.2.2.2.2.2.2⟩ | exact ⟨h.1, h.2.1, h.2.2.1, h.2.2.2.1, h.2.2.2.2.1, h.2.2.2.2.2.1, h.2.2.2.2.2.2.1, h.2.2.2.2.2.2.2.1, h.2.2.2.2.2.2.2.2.1, hk _ _ _ _ _ hL h.2.2.2.2.2.2.2.2.2⟩)
theorem cl_isub : cm_Lo cm_isub := by
  intro E P t pc L' L st M k' k hL hk h
  unfold cm_isub at h ⊢
  dsimp only at h ⊢
  split at h <;> (first | exact h.elim | exact hk _ _ _ _ _ hL h | exact ⟨h.1, hk _ _ _ _ _ hL h.2⟩ | exact ⟨h.1, h.2.1, hk _ _ _ _ _ hL h.2.2⟩ | exact ⟨h.1, h.2.1, h.2.2.1, hk _ _ _ _ _ hL h.2.2.2⟩ | exact ⟨h.1, h.2.1, h.2.2.1, h.2.2.2.1, hk _ _ _ _ _ hL h.2.2.2.2⟩ | exact ⟨h.1, h.2.1, h.2.2.1, h.2.2.2.1, h.2.2.2.2.1, hk _ _ _ _ _ hL h.2.2.2.2.2⟩ | exact ⟨h.1, h.2.1, h.2.2.1, h.2.2.2.1, h.2.2.2.2.1, h.2.2.2.2.2.1, hk _ _ _ _ _ hL h.2.2.2.2.2.2⟩ | exact ⟨h.1, h.2.1, h.2.2.1, h.2.2.2.1, h.2.2.2.2.1, h.2.2.2.2.2.1, h.2.2.2.2.2.2.1, hk _ _ _ _ _ hL h.2.2.2.2.2.2.2⟩ | exact ⟨h.1, h.2.1, h.2.2.1, h.2.2.2.1, h.2.2.2.2.1, h.2.2.2.2.2.1, h.2.2.2.2.2.2.1, h.2.2.2.2.2.2.2.1, hk _ _ _ _ _ hL h.2.2.2.2.2.2.2.2⟩ | exact ⟨h.1, h.2.1, h.2.2.1, h.2.2.2.1, h.2.2.2.2.1, h.2.2.2.2.2.1, h.2.2.2.2.2.2.1, h.2.2.2.2.2.2.2.1, h.2.2.2.2.2.2.2.2.1, hk _ _ _ _ _ hL h.2.2.2.2.2.2.2.2.2⟩)
theorem cl_imul : cm_Lo cm_imul := by
  intro E P t pc L' L st M k' k hL hk h
  unfold cm_imul at h ⊢
  dsimp only at h ⊢
  split at h <;> (first | exact h.elim | exact hk _ _ _ _ _ hL h | exact ⟨h.1, hk _ _ _ _ _ hL h.2⟩ | exact ⟨h.1, h.2.1, hk _ _ _ _ _ hL h.2.2⟩ | exact ⟨h.1, h.2.1, h.2.2.1, hk _ _ _ _ _ hL h.2.2.2⟩ | exact ⟨h.1, h.2.1, h.2.2.1, h.2.2.2.1, hk _ _ _ _ _ hL h.2.2.2.2⟩ | exact ⟨h.1, h.2.1, h.2.2.1, h.2.2.2.1, h.2.2.2.2.1, hk _ _ _ _ _ hL h.2.2.2.2.2⟩ | exact ⟨h.1, h.2.1, h.2.2.1, h.2.2.2.1, h.2.2.2.2.1, h.2.2.2.2.2.1, hk _ _ _ _ _ hL h.2.2.2.2.2.2⟩ | exact ⟨h.1, h.2.1, h.2.2.1, h.2.2.2.1, h.2.2.2.2.1, h.2.2.2.2.2.1, h.2.2.2.2.2.2.1, hk _ _ _ _ _ hL h.2.2.2.2.2.2.2⟩ | exact ⟨h.1, h.2.1, h.2.2.1, h.2.2.2.1, h.2.2.2.2.1, h.2.2.2.2.2.1, h.2.2.2.2.2.2.1, h.2.2.2.2.2.2.2.1, hk _ _ _ _ _ hL h.2.2.2.2.2.2.2.2⟩ | exact ⟨h.1, h.2.1, h.2.2.1, h.2.2.2.1, h.2.2.2.2.1, h.2.2.2.2.2.1, h.2.2.2.2.2.2.1, h.2.2.2.2.2.2.2.1, h.2.2.2.2.2.2.2.2.1, hk _ _ _ _ _ hL h.2.2.2.2.2.2.2.2.2⟩)
theorem cl_iand : cm_Lo cm_iand := by
  intro E P t pc L' L st M k' k hL hk h
  unfold cm_iand at h ⊢
  dsimp only at h ⊢
  split at h <;> (first | exact h.elim | exact hk _ _ _ _ _ hL h | exact ⟨h.1, hk _ _ _ _ _ hL h.2⟩ | exact ⟨h.1, h.2.1, hk _ _ _ _ _ hL h.2.2⟩ | exact ⟨h.1, h.2.1, h.2.2.1, hk _ _ _ _ _ hL h.2.2.2⟩ | exact ⟨h.1, h.2.1, h.2.2.1, h.2.2.2.1, hk _ _ _ _ _ hL h.2.2.2.2⟩ | exact ⟨h.1, h.2.1, h.2.2.1, h.2.2.2.1, h.2.2.2.2.1, hk _ _ _ _ _ hL h.2.2.2.2.2⟩ | exact ⟨h.1, h.2.1, h.2.2.1, h.2.2.2.1, h.2.2.2.2.1, h.2.2.2.2.2.1, hk _ _ _ _ _ hL h.2.2.2.2.2.2⟩ | exact ⟨h.1, h.2.1, h.2.2.1, h.2.2.2.1, h.2.2.2.2.1, h.2.2.2.2.2.1, h.2.2.2.2.2.2.1, hk _ _ _ _ _ hL h.2.2.2.2.2.2.2⟩ | exact ⟨h.1, h.2.1, h.2.2.1, h.2.2.2.1, h.2.2.2.2.1, h.2.2.2.2.2.1, h.2.2.2.2.2.2.1, h.2.2.2.2.2.2.2.1, hk _ _ _ _ _ hL h.2.2.2.2.2.2.2.2⟩ | exact ⟨h.1, h.2.1, h.2.2.1, h.2.2.2.1, h.2.2.2.2.1, h.2.2.2.2.2.1, h.2.2.2.2.2.2.1, h.2.2.2.2.2.2.2.1, h.2.2.2.2.2.2.2.2.1, hk _ _ _ _ _ hL h.2.2.2.2.2.2.2.2.2⟩)
theorem cl_ior : cm_Lo cm_ior := by
  intro E P t pc L' L st M k' k hL hk h
  unfold cm_ior at h ⊢
  dsimp only at h ⊢
  split at h <;> (first | exact h.elim | exact hk _ _ _ _ _ hL h | exact ⟨h.1, hk _ _ _ _ _ hL h.2⟩ | exact ⟨h.1, h.2.1, hk _ _ _ _ _ hL h.2.2⟩ | exact ⟨h.1, h.2.1, h.2.2.1, hk _ _ _ _ _ hL h.2.2.2⟩ | exact ⟨h.1, h.2.1, h.2.2.1, h.2.2.2.1, hk _ _ _ _ _ hL h.2.2.2.2⟩ | exact ⟨h.1, h.2.1, h.2.2.1, h.2.2.2.1, h.2.2.2.2.1, hk _ _ _ _ _ hL h.2.2.2.2.2⟩ | exact ⟨h.1, h.2.1, h.2.2.1, h.2.2.2.1, h.2.2.2.2.1, h.2.2.2.2.2.1, hk _ _ _ _ _ hL h.2.2.2.2.2.2⟩ | exact ⟨h.1, h.2.1, h.2.2.1, h.2.2.2.1, h.2.2.2.2.1, h.2.2.2.2.2.1, h.2.2.2.2.2.2.1, hk _ _ _ _ _ hL h.2.2.2.2.2.2.2⟩ | exact ⟨h.1, h.2.1, h.2.2.1, h.2.2.2.1, h.2.2.2.2.1, h.2.2.2.2.2.1, h.2.2.2.2.2.2.1, h.2.2.2.2.2.2.2.1, hk _ _ _ _ _ hL h.2.2.2.2.2.2.2.2⟩ | exact ⟨h.1, h.2.1, h.2.2.1, h.2.2.2.1, h.2.2.2.2.1, h.2.2.2.2.2.1, h.2.2.2.2.2.2.1, h.2.2.2.2.2.2.2.1, h.2.2.2.2.2.2.2.2.1, hk _ _ _ _ _ hL h.2.2.2.2.2.2.2.2.2⟩)
theorem cl_ixor : cm_Lo cm_ixor := by
  intro E P t pc L' L st M k' k hL hk h
  unfold cm_ixor at h ⊢
  dsimp only at h ⊢
  split at h <;> (first | exact h.elim | exact hk _ _ _ _ _ hL h | exact ⟨h.1, hk _ _ _ _ _ hL h.2⟩ | exact ⟨h.1, h.2.1, hk _ _ _ _ _ hL h.2.2⟩ | exact ⟨h.1, h.2.1, h.2.2.1, hk _ _ _ _ _ hL h.2.2.2⟩ | exact ⟨h.1, h.2.1, h.2.2.1, h.2.2.2.1, hk _ _ _ _ _ hL h.2.2.2.2⟩ | exact ⟨h.1, h.2.1, h.2.2.1, h.2.2.2.1, h.2.2.2.2.1, hk _ _ _ _ _ hL h.2.2.2.2.2⟩ | exact ⟨h.1, h.2.1, h.2.2.1, h.2.2.2.1, h.2.2.2.2.1, h.2.2.2.2.2.1, hk _ _ _ _ _ hL h.2.2.2.2.2.2⟩ | exact ⟨h.1, h.2.1, h.2.2.1, h.2.2.2.1, h.2.2.2.2.1, h.2.2.2.2.2.1, h.2.2.2.2.2.2.1, hk _ _ _ _ _ hL h.2.2.2.2.2.2.2⟩ | exact ⟨h.1, h.2.1, h.2.2.1, h.2.2.2.1, h.2.2.2.2.1, h.2.2.2.2.2.1, h.2.2.2.2.2.2.1, h.2.2.2.2.2.2.2.1, hk _ _ _ _ _ hL h.2.2.2.2.2.2.2.2⟩ | exact ⟨h.1, h.2.1, h.2.2.1, h.2.2.2.1, h.2.2.2.2.1, h.2.2.2.2.2.1, h.2.2.2.2.2.2.1, h.2.2.2.2.2.2.2.1, h.2.2.2.2.2.2.2.2.1, hk _ _ _ _ _ hL h.2.2.2.2.2.2.2.2.2⟩)
theorem cl_ishl : cm_Lo cm_ishl := by
  intro E P t pc L' L st M k' k hL hk h
  unfold cm_ishl at h ⊢
  dsimp only at h ⊢
  split at h <;> (first | exact h.elim | exact hk _ _ _ _ _ hL h | exact ⟨h.1, hk _ _ _ _ _ hL h.2⟩ | exact ⟨h.1, h.2.1, hk _ _ _ _ _ hL h.2.2⟩ | exact ⟨h.1, h.2.1, h.2.2.1, hk _ _ _ _ _ hL h.2.2.2⟩ | exact ⟨h.1, h.2.1, h.2.2.1, h.2.2.2.1, hk _ _ _ _ _ hL h.2.2.2.2⟩ | exact ⟨h.1, h.2.1, h.2.2.1, h.2.2.2.1, h.2.2.2.2.1, hk _ _ _ _ _ hL h.2.2.2.2.2⟩ | exact ⟨h.1, h.2.1, h.2.2.1, h.2.2.2.1, h.2.2.2.2.1, h.2.2.2.2.2.1, hk _ _ _ _ _ hL h.2.2.2.2.2.2⟩ | exact ⟨h.1, h.2.1, h.2.2.1, h.2.2.2.1, h.2.2.2.2.1, h.2.2.2.2.2.1, h.2.2.2.2.2.2.1, hk _ _ _ _ _ hL h.2.2.2.2.2.2.2⟩ | exact ⟨h.1, h.2.1, h.2.2.1, h.2.2.2.1, h.2.2.2.2.1, h.2.2.2.2.2.1, h.2.2.2.2.2.2.1, h.2.2.2.2.2.2.2.1, hk _ _ _ _ _ hL h.2.2.2.2.2.2.2.2⟩ | exact ⟨h.1, h.2.1, h.2.2.1, h.2.2.2.1, h.2.2.2.2.1, h.2.2.2.2.2.1, h.2.2.2.2.2.2.1, h.2.2.2.2.2.2.2.1, h.2.2.2.2.2.2.2.2.1, hk _ _ _ _ _ hL h.2.2.2.2.2.2.2.2.2⟩)
theorem cl_ishr : cm_Lo cm_ishr := by
  intro E P t pc L' L st M k' k hL hk h
  unfold cm_ishr at h ⊢
  dsimp only at h ⊢
  split at h <;> (first | exact h.elim | exact hk _ _ _ _ _ hL h | exact ⟨h.1, hk _ _ _ _ _ hL h.2⟩ | exact ⟨h.1, h.2.1, hk _ _ _ _ _ hL h.2.2⟩ | exact ⟨h.1, h.2.1, h.2.2.1, hk _ _ _ _ _ hL h.2.2.2⟩ | exact ⟨h.1, h.2.1, h.2.2.1, h.2.2.2.1, hk _ _ _ _ _ hL h.2.2.2.2⟩ | exact ⟨h.1, h.2.1, h.2.2.1, h.2.2.2.1, h.2.2.2.2.1, hk _ _ _ _ _ hL h.2.2.2.2.2⟩ | exact ⟨h.1, h.2.1, h.2.2.1, h.2.2.2.1, h.2.2.2.2.1, h.2.2.2.2.2.1, hk _ _ _ _ _ hL h.2.2.2.2.2.2⟩ | exact ⟨h.1, h.2.1, h.2.2.1, h.2.2.2.1, h.2.2.2.2.1, h.2.2.2.2.2.1, h.2.2.2.2.2.2.1, hk _ _ _ _ _ hL h.2.2.2.2.2.2.2⟩ | exact ⟨h.1, h.2.1, h.2.2.1, h.2.2.2.1, h.2.2.2.2.1, h.2.2.2.2.2.1, h.2.2.2.2.2.2.1, h.2.2.2.2.2.2.2.1, hk _ _ _ _ _ hL h.2.2.2.2.2.2.2.2⟩ | exact ⟨h.1, h.2.1, h.2.2.1, h.2.2.2.1, h.2.2.2.2.1, h.2.2.2.2.2.1, h.2.2.2.2.2.2.1, h.2.2.2.2.2.2.2.1, h.2.2.2.2.2.2.2.2.1, hk _ _ _ _ _ hL h.2.2.2.2.2.2.2.2.2⟩)
theorem cl_iushr : cm_Lo cm_iushr := by
  intro E P t pc L' L st M k' k hL hk h
  unfold cm_iushr at h ⊢
  dsimp only at h ⊢
  split at h <;> (first | exact h.elim | exact hk _ _ _ _ _ hL h | exact ⟨h.1, hk _ _ _ _ _ hL h.2⟩ | exact ⟨h.1, h.2.1, hk _ _ _ _ _ hL h.2.2⟩ | exact ⟨h.1, h.2.1, h.2.2.1, hk _ _ _ _ _ hL h.2.2.2⟩ | exact ⟨h.1, h.2.1, h.2.2.1, h.2.2.2.1, hk _ _ _ _ _ hL h.2.2.2.2⟩ | exact ⟨h.1, h.2.1, h.2.2.1, h.2.2.2.1, h.2.2.2.2.1, hk _ _ _ _ _ hL h.2.2.2.2.2⟩ | exact ⟨h.1, h.2.1, h.2.2.1, h.2.2.2.1, h.2.2.2.2.1, h.2.2.2.2.2.1, hk _ _ _ _ _ hL h.2.2.2.2.2.2⟩ | exact ⟨h.1, h.2.1, h.2.2.1, h.2.2.2.1, h.2.2.2.2.1, h.2.2.2.2.2.1, h.2.2.2.2.2.2.1, hk _ _ _ _ _ hL h.2.2.2.2.2.2.2⟩ | exact ⟨h.1, h.2.1, h.2.2.1, h.2.2.2.1, h.2.2.2.2.1, h.2.2.2.2.2.1, h.2.2.2.2.2.2.1, h.2.2.2.2.2.2.2.1, hk _ _ _ _ _ hL h.2.2.2.2.2.2.2.2⟩ | exact ⟨h.1, h.2.1, h.2.2.1, h.2.2.2.1, h.2.2.2.2.1, h.2.2.2.2.2.1, h.2.2.2.2.2.2.1, h.2.2.2.2.2.2.2.1, h.2.2.2.2.2.2.2.2.1, hk _ _ _ _ _ hL h.2.2.2.2.2.2.2.2.2⟩)
theorem cl_idiv : cm_Lo cm_idiv := by
  intro E P t pc L' L st M k' k hL hk h
  unfold cm_idiv at h ⊢
  dsimp only at h ⊢
  split at h <;> (first | exact h.elim | exact hk _ _ _ _ _ hL h | exact ⟨h.1, hk _ _ _ _ _ hL h.2⟩ | exact ⟨h.1, h.2.1, hk _ _ _ _ _ hL h.2.2⟩ | exact ⟨h.1, h.2.1, h.2.2.1, hk _ _ _ _ _ hL h.2.2.2⟩ | exact ⟨h.1, h.2.1, h.2.2.1, h.2.2.2.1, hk _ _ _ _ _ hL h.2.2.2.2⟩ | exact ⟨h.1, h.2.1, h.2.2.1, h.2.2.2.1, h.2.2.2.2.1, hk _ _ _ _ _ hL h.2.2.2.2.2⟩ | exact ⟨h.1, h.2.1, h.2.2.1, h.2.2.2.1, h.2.2.2.2.1, h.2.2.2.2.2.1, hk _ _ _ _ _ hL h.2.2.2.2.2.2⟩ | exact ⟨h.1, h.2.1, h.2.2.1, h.2.2.2.1, h.2.2.2.2.1, h.2.2.2.2.2.1, h.2.2.2.2.2.2.1, hk _ _ _ _ _ hL h.2.2.2.2.2.2.2⟩ | exact ⟨h.1, h.2.1, h.2.2.1, h.2.2.2.1, h.2.2.2.2.1, h.2.2.2.2.2.1, h.2.2.2.2.2.2.1, h.2.2.2.2.2.2.2.1, hk _ _ _ _ _ hL h.2.2.2.2.2.2.2.2⟩ | exact ⟨h.1, h.2.1, h.2.2.1, h.2.2.2.1, h.2.2.2.2.1, h.2.2.2.2.2.1, h.2.2.2.2.2.2.1, h.2.2.2.2.2.2.2.1, h.2.2.2.2.2.2.2.2.1, hk _ _ _ _ _ hL h.2.2.2.2.2.2.2.2.2⟩)
theorem cl_irem : cm_Lo cm_irem := by
  intro E P t pc L' L st M k' k hL hk h
  unfold cm_irem at h ⊢
  dsimp only at h ⊢
  split at h <;> (first | exact h.elim | exact hk _ _ _ _ _ hL h | exact ⟨h.1, hk _ _ _ _ _ hL h.2⟩ | exact ⟨h.1, h.2.1, hk _ _ _ _ _ hL h.2.2⟩ | exact ⟨h.1, h.2.1, h.2.2.1, hk _ _ _ _ _ hL h.2.2.2⟩ | exact ⟨h.1, h.2.1, h.2.2.1, h.2.2.2.1, hk _ _ _ _ _ hL h.2.2.2.2⟩ | exact ⟨h.1, h.2.1, h.2.2.1, h.2.2.2.1, h.2.2.2.2.1, hk _ _ _ _ _ hL h.2.2.2.2.2⟩ | exact ⟨h.1, h.2.1, h.2.2.1, h.2.2.2.1, h.2.2.2.2.1, h.2.2.2.2.2.1, hk _ _ _ _ _ hL h.2.2.2.2.2.2⟩ | exact ⟨h.1, h.2.1, h.2.2.1, h.2.2.2.1, h.2.2.2.2.1, h.2.2.2.2.2.1, h.2.2.2.2.2.2.1, hk _ _ _ _ _ hL h.2.2.2.2.2.2.2⟩ | exact ⟨h.1, h.2.1, h.2.2.1, h.2.2.2.1, h.2.2.2.2.1, h.2.2.2.2.2.1, h.2.2.2.2.2.2.1, h.2.2.2.2.2.2.2.1, hk _ _ _ _ _ hL h.2.2.2.2.2.2.2.2⟩ | exact ⟨h.1, h.2.1, h.2.2.1, h.2.2.2.1, h.2.2.2.2.1, h.2.2.2.2.2.1, h.2.2.2.2.2.2.1, h.2.2.2.2.2.2.2.1, h.2.2.2.2.2.2.2.2.1, hk _ _ _ _ _ hL h.2.2.2.2.2.2.2.2.2⟩)
theorem cl_ineg : cm_Lo cm_ineg := by
  intro E P t pc L' L st M k' k hL hk h
  unfold cm_ineg at h ⊢
  dsimp only at h ⊢
  split at h <;> (first | exact h.elim | exact hk _ _ _ _ _ hL h | exact ⟨h.1, hk _ _ _ _ _ hL h.2⟩ | exact ⟨h.1, h.2.1, hk _ _ _ _ _ hL h.2.2⟩ | exact ⟨h.1, h.2.1, h.2.2.1, hk _ _ _ _ _ hL h.2.2.2⟩ | exact ⟨h.1, h.2.1, h.2.2.1, h.2.2.2.1, hk _ _ _ _ _ hL h.2.2.2.2⟩ | exact ⟨h.1, h.2.1, h.2.2.1, h.2.2.2.1, h.2.2.2.2.1, hk _ _ _ _ _ hL h.2.2.2.2.2⟩ | exact ⟨h.1, h.2.1, h.2.2.1, h.2.2.2.1, h.2.2.2.2.1, h.2.2.2.2.2.1, hk _ _ _ _ _ hL h.2.2.2.2.2.2⟩ | exact ⟨h.1, h.2.1, h.2.2.1, h.2.2.2.1, h.2.2.2.2.1, h.2.2.2.2.2.1, h.2.2.2.2.2.2.1, hk _ _ _ _ _ hL h.2.2.2.2.2.2.2⟩ | exact ⟨h.1, h.2.1, h.2.2.1, h.2.2.2.1, h.2.2.2.2.1, h.2.2.2.2.2.1, h.2.2.2.2.2.2.1, h.2.2.2.2.2.2.2.1, hk _ _ _ _ _ hL h.2.2.2.2.2.2.2.2⟩ | exact ⟨h.1, h.2.1, h.2.2.1, h.2.2.2.1, h.2.2.2.2.1, h.2.2.2.2.2.1, h.2.2.2.2.2.2.1, h.2.2.2.2.2.2.2.1, h.2.2.2.2.2.2.2.2.1, hk _ _ _ _ _ hL h.2.2.2.2.2.2.2.2.2⟩)
theorem cl_i2b : cm_Lo cm_i2b := by
  intro E P t pc L' L st M k' k hL hk h
  unfold cm_i2b at h ⊢
  dsimp only at h ⊢
  split at h <;> (first | exact h.elim | exact hk _ _ _ _ _ hL h | exact ⟨h.1, hk _ _ _ _ _ hL h.2⟩ | exact ⟨h.1, h.2.1, hk _ _ _ _ _ hL h.2.2⟩ | exact ⟨h.1, h.2.1, h.2.2.1, hk _ _ _ _ _ hL h.2.2.2⟩ | exact ⟨h.1, h.2.1, h.2.2.1, h.2.2.2.1, hk _ _ _ _ _ hL h.2.2.2.2⟩ | exact ⟨h.1, h.2.1, h.2.2.1, h.2.2.2.1, h.2.2.2.2.1, hk _ _ _ _ _ hL h.2.2.2.2.2⟩ | exact ⟨h.1, h.2.1, h.2.2.1, h.2.2.2.1, h.2.2.2.2.1, h.2.2.2.2.2.1, hk _ _ _ _ _ hL h.2.2.2.2.2.2⟩ | exact ⟨h.1, h.2.1, h.2.2.1, h.2.2.2.1, h.2.2.2.2.1, h.2.2.2.2.2.1, h.2.2.2.2.2.2.1, hk _ _ _ _ _ hL h.2.2.2.2.2.2.2⟩ | exact ⟨h.1, h.2.1, h.2.2.1, h.2.2.2.1, h.2.2.2.2.1, h.2.2.2.2.2.1, h.2.2.2.2.2.2.1, h.2.2.2.2.2.2.2.1, hk _ _ _ _ _ hL h.2.2.2.2.2.2.2.2⟩ | exact ⟨h.1, h.2.1, h.2.2.1, h.2.2.2.1, h.2.2.2.2.1, h.2.2.2.2.2.1, h.2.2.2.2.2.2.1, h.2.2.2.2.2.2.2.1, h.2.2.2.2.2.2.2.2.1, hk _ _ _ _ _ hL h.2.2.2.2.2.2.2.2.2⟩)
theorem cl_i2l : cm_Lo cm_i2l := by
  intro E P t pc L' L st M k' k hL hk h
  unfold cm_i2l at h ⊢
  dsimp only at h ⊢
  split at h <;> (first | exact h.elim | exact hk _ _ _ _ _ hL h | exact ⟨h.1, hk _ _ _ _ _ hL h.2⟩ | exact ⟨h.1, h.2.1, hk _ _ _ _ _ hL h.2.2⟩ | exact ⟨h.1, h.2.1, h.2.2.1, hk _ _ _ _ _ hL h.2.2.2⟩ | exact ⟨h.1, h.2.1, h.2.2.1, h.2.2.2.1, hk _ _ _ _ _ hL h.2.2.2.2⟩ | exact ⟨h.1, h.2.1, h.2.2.1, h.2.2.2.1, h.2.2.2.2.1, hk _ _ _ _ _ hL h.2.2.2.2.2⟩ | exact ⟨h.1, h.2.1, h.2.2.1, h.2.2.2.1, h.2.2.2.2.1, h.2.2.2.2.2.1, hk _ _ _ _ _ hL h.2.2.2.2.2.2⟩ | exact ⟨h.1, h.2.1, h.2.2.1, h.2.2.2.1, h.2.2.2.2.1, h.2.2.2.2.2.1, h.2.2.2.2.2.2.1, hk _ _ _ _ _ hL h.2.2.2.2.2.2.2⟩ | exact ⟨h.1, h.2.1, h.2.2.1, h.2.2.2.1, h.2.2.2.2.1, h.2.2.2.2.2.1, h.2.2.2.2.2.2.1, h.2.2.2.2.2.2.2.1, hk _ _ _ _ _ hL h.2.2.2.2.2.2.2.2⟩ | exact ⟨h.1, h.2.1, h.2.2.1, h.2.2.2.1, h.2.2.2.2.1, h.2.2.2.2.2.1, h.2.2.2.2.2.2.1, h.2.2.2.2.2.2.2.1, h.2.2.2.2.2.2.2.2.1, hk _ _ _ _ _ hL h.2.2.2.2.2.2.2.2.2⟩)
theorem cl_lcmp : cm_Lo cm_lcmp := by
  intro E P t pc L' L st M k' k hL hk h
  unfold cm_lcmp at h ⊢
  dsimp only at h ⊢
  split at h <;> (first | exact h.elim | exact hk _ _ _ _ _ hL h | exact ⟨h.1, hk _ _ _ _ _ hL h.2⟩ | exact ⟨h.1, h.2.1, hk _ _ _ _ _ hL h.2.2⟩ | exact ⟨h.1, h.2.1, h.2.2.1, hk _ _ _ _ _ hL h.2.2.2⟩ | exact ⟨h.1, h.2.1, h.2.2.1, h.2.2.2.1, hk _ _ _ _ _ hL h.2.2.2.2⟩ | exact ⟨h.1, h.2.1, h.2.2.1, h.2.2.2.1, h.2.2.2.2.1, hk _ _ _ _ _ hL h.2.2.2.2.2⟩ | exact ⟨h.1, h.2.1, h.2.2.1, h.2.2.2.1, h.2.2.2.2.1, h.2.2.2.2.2.1, hk _ _ _ _ _ hL h.2.2.2.2.2.2⟩ | exact ⟨h.1, h.2.1, h.2.2.1, h.2.2.2.1, h.2.2.2.2.1, h.2.2.2.2.2.1, h.2.2.2.2.2.2.1, hk _ _ _ _ _ hL h.2.2.2.2.2.2.2⟩ | exact ⟨h.1, h.2.1, h.2.2.1, h.2.2.2.1, h.2.2.2.2.1, h.2.2.2.2.2.1, h.2.2.2.2.2.2.1, h.2.2.2.2.2.2.2.1, hk _ _ _ _ _ hL h.2.2.2.2.2.2.2.2⟩ | exact ⟨h.1, h.2.1, h.2.2.1, h.2.2.2.1, h.2.2.2.2.1, h.2.2.2.2.2.1, h.2.2.2.2.2.2.1, h.2.2.2.2.2.2.2.1, h.2.2.2.2.2.2.2.2.1, hk _ _ _ _ _ hL h.2.2.2.2.2.2.2.2.2⟩)
theorem cl_dup : cm_Lo cm_dup := by
  intro E P t pc L' L st M k' k hL hk h
  unfold cm_dup at h ⊢
  dsimp only at h ⊢
  split at h <;> (first | exact h.elim | exact hk _ _ _ _ _ hL h | exact ⟨h.1, hk _ _ _ _ _ hL h.2⟩ | exact ⟨h.1, h.2.1, hk _ _ _ _ _ hL h.2.2⟩ | exact ⟨h.1, h.2.1, h.2.2.1, hk _ _ _ _ _ hL h.2.2.2⟩ | exact ⟨h.1, h.2.1, h.2.2.1, h.2.2.2.1, hk _ _ _ _ _ hL h.2.2.2.2⟩ | exact ⟨h.1, h.2.1, h.2.2.1, h.2.2.2.1, h.2.2.2.2.1, hk _ _ _ _ _ hL h.2.2.2.2.2⟩ | exact ⟨h.1, h.2.1, h.2.2.1, h.2.2.2.1, h.2.2.2.2.1, h.2.2.2.2.2.1, hk _ _ _ _ _ hL h.2.2.2.2.2.2⟩ | exact ⟨h.1, h.2.1, h.2.2.1, h.2.2.2.1, h.2.2.2.2.1, h.2.2.2.2.2.1, h.2.2.2.2.2.2.1, hk _ _ _ _ _ hL h.2.2.2.2.2.2.2⟩ | exact ⟨h.1, h.2.1, h.2.2.1, h.2.2.2.1, h.2.2.2.2.1, h.2.2.2.2.2.1, h.2.2.2.2.2.2.1, h.2.2.2.2.2.2.2.1, hk _ _ _ _ _ hL h.2.2.2.2.2.2.2.2⟩ | exact ⟨h.1, h.2.1, h.2.2.1, h.2.2.2.1, h.2.2.2.2.1, h.2.2.2.2.2.1, h.2.2.2.2.2.2.1, h.2.2.2.2.2.2.2.1, h.2.2.2.2.2.2.2.2.1, hk _ _ _ _ _ hL h.2.2.2.2.2.2.2.2.2⟩)
theorem cl_pop : cm_Lo cm_pop := by
  intro E P t pc L' L st M k' k hL hk h
  unfold cm_pop at h ⊢
  dsimp only at h ⊢
  split at h <;> (first | exact h.elim | exact hk _ _ _ _ _ hL h | exact ⟨h.1, hk _ _ _ _ _ hL h.2⟩ | exact ⟨h.1, h.2.1, hk _ _ _ _ _ hL h.2.2⟩ | exact ⟨h.1, h.2.1, h.2.2.1, hk _ _ _ _ _ hL h.2.2.2⟩ | exact ⟨h.1, h.2.1, h.2.2.1, h.2.2.2.1, hk _ _ _ _ _ hL h.2.2.2.2⟩ | exact ⟨h.1, h.2.1, h.2.2.1, h.2.2.2.1, h.2.2.2.2.1, hk _ _ _ _ _ hL h.2.2.2.2.2⟩ | exact ⟨h.1, h.2.1, h.2.2.1, h.2.2.2.1, h.2.2.2.2.1, h.2.2.2.2.2.1, hk _ _ _ _ _ hL h.2.2.2.2.2.2⟩ | exact ⟨h.1, h.2.1, h.2.2.1, h.2.2.2.1, h.2.2.2.2.1, h.2.2.2.2.2.1, h.2.2.2.2.2.2.1, hk _ _ _ _ _ hL h.2.2.2.2.2.2.2⟩ | exact ⟨h.1, h.2.1, h.2.2.1, h.2.2.2.1, h.2.2.2.2.1, h.2.2.2.2.2.1, h.2.2.2.2.2.2.1, h.2.2.2.2.2.2.2.1, hk _ _ _ _ _ hL h.2.2.2.2.2.2.2.2⟩ | exact ⟨h.1, h.2.1, h.2.2.1, h.2.2.2.1, h.2.2.2.2.1, h.2.2.2.2.2.1, h.2.2.2.2.2.2.1, h.2.2.2.2.2.2.2.1, h.2.2.2.2.2.2.2.2.1, hk _ _ _ _ _ hL h.2.2.2.2.2.2.2.2.2⟩)
theorem cl_dup2 : cm_Lo cm_dup2 := by
  intro E P t pc L' L st M k' k hL hk h
  unfold cm_dup2 at h ⊢
  dsimp only at h ⊢
  split at h <;> (first | exact h.elim | exact hk _ _ _ _ _ hL h | exact ⟨h.1, hk _ _ _ _ _ hL h.2⟩ | exact ⟨h.1, h.2.1, hk _ _ _ _ _ hL h.2.2⟩ | exact ⟨h.1, h.2.1, h.2.2.1, hk _ _ _ _ _ hL h.2.2.2⟩ | exact ⟨h.1, h.2.1, h.2.2.1, h.2.2.2.1, hk _ _ _ _ _ hL h.2.2.2.2⟩ | exact ⟨h.1, h.2.1, h.2.2.1, h.2.2.2.1, h.2.2.2.2.1, hk _ _ _ _ _ hL h.2.2.2.2.2⟩ | exact ⟨h.1, h.2.1, h.2.2.1, h.2.2.2.1, h.2.2.2.2.1, h.2.2.2.2.2.1, hk _ _ _ _ _ hL h.2.2.2.2.2.2⟩ | exact ⟨h.1, h.2.1, h.2.2.1, h.2.2.2.1, h.2.2.2.2.1, h.2.2.2.2.2.1, h.2.2.2.2.2.2.1, hk _ _ _ _ _ hL h.2.2.2.2.2.2.2⟩ | exact ⟨h.1, h.2.1, h.2.2.1, h.2.2.2.1, h.2.2.2.2.1, h.2.2.2.2.2.1, h.2.2.2.2.2.2.1, h.2.2.2.2.2.2.2.1, hk _ _ _ _ _ hL h.2.2.2.2.2.2.2.2⟩ | exact ⟨h.1, h.2.1, h.2.2.1, h.2.2.2.1, h.2.2.2.2.1, h.2.2.2.2.2.1, h.2.2.2.2.2.2.1, h.2.2.2.2.2.2.2.1, h.2.2.2.2.2.2.2.2.1, hk _ _ _ _ _ hL h.2.2.2.2.2.2.2.2.2⟩)
theorem cl_iinc : cm_Lo cm_iinc := by
  intro E P t pc L' L st M k' k hL hk h
  unfold cm_iinc at h ⊢
  dsimp only at h ⊢
  split at h
  · rename_i x hx
    rw [hL.2 _ _ hx]
    exact ⟨h.1, hk _ _ _ _ _ (cm_le_1 _ _ hL) h.2⟩
  · exact h.elim
theorem cl_icmp_eq : cm_Lo cm_icmp_eq := by
  intro E P t pc L' L st M k' k hL hk h
  unfold cm_icmp_eq at h ⊢
  dsimp only at h ⊢
  split at h
  · exact ⟨h.1, fun z => hk _ _ _ _ _ hL (h.2.1 z), fun z => hk _ _ _ _ _ hL (h.2.2 z)⟩
  · exact h.elim
theorem cl_icmp_ne : cm_Lo cm_icmp_ne := by
  intro E P t pc L' L st M k' k hL hk h
  unfold cm_icmp_ne at h ⊢
  dsimp only at h ⊢
  split at h
  · exact ⟨h.1, fun z => hk _ _ _ _ _ hL (h.2.1 z), fun z => hk _ _ _ _ _ hL (h.2.2 z)⟩
  · exact h.elim
theorem cl_icmp_lt : cm_Lo cm_icmp_lt := by
  intro E P t pc L' L st M k' k hL hk h
  unfold cm_icmp_lt at h ⊢
  dsimp only at h ⊢
  split at h
  · exact ⟨h.1, fun z => hk _ _ _ _ _ hL (h.2.1 z), fun z => hk _ _ _ _ _ hL (h.2.2 z)⟩
  · exact h.elim
theorem cl_icmp_ge : cm_Lo cm_icmp_ge := by
  intro E P t pc L' L st M k' k hL hk h
  unfold cm_icmp_ge at h ⊢
  dsimp only at h ⊢
  split at h
  · exact ⟨h.1, fun z => hk _ _ _ _ _ hL (h.2.1 z), fun z => hk _ _ _ _ _ hL (h.2.2 z)⟩
  · exact h.elim
theorem cl_icmp_gt : cm_Lo cm_icmp_gt := by
  intro E P t pc L' L st M k' k hL hk h
  unfold cm_icmp_gt at h ⊢
  dsimp only at h ⊢
  split at h
  · exact ⟨h.1, fun z => hk _ _ _ _ _ hL (h.2.1 z), fun z => hk _ _ _ _ _ hL (h.2.2 z)⟩
  · exact h.elim
theorem cl_icmp_le : cm_Lo cm_icmp_le := by
  intro E P t pc L' L st M k' k hL hk h
  unfold cm_icmp_le at h ⊢
  dsimp only at h ⊢
  split at h
  · exact ⟨h.1, fun z => hk _ _ _ _ _ hL (h.2.1 z), fun z => hk _ _ _ _ _ hL (h.2.2 z)⟩
  · exact h.elim
theorem cl_if_eq : cm_Lo cm_if_eq := by
  intro E P t pc L' L st M k' k hL hk h
  unfold cm_if_eq at h ⊢
  dsimp only at h ⊢
  split at h
  · exact ⟨h.1, fun z => hk _ _ _ _ _ hL (h.2.1 z), fun z => hk _ _ _ _ _ hL (h.2.2 z)⟩
  · exact h.elim
theorem cl_if_ne : cm_Lo cm_if_ne := by
  intro E P t pc L' L st M k' k hL hk h
  unfold cm_if_ne at h ⊢
  dsimp only at h ⊢
  split at h
  · exact ⟨h.1, fun z => hk _ _ _ _ _ hL (h.2.1 z), fun z => hk _ _ _ _ _ hL (h.2.2 z)⟩
  · exact h.elim
theorem cl_if_lt : cm_Lo cm_if_lt := by
  intro E P t pc L' L st M k' k hL hk h
  unfold cm_if_lt at h ⊢
  dsimp only at h ⊢
  split at h
  · exact ⟨h.1, fun z => hk _ _ _ _ _ hL (h.2.1 z), fun z => hk _ _ _ _ _ hL (h.2.2 z)⟩
  · exact h.elim
theorem cl_if_ge : cm_Lo cm_if_ge := by
  intro E P t pc L' L st M k' k hL hk h
  unfold cm_if_ge at h ⊢
  dsimp only at h ⊢
  split at h
  · exact ⟨h.1, fun z => hk _ _ _ _ _ hL (h.2.1 z), fun z => hk _ _ _ _ _ hL (h.2.2 z)⟩
  · exact h.elim
theorem cl_if_gt : cm_Lo cm_if_gt := by
  intro E P t pc L' L st M k' k hL hk h
  unfold cm_if_gt at h ⊢
  dsimp only at h ⊢
  split at h
  · exact ⟨h.1, fun z => hk _ _ _ _ _ hL (h.2.1 z), fun z => hk _ _ _ _ _ hL (h.2.2 z)⟩
  · exact h.elim
theorem cl_if_le : cm_Lo cm_if_le := by
  intro E P t pc L' L st M k' k hL hk h
  unfold cm_if_le at h ⊢
  dsimp only at h ⊢
  split at h
  · exact ⟨h.1, fun z => hk _ _ _ _ _ hL (h.2.1 z), fun z => hk _ _ _ _ _ hL (h.2.2 z)⟩
  · exact h.elim
theorem cl_goto : cm_Lo cm_goto := by
  intro E P t pc L' L st M k' k hL hk h
  unfold cm_goto at h ⊢
  dsimp only at h ⊢
  first | exact h.elim | exact hk _ _ _ _ _ hL h | exact ⟨h.1, hk _ _ _ _ _ hL h.2⟩ | exact ⟨h.1, h.2.1, hk _ _ _ _ _ hL h.2.2⟩ | exact ⟨h.1, h.2.1, h.2.2.1, hk _ _ _ _ _ hL h.2.2.2⟩ | exact ⟨h.1, h.2.1, h.2.2.1, h.2.2.2.1, hk _ _ _ _ _ hL h.2.2.2.2⟩ | exact ⟨h.1, h.2.1, h.2.2.1, h.2.2.2.1, h.2.2.2.2.1, hk _ _ _ _ _ hL h.2.2.2.2.2⟩ | exact ⟨h.1, h.2.1, h.2.2.1, h.2.2.2.1, h.2.2.2.2.1, h.2.2.2.2.2.1, hk _ _ _ _ _ hL h.2.2.2.2.2.2⟩ | exact ⟨h.1, h.2.1, h.2.2.1, h.2.2.2.1, h.2.2.2.2.1, h.2.2.2.2.2.1, h.2.2.2.2.2.2.1, hk _ _ _ _ _ hL h.2.2.2.2.2.2.2⟩ | exact ⟨h.1, h.2.1, h.2.2.1, h.2.2.2.1, h.2.2.2.2.1, h.2.2.2.2.2.1, h.2.2.2.2.2.2.1, h.2.2.2.2.2.2.2.1, hk _ _ _ _ _ hL h.2.2.2.2.2.2.2.2⟩ | exact ⟨h.1, h.2.1, h.2.2.1, h.2.2.2.1, h.2.2.2.2.1, h.2.2.2.2.2.1, h.2.2.2.2.2.2.1, h.2.2.2.2.2.2.2.1, h.2.2.2.2.2.2.2.2.1, hk _ _ _ _ _ hL h.2.2.2.2.2.2.2.2.2⟩
theorem cl_sw : cm_Lo cm_sw := by
  intro E P t pc L' L st M k' k hL hk h
  unfold cm_sw at h ⊢
  dsimp only at h ⊢
  split at h
  · exact ⟨h.1, h.2.1, h.2.2.1, fun q => hk _ _ _ _ _ hL (h.2.2.2.1 q), fun j o q1 q2 => hk _ _ _ _ _ hL (h.2.2.2.2 j o q1 q2)⟩
  · exact h.elim
theorem cl_get : cm_Lo cm_get := by
  intro E P t pc L' L st M k' k hL hk h
  unfold cm_get at h ⊢
  dsimp only at h ⊢
  split at h <;> (first | exact h.elim | exact hk _ _ _ _ _ hL h | exact ⟨h.1, hk _ _ _ _ _ hL h.2⟩ | exact ⟨h.1, h.2.1, hk _ _ _ _ _ hL h.2.2⟩ | exact ⟨h.1, h.2.1, h.2.2.1, hk _ _ _ _ _ hL h.2.2.2⟩ | exact ⟨h.1, h.2.1, h.2.2.1, h.2.2.2.1, hk _ _ _ _ _ hL h.2.2.2.2⟩ | exact ⟨h.1, h.2.1, h.2.2.1, h.2.2.2.1, h.2.2.2.2.1, hk _ _ _ _ _ hL h.2.2.2.2.2⟩ | exact ⟨h.1, h.2.1, h.2.2.1, h.2.2.2.1, h.2.2.2.2.1, h.2.2.2.2.2.1, hk _ _ _ _ _ hL h.2.2.2.2.2.2⟩ | exact ⟨h.1, h.2.1, h.2.2.1, h.2.2.2.1, h.2.2.2.2.1, h.2.2.2.2.2.1, h.2.2.2.2.2.2.1, hk _ _ _ _ _ hL h.2.2.2.2.2.2.2⟩ | exact ⟨h.1, h.2.1, h.2.2.1, h.2.2.2.1, h.2.2.2.2.1, h.2.2.2.2.2.1, h.2.2.2.2.2.2.1, h.2.2.2.2.2.2.2.1, hk _ _ _ _ _ hL h.2.2.2.2.2.2.2.2⟩ | exact ⟨h.1, h.2.1, h.2.2.1, h.2.2.2.1, h.2.2.2.2.1, h.2.2.2.2.2.1, h.2.2.2.2.2.2.1, h.2.2.2.2.2.2.2.1, h.2.2.2.2.2.2.2.2.1, hk _ _ _ _ _ hL h.2.2.2.2.2.2.2.2.2⟩)
theorem cl_put : cm_Lo cm_put := by
  intro E P t pc L' L st M k' k hL hk h
  unfold cm_put at h ⊢
  dsimp only at h ⊢
  split at h <;> (first | exact h.elim | exact hk _ _ _ _ _ hL h | exact ⟨h.1, hk _ _ _ _ _ hL h.2⟩ | exact ⟨h.1, h.2.1, hk _ _ _ _ _ hL h.2.2⟩ | exact ⟨h.1, h.2.1, h.2.2.1, hk _ _ _ _ _ hL h.2.2.2⟩ | exact ⟨h.1, h.2.1, h.2.2.1, h.2.2.2.1, hk _ _ _ _ _ hL h.2.2.2.2⟩ | exact ⟨h.1, h.2.1, h.2.2.1, h.2.2.2.1, h.2.2.2.2.1, hk _ _ _ _ _ hL h.2.2.2.2.2⟩ | exact ⟨h.1, h.2.1, h.2.2.1, h.2.2.2.1, h.2.2.2.2.1, h.2.2.2.2.2.1, hk _ _ _ _ _ hL h.2.2.2.2.2.2⟩ | exact ⟨h.1, h.2.1, h.2.2.1, h.2.2.2.1, h.2.2.2.2.1, h.2.2.2.2.2.1, h.2.2.2.2.2.2.1, hk _ _ _ _ _ hL h.2.2.2.2.2.2.2⟩ | exact ⟨h.1, h.2.1, h.2.2.1, h.2.2.2.1, h.2.2.2.2.1, h.2.2.2.2.2.1, h.2.2.2.2.2.2.1, h.2.2.2.2.2.2.2.1, hk _ _ _ _ _ hL h.2.2.2.2.2.2.2.2⟩ | exact ⟨h.1, h.2.1, h.2.2.1, h.2.2.2.1, h.2.2.2.2.1, h.2.2.2.2.2.1, h.2.2.2.2.2.2.1, h.2.2.2.2.2.2.2.1, h.2.2.2.2.2.2.2.2.1, hk _ _ _ _ _ hL h.2.2.2.2.2.2.2.2.2⟩)
theorem cl_iaload : cm_Lo cm_iaload := by
  intro E P t pc L' L st M k' k hL hk h
  unfold cm_iaload at h ⊢
  dsimp only at h ⊢
  split at h <;> (first | exact h.elim | exact hk _ _ _ _ _ hL h | exact ⟨h.1, hk _ _ _ _ _ hL h.2⟩ | exact ⟨h.1, h.2.1, hk _ _ _ _ _ hL h.2.2⟩ | exact ⟨h.1, h.2.1, h.2.2.1, hk _ _ _ _ _ hL h.2.2.2⟩ | exact ⟨h.1, h.2.1, h.2.2.1, h.2.2.2.1, hk _ _ _ _ _ hL h.2.2.2.2⟩ | exact ⟨h.1, h.2.1, h.2.2.1, h.2.2.2.1, h.2.2.2.2.1, hk _ _ _ _ _ hL h.2.2.2.2.2⟩ | exact ⟨h.1, h.2.1, h.2.2.1, h.2.2.2.1, h.2.2.2.2.1, h.2.2.2.2.2.1, hk _ _ _ _ _ hL h.2.2.2.2.2.2⟩ | exact ⟨h.1, h.2.1, h.2.2.1, h.2.2.2.1, h.2.2.2.2.1, h.2.2.2.2.2.1, h.2.2.2.2.2.2.1, hk _ _ _ _ _ hL h.2.2.2.2.2.2.2⟩ | exact ⟨h.1, h.2.1, h.2.2.1, h.2.2.2.1, h.2.2.2.2.1, h.2.2.2.2.2.1, h.2.2.2.2.2.2.1, h.2.2.2.2.2.2.2.1, hk _ _ _ _ _ hL h.2.2.2.2.2.2.2.2⟩ | exact ⟨h.1, h.2.1, h.2.2.1, h.2.2.2.1, h.2.2.2.2.1, h.2.2.2.2.2.1, h.2.2.2.2.2.2.1, h.2.2.2.2.2.2.2.1, h.2.2.2.2.2.2.2.2.1, hk _ _ _ _ _ hL h.2.2.2.2.2.2.2.2.2⟩)
theorem cl_baload : cm_Lo cm_baload := by
  intro E P t pc L' L st M k' k hL hk h
  unfold cm_baload at h ⊢
  dsimp only at h ⊢
  split at h <;> (first | exact h.elim | exact hk _ _ _ _ _ hL h | exact ⟨h.1, hk _ _ _ _ _ hL h.2⟩ | exact ⟨h.1, h.2.1, hk _ _ _ _ _ hL h.2.2⟩ | exact ⟨h.1, h.2.1, h.2.2.1, hk _ _ _ _ _ hL h.2.2.2⟩ | exact ⟨h.1, h.2.1, h.2.2.1, h.2.2.2.1, hk _ _ _ _ _ hL h.2.2.2.2⟩ | exact ⟨h.1, h.2.1, h.2.2.1, h.2.2.2.1, h.2.2.2.2.1, hk _ _ _ _ _ hL h.2.2.2.2.2⟩ | exact ⟨h.1, h.2.1, h.2.2.1, h.2.2.2.1, h.2.2.2.2.1, h.2.2.2.2.2.1, hk _ _ _ _ _ hL h.2.2.2.2.2.2⟩ | exact ⟨h.1, h.2.1, h.2.2.1, h.2.2.2.1, h.2.2.2.2.1, h.2.2.2.2.2.1, h.2.2.2.2.2.2.1, hk _ _ _ _ _ hL h.2.2.2.2.2.2.2⟩ | exact ⟨h.1, h.2.1, h.2.2.1, h.2.2.2.1, h.2.2.2.2.1, h.2.2.2.2.2.1, h.2.2.2.2.2.2.1, h.2.2.2.2.2.2.2.1, hk _ _ _ _ _ hL h.2.2.2.2.2.2.2.2⟩ | exact ⟨h.1, h.2.1, h.2.2.1, h.2.2.2.1, h.2.2.2.2.1, h.2.2.2.2.2.1, h.2.2.2.2.2.2.1, h.2.2.2.2.2.2.2.1, h.2.2.2.2.2.2.2.2.1, hk _ _ _ _ _ hL h.2.2.2.2.2.2.2.2.2⟩)
theorem cl_laload : cm_Lo cm_laload := by
  intro E P t pc L' L st M k' k hL hk h
  unfold cm_laload at h ⊢
  dsimp only at h ⊢
  split at h <;> (first | exact h.elim | exact hk _ _ _ _ _ hL h | exact ⟨h.1, hk _ _ _ _ _ hL h.2⟩ | exact ⟨h.1, h.2.1, hk _ _ _ _ _ hL h.2.2⟩ | exact ⟨h.1, h.2.1, h.2.2.1, hk _ _ _ _ _ hL h.2.2.2⟩ | exact ⟨h.1, h.2.1, h.2.2.1, h.2.2.2.1, hk _ _ _ _ _ hL h.2.2.2.2⟩ | exact ⟨h.1, h.2.1, h.2.2.1, h.2.2.2.1, h.2.2.2.2.1, hk _ _ _ _ _ hL h.2.2.2.2.2⟩ | exact ⟨h.1, h.2.1, h.2.2.1, h.2.2.2.1, h.2.2.2.2.1, h.2.2.2.2.2.1, hk _ _ _ _ _ hL h.2.2.2.2.2.2⟩ | exact ⟨h.1, h.2.1, h.2.2.1, h.2.2.2.1, h.2.2.2.2.1, h.2.2.2.2.2.1, h.2.2.2.2.2.2.1, hk _ _ _ _ _ hL h.2.2.2.2.2.2.2⟩ | exact ⟨h.1, h.2.1, h.2.2.1, h.2.2.2.1, h.2.2.2.2.1, h.2.2.2.2.2.1, h.2.2.2.2.2.2.1, h.2.2.2.2.2.2.2.1, hk _ _ _ _ _ hL h.2.2.2.2.2.2.2.2⟩ | exact ⟨h.1, h.2.1, h.2.2.1, h.2.2.2.1, h.2.2.2.2.1, h.2.2.2.2.2.1, h.2.2.2.2.2.2.1, h.2.2.2.2.2.2.2.1, h.2.2.2.2.2.2.2.2.1, hk _ _ _ _ _ hL h.2.2.2.2.2.2.2.2.2⟩)
theorem cl_aaload : cm_Lo cm_aaload := by
  intro E P t pc L' L st M k' k hL hk h
  unfold cm_aaload at h ⊢
  dsimp only at h ⊢
  split at h <;> (first | exact h.elim | exact hk _ _ _ _ _ hL h | exact ⟨h.1, hk _ _ _ _ _ hL h.2⟩ | exact ⟨h.1, h.2.1, hk _ _ _ _ _ hL h.2.2⟩ | exact ⟨h.1, h.2.1, h.2.2.1, hk _ _ _ _ _ hL h.2.2.2⟩ | exact ⟨h.1, h.2.1, h.2.2.1, h.2.2.2.1, hk _ _ _ _ _ hL h.2.2.2.2⟩ | exact ⟨h.1, h.2.1, h.2.2.1, h.2.2.2.1, h.2.2.2.2.1, hk _ _ _ _ _ hL h.2.2.2.2.2⟩ | exact ⟨h.1, h.2.1, h.2.2.1, h.2.2.2.1, h.2.2.2.2.1, h.2.2.2.2.2.1, hk _ _ _ _ _ hL h.2.2.2.2.2.2⟩ | exact ⟨h.1, h.2.1, h.2.2.1, h.2.2.2.1, h.2.2.2.2.1, h.2.2.2.2.2.1, h.2.2.2.2.2.2.1, hk _ _ _ _ _ hL h.2.2.2.2.2.2.2⟩ | exact ⟨h.1, h.2.1, h.2.2.1, h.2.2.2.1, h.2.2.2.2.1, h.2.2.2.2.2.1, h.2.2.2.2.2.2.1, h.2.2.2.2.2.2.2.1, hk _ _ _ _ _ hL h.2.2.2.2.2.2.2.2⟩ | exact ⟨h.1, h.2.1, h.2.2.1, h.2.2.2.1, h.2.2.2.2.1, h.2.2.2.2.2.1, h.2.2.2.2.2.2.1, h.2.2.2.2.2.2.2.1, h.2.2.2.2.2.2.2.2.1, hk _ _ _ _ _ hL h.2.2.2.2.2.2.2.2.2⟩)
theorem cl_iastore : cm_Lo cm_iastore := by
  intro E P t pc L' L st M k' k hL hk h
  unfold cm_iastore at h ⊢
  dsimp only at h ⊢
  split at h <;> (first | exact h.elim | exact hk _ _ _ _ _ hL h | exact ⟨h.1, hk _ _ _ _ _ hL h.2⟩ | exact ⟨h.1, h.2.1, hk _ _ _ _ _ hL h.2.2⟩ | exact ⟨h.1, h.2.1, h.2.2.1, hk _ _ _ _ _ hL h.2.2.2⟩ | exact ⟨h.1, h.2.1, h.2.2.1, h.2.2.2.1, hk _ _ _ _ _ hL h.2.2.2.2⟩ | exact ⟨h.1, h.2.1, h.2.2.1, h.2.2.2.1, h.2.2.2.2.1, hk _ _ _ _ _ hL h.2.2.2.2.2⟩ | exact ⟨h.1, h.2.1, h.2.2.1, h.2.2.2.1, h.2.2.2.2.1, h.2.2.2.2.2.1, hk _ _ _ _ _ hL h.2.2.2.2.2.2⟩ | exact ⟨h.1, h.2.1, h.2.2.1, h.2.2.2.1, h.2.2.2.2.1, h.2.2.2.2.2.1, h.2.2.2.2.2.2.1, hk _ _ _ _ _ hL h.2.2.2.2.2.2.2⟩ | exact ⟨h.1, h.2.1, h.2.2.1, h.2.2.2.1, h.2.2.2.2.1, h.2.2.2.2.2.1, h.2.2.2.2.2.2.1, h.2.2.2.2.2.2.2.1, hk _ _ _ _ _ hL h.2.2.2.2.2.2.2.2⟩ | exact ⟨h.1, h.2.1, h.2.2.1, h.2.2.2.1, h.2.2.2.2.1, h.2.2.2.2.2.1, h.2.2.2.2.2.2.1, h.2.2.2.2.2.2.2.1, h.2.2.2.2.2.2.2.2.1, hk _ _ _ _ _ hL h.2.2.2.2.2.2.2.2.2⟩)
theorem cl_bastore : cm_Lo cm_bastore := by
  intro E P t pc L' L st M k' k hL hk h
  unfold cm_bastore at h ⊢
  dsimp only at h ⊢
  split at h <;> (first | exact h.elim | exact hk _ _ _ _ _ hL h | exact ⟨h.1, hk _ _ _ _ _ hL h.2⟩ | exact ⟨h.1, h.2.1, hk _ _ _ _ _ hL h.2.2⟩ | exact ⟨h.1, h.2.1, h.2.2.1, hk _ _ _ _ _ hL h.2.2.2⟩ | exact ⟨h.1, h.2.1, h.2.2.1, h.2.2.2.1, hk _ _ _ _ _ hL h.2.2.2.2⟩ | exact ⟨h.1, h.2.1, h.2.2.1, h.2.2.2.1, h.2.2.2.2.1, hk _ _ _ _ _ hL h.2.2.2.2.2⟩ | exact ⟨h.1, h.2.1, h.2.2.1, h.2.2.2.1, h.2.2.2.2.1, h.2.2.2.2.2.1, hk _ _ _ _ _ hL h.2.2.2.2.2.2⟩ | exact ⟨h.1, h.2.1, h.2.2.1, h.2.2.2.1, h.2.2.2.2.1, h.2.2.2.2.2.1, h.2.2.2.2.2.2.1, hk _ _ _ _ _ hL h.2.2.2.2.2.2.2⟩ | exact ⟨h.1, h.2.1, h.2.2.1, h.2.2.2.1, h.2.2.2.2.1, h.2.2.2.2.2.1, h.2.2.2.2.2.2.1, h.2.2.2.2.2.2.2.1, hk _ _ _ _ _ hL h.2.2.2.2.2.2.2.2⟩ | exact ⟨h.1, h.2.1, h.2.2.1, h.2.2.2.1, h.2.2.2.2.1, h.2.2.2.2.2.1, h.2.2.2.2.2.2.1, h.2.2.2.2.2.2.2.1, h.2.2.2.2.2.2.2.2.1, hk _ _ _ _ _ hL h.2.2.2.2.2.2.2.2.2⟩)
theorem cl_alen : cm_Lo cm_alen := by
  intro E P t pc L' L st M k' k hL hk h
  unfold cm_alen at h ⊢
  dsimp only at h ⊢
  split at h
  · rename_i c st'
    by_cases hc : c = 1000
    · rw [if_pos hc] at h ⊢
      cases E with
      | none => exact h.elim
      | some q => exact hk _ _ _ _ _ hL h
    · rw [if_neg hc] at h ⊢
      exact ⟨h.1, h.2.1, hk _ _ _ _ _ hL h.2.2⟩
  · exact h.elim
theorem cl_sald : cm_Lo cm_sald := by
  intro E P t pc L' L st M k' k hL hk h
  unfold cm_sald at h ⊢
  dsimp only at h ⊢
  split at h <;> (first | exact h.elim | exact hk _ _ _ _ _ hL h | exact ⟨h.1, hk _ _ _ _ _ hL h.2⟩ | exact ⟨h.1, h.2.1, hk _ _ _ _ _ hL h.2.2⟩ | exact ⟨h.1, h.2.1, h.2.2.1, hk _ _ _ _ _ hL h.2.2.2⟩ | exact ⟨h.1, h.2.1, h.2.2.1, h.2.2.2.1, hk _ _ _ _ _ hL h.2.2.2.2⟩ | exact ⟨h.1, h.2.1, h.2.2.1, h.2.2.2.1, h.2.2.2.2.1, hk _ _ _ _ _ hL h.2.2.2.2.2⟩ | exact ⟨h.1, h.2.1, h.2.2.1, h.2.2.2.1, h.2.2.2.2.1, h.2.2.2.2.2.1, hk _ _ _ _ _ hL h.2.2.2.2.2.2⟩ | exact ⟨h.1, h.2.1, h.2.2.1, h.2.2.2.1, h.2.2.2.2.1, h.2.2.2.2.2.1, h.2.2.2.2.2.2.1, hk _ _ _ _ _ hL h.2.2.2.2.2.2.2⟩ | exact ⟨h.1, h.2.1, h.2.2.1, h.2.2.2.1, h.2.2.2.2.1, h.2.2.2.2.2.1, h.2.2.2.2.2.2.1, h.2.2.2.2.2.2.2.1, hk _ _ _ _ _ hL h.2.2.2.2.2.2.2.2⟩ | exact ⟨h.1, h.2.1, h.2.2.1, h.2.2.2.1, h.2.2.2.2.1, h.2.2.2.2.2.1, h.2.2.2.2.2.2.1, h.2.2.2.2.2.2.2.1, h.2.2.2.2.2.2.2.2.1, hk _ _ _ _ _ hL h.2.2.2.2.2.2.2.2.2⟩)
theorem cl_mmin : cm_Lo cm_mmin := by
  intro E P t pc L' L st M k' k hL hk h
  unfold cm_mmin at h ⊢
  dsimp only at h ⊢
  split at h <;> (first | exact h.elim | exact hk _ _ _ _ _ hL h | exact ⟨h.1, hk _ _ _ _ _ hL h.2⟩ | exact ⟨h.1, h.2.1, hk _ _ _ _ _ hL h.2.2⟩ | exact ⟨h.1, h.2.1, h.2.2.1, hk _ _ _ _ _ hL h.2.2.2⟩ | exact ⟨h.1, h.2.1, h.2.2.1, h.2.2.2.1, hk _ _ _ _ _ hL h.2.2.2.2⟩ | exact ⟨h.1, h.2.1, h.2.2.1, h.2.2.2.1, h.2.2.2.2.1, hk _ _ _ _ _ hL h.2.2.2.2.2⟩ | exact ⟨h.1, h.2.1, h.2.2.1, h.2.2.2.1, h.2.2.2.2.1, h.2.2.2.2.2.1, hk _ _ _ _ _ hL h.2.2.2.2.2.2⟩ | exact ⟨h.1, h.2.1, h.2.2.1, h.2.2.2.1, h.2.2.2.2.1, h.2.2.2.2.2.1, h.2.2.2.2.2.2.1, hk _ _ _ _ _ hL h.2.2.2.2.2.2.2⟩ | exact ⟨h.1, h.2.1, h.2.2.1, h.2.2.2.1, h.2.2.2.2.1, h.2.2.2.2.2.1, h.2.2.2.2.2.2.1, h.2.2.2.2.2.2.2.1, hk _ _ _ _ _ hL h.2.2.2.2.2.2.2.2⟩ | exact ⟨h.1, h.2.1, h.2.2.1, h.2.2.2.1, h.2.2.2.2.1, h.2.2.2.2.2.1, h.2.2.2.2.2.2.1, h.2.2.2.2.2.2.2.1, h.2.2.2.2.2.2.2.2.1, hk _ _ _ _ _ hL h.2.2.2.2.2.2.2.2.2⟩)
theorem cl_ldc : cm_Lo cm_ldc := by
  intro E P t pc L' L st M k' k hL hk h
  unfold cm_ldc at h ⊢
  dsimp only at h ⊢
  first | exact h.elim | exact hk _ _ _ _ _ hL h | exact ⟨h.1, hk _ _ _ _ _ hL h.2⟩ | exact ⟨h.1, h.2.1, hk _ _ _ _ _ hL h.2.2⟩ | exact ⟨h.1, h.2.1, h.2.2.1, hk _ _ _ _ _ hL h.2.2.2⟩ | exact ⟨h.1, h.2.1, h.2.2.1, h.2.2.2.1, hk _ _ _ _ _ hL h.2.2.2.2⟩ | exact ⟨h.1, h.2.1, h.2.2.1, h.2.2.2.1, h.2.2.2.2.1, hk _ _ _ _ _ hL h.2.2.2.2.2⟩ | exact ⟨h.1, h.2.1, h.2.2.1, h.2.2.2.1, h.2.2.2.2.1, h.2.2.2.2.2.1, hk _ _ _ _ _ hL h.2.2.2.2.2.2⟩ | exact ⟨h.1, h.2.1, h.2.2.1, h.2.2.2.1, h.2.2.2.2.1, h.2.2.2.2.2.1, h.2.2.2.2.2.2.1, hk _ _ _ _ _ hL h.2.2.2.2.2.2.2⟩ | exact ⟨h.1, h.2.1, h.2.2.1, h.2.2.2.1, h.2.2.2.2.1, h.2.2.2.2.2.1, h.2.2.2.2.2.2.1, h.2.2.2.2.2.2.2.1, hk _ _ _ _ _ hL h.2.2.2.2.2.2.2.2⟩ | exact ⟨h.1, h.2.1, h.2.2.1, h.2.2.2.1, h.2.2.2.2.1, h.2.2.2.2.2.1, h.2.2.2.2.2.2.1, h.2.2.2.2.2.2.2.1, h.2.2.2.2.2.2.2.2.1, hk _ _ _ _ _ hL h.2.2.2.2.2.2.2.2.2⟩
theorem cl_ldcS : cm_Lo cm_ldcS := by
  intro E P t pc L' L st M k' k hL hk h
  unfold cm_ldcS at h ⊢
  dsimp only at h ⊢
  first | exact h.elim | exact hk _ _ _ _ _ hL h | exact ⟨h.1, hk _ _ _ _ _ hL h.2⟩ | exact ⟨h.1, h.2.1, hk _ _ _ _ _ hL h.2.2⟩ | exact ⟨h.1, h.2.1, h.2.2.1, hk _ _ _ _ _ hL h.2.2.2⟩ | exact ⟨h.1, h.2.1, h.2.2.1, h.2.2.2.1, hk _ _ _ _ _ hL h.2.2.2.2⟩ | exact ⟨h.1, h.2.1, h.2.2.1, h.2.2.2.1, h.2.2.2.2.1, hk _ _ _ _ _ hL h.2.2.2.2.2⟩ | exact ⟨h.1, h.2.1, h.2.2.1, h.2.2.2.1, h.2.2.2.2.1, h.2.2.2.2.2.1, hk _ _ _ _ _ hL h.2.2.2.2.2.2⟩ | exact ⟨h.1, h.2.1, h.2.2.1, h.2.2.2.1, h.2.2.2.2.1, h.2.2.2.2.2.1, h.2.2.2.2.2.2.1, hk _ _ _ _ _ hL h.2.2.2.2.2.2.2⟩ | exact ⟨h.1, h.2.1, h.2.2.1, h.2.2.2.1, h.2.2.2.2.1, h.2.2.2.2.2.1, h.2.2.2.2.2.2.1, h.2.2.2.2.2.2.2.1, hk _ _ _ _ _ hL h.2.2.2.2.2.2.2.2⟩ | exact ⟨h.1, h.2.1, h.2.2.1, h.2.2.2.1, h.2.2.2.2.1, h.2.2.2.2.2.1, h.2.2.2.2.2.2.1, h.2.2.2.2.2.2.2.1, h.2.2.2.2.2.2.2.2.1, hk _ _ _ _ _ hL h.2.2.2.2.2.2.2.2.2⟩
theorem cl_getV : cm_Lo cm_getV := by
  intro E P t pc L' L st M k' k hL hk h
  unfold cm_getV at h ⊢
  dsimp only at h ⊢
  split at h <;> (first | exact h.elim | exact hk _ _ _ _ _ hL h | exact ⟨h.1, hk _ _ _ _ _ hL h.2⟩ | exact ⟨h.1, h.2.1, hk _ _ _ _ _ hL h.2.2⟩ | exact ⟨h.1, h.2.1, h.2.2.1, hk _ _ _ _ _ hL h.2.2.2⟩ | exact ⟨h.1, h.2.1, h.2.2.1, h.2.2.2.1, hk _ _ _ _ _ hL h.2.2.2.2⟩ | exact ⟨h.1, h.2.1, h.2.2.1, h.2.2.2.1, h.2.2.2.2.1, hk _ _ _ _ _ hL h.2.2.2.2.2⟩ | exact ⟨h.1, h.2.1, h.2.2.1, h.2.2.2.1, h.2.2.2.2.1, h.2.2.2.2.2.1, hk _ _ _ _ _ hL h.2.2.2.2.2.2⟩ | exact ⟨h.1, h.2.1, h.2.2.1, h.2.2.2.1, h.2.2.2.2.1, h.2.2.2.2.2.1, h.2.2.2.2.2.2.1, hk _ _ _ _ _ hL h.2.2.2.2.2.2.2⟩ | exact ⟨h.1, h.2.1, h.2.2.1, h.2.2.2.1, h.2.2.2.2.1, h.2.2.2.2.2.1, h.2.2.2.2.2.2.1, h.2.2.2.2.2.2.2.1, hk _ _ _ _ _ hL h.2.2.2.2.2.2.2.2⟩ | exact ⟨h.1, h.2.1, h.2.2.1, h.2.2.2.1, h.2.2.2.2.1, h.2.2.2.2.2.1, h.2.2.2.2.2.2.1, h.2.2.2.2.2.2.2.1, h.2.2.2.2.2.2.2.2.1, hk _ _ _ _ _ hL h.2.2.2.2.2.2.2.2.2⟩)
theorem cl_getC : cm_Lo cm_getC := by
  intro E P t pc L' L st M k' k hL hk h
  unfold cm_getC at h ⊢
  dsimp only at h ⊢
  split at h <;> (first | exact h.elim | exact hk _ _ _ _ _ hL h | exact ⟨h.1, hk _ _ _ _ _ hL h.2⟩ | exact ⟨h.1, h.2.1, hk _ _ _ _ _ hL h.2.2⟩ | exact ⟨h.1, h.2.1, h.2.2.1, hk _ _ _ _ _ hL h.2.2.2⟩ | exact ⟨h.1, h.2.1, h.2.2.1, h.2.2.2.1, hk _ _ _ _ _ hL h.2.2.2.2⟩ | exact ⟨h.1, h.2.1, h.2.2.1, h.2.2.2.1, h.2.2.2.2.1, hk _ _ _ _ _ hL h.2.2.2.2.2⟩ | exact ⟨h.1, h.2.1, h.2.2.1, h.2.2.2.1, h.2.2.2.2.1, h.2.2.2.2.2.1, hk _ _ _ _ _ hL h.2.2.2.2.2.2⟩ | exact ⟨h.1, h.2.1, h.2.2.1, h.2.2.2.1, h.2.2.2.2.1, h.2.2.2.2.2.1, h.2.2.2.2.2.2.1, hk _ _ _ _ _ hL h.2.2.2.2.2.2.2⟩ | exact ⟨h.1, h.2.1, h.2.2.1, h.2.2.2.1, h.2.2.2.2.1, h.2.2.2.2.2.1, h.2.2.2.2.2.2.1, h.2.2.2.2.2.2.2.1, hk _ _ _ _ _ hL h.2.2.2.2.2.2.2.2⟩ | exact ⟨h.1, h.2.1, h.2.2.1, h.2.2.2.1, h.2.2.2.2.1, h.2.2.2.2.2.1, h.2.2.2.2.2.2.1, h.2.2.2.2.2.2.2.1, h.2.2.2.2.2.2.2.2.1, hk _ _ _ _ _ hL h.2.2.2.2.2.2.2.2.2⟩)
theorem cl_gets : cm_Lo cm_gets := by
  intro E P t pc L' L st M k' k hL hk h
  unfold cm_gets at h ⊢
  dsimp only at h ⊢
  first | exact h.elim | exact hk _ _ _ _ _ hL h | exact ⟨h.1, hk _ _ _ _ _ hL h.2⟩ | exact ⟨h.1, h.2.1, hk _ _ _ _ _ hL h.2.2⟩ | exact ⟨h.1, h.2.1, h.2.2.1, hk _ _ _ _ _ hL h.2.2.2⟩ | exact ⟨h.1, h.2.1, h.2.2.1, h.2.2.2.1, hk _ _ _ _ _ hL h.2.2.2.2⟩ | exact ⟨h.1, h.2.1, h.2.2.1, h.2.2.2.1, h.2.2.2.2.1, hk _ _ _ _ _ hL h.2.2.2.2.2⟩ | exact ⟨h.1, h.2.1, h.2.2.1, h.2.2.2.1, h.2.2.2.2.1, h.2.2.2.2.2.1, hk _ _ _ _ _ hL h.2.2.2.2.2.2⟩ | exact ⟨h.1, h.2.1, h.2.2.1, h.2.2.2.1, h.2.2.2.2.1, h.2.2.2.2.2.1, h.2.2.2.2.2.2.1, hk _ _ _ _ _ hL h.2.2.2.2.2.2.2⟩ | exact ⟨h.1, h.2.1, h.2.2.1, h.2.2.2.1, h.2.2.2.2.1, h.2.2.2.2.2.1, h.2.2.2.2.2.2.1, h.2.2.2.2.2.2.2.1, hk _ _ _ _ _ hL h.2.2.2.2.2.2.2.2⟩ | exact ⟨h.1, h.2.1, h.2.2.1, h.2.2.2.1, h.2.2.2.2.1, h.2.2.2.2.2.1, h.2.2.2.2.2.2.1, h.2.2.2.2.2.2.2.1, h.2.2.2.2.2.2.2.2.1, hk _ _ _ _ _ hL h.2.2.2.2.2.2.2.2.2⟩
theorem cl_alenS : cm_Lo cm_alenS := by
  intro E P t pc L' L st M k' k hL hk h
  unfold cm_alenS at h ⊢
  dsimp only at h ⊢
  split at h
  · split at h
    · rename_i hz
      first | (first | exact h.elim | exact hk _ _ _ _ _ hL h | exact ⟨h.1, hk _ _ _ _ _ hL h.2⟩ | exact ⟨h.1, h.2.1, hk _ _ _ _ _ hL h.2.2⟩ | exact ⟨h.1, h.2.1, h.2.2.1, hk _ _ _ _ _ hL h.2.2.2⟩ | exact ⟨h.1, h.2.1, h.2.2.1, h.2.2.2.1, hk _ _ _ _ _ hL h.2.2.2.2⟩ | exact ⟨h.1, h.2.1, h.2.2.1, h.2.2.2.1, h.2.2.2.2.1, hk _ _ _ _ _ hL h.2.2.2.2.2⟩ | exact ⟨h.1, h.2.1, h.2.2.1, h.2.2.2.1, h.2.2.2.2.1, h.2.2.2.2.2.1, hk _ _ _ _ _ hL h.2.2.2.2.2.2⟩ | exact ⟨h.1, h.2.1, h.2.2.1, h.2.2.2.1, h.2.2.2.2.1, h.2.2.2.2.2.1, h.2.2.2.2.2.2.1, hk _ _ _ _ _ hL h.2.2.2.2.2.2.2⟩ | exact ⟨h.1, h.2.1, h.2.2.1, h.2.2.2.1, h.2.2.2.2.1, h.2.2.2.2.2.1, h.2.2.2.2.2.2.1, h.2.2.2.2.2.2.2.1, hk _ _ _ _ _ hL h.2.2.2.2.2.2.2.2⟩ | exact ⟨h.1, h.2.1, h.2.2.1, h.2.2.2.1, h.2.2.2.2.1, h.2.2.2.2.2.1, h.2.2.2.2.2.2.1, h.2.2.2.2.2.2.2.1, h.2.2.2.2.2.2.2.2.1, hk _ _ _ _ _ hL h.2.2.2.2.2.2.2.2.2⟩) | (dsimp only; rw [hz]; first | exact h.elim | exact hk _ _ _ _ _ hL h | exact ⟨h.1, hk _ _ _ _ _ hL h.2⟩ | exact ⟨h.1, h.2.1, hk _ _ _ _ _ hL h.2.2⟩ | exact ⟨h.1, h.2.1, h.2.2.1, hk _ _ _ _ _ hL h.2.2.2⟩ | exact ⟨h.1, h.2.1, h.2.2.1, h.2.2.2.1, hk _ _ _ _ _ hL h.2.2.2.2⟩ | exact ⟨h.1, h.2.1, h.2.2.1, h.2.2.2.1, h.2.2.2.2.1, hk _ _ _ _ _ hL h.2.2.2.2.2⟩ | exact ⟨h.1, h.2.1, h.2.2.1, h.2.2.2.1, h.2.2.2.2.1, h.2.2.2.2.2.1, hk _ _ _ _ _ hL h.2.2.2.2.2.2⟩ | exact ⟨h.1, h.2.1, h.2.2.1, h.2.2.2.1, h.2.2.2.2.1, h.2.2.2.2.2.1, h.2.2.2.2.2.2.1, hk _ _ _ _ _ hL h.2.2.2.2.2.2.2⟩ | exact ⟨h.1, h.2.1, h.2.2.1, h.2.2.2.1, h.2.2.2.2.1, h.2.2.2.2.2.1, h.2.2.2.2.2.2.1, h.2.2.2.2.2.2.2.1, hk _ _ _ _ _ hL h.2.2.2.2.2.2.2.2⟩ | exact ⟨h.1, h.2.1, h.2.2.1, h.2.2.2.1, h.2.2.2.2.1, h.2.2.2.2.2.1, h.2.2.2.2.2.2.1, h.2.2.2.2.2.2.2.1, h.2.2.2.2.2.2.2.2.1, hk _ _ _ _ _ hL h.2.2.2.2.2.2.2.2.2⟩) | (rw [hz]; first | exact h.elim | exact hk _ _ _ _ _ hL h | exact ⟨h.1, hk _ _ _ _ _ hL h.2⟩ | exact ⟨h.1, h.2.1, hk _ _ _ _ _ hL h.2.2⟩ | exact ⟨h.1, h.2.1, h.2.2.1, hk _ _ _ _ _ hL h.2.2.2⟩ | exact ⟨h.1, h.2.1, h.2.2.1, h.2.2.2.1, hk _ _ _ _ _ hL h.2.2.2.2⟩ | exact ⟨h.1, h.2.1, h.2.2.1, h.2.2.2.1, h.2.2.2.2.1, hk _ _ _ _ _ hL h.2.2.2.2.2⟩ | exact ⟨h.1, h.2.1, h.2.2.1, h.2.2.2.1, h.2.2.2.2.1, h.2.2.2.2.2.1, hk _ _ _ _ _ hL h.2.2.2.2.2.2⟩ | exact ⟨h.1, h.2.1, h.2.2.1, h.2.2.2.1, h.2.2.2.2.1, h.2.2.2.2.2.1, h.2.2.2.2.2.2.1, hk _ _ _ _ _ hL h.2.2.2.2.2.2.2⟩ | exact ⟨h.1, h.2.1, h.2.2.1, h.2.2.2.1, h.2.2.2.2.1, h.2.2.2.2.2.1, h.2.2.2.2.2.2.1, h.2.2.2.2.2.2.2.1, hk _ _ _ _ _ hL h.2.2.2.2.2.2.2.2⟩ | exact ⟨h.1, h.2.1, h.2.2.1, h.2.2.2.1, h.2.2.2.2.1, h.2.2.2.2.2.1, h.2.2.2.2.2.2.1, h.2.2.2.2.2.2.2.1, h.2.2.2.2.2.2.2.2.1, hk _ _ _ _ _ hL h.2.2.2.2.2.2.2.2.2⟩)
    · exact h.elim
  · exact h.elim
theorem cl_baloadS : cm_Lo cm_baloadS := by
  intro E P t pc L' L st M k' k hL hk h
  unfold cm_baloadS at h ⊢
  dsimp only at h ⊢
  split at h
  · split at h
    · rename_i hz
      first | (first | exact h.elim | exact hk _ _ _ _ _ hL h | exact ⟨h.1, hk _ _ _ _ _ hL h.2⟩ | exact ⟨h.1, h.2.1, hk _ _ _ _ _ hL h.2.2⟩ | exact ⟨h.1, h.2.1, h.2.2.1, hk _ _ _ _ _ hL h.2.2.2⟩ | exact ⟨h.1, h.2.1, h.2.2.1, h.2.2.2.1, hk _ _ _ _ _ hL h.2.2.2.2⟩ | exact ⟨h.1, h.2.1, h.2.2.1, h.2.2.2.1, h.2.2.2.2.1, hk _ _ _ _ _ hL h.2.2.2.2.2⟩ | exact ⟨h.1, h.2.1, h.2.2.1, h.2.2.2.1, h.2.2.2.2.1, h.2.2.2.2.2.1, hk _ _ _ _ _ hL h.2.2.2.2.2.2⟩ | exact ⟨h.1, h.2.1, h.2.2.1, h.2.2.2.1, h.2.2.2.2.1, h.2.2.2.2.2.1, h.2.2.2.2.2.2.1, hk _ _ _ _ _ hL h.2.2.2.2.2.2.2⟩ | exact ⟨h.1, h.2.1, h.2.2.1, h.2.2.2.1, h.2.2.2.2.1, h.2.2.2.2.2.1, h.2.2.2.2.2.2.1, h.2.2.2.2.2.2.2.1, hk _ _ _ _ _ hL h.2.2.2.2.2.2.2.2⟩ | exact ⟨h.1, h.2.1, h.2.2.1, h.2.2.2.1, h.2.2.2.2.1, h.2.2.2.2.2.1, h.2.2.2.2.2.2.1, h.2.2.2.2.2.2.2.1, h.2.2.2.2.2.2.2.2.1, hk _ _ _ _ _ hL h.2.2.2.2.2.2.2.2.2⟩) | (dsimp only; rw [hz]; first | exact h.elim | exact hk _ _ _ _ _ hL h | exact ⟨h.1, hk _ _ _ _ _ hL h.2⟩ | exact ⟨h.1, h.2.1, hk _ _ _ _ _ hL h.2.2⟩ | exact ⟨h.1, h.2.1, h.2.2.1, hk _ _ _ _ _ hL h.2.2.2⟩ | exact ⟨h.1, h.2.1, h.2.2.1, h.2.2.2.1, hk _ _ _ _ _ hL h.2.2.2.2⟩ | exact ⟨h.1, h.2.1, h.2.2.1, h.2.2.2.1, h.2.2.2.2.1, hk _ _ _ _ _ hL h.2.2.2.2.2⟩ | exact ⟨h.1, h.2.1, h.2.2.1, h.2.2.2.1, h.2.2.2.2.1, h.2.2.2.2.2.1, hk _ _ _ _ _ hL h.2.2.2.2.2.2⟩ | exact ⟨h.1, h.2.1, h.2.2.1, h.2.2.2.1, h.2.2.2.2.1, h.2.2.2.2.2.1, h.2.2.2.2.2.2.1, hk _ _ _ _ _ hL h.2.2.2.2.2.2.2⟩ | exact ⟨h.1, h.2.1, h.2.2.1, h.2.2.2.1, h.2.2.2.2.1, h.2.2.2.2.2.1, h.2.2.2.2.2.2.1, h.2.2.2.2.2.2.2.1, hk _ _ _ _ _ hL h.2.2.2.2.2.2.2.2⟩ | exact ⟨h.1, h.2.1, h.2.2.1, h.2.2.2.1, h.2.2.2.2.1, h.2.2.2.2.2.1, h.2.2.2.2.2.2.1, h.2.2.2.2.2.2.2.1, h.2.2.2.2.2.2.2.2.1, hk _ _ _ _ _ hL h.2.2.2.2.2.2.2.2.2⟩) | (rw [hz]; first | exact h.elim | exact hk _ _ _ _ _ hL h | exact ⟨h.1, hk _ _ _ _ _ hL h.2⟩ | exact ⟨h.1, h.2.1, hk _ _ _ _ _ hL h.2.2⟩ | exact ⟨h.1, h.2.1, h.2.2.1, hk _ _ _ _ _ hL h.2.2.2⟩ | exact ⟨h.1, h.2.1, h.2.2.1, h.2.2.2.1, hk _ _ _ _ _ hL h.2.2.2.2⟩ | exact ⟨h.1, h.2.1, h.2.2.1, h.2.2.2.1, h.2.2.2.2.1, hk _ _ _ _ _ hL h.2.2.2.2.2⟩ | exact ⟨h.1, h.2.1, h.2.2.1, h.2.2.2.1, h.2.2.2.2.1, h.2.2.2.2.2.1, hk _ _ _ _ _ hL h.2.2.2.2.2.2⟩ | exact ⟨h.1, h.2.1, h.2.2.1, h.2.2.2.1, h.2.2.2.2.1, h.2.2.2.2.2.1, h.2.2.2.2.2.2.1, hk _ _ _ _ _ hL h.2.2.2.2.2.2.2⟩ | exact ⟨h.1, h.2.1, h.2.2.1, h.2.2.2.1, h.2.2.2.2.1, h.2.2.2.2.2.1, h.2.2.2.2.2.2.1, h.2.2.2.2.2.2.2.1, hk _ _ _ _ _ hL h.2.2.2.2.2.2.2.2⟩ | exact ⟨h.1, h.2.1, h.2.2.1, h.2.2.2.1, h.2.2.2.2.1, h.2.2.2.2.2.1, h.2.2.2.2.2.2.1, h.2.2.2.2.2.2.2.1, h.2.2.2.2.2.2.2.2.1, hk _ _ _ _ _ hL h.2.2.2.2.2.2.2.2.2⟩)
    · exact h.elim
  · exact h.elim
theorem cl_i2c : cm_Lo cm_i2c := by
  intro E P t pc L' L st M k' k hL hk h
  unfold cm_i2c at h ⊢
  dsimp only at h ⊢
  split at h <;> (first | exact h.elim | exact hk _ _ _ _ _ hL h | exact ⟨h.1, hk _ _ _ _ _ hL h.2⟩ | exact ⟨h.1, h.2.1, hk _ _ _ _ _ hL h.2.2⟩ | exact ⟨h.1, h.2.1, h.2.2.1, hk _ _ _ _ _ hL h.2.2.2⟩ | exact ⟨h.1, h.2.1, h.2.2.1, h.2.2.2.1, hk _ _ _ _ _ hL h.2.2.2.2⟩ | exact ⟨h.1, h.2.1, h.2.2.1, h.2.2.2.1, h.2.2.2.2.1, hk _ _ _ _ _ hL h.2.2.2.2.2⟩ | exact ⟨h.1, h.2.1, h.2.2.1, h.2.2.2.1, h.2.2.2.2.1, h.2.2.2.2.2.1, hk _ _ _ _ _ hL h.2.2.2.2.2.2⟩ | exact ⟨h.1, h.2.1, h.2.2.1, h.2.2.2.1, h.2.2.2.2.1, h.2.2.2.2.2.1, h.2.2.2.2.2.2.1, hk _ _ _ _ _ hL h.2.2.2.2.2.2.2⟩ | exact ⟨h.1, h.2.1, h.2.2.1, h.2.2.2.1, h.2.2.2.2.1, h.2.2.2.2.2.1, h.2.2.2.2.2.2.1, h.2.2.2.2.2.2.2.1, hk _ _ _ _ _ hL h.2.2.2.2.2.2.2.2⟩ | exact ⟨h.1, h.2.1, h.2.2.1, h.2.2.2.1, h.2.2.2.2.1, h.2.2.2.2.2.1, h.2.2.2.2.2.2.1, h.2.2.2.2.2.2.2.1, h.2.2.2.2.2.2.2.2.1, hk _ _ _ _ _ hL h.2.2.2.2.2.2.2.2.2⟩)
theorem cl_ladd : cm_Lo cm_ladd := by
  intro E P t pc L' L st M k' k hL hk h
  unfold cm_ladd at h ⊢
  dsimp only at h ⊢
  split at h <;> (first | exact h.elim | exact hk _ _ _ _ _ hL h | exact ⟨h.1, hk _ _ _ _ _ hL h.2⟩ | exact ⟨h.1, h.2.1, hk _ _ _ _ _ hL h.2.2⟩ | exact ⟨h.1, h.2.1, h.2.2.1, hk _ _ _ _ _ hL h.2.2.2⟩ | exact ⟨h.1, h.2.1, h.2.2.1, h.2.2.2.1, hk _ _ _ _ _ hL h.2.2.2.2⟩ | exact ⟨h.1, h.2.1, h.2.2.1, h.2.2.2.1, h.2.2.2.2.1, hk _ _ _ _ _ hL h.2.2.2.2.2⟩ | exact ⟨h.1, h.2.1, h.2.2.1, h.2.2.2.1, h.2.2.2.2.1, h.2.2.2.2.2.1, hk _ _ _ _ _ hL h.2.2.2.2.2.2⟩ | exact ⟨h.1, h.2.1, h.2.2.1, h.2.2.2.1, h.2.2.2.2.1, h.2.2.2.2.2.1, h.2.2.2.2.2.2.1, hk _ _ _ _ _ hL h.2.2.2.2.2.2.2⟩ | exact ⟨h.1, h.2.1, h.2.2.1, h.2.2.2.1, h.2.2.2.2.1, h.2.2.2.2.2.1, h.2.2.2.2.2.2.1, h.2.2.2.2.2.2.2.1, hk _ _ _ _ _ hL h.2.2.2.2.2.2.2.2⟩ | exact ⟨h.1, h.2.1, h.2.2.1, h.2.2.2.1, h.2.2.2.2.1, h.2.2.2.2.2.1, h.2.2.2.2.2.2.1, h.2.2.2.2.2.2.2.1, h.2.2.2.2.2.2.2.2.1, hk _ _ _ _ _ hL h.2.2.2.2.2.2.2.2.2⟩)
theorem cl_lsub : cm_Lo cm_lsub := by
  intro E P t pc L' L st M k' k hL hk h
  unfold cm_lsub at h ⊢
  dsimp only at h ⊢
  split at h <;> (first | exact h.elim | exact hk _ _ _ _ _ hL h | exact ⟨h.1, hk _ _ _ _ _ hL h.2⟩ | exact ⟨h.1, h.2.1, hk _ _ _ _ _ hL h.2.2⟩ | exact ⟨h.1, h.2.1, h.2.2.1, hk _ _ _ _ _ hL h.2.2.2⟩ | exact ⟨h.1, h.2.1, h.2.2.1, h.2.2.2.1, hk _ _ _ _ _ hL h.2.2.2.2⟩ | exact ⟨h.1, h.2.1, h.2.2.1, h.2.2.2.1, h.2.2.2.2.1, hk _ _ _ _ _ hL h.2.2.2.2.2⟩ | exact ⟨h.1, h.2.1, h.2.2.1, h.2.2.2.1, h.2.2.2.2.1, h.2.2.2.2.2.1, hk _ _ _ _ _ hL h.2.2.2.2.2.2⟩ | exact ⟨h.1, h.2.1, h.2.2.1, h.2.2.2.1, h.2.2.2.2.1, h.2.2.2.2.2.1, h.2.2.2.2.2.2.1, hk _ _ _ _ _ hL h.2.2.2.2.2.2.2⟩ | exact ⟨h.1, h.2.1, h.2.2.1, h.2.2.2.1, h.2.2.2.2.1, h.2.2.2.2.2.1, h.2.2.2.2.2.2.1, h.2.2.2.2.2.2.2.1, hk _ _ _ _ _ hL h.2.2.2.2.2.2.2.2⟩ | exact ⟨h.1, h.2.1, h.2.2.1, h.2.2.2.1, h.2.2.2.2.1, h.2.2.2.2.2.1, h.2.2.2.2.2.2.1, h.2.2.2.2.2.2.2.1, h.2.2.2.2.2.2.2.2.1, hk _ _ _ _ _ hL h.2.2.2.2.2.2.2.2.2⟩)
theorem cl_lmul : cm_Lo cm_lmul := by
  intro E P t pc L' L st M k' k hL hk h
  unfold cm_lmul at h ⊢
  dsimp only at h ⊢
  split at h <;> (first | exact h.elim | exact hk _ _ _ _ _ hL h | exact ⟨h.1, hk _ _ _ _ _ hL h.2⟩ | exact ⟨h.1, h.2.1, hk _ _ _ _ _ hL h.2.2⟩ | exact ⟨h.1, h.2.1, h.2.2.1, hk _ _ _ _ _ hL h.2.2.2⟩ | exact ⟨h.1, h.2.1, h.2.2.1, h.2.2.2.1, hk _ _ _ _ _ hL h.2.2.2.2⟩ | exact ⟨h.1, h.2.1, h.2.2.1, h.2.2.2.1, h.2.2.2.2.1, hk _ _ _ _ _ hL h.2.2.2.2.2⟩ | exact ⟨h.1, h.2.1, h.2.2.1, h.2.2.2.1, h.2.2.2.2.1, h.2.2.2.2.2.1, hk _ _ _ _ _ hL h.2.2.2.2.2.2⟩ | exact ⟨h.1, h.2.1, h.2.2.1, h.2.2.2.1, h.2.2.2.2.1, h.2.2.2.2.2.1, h.2.2.2.2.2.2.1, hk _ _ _ _ _ hL h.2.2.2.2.2.2.2⟩ | exact ⟨h.1, h.2.1, h.2.2.1, h.2.2.2.1, h.2.2.2.2.1, h.2.2.2.2.2.1, h.2.2.2.2.2.2.1, h.2.2.2.2.2.2.2.1, hk _ _ _ _ _ hL h.2.2.2.2.2.2.2.2⟩ | exact ⟨h.1, h.2.1, h.2.2.1, h.2.2.2.1, h.2.2.2.2.1, h.2.2.2.2.2.1, h.2.2.2.2.2.2.1, h.2.2.2.2.2.2.2.1, h.2.2.2.2.2.2.2.2.1, hk _ _ _ _ _ hL h.2.2.2.2.2.2.2.2.2⟩)
theorem cl_ldiv : cm_Lo cm_ldiv := by
  intro E P t pc L' L st M k' k hL hk h
  unfold cm_ldiv at h ⊢
  dsimp only at h ⊢
  split at h <;> (first | exact h.elim | exact hk _ _ _ _ _ hL h | exact ⟨h.1, hk _ _ _ _ _ hL h.2⟩ | exact ⟨h.1, h.2.1, hk _ _ _ _ _ hL h.2.2⟩ | exact ⟨h.1, h.2.1, h.2.2.1, hk _ _ _ _ _ hL h.2.2.2⟩ | exact ⟨h.1, h.2.1, h.2.2.1, h.2.2.2.1, hk _ _ _ _ _ hL h.2.2.2.2⟩ | exact ⟨h.1, h.2.1, h.2.2.1, h.2.2.2.1, h.2.2.2.2.1, hk _ _ _ _ _ hL h.2.2.2.2.2⟩ | exact ⟨h.1, h.2.1, h.2.2.1, h.2.2.2.1, h.2.2.2.2.1, h.2.2.2.2.2.1, hk _ _ _ _ _ hL h.2.2.2.2.2.2⟩ | exact ⟨h.1, h.2.1, h.2.2.1, h.2.2.2.1, h.2.2.2.2.1, h.2.2.2.2.2.1, h.2.2.2.2.2.2.1, hk _ _ _ _ _ hL h.2.2.2.2.2.2.2⟩ | exact ⟨h.1, h.2.1, h.2.2.1, h.2.2.2.1, h.2.2.2.2.1, h.2.2.2.2.2.1, h.2.2.2.2.2.2.1, h.2.2.2.2.2.2.2.1, hk _ _ _ _ _ hL h.2.2.2.2.2.2.2.2⟩ | exact ⟨h.1, h.2.1, h.2.2.1, h.2.2.2.1, h.2.2.2.2.1, h.2.2.2.2.2.1, h.2.2.2.2.2.2.1, h.2.2.2.2.2.2.2.1, h.2.2.2.2.2.2.2.2.1, hk _ _ _ _ _ hL h.2.2.2.2.2.2.2.2.2⟩)
theorem cl_lrem : cm_Lo cm_lrem := by
  intro E P t pc L' L st M k' k hL hk h
  unfold cm_lrem at h ⊢
  dsimp only at h ⊢
  split at h <;> (first | exact h.elim | exact hk _ _ _ _ _ hL h | exact ⟨h.1, hk _ _ _ _ _ hL h.2⟩ | exact ⟨h.1, h.2.1, hk _ _ _ _ _ hL h.2.2⟩ | exact ⟨h.1, h.2.1, h.2.2.1, hk _ _ _ _ _ hL h.2.2.2⟩ | exact ⟨h.1, h.2.1, h.2.2.1, h.2.2.2.1, hk _ _ _ _ _ hL h.2.2.2.2⟩ | exact ⟨h.1, h.2.1, h.2.2.1, h.2.2.2.1, h.2.2.2.2.1, hk _ _ _ _ _ hL h.2.2.2.2.2⟩ | exact ⟨h.1, h.2.1, h.2.2.1, h.2.2.2.1, h.2.2.2.2.1, h.2.2.2.2.2.1, hk _ _ _ _ _ hL h.2.2.2.2.2.2⟩ | exact ⟨h.1, h.2.1, h.2.2.1, h.2.2.2.1, h.2.2.2.2.1, h.2.2.2.2.2.1, h.2.2.2.2.2.2.1, hk _ _ _ _ _ hL h.2.2.2.2.2.2.2⟩ | exact ⟨h.1, h.2.1, h.2.2.1, h.2.2.2.1, h.2.2.2.2.1, h.2.2.2.2.2.1, h.2.2.2.2.2.2.1, h.2.2.2.2.2.2.2.1, hk _ _ _ _ _ hL h.2.2.2.2.2.2.2.2⟩ | exact ⟨h.1, h.2.1, h.2.2.1, h.2.2.2.1, h.2.2.2.2.1, h.2.2.2.2.2.1, h.2.2.2.2.2.2.1, h.2.2.2.2.2.2.2.1, h.2.2.2.2.2.2.2.2.1, hk _ _ _ _ _ hL h.2.2.2.2.2.2.2.2.2⟩)
theorem cl_ldc2 : cm_Lo cm_ldc2 := by
  intro E P t pc L' L st M k' k hL hk h
  unfold cm_ldc2 at h ⊢
  dsimp only at h ⊢
  first | exact h.elim | exact hk _ _ _ _ _ hL h | exact ⟨h.1, hk _ _ _ _ _ hL h.2⟩ | exact ⟨h.1, h.2.1, hk _ _ _ _ _ hL h.2.2⟩ | exact ⟨h.1, h.2.1, h.2.2.1, hk _ _ _ _ _ hL h.2.2.2⟩ | exact ⟨h.1, h.2.1, h.2.2.1, h.2.2.2.1, hk _ _ _ _ _ hL h.2.2.2.2⟩ | exact ⟨h.1, h.2.1, h.2.2.1, h.2.2.2.1, h.2.2.2.2.1, hk _ _ _ _ _ hL h.2.2.2.2.2⟩ | exact ⟨h.1, h.2.1, h.2.2.1, h.2.2.2.1, h.2.2.2.2.1, h.2.2.2.2.2.1, hk _ _ _ _ _ hL h.2.2.2.2.2.2⟩ | exact ⟨h.1, h.2.1, h.2.2.1, h.2.2.2.1, h.2.2.2.2.1, h.2.2.2.2.2.1, h.2.2.2.2.2.2.1, hk _ _ _ _ _ hL h.2.2.2.2.2.2.2⟩ | exact ⟨h.1, h.2.1, h.2.2.1, h.2.2.2.1, h.2.2.2.2.1, h.2.2.2.2.2.1, h.2.2.2.2.2.2.1, h.2.2.2.2.2.2.2.1, hk _ _ _ _ _ hL h.2.2.2.2.2.2.2.2⟩ | exact ⟨h.1, h.2.1, h.2.2.1, h.2.2.2.1, h.2.2.2.2.1, h.2.2.2.2.2.1, h.2.2.2.2.2.2.1, h.2.2.2.2.2.2.2.1, h.2.2.2.2.2.2.2.2.1, hk _ _ _ _ _ hL h.2.2.2.2.2.2.2.2.2⟩
theorem cl_getsF : cm_Lo cm_getsF := by
  intro E P t pc L' L st M k' k hL hk h
  unfold cm_getsF at h ⊢
  dsimp only at h ⊢
  exact ⟨hk _ _ _ _ _ hL h.1, hk _ _ _ _ _ hL h.2⟩
theorem cl_ldcw : cm_Lo cm_ldcw := by
  intro E P t pc L' L st M k' k hL hk h
  unfold cm_ldcw at h ⊢
  dsimp only at h ⊢
  first | exact h.elim | exact hk _ _ _ _ _ hL h | exact ⟨h.1, hk _ _ _ _ _ hL h.2⟩ | exact ⟨h.1, h.2.1, hk _ _ _ _ _ hL h.2.2⟩ | exact ⟨h.1, h.2.1, h.2.2.1, hk _ _ _ _ _ hL h.2.2.2⟩ | exact ⟨h.1, h.2.1, h.2.2.1, h.2.2.2.1, hk _ _ _ _ _ hL h.2.2.2.2⟩ | exact ⟨h.1, h.2.1, h.2.2.1, h.2.2.2.1, h.2.2.2.2.1, hk _ _ _ _ _ hL h.2.2.2.2.2⟩ | exact ⟨h.1, h.2.1, h.2.2.1, h.2.2.2.1, h.2.2.2.2.1, h.2.2.2.2.2.1, hk _ _ _ _ _ hL h.2.2.2.2.2.2⟩ | exact ⟨h.1, h.2.1, h.2.2.1, h.2.2.2.1, h.2.2.2.2.1, h.2.2.2.2.2.1, h.2.2.2.2.2.2.1, hk _ _ _ _ _ hL h.2.2.2.2.2.2.2⟩ | exact ⟨h.1, h.2.1, h.2.2.1, h.2.2.2.1, h.2.2.2.2.1, h.2.2.2.2.2.1, h.2.2.2.2.2.2.1, h.2.2.2.2.2.2.2.1, hk _ _ _ _ _ hL h.2.2.2.2.2.2.2.2⟩ | exact ⟨h.1, h.2.1, h.2.2.1, h.2.2.2.1, h.2.2.2.2.1, h.2.2.2.2.2.1, h.2.2.2.2.2.2.1, h.2.2.2.2.2.2.2.1, h.2.2.2.2.2.2.2.2.1, hk _ _ _ _ _ hL h.2.2.2.2.2.2.2.2.2⟩
theorem cl_mmax : cm_Lo cm_mmax := by
  intro E P t pc L' L st M k' k hL hk h
  unfold cm_mmax at h ⊢
  dsimp only at h ⊢
  split at h <;> (first | exact h.elim | exact hk _ _ _ _ _ hL h | exact ⟨h.1, hk _ _ _ _ _ hL h.2⟩ | exact ⟨h.1, h.2.1, hk _ _ _ _ _ hL h.2.2⟩ | exact ⟨h.1, h.2.1, h.2.2.1, hk _ _ _ _ _ hL h.2.2.2⟩ | exact ⟨h.1, h.2.1, h.2.2.1, h.2.2.2.1, hk _ _ _ _ _ hL h.2.2.2.2⟩ | exact ⟨h.1, h.2.1, h.2.2.1, h.2.2.2.1, h.2.2.2.2.1, hk _ _ _ _ _ hL h.2.2.2.2.2⟩ | exact ⟨h.1, h.2.1, h.2.2.1, h.2.2.2.1, h.2.2.2.2.1, h.2.2.2.2.2.1, hk _ _ _ _ _ hL h.2.2.2.2.2.2⟩ | exact ⟨h.1, h.2.1, h.2.2.1, h.2.2.2.1, h.2.2.2.2.1, h.2.2.2.2.2.1, h.2.2.2.2.2.2.1, hk _ _ _ _ _ hL h.2.2.2.2.2.2.2⟩ | exact ⟨h.1, h.2.1, h.2.2.1, h.2.2.2.1, h.2.2.2.2.1, h.2.2.2.2.2.1, h.2.2.2.2.2.2.1, h.2.2.2.2.2.2.2.1, hk _ _ _ _ _ hL h.2.2.2.2.2.2.2.2⟩ | exact ⟨h.1, h.2.1, h.2.2.1, h.2.2.2.1, h.2.2.2.2.1, h.2.2.2.2.2.1, h.2.2.2.2.2.2.1, h.2.2.2.2.2.2.2.1, h.2.2.2.2.2.2.2.2.1, hk _ _ _ _ _ hL h.2.2.2.2.2.2.2.2.2⟩)
theorem cl_mabs : cm_Lo cm_mabs := by
  intro E P t pc L' L st M k' k hL hk h
  unfold cm_mabs at h ⊢
  dsimp only at h ⊢
  split at h <;> (first | exact h.elim | exact hk _ _ _ _ _ hL h | exact ⟨h.1, hk _ _ _ _ _ hL h.2⟩ | exact ⟨h.1, h.2.1, hk _ _ _ _ _ hL h.2.2⟩ | exact ⟨h.1, h.2.1, h.2.2.1, hk _ _ _ _ _ hL h.2.2.2⟩ | exact ⟨h.1, h.2.1, h.2.2.1, h.2.2.2.1, hk _ _ _ _ _ hL h.2.2.2.2⟩ | exact ⟨h.1, h.2.1, h.2.2.1, h.2.2.2.1, h.2.2.2.2.1, hk _ _ _ _ _ hL h.2.2.2.2.2⟩ | exact ⟨h.1, h.2.1, h.2.2.1, h.2.2.2.1, h.2.2.2.2.1, h.2.2.2.2.2.1, hk _ _ _ _ _ hL h.2.2.2.2.2.2⟩ | exact ⟨h.1, h.2.1, h.2.2.1, h.2.2.2.1, h.2.2.2.2.1, h.2.2.2.2.2.1, h.2.2.2.2.2.2.1, hk _ _ _ _ _ hL h.2.2.2.2.2.2.2⟩ | exact ⟨h.1, h.2.1, h.2.2.1, h.2.2.2.1, h.2.2.2.2.1, h.2.2.2.2.2.1, h.2.2.2.2.2.2.1, h.2.2.2.2.2.2.2.1, hk _ _ _ _ _ hL h.2.2.2.2.2.2.2.2⟩ | exact ⟨h.1, h.2.1, h.2.2.1, h.2.2.2.1, h.2.2.2.2.1, h.2.2.2.2.2.1, h.2.2.2.2.2.2.1, h.2.2.2.2.2.2.2.1, h.2.2.2.2.2.2.2.2.1, hk _ _ _ _ _ hL h.2.2.2.2.2.2.2.2.2⟩)
theorem cl_copyi : cm_Lo cm_copyi := by
  intro E P t pc L' L st M k' k hL hk h
  unfold cm_copyi at h ⊢
  dsimp only at h ⊢
  split at h <;> (first | exact h.elim | exact hk _ _ _ _ _ hL h | exact ⟨h.1, hk _ _ _ _ _ hL h.2⟩ | exact ⟨h.1, h.2.1, hk _ _ _ _ _ hL h.2.2⟩ | exact ⟨h.1, h.2.1, h.2.2.1, hk _ _ _ _ _ hL h.2.2.2⟩ | exact ⟨h.1, h.2.1, h.2.2.1, h.2.2.2.1, hk _ _ _ _ _ hL h.2.2.2.2⟩ | exact ⟨h.1, h.2.1, h.2.2.1, h.2.2.2.1, h.2.2.2.2.1, hk _ _ _ _ _ hL h.2.2.2.2.2⟩ | exact ⟨h.1, h.2.1, h.2.2.1, h.2.2.2.1, h.2.2.2.2.1, h.2.2.2.2.2.1, hk _ _ _ _ _ hL h.2.2.2.2.2.2⟩ | exact ⟨h.1, h.2.1, h.2.2.1, h.2.2.2.1, h.2.2.2.2.1, h.2.2.2.2.2.1, h.2.2.2.2.2.2.1, hk _ _ _ _ _ hL h.2.2.2.2.2.2.2⟩ | exact ⟨h.1, h.2.1, h.2.2.1, h.2.2.2.1, h.2.2.2.2.1, h.2.2.2.2.2.1, h.2.2.2.2.2.2.1, h.2.2.2.2.2.2.2.1, hk _ _ _ _ _ hL h.2.2.2.2.2.2.2.2⟩ | exact ⟨h.1, h.2.1, h.2.2.1, h.2.2.2.1, h.2.2.2.2.1, h.2.2.2.2.2.1, h.2.2.2.2.2.2.1, h.2.2.2.2.2.2.2.1, h.2.2.2.2.2.2.2.2.1, hk _ _ _ _ _ hL h.2.2.2.2.2.2.2.2.2⟩)
theorem cl_getT : cm_Lo cm_getT := by
  intro E P t pc L' L st M k' k hL hk h
  unfold cm_getT at h ⊢
  dsimp only at h ⊢
  first | exact h.elim | exact hk _ _ _ _ _ hL h | exact ⟨h.1, hk _ _ _ _ _ hL h.2⟩ | exact ⟨h.1, h.2.1, hk _ _ _ _ _ hL h.2.2⟩ | exact ⟨h.1, h.2.1, h.2.2.1, hk _ _ _ _ _ hL h.2.2.2⟩ | exact ⟨h.1, h.2.1, h.2.2.1, h.2.2.2.1, hk _ _ _ _ _ hL h.2.2.2.2⟩ | exact ⟨h.1, h.2.1, h.2.2.1, h.2.2.2.1, h.2.2.2.2.1, hk _ _ _ _ _ hL h.2.2.2.2.2⟩ | exact ⟨h.1, h.2.1, h.2.2.1, h.2.2.2.1, h.2.2.2.2.1, h.2.2.2.2.2.1, hk _ _ _ _ _ hL h.2.2.2.2.2.2⟩ | exact ⟨h.1, h.2.1, h.2.2.1, h.2.2.2.1, h.2.2.2.2.1, h.2.2.2.2.2.1, h.2.2.2.2.2.2.1, hk _ _ _ _ _ hL h.2.2.2.2.2.2.2⟩ | exact ⟨h.1, h.2.1, h.2.2.1, h.2.2.2.1, h.2.2.2.2.1, h.2.2.2.2.2.1, h.2.2.2.2.2.2.1, h.2.2.2.2.2.2.2.1, hk _ _ _ _ _ hL h.2.2.2.2.2.2.2.2⟩ | exact ⟨h.1, h.2.1, h.2.2.1, h.2.2.2.1, h.2.2.2.2.1, h.2.2.2.2.2.1, h.2.2.2.2.2.2.1, h.2.2.2.2.2.2.2.1, h.2.2.2.2.2.2.2.2.1, hk _ _ _ _ _ hL h.2.2.2.2.2.2.2.2.2⟩
theorem cl_tald : cm_Lo cm_tald := by
  intro E P t pc L' L st M k' k hL hk h
  unfold cm_tald at h ⊢
  dsimp only at h ⊢
  split at h <;> (first | exact h.elim | exact hk _ _ _ _ _ hL h | exact ⟨h.1, hk _ _ _ _ _ hL h.2⟩ | exact ⟨h.1, h.2.1, hk _ _ _ _ _ hL h.2.2⟩ | exact ⟨h.1, h.2.1, h.2.2.1, hk _ _ _ _ _ hL h.2.2.2⟩ | exact ⟨h.1, h.2.1, h.2.2.1, h.2.2.2.1, hk _ _ _ _ _ hL h.2.2.2.2⟩ | exact ⟨h.1, h.2.1, h.2.2.1, h.2.2.2.1, h.2.2.2.2.1, hk _ _ _ _ _ hL h.2.2.2.2.2⟩ | exact ⟨h.1, h.2.1, h.2.2.1, h.2.2.2.1, h.2.2.2.2.1, h.2.2.2.2.2.1, hk _ _ _ _ _ hL h.2.2.2.2.2.2⟩ | exact ⟨h.1, h.2.1, h.2.2.1, h.2.2.2.1, h.2.2.2.2.1, h.2.2.2.2.2.1, h.2.2.2.2.2.2.1, hk _ _ _ _ _ hL h.2.2.2.2.2.2.2⟩ | exact ⟨h.1, h.2.1, h.2.2.1, h.2.2.2.1, h.2.2.2.2.1, h.2.2.2.2.2.1, h.2.2.2.2.2.2.1, h.2.2.2.2.2.2.2.1, hk _ _ _ _ _ hL h.2.2.2.2.2.2.2.2⟩ | exact ⟨h.1, h.2.1, h.2.2.1, h.2.2.2.1, h.2.2.2.2.1, h.2.2.2.2.2.1, h.2.2.2.2.2.2.1, h.2.2.2.2.2.2.2.1, h.2.2.2.2.2.2.2.2.1, hk _ _ _ _ _ hL h.2.2.2.2.2.2.2.2.2⟩)
theorem cl_alenT : cm_Lo cm_alenT := by
  intro E P t pc L' L st M k' k hL hk h
  unfold cm_alenT at h ⊢
  dsimp only at h ⊢
  split at h <;> (first | exact h.elim | exact hk _ _ _ _ _ hL h | exact ⟨h.1, hk _ _ _ _ _ hL h.2⟩ | exact ⟨h.1, h.2.1, hk _ _ _ _ _ hL h.2.2⟩ | exact ⟨h.1, h.2.1, h.2.2.1, hk _ _ _ _ _ hL h.2.2.2⟩ | exact ⟨h.1, h.2.1, h.2.2.1, h.2.2.2.1, hk _ _ _ _ _ hL h.2.2.2.2⟩ | exact ⟨h.1, h.2.1, h.2.2.1, h.2.2.2.1, h.2.2.2.2.1, hk _ _ _ _ _ hL h.2.2.2.2.2⟩ | exact ⟨h.1, h.2.1, h.2.2.1, h.2.2.2.1, h.2.2.2.2.1, h.2.2.2.2.2.1, hk _ _ _ _ _ hL h.2.2.2.2.2.2⟩ | exact ⟨h.1, h.2.1, h.2.2.1, h.2.2.2.1, h.2.2.2.2.1, h.2.2.2.2.2.1, h.2.2.2.2.2.2.1, hk _ _ _ _ _ hL h.2.2.2.2.2.2.2⟩ | exact ⟨h.1, h.2.1, h.2.2.1, h.2.2.2.1, h.2.2.2.2.1, h.2.2.2.2.2.1, h.2.2.2.2.2.2.1, h.2.2.2.2.2.2.2.1, hk _ _ _ _ _ hL h.2.2.2.2.2.2.2.2⟩ | exact ⟨h.1, h.2.1, h.2.2.1, h.2.2.2.1, h.2.2.2.2.1, h.2.2.2.2.2.1, h.2.2.2.2.2.2.1, h.2.2.2.2.2.2.2.1, h.2.2.2.2.2.2.2.2.1, hk _ _ _ _ _ hL h.2.2.2.2.2.2.2.2.2⟩)
theorem cl_lastore : cm_Lo cm_lastore := by
  intro E P t pc L' L st M k' k hL hk h
  unfold cm_lastore at h ⊢
  dsimp only at h ⊢
  split at h <;> (first | exact h.elim | exact hk _ _ _ _ _ hL h | exact ⟨h.1, hk _ _ _ _ _ hL h.2⟩ | exact ⟨h.1, h.2.1, hk _ _ _ _ _ hL h.2.2⟩ | exact ⟨h.1, h.2.1, h.2.2.1, hk _ _ _ _ _ hL h.2.2.2⟩ | exact ⟨h.1, h.2.1, h.2.2.1, h.2.2.2.1, hk _ _ _ _ _ hL h.2.2.2.2⟩ | exact ⟨h.1, h.2.1, h.2.2.1, h.2.2.2.1, h.2.2.2.2.1, hk _ _ _ _ _ hL h.2.2.2.2.2⟩ | exact ⟨h.1, h.2.1, h.2.2.1, h.2.2.2.1, h.2.2.2.2.1, h.2.2.2.2.2.1, hk _ _ _ _ _ hL h.2.2.2.2.2.2⟩ | exact ⟨h.1, h.2.1, h.2.2.1, h.2.2.2.1, h.2.2.2.2.1, h.2.2.2.2.2.1, h.2.2.2.2.2.2.1, hk _ _ _ _ _ hL h.2.2.2.2.2.2.2⟩ | exact ⟨h.1, h.2.1, h.2.2.1, h.2.2.2.1, h.2.2.2.2.1, h.2.2.2.2.2.1, h.2.2.2.2.2.2.1, h.2.2.2.2.2.2.2.1, hk _ _ _ _ _ hL h.2.2.2.2.2.2.2.2⟩ | exact ⟨h.1, h.2.1, h.2.2.1, h.2.2.2.1, h.2.2.2.2.1, h.2.2.2.2.2.1, h.2.2.2.2.2.2.1, h.2.2.2.2.2.2.2.1, h.2.2.2.2.2.2.2.2.1, hk _ _ _ _ _ hL h.2.2.2.2.2.2.2.2.2⟩)
theorem cl_pop2 : cm_Lo cm_pop2 := by
  intro E P t pc L' L st M k' k hL hk h
  unfold cm_pop2 at h ⊢
  dsimp only at h ⊢
  split at h <;> (first | exact h.elim | exact hk _ _ _ _ _ hL h | exact ⟨h.1, hk _ _ _ _ _ hL h.2⟩ | exact ⟨h.1, h.2.1, hk _ _ _ _ _ hL h.2.2⟩ | exact ⟨h.1, h.2.1, h.2.2.1, hk _ _ _ _ _ hL h.2.2.2⟩ | exact ⟨h.1, h.2.1, h.2.2.1, h.2.2.2.1, hk _ _ _ _ _ hL h.2.2.2.2⟩ | exact ⟨h.1, h.2.1, h.2.2.1, h.2.2.2.1, h.2.2.2.2.1, hk _ _ _ _ _ hL h.2.2.2.2.2⟩ | exact ⟨h.1, h.2.1, h.2.2.1, h.2.2.2.1, h.2.2.2.2.1, h.2.2.2.2.2.1, hk _ _ _ _ _ hL h.2.2.2.2.2.2⟩ | exact ⟨h.1, h.2.1, h.2.2.1, h.2.2.2.1, h.2.2.2.2.1, h.2.2.2.2.2.1, h.2.2.2.2.2.2.1, hk _ _ _ _ _ hL h.2.2.2.2.2.2.2⟩ | exact ⟨h.1, h.2.1, h.2.2.1, h.2.2.2.1, h.2.2.2.2.1, h.2.2.2.2.2.1, h.2.2.2.2.2.2.1, h.2.2.2.2.2.2.2.1, hk _ _ _ _ _ hL h.2.2.2.2.2.2.2.2⟩ | exact ⟨h.1, h.2.1, h.2.2.1, h.2.2.2.1, h.2.2.2.2.1, h.2.2.2.2.2.1, h.2.2.2.2.2.2.1, h.2.2.2.2.2.2.2.1, h.2.2.2.2.2.2.2.2.1, hk _ _ _ _ _ hL h.2.2.2.2.2.2.2.2.2⟩)
theorem cl_1 {o : cm_O} {l : List cm_O} (h : cm_Lo o) (h2 : ∀ o ∈ l, cm_Lo o) : ∀ o' ∈ o :: l, cm_Lo o' := List.forall_mem_cons.mpr ⟨h, h2⟩
theorem cl_ops : ∀ o ∈ cm_ops, cm_Lo o := cl_1 cl_iconst (cl_1 cl_bipush (cl_1 cl_sipush (cl_1 cl_lconst (cl_1 cl_iload (cl_1 cl_iloadn (cl_1 cl_lload (cl_1 cl_lloadn (cl_1 cl_aload (cl_1 cl_aloadn (cl_1 cl_istore (cl_1 cl_istoren (cl_1 cl_lstore (cl_1 cl_lstoren (cl_1 cl_astore (cl_1 cl_astoren (cl_1 cl_iadd (cl_1 cl_isub (cl_1 cl_imul (cl_1 cl_iand (cl_1 cl_ior (cl_1 cl_ixor (cl_1 cl_ishl (cl_1 cl_ishr (cl_1 cl_iushr (cl_1 cl_idiv (cl_1 cl_irem (cl_1 cl_ineg (cl_1 cl_i2b (cl_1 cl_i2l (cl_1 cl_lcmp (cl_1 cl_dup (cl_1 cl_pop (cl_1 cl_dup2 (cl_1 cl_iinc (cl_1 cl_icmp_eq (cl_1 cl_icmp_ne (cl_1 cl_icmp_lt (cl_1 cl_icmp_ge (cl_1 cl_icmp_gt (cl_1 cl_icmp_le (cl_1 cl_if_eq (cl_1 cl_if_ne (cl_1 cl_if_lt (cl_1 cl_if_ge (cl_1 cl_if_gt (cl_1 cl_if_le (cl_1 cl_goto (cl_1 cl_sw (cl_1 cl_get (cl_1 cl_put (cl_1 cl_no (cl_1 cl_iaload (cl_1 cl_baload (cl_1 cl_laload (cl_1 cl_aaload (cl_1 cl_iastore (cl_1 cl_bastore (cl_1 cl_no (cl_1 cl_no (cl_1 cl_no (cl_1 cl_no (cl_1 cl_no (cl_1 cl_no (cl_1 cl_alen (cl_1 cl_sald (cl_1 cl_no (cl_1 cl_mmin (cl_1 cl_ldc (cl_1 cl_ldcS (cl_1 cl_getV (cl_1 cl_getC (cl_1 cl_gets (cl_1 cl_alenS (cl_1 cl_baloadS (cl_1 cl_i2c (cl_1 cl_ladd (cl_1 cl_lsub (cl_1 cl_lmul (cl_1 cl_ldiv (cl_1 cl_lrem (cl_1 cl_ldc2 (cl_1 cl_getsF (cl_1 cl_ldcw (cl_1 cl_mmax (cl_1 cl_mabs (cl_1 cl_copyi (cl_1 cl_getT (cl_1 cl_tald (cl_1 cl_alenT (cl_1 cl_lastore (cl_1 cl_pop2 (fun _ h => absurd h List.not_mem_nil))))))))))))))))))))))))))))))))))))))))))))))))))))))))))))))))))))))))))))))))))))))))))))
theorem cm_take_ok {recv : Bool} {n : Nat} {st as rest : List Value} (h : cm_take recv n st = some (as, rest)) : ∃ xs : List Value, xs.length = n ∧ ((recv = true ∧ ∃ v, as = v :: xs ∧ st = xs.reverse ++ v :: rest) ∨ (recv = false ∧ as = xs ∧ st = xs.reverse ++ rest)) := by
  have hsp : st = st.take n ++ st.drop n := (List.take_append_drop n st).symm
  unfold cm_take at h
  split at h
  · rename_i hr
    split at h
    · rename_i x rest' hd
      split at h
      · rename_i hl
        cases h
        exact ⟨(st.take n).reverse, by rw [List.length_reverse]; exact hl, Or.inl ⟨hr, x, rfl, by rw [List.reverse_reverse, ← hd]; exact hsp⟩⟩
      · cases h
    · cases h
  · rename_i hr
    split at h
    · rename_i hl
      cases h
      exact ⟨(st.take n).reverse, by rw [List.length_reverse]; exact hl, Or.inr ⟨by simpa using hr, rfl, by rw [List.reverse_reverse]; exact hsp⟩⟩
    · cases h
theorem cm_callW {p : Program} {l : Launch} {e : Env} {R : Room} {s : State} {m : MethodId} {args : Array Value} {below : List Frame} {meth : Method} {c : Code} {H : Heap} {locs : List Loc} {ce sl pc : Nat} {ls : Array Slot} {rest st0 : List Value} {a : Array Value} {A A1 : Nat → Prop} {H0 : Heap} {free : Addr → Prop} {Q : State → Prop} {D : va_G} {adr : Nat → Nat} {P0 : cm_K}
    (hr : va_Run p l e R s m args below meth c H locs ce sl 0 0 (F0 m pc ls st0) rest (cm_Q D adr A1 P0 a) free) (hS : va_S A H0 H locs) (hA : ∀ q, A1 q → A q) (hf : ∀ q, free q → A q)
    (kk : ∀ (v : Option Value) (M' : cm_M) (ws' : va_W) (t : State) (H1 : Heap) (locs1 : List Loc), P0 v M' → t.heap = H1 → s.vm.Alike t.vm → va_P D vwCl ws' H1 → va_D A1 ws' → cm_w t adr M' ws' → va_S A H0 H1 locs1 → W p l e R s m args below meth c H1 locs1 ce sl Q (F0 m (pc + 3) ls ((v.map (cm_v adr)).toList ++ rest))) :
    W p l e R s m args below meth c H locs ce sl Q (F0 m pc ls st0) := by
  intro T hT X
  obtain ⟨v, st₀, t, T', L, h0, X', hL, e1, e2, ⟨⟨v', M', ws', hv0, hv, hP, hD, hw⟩, hz, hk⟩, st⟩ := hr T hT X
  cases hv
  rw [h0] at hz hk
  obtain ⟨t2, a1, b1⟩ := kk v' M' ws' t T'.heap (locs ++ L) hv0 e1.symm (by rw [← e2]; exact X'.warmed.alike) (by rw [e1]; exact hP) hD hw
    ⟨Nat.le_trans hS.1 (by rw [e1]; exact hz), fun q h1 h2 => by rw [e1, hk q (Nat.lt_of_lt_of_le h1 hS.1) (fun z => h2 (hA q z))]; exact hS.2.1 q h1 h2, fun q hq => by
      rcases List.mem_append.mp hq with h | h
      · exact hS.2.2 q h
      · exact hf _ (hL q h)⟩ T' rfl X'
  exact ⟨t2, st t2 a1, b1⟩
theorem cm_Pb_blind {D : va_G} {adr : Nat → Nat} {ws : va_W} {sz : Nat} {M : cm_M} {asc : List Value} : FrameBlind (va_Pc asc (cm_Pb D adr ws sz M)) := fun a U gf mk q => by
  obtain ⟨q0, q1, q2, q3, q4, q5, q6⟩ := q
  exact ⟨q0, q1, q2, va_K.moved (u := U) (U := U.calling gf mk a) (Vm.Alike.refl U.vm) q3, q4, cm_w_moved (u := U) (U := U.calling gf mk a) (Vm.Alike.refl U.vm) q5, cm_N_same (u := U) (U := U.calling gf mk a) rfl q6⟩
theorem cm_rowI_op {ms : List ev_MI} {P : ev_P} {r : ev_Row} (h : r.1 < 200) : cm_rowI ms P r = (match cm_ops[r.1]? with
    | some o => o.1 P r.2
    | none => none) := by
  unfold cm_rowI
  split
  · omega
  · omega
  · omega
  · omega
  · omega
  · omega
  · rfl
section CMS
variable {p : Program} {l : Launch} {e : Env} {R : Room} {s : State} {m : MethodId} {args : Array Value} {below : List Frame} {meth : Method} {c : Code} {cc : ByteArray} {Q : State → Prop} {D : va_G} {A : Nat → Prop} {adr : Nat → Nat} {ce sl : Nat} {E : cm_E} {P : ev_P} {ms : List ev_MI} {d : Nat}
set_option maxHeartbeats 4000000 in
theorem cm_inv_ok (hMS : ∀ (k : Nat) (mi : ev_MI), ms[k]? = some mi → cm_MOK ms mi) (hRm : d + 1 ≤ R.frames ∧ 40 * (d + 1) ≤ R.locals) (X : cm_X p R s m args c cc P.2.2.2.2.1 P.2.2.2.1 D A adr ce sl E)
    {q : Nat × ev_Row} (hq : cm_RowOK ms P cc q) (h200 : 200 ≤ q.2.1) (h210 : q.2.1 < 210) {S : cm_S} (hpc : S.1 = q.1) (h : cm_inv ms (cm_Call0 ms d) q.2 S (cm_Go p l e R s m args below meth c Q P.2.2.2.2.1 D A adr ce sl)) : cm_Go p l e R s m args below meth c Q P.2.2.2.2.1 D A adr ce sl S := by
  intro ws H locs ls hR
  obtain ⟨hx, hb, hml, hown, hts, hK, hA, hN, hcC, hcS, hf, hlc, hscr⟩ := X
  obtain ⟨pc, L, st, M⟩ := S
  obtain ⟨qpc, op, t1, t2, t3, t4⟩ := q
  have hpc : pc = qpc := hpc
  subst hpc
  obtain ⟨i, n, cs, hi, hd, hw⟩ := hq
  dsimp only at hi hd h200 h210
  unfold cm_inv at h
  dsimp only at h
  split at h
  rotate_left
  · exact h.elim
  rename_i mi hmi
  obtain ⟨hpl, hcd, hnL, hmh, -⟩ := hMS _ mi hmi
  split at h
  rotate_left
  · exact h.elim
  rename_i as rest htk
  obtain ⟨hc1, hc4, hc5, mi', d', P0, hmi', hdd, hP0, hM⟩ := h
  rw [hmi] at hmi'
  cases hmi'
  obtain ⟨hP, hD, hS, hW, hL⟩ := hR
  have hnp : (parseMethodDescriptor mi.1.desc).map (fun d => d.parameters.length) = some t3.toNat := by simpa [ev_nar1] using hc4
  have hroom : (cm_rm d').frames + 1 ≤ R.frames ∧ 8 + (mi.2.2.1 + 11) + (cm_rm d').locals ≤ R.locals := by
    simp only [cm_rm]
    omega
  have hG : GoodIn lw_good (Cond.code mi.1 mi.2.1 mi.2.2.1 mi.2.2.2.1 :: lw_good) := lw_good_good (fun w h => by
    rcases List.mem_cons.mp h with rfl | h
    · exact hcd
    · exact h)
  have hcap : ce + 0 ≤ R.cells ∧ sl + 0 ≤ R.slots := ⟨hcC, hcS⟩
  have hfree : ∀ q, va_A ws H.size q → A q := by
    intro q h
    rcases h with ⟨k, e, h⟩ | h
    · exact hD.2 k (q, e) h
    · exact hA q (Nat.le_trans hS.1 h)
  obtain ⟨xs, hxl, hor⟩ := cm_take_ok htk
  have hsum : ((rest.map (cm_v adr)).map fun v => v.category).sum ≤ 8 := by rw [cm_v_cats]; exact hc1
  have hkk : ∀ (v : Option Value) (M' : cm_M) (ws' : va_W) (t : State) (H1 : Heap) (locs1 : List Loc), P0 v M' → t.heap = H1 → s.vm.Alike t.vm → va_P D vwCl ws' H1 → va_D (va_A ws H.size) ws' → cm_w t adr M' ws' → va_S A s.heap H1 locs1 → W p l e R s m args below meth c H1 locs1 ce sl Q (F0 m (pc + 3) ls ((v.map (cm_v adr)).toList ++ rest.map (cm_v adr))) := by
    intro v M' ws' t H1 locs1 ho ht hvm hP1 hD1 hw1 hS1
    have := hP0 v M' ho ws' H1 locs1 ls ⟨hP1, hD1.weaken (fun _ _ _ h => hfree _ h), hS1, cm_w_moved hvm.symm hw1, hL⟩
    have e1 : (v.toList ++ rest).map (cm_v adr) = (v.map (cm_v adr)).toList ++ rest.map (cm_v adr) := by
      rw [List.map_append]
      cases v <;> rfl
    rw [← e1]
    exact this
  have hpre : ∀ (asc : List Value), ∀ U : State, U.heap = H → s.WarmedH U.vm → va_Pc asc (cm_Pb D adr ws H.size M) asc.toArray U := fun asc U hU hWm =>
    ⟨rfl, by rw [hU], by rw [hU]; exact hP, va_K.moved hWm.alike hK, hD.weaken (fun _ _ _ _ => trivial), cm_w_moved hWm.alike hW, cm_N_call hWm hU hS hfree hN⟩
  have h4 : op = 200 ∨ op = 201 ∨ 201 < op := by omega
  rcases h4 with rfl | rfl | hbig
  · have hi : some ((.invokevirtual t2.toNat : Instr), (3 : Nat), ([.methodLink P.2.2.2.1 t2.toNat mi.1, .instanceMethod mi.1, .selects mi.1.cls mi.1 mi.1, .initialized mi.1.cls] : List Cond)) = some (i, n, cs) := by
      simpa [cm_rowI, hmi] using hi
    cases hi
    rcases hor with ⟨-, v, rfl, rfl⟩ | ⟨hf0, -⟩
    rotate_left
    · cases hf0
    have hGV : GoodIn lw_good (wsV P.2.2.2.1 t2.toNat mi.1.cls mi.1 (Cond.code mi.1 mi.2.1 mi.2.2.1 mi.2.2.2.1 :: lw_good)) := lw_good_good (fun w h => by
      unfold wsV at h
      rcases List.mem_append.mp h with h | h
      · exact hw w h
      · exact (hG w h).1)
    have hmap : (xs.reverse ++ v :: rest).map (cm_v adr) = (xs.map (cm_v adr)).reverse ++ cm_v adr v :: rest.map (cm_v adr) := by
      rw [List.map_append, List.map_reverse, List.map_cons]
    have h5 := hc5 rfl
    cases v with
    | ref cn =>
      show W p l e R s m args below meth c H locs ce sl Q (F0 m pc ls ((xs.reverse ++ Value.ref cn :: rest).map (cm_v adr)))
      rw [hmap]
      rcases h5 with ⟨h51, h52, h53, h54⟩ | h5
      · obtain ⟨r, -, a1, -⟩ := cm_str hN h51 h52
        obtain ⟨cell, k1, k2, k3, k4⟩ := va_O.kept (a1 h53).2.2 hS.2.1
        exact cm_callW (va_runV (As := xs.map (cm_v adr)) (rest := rest.map (cm_v adr)) ⟨hx, hb, hml, hown, hts⟩ (hM l D adr ws H.size) (cwV t3.toNat hts hGV rfl rfl rfl ⟨rfl, hmh.1, hmh.2, hnp⟩ hroom) ⟨cm_Pb_blind, ⟨cell, k1, k2, by rw [h54]; exact k3⟩, fun U hU hWm => hpre _ U hU hWm⟩ rfl (by rw [List.length_map]; exact hxl) hL.1 rfl (lv_room hsum) hd hcap) hS (fun q h => hfree q h) hfree hkk
      · obtain ⟨r, hr1, hr2⟩ : ∃ r, vwCl[(cm_kind cn).1]? = some r ∧ r.1 = mi.1.cls := by
          cases hz : vwCl[(cm_kind cn).1]? with
          | none => rw [hz] at h5; cases h5
          | some r => rw [hz] at h5; exact ⟨r, rfl, Option.some.inj h5⟩
        have hlt : (cm_kind cn).1 < 10 := (List.getElem?_eq_some_iff.mp hr1).1
        obtain ⟨fs, e1, e2, e3⟩ := cm_obj hW (show cm_kind cn = ((cm_kind cn).1, (cm_kind cn).2) from rfl) (by omega)
        have hrecv := va_recv hK hP hr1 e1
        rw [hr2] at hrecv
        exact cm_callW (va_runV (As := xs.map (cm_v adr)) (rest := rest.map (cm_v adr)) ⟨hx, hb, hml, hown, hts⟩ (hM l D adr ws H.size) (cwV t3.toNat hts hGV rfl rfl rfl ⟨rfl, hmh.1, hmh.2, hnp⟩ hroom) ⟨cm_Pb_blind, hrecv, fun U hU hWm => hpre _ U hU hWm⟩ rfl (by rw [List.length_map]; exact hxl) hL.1 rfl (lv_room hsum) hd hcap) hS (fun q h => hfree q h) hfree hkk
    | _ => exact h5.elim
  · have hi : some ((.invokestatic t2.toNat : Instr), (3 : Nat), ([.methodLink P.2.2.2.1 t2.toNat mi.1, .static mi.1, .initialized mi.1.cls] : List Cond)) = some (i, n, cs) := by
      simpa [cm_rowI, hmi] using hi
    cases hi
    rcases hor with ⟨hf0, -⟩ | ⟨-, rfl, rfl⟩
    · cases hf0
    · have hGS : GoodIn lw_good (va_wsS P.2.2.2.1 t2.toNat mi.1 (Cond.code mi.1 mi.2.1 mi.2.2.1 mi.2.2.2.1 :: lw_good)) := lw_good_good (fun w h => by
        unfold va_wsS at h
        rcases List.mem_append.mp h with h | h
        · exact hw w h
        · exact (hG w h).1)
      have hmap : (as.reverse ++ rest).map (cm_v adr) = (as.map (cm_v adr)).reverse ++ rest.map (cm_v adr) := by
        rw [List.map_append, List.map_reverse]
      show W p l e R s m args below meth c H locs ce sl Q (F0 m pc ls ((as.reverse ++ rest).map (cm_v adr)))
      rw [hmap]
      exact cm_callW (va_runS (As := as.map (cm_v adr)) (rest := rest.map (cm_v adr)) ⟨hx, hb, hml, hown, hts⟩ (hM l D adr ws H.size) (va_cwS t3.toNat hts hGS rfl rfl rfl ⟨hmh.1, hmh.2, hnp⟩ hroom) ⟨cm_Pb_blind, fun U hU hWm => hpre _ U hU hWm⟩ rfl (by rw [List.length_map]; exact hxl) hL.1 rfl (lv_room hsum) hd hcap) hS (fun q h => hfree q h) hfree hkk
  · exfalso
    have : cm_rowI ms P (op, t1, t2, t3, t4) = none := by
      unfold cm_rowI
      split
      · omega
      · omega
      · omega
      · omega
      · omega
      · omega
      · have : cm_ops[op]? = none := by
          apply List.getElem?_eq_none
          have : cm_ops.length = 92 := rfl
          omega
        simp [this]
    rw [this] at hi
    cases hi
theorem cm_pick_mem : ∀ {L L' : List (Nat × Value)} {live : List Nat}, cm_pick L live = some L' → ∀ q ∈ L', q ∈ L
  | L, L', [], h => by cases h; exact fun q hq => nomatch hq
  | L, L', i :: r, h => by
    unfold cm_pick at h
    split at h
    · rename_i v l h1 h2
      cases h
      intro q hq
      rcases List.mem_cons.mp hq with rfl | hq
      · exact cm_look_mem h1
      · exact cm_pick_mem h2 q hq
    · cases h
theorem cm_inv_im {C : cm_C} {r : ev_Row} {S : cm_S} {k1 k2 : cm_S → Prop} (hC : ∀ k as M P1 P2, (∀ v M', P1 v M' → P2 v M') → C k as M P1 → C k as M P2) (h : cm_inv ms C r S k1) (hk : ∀ S, k1 S → k2 S) : cm_inv ms C r S k2 := by
  unfold cm_inv at h ⊢
  split at h
  · split at h
    · exact ⟨h.1, h.2.1, h.2.2.1, hC _ _ _ _ _ (fun v M' q => hk _ q) h.2.2.2⟩
    · exact h
  · exact h
/-- from a good run back to its start -/
theorem cm_wp_ok (hMS : ∀ (k : Nat) (mi : ev_MI), ms[k]? = some mi → cm_MOK ms mi) (hRm : d + 1 ≤ R.frames ∧ 40 * (d + 1) ≤ R.locals) (X : cm_X p R s m args c cc P.2.2.2.2.1 P.2.2.2.1 D A adr ce sl E) {rows : List (Nat × ev_Row)} (hrows : ∀ q ∈ rows, cm_RowOK ms P cc q) {stops : List (Nat × List Nat)} {J : cm_S → Prop} {Z : Nat → cm_S → Prop}
    (hJ : ∀ S, J S → cm_Go p l e R s m args below meth c Q P.2.2.2.2.1 D A adr ce sl S) (hZ : ∀ (r : ev_Row) (S : cm_S), ev_at rows S.1 = some r → 210 ≤ r.1 → Z r.1 S → cm_Go p l e R s m args below meth c Q P.2.2.2.2.1 D A adr ce sl S) : ∀ (n : Nat) (S : cm_S), cm_wp ms (cm_Call0 ms d) E P rows stops J Z n S → cm_Go p l e R s m args below meth c Q P.2.2.2.2.1 D A adr ce sl S
  | 0, S, h => h.elim
  | n + 1, S, h => by
    have hst : ∀ S', cm_stop stops J (cm_wp ms (cm_Call0 ms d) E P rows stops J Z n) S' → cm_Go p l e R s m args below meth c Q P.2.2.2.2.1 D A adr ce sl S' := by
      intro S' h'
      unfold cm_stop at h'
      split at h'
      · exact cm_wp_ok hMS hRm X hrows hJ hZ n S' h'
      · split at h'
        · rename_i L' hL'
          exact cm_Go_sub (L' := L') (hJ _ h') (cm_pick_mem hL')
        · exact h'.elim
    unfold cm_wp at h
    split at h
    · exact h.elim
    · rename_i r hr
      have hq := hrows _ (ev_at_mem hr)
      split at h
      · rename_i h210
        exact hZ r S hr h210 h
      · rename_i h210
        split at h
        · rename_i h200
          exact cm_inv_ok hMS hRm X hq h200 (by dsimp only; omega) rfl (cm_inv_im (fun k as M P1 P2 hp hc => cm_Call_up0 hc (Nat.le_refl _) hp) h hst)
        · split at h
          · rename_i o ho
            obtain ⟨i, k, cs, hi, hd, hw⟩ := hq
            rw [cm_rowI_op (by dsimp only; omega)] at hi
            dsimp only at hi hd
            rw [ho] at hi
            exact cm_ops_ok o (List.mem_of_getElem? ho) p l e R s m args below meth c cc Q D A adr ce sl E P r.2 S i k cs X hi hd hw (cm_ops_im o (List.mem_of_getElem? ho) E P r.2 S _ _ h hst)
          · exact h.elim
end CMS
/-- from this state the method ends as wanted -/
noncomputable def cm_At0 (d : Nat) (mi : ev_MI) (Post : cm_K) (S : cm_S) : Prop := ∀ (p : Program) (l : Launch) (e : Env) (s : State) (m : MethodId) (args : Array Value) (below : List Frame) (meth : Method) (c : Code) (D : va_G) (adr : Nat → Nat) (ws0 : va_W),
  cm_X p (cm_rm d) s m args c mi.2.1 mi.2.2.1 mi.1.cls D (va_A ws0 s.heap.size) adr 0 0 none → meth.sig.returnType = mi.2.2.2.1 → meth.locks = false → cm_Go p l e (cm_rm d) s m args below meth c (MQ below (cm_Q D adr (va_A ws0 s.heap.size) Post) args s 0 0 (va_A ws0 s.heap.size)) mi.2.2.1 D (va_A ws0 s.heap.size) adr 0 0 S
theorem cm_ret_ok {ms : List ev_MI} {d : Nat} {mi : ev_MI} (hM : cm_MOK ms mi) {Post : cm_K} {r : ev_Row} {S : cm_S} (hr : ev_at mi.2.2.2.2.2.2 S.1 = some r) (h : cm_ret mi.2.2.2.1 Post r.1 S) : cm_At0 d mi Post S := by
  intro p l e s m args below meth c D adr ws0 X hrt hlocks ws H locs ls hR
  obtain ⟨hx, hb, hml, hown, hts, hK, hA, hN, hcC, hcS, hf, hlc, hscr⟩ := X
  obtain ⟨hP, hD, hS, hW, hL⟩ := hR
  obtain ⟨pc, L, st, M⟩ := S
  obtain ⟨i, n, cs, hi, hd, -⟩ := hM.2.2.2.2 _ (ev_at_mem hr)
  dsimp only at hi hd
  have qq : ∀ (v : Option Value) (t : State), t.heap = H → s.WarmedH t.vm → Post v M → cm_Q D adr (va_A ws0 s.heap.size) Post args s (.returned (v.map (cm_v adr))) t := by
    intro v t ht hWm hv
    exact ⟨⟨v, M, ws, hv, rfl, by rw [ht]; exact hP, hD, cm_w_moved hWm.alike hW⟩, hS.F ht⟩
  unfold cm_ret at h
  split at h
  · rename_i x e1 e2 e3
    have hi : some ((.ireturn : Instr), (1 : Nat), ([] : List Cond)) = some (i, n, cs) := by simpa [cm_rowI, e1] using hi
    cases hi
    dsimp only at e3 h
    subst e3
    exact W.zret hx hb (hrt.trans e2) rfl (fun t ht hWm => qq (some (.int x)) t ht hWm h) hS.2.2 hd
  · rename_i x e1 e2 e3
    have hi : some ((.ireturn : Instr), (1 : Nat), ([] : List Cond)) = some (i, n, cs) := by simpa [cm_rowI, e1] using hi
    cases hi
    dsimp only at e3 h
    subst e3
    refine W.zret hx hb (hrt.trans e2) ?_ (fun t ht hWm => qq (some (.int x)) t ht hWm h.2) hS.2.2 hd
    rcases h.1 with rfl | rfl <;> decide
  · rename_i x e1 e2 e3
    have hi : some ((.ireturn : Instr), (1 : Nat), ([] : List Cond)) = some (i, n, cs) := by simpa [cm_rowI, e1] using hi
    cases hi
    dsimp only at e3 h
    subst e3
    obtain ⟨h0, h1, h2⟩ := h
    refine W.zret hx hb (hrt.trans e2) ?_ (fun t ht hWm => qq (some (.int x)) t ht hWm h2) hS.2.2 hd
    have e : x = nI x.toInt.toNat := by
      apply Int32.toInt_inj.mp
      rw [nI_toInt (by omega)]
      omega
    rw [e]
    exact (pk_charN (by omega)).1
  · rename_i x e1 e2 e3
    have hi : some ((.ireturn : Instr), (1 : Nat), ([] : List Cond)) = some (i, n, cs) := by simpa [cm_rowI, e1] using hi
    cases hi
    dsimp only at e3 h
    subst e3
    obtain ⟨rfl, h2⟩ := h
    exact W.zret hx hb (hrt.trans e2) (by decide) (fun t ht hWm => qq (some (.int 0)) t ht hWm h2) hS.2.2 hd
  · rename_i x e1 e2 e3
    have hi : some ((.lreturn : Instr), (1 : Nat), ([] : List Cond)) = some (i, n, cs) := by simpa [cm_rowI, e1] using hi
    cases hi
    dsimp only at e3 h
    subst e3
    exact W.lret hx hb (hrt.trans e2) (fun t ht hWm => qq (some (.long x)) t ht hWm h) hS.2.2 hd
  · rename_i nm x e1 e2 e3
    have hi : some ((.areturn : Instr), (1 : Nat), ([] : List Cond)) = some (i, n, cs) := by simpa [cm_rowI, e1] using hi
    cases hi
    dsimp only at e3 h
    subst e3
    exact W.aret hx hb (hrt.trans e2) (Or.inl ⟨_, rfl⟩) (Or.inr ⟨_, rfl⟩) (fun t ht hWm => qq (some (.ref x)) t ht hWm h) hS.2.2 hd
  · rename_i e1 e2 e3
    have hi : some ((.return_ : Instr), (1 : Nat), ([] : List Cond)) = some (i, n, cs) := by simpa [cm_rowI, e1] using hi
    cases hi
    dsimp only at e3 h
    subst e3
    exact W.vret hx hb (hrt.trans e2) (fun t ht hWm => qq none t ht hWm h) hS.2.2 hd
  · exact h.elim
theorem cm_sl_len (adr : Nat → Nat) : ∀ as : List Value, (lg_sl (as.map (cm_v adr))).length = cm_cs as
  | [] => rfl
  | a :: as => by
    have ih := cm_sl_len adr as
    simp only [lg_sl, List.map_cons, List.flatMap_cons, List.length_append, cm_cs, List.sum_cons] at ih ⊢
    rw [ih]
    cases a <;> rfl
theorem cm_args_ok (adr : Nat → Nat) : ∀ (as : List Value) (i : Nat), ∀ q ∈ cm_args i as, (q.1, cm_v adr q.2) ∈ lv_args i (as.map (cm_v adr))
  | [], i, q, hq => nomatch hq
  | a :: as, i, q, hq => by
    unfold cm_args at hq
    rw [List.map_cons]
    unfold lv_args
    rcases List.mem_cons.mp hq with rfl | hq
    · exact List.mem_cons_self
    · refine List.mem_cons_of_mem _ ?_
      have := cm_args_ok adr as _ q hq
      rw [cm_v_cat]
      by_cases h2 : a.category = 2
      · rw [if_pos h2]; rw [h2] at this; exact this
      · have h1 : a.category = 1 := by cases a <;> first | rfl | exact absurd rfl h2
        rw [if_neg h2]; rw [h1] at this; exact this
theorem cm_Call_of0 {ms : List ev_MI} (hMS : ∀ (k : Nat) (mi : ev_MI), ms[k]? = some mi → cm_MOK ms mi) {d k : Nat} {mi : ev_MI} (hk : ms[k]? = some mi) {as : List Value} {M : cm_M} {Post : cm_K} (hcs : cm_cs as ≤ mi.2.2.1) (h : cm_At0 d mi Post (0, cm_args 0 as, [], M)) : cm_Call0 ms (d + 1) k as M Post := by
  refine ⟨mi, d, Post, hk, Nat.le_refl _, fun _ _ q => q, fun l D adr ws sz => ?_⟩
  obtain ⟨hpl, hcd, hnL, hmh, hrows⟩ := hMS k mi hk
  refine Met.ofW (cc := mi.2.1) (maxL := mi.2.2.1) (ret := mi.2.2.2.1) hpl rfl ?_
  intro p e s m args below meth c s₁ B hml hv
  obtain ⟨rfl, hsz, hP, hK, hD0, hW, hN⟩ := hv
  subst hsz
  have hD : va_D (va_A ws s.heap.size) ws := hD0.self (sz := s.heap.size)
  have hts : ∀ w ∈ lw_good, w.before (as.map (cm_v adr)).toArray s = true := fun w hw => atoms_spec (ws := Cond.code mi.1 mi.2.1 mi.2.2.1 mi.2.2.2.1 :: lw_good) B.pre w (List.mem_cons_of_mem _ hw)
  have X : cm_X p (cm_rm d) s m (as.map (cm_v adr)).toArray c mi.2.1 mi.2.2.1 mi.1.cls D (va_A ws s.heap.size) adr 0 0 none :=
    ⟨B.exec, B.bytes, hml, findClass_of_methodNamed B.named, hts, hK, fun q h => Or.inr h, hN, Nat.le_refl _, Nat.le_refl _, by simp [cm_rm], by simp only [cm_rm]; omega, trivial⟩
  have hlen : (lg_sl (as.map (cm_v adr))).length ≤ mi.2.2.1 := by rw [cm_sl_len]; exact hcs
  have hl := lv_entry (as.map (cm_v adr)) (n := mi.2.2.1) hlen
  rw [lg_entry_eq]
  refine h p l e s m _ below meth c D adr ws X B.returns B.notSynchronized ws s.heap [] _ ⟨hP, hD, va_S.rf, hW, hl.1, hl.2.1, fun q hq => ?_⟩
  obtain ⟨r, hr, rfl⟩ := List.mem_map.mp hq
  exact hl.2.2 _ (cm_args_ok adr as 0 r hr)
/-- one step; what must hold behind it -/
noncomputable def cm_F (ms : List ev_MI) (C : cm_C) (E : cm_E) (P : ev_P) (rows : List (Nat × ev_Row)) (Z : Nat → cm_S → Prop) (X : cm_S → Prop) (S : cm_S) : Prop := match ev_at rows S.1 with
  | none => False
  | some r =>
    if 210 ≤ r.1 then Z r.1 S
    else if 200 ≤ r.1 then cm_inv ms C r S X
    else (match cm_ops[r.1]? with
      | some o => o.2 E P r.2 S X
      | none => False)
/-- it comes to an end with Z: the least such -/
noncomputable def cm_lf (ms : List ev_MI) (C : cm_C) (E : cm_E) (P : ev_P) (rows : List (Nat × ev_Row)) (Z : Nat → cm_S → Prop) (S : cm_S) : Prop := ∀ X : cm_S → Prop, (∀ S, cm_F ms C E P rows Z X S → X S) → X S
/-- calls grow with what is wanted -/
noncomputable def cm_CM (C1 C2 : cm_C) : Prop := ∀ (k : Nat) (as : List Value) (M : cm_M) (P1 P2 : cm_K), (∀ v M', P1 v M' → P2 v M') → C1 k as M P1 → C2 k as M P2
section PURE
variable {ms : List ev_MI} {C C1 C2 : cm_C} {E : cm_E} {P : ev_P} {rows : List (Nat × ev_Row)} {Z Z1 Z2 : Nat → cm_S → Prop} {X X1 X2 : cm_S → Prop}
theorem cm_inv_im2 {r : ev_Row} {S : cm_S} (hC : cm_CM C1 C2) (hX : ∀ S, X1 S → X2 S) (h : cm_inv ms C1 r S X1) : cm_inv ms C2 r S X2 := by
  unfold cm_inv at h ⊢
  split at h
  · split at h
    · exact ⟨h.1, h.2.1, h.2.2.1, hC _ _ _ _ _ (fun v M' q => hX _ q) h.2.2.2⟩
    · exact h
  · exact h
theorem cm_F_im {S : cm_S} (hC : cm_CM C1 C2) (hZ : ∀ op S, Z1 op S → Z2 op S) (hX : ∀ S, X1 S → X2 S) (h : cm_F ms C1 E P rows Z1 X1 S) : cm_F ms C2 E P rows Z2 X2 S := by
  unfold cm_F at h ⊢
  split at h
  · exact h
  · split at h
    · rename_i h1
      rw [if_pos h1]
      exact hZ _ _ h
    · rename_i h1
      rw [if_neg h1]
      split at h
      · rename_i h2
        rw [if_pos h2]
        exact cm_inv_im2 hC hX h
      · rename_i h2
        rw [if_neg h2]
        split at h
        · rename_i o ho
          exact cm_ops_im o (List.mem_of_getElem? ho) _ _ _ _ _ _ h hX
        · exact h
theorem cm_lf_F {S : cm_S} (hC : cm_CM C C) (h : cm_F ms C E P rows Z (cm_lf ms C E P rows Z) S) : cm_lf ms C E P rows Z S := fun X hX => hX S (cm_F_im hC (fun _ _ h => h) (fun S h => h X hX) h)
theorem cm_lf_im {S : cm_S} (hC : cm_CM C1 C2) (hC2 : cm_CM C2 C2) (hZ : ∀ op S, Z1 op S → Z2 op S) (h : cm_lf ms C1 E P rows Z1 S) : cm_lf ms C2 E P rows Z2 S :=
  h (cm_lf ms C2 E P rows Z2) (fun S hS => cm_lf_F hC2 (cm_F_im hC hZ (fun _ h => h) hS))
/-- Z doesn't look at the locals -/
noncomputable def cm_ZL (Z : Nat → cm_S → Prop) : Prop := ∀ op pc L L' st M, Z op (pc, L, st, M) → Z op (pc, L', st, M)
theorem cm_lf_le (hC : cm_CM C C) (hZ : cm_ZL Z) {pc : Nat} {L' L : List (Nat × Value)} {st : List Value} {M : cm_M} (hL : cm_le L' L) (h : cm_lf ms C E P rows Z (pc, L', st, M)) : cm_lf ms C E P rows Z (pc, L, st, M) := by
  refine h (fun S => ∀ B, cm_le S.2.1 B → cm_lf ms C E P rows Z (S.1, B, S.2.2)) ?_ L hL
  intro S hS B hB
  obtain ⟨pc, A, st, M⟩ := S
  refine cm_lf_F hC ?_
  unfold cm_F at hS ⊢
  dsimp only at hS hB ⊢
  split at hS
  · exact hS
  · split at hS
    · rename_i h1
      rw [if_pos h1]
      exact hZ _ _ _ _ _ _ hS
    · rename_i h1
      rw [if_neg h1]
      split at hS
      · rename_i h2
        rw [if_pos h2]
        unfold cm_inv at hS ⊢
        dsimp only at hS ⊢
        split at hS
        · split at hS
          · exact ⟨hS.1, hS.2.1, hS.2.2.1, hC _ _ _ _ _ (fun v M' q => q B hB) hS.2.2.2⟩
          · exact hS
        · exact hS
      · rename_i h2
        rw [if_neg h2]
        split at hS
        · rename_i o ho
          exact cl_ops o (List.mem_of_getElem? ho) _ _ _ _ _ _ _ _ _ _ hB (fun pc2 A B st2 M2 hAB q => q B hAB) hS
        · exact hS
/-- runs with stops -/
theorem cm_pick_look : ∀ {L L' : List (Nat × Value)} {live : List Nat}, cm_pick L live = some L' → ∀ q ∈ L', cm_look L q.1 = some q.2
  | L, L', [], h => by
    cases h
    exact fun q hq => nomatch hq
  | L, L', i :: r, h => by
    unfold cm_pick at h
    split at h
    · rename_i v l h1 h2
      cases h
      intro q hq
      rcases List.mem_cons.mp hq with rfl | hq
      · exact h1
      · exact cm_pick_look h2 q hq
    · cases h
theorem cm_look_of {L' : List (Nat × Value)} {i : Nat} : ∀ {L : List (Nat × Value)}, (∀ q ∈ L', cm_look L q.1 = some q.2) → ∀ v, (i, v) ∈ L' → cm_look L' i = some v := by
  intro L h v hm
  induction L' with
  | nil => cases hm
  | cons q L' ih =>
    obtain ⟨a, b⟩ := q
    unfold cm_look
    by_cases ha : a = i
    · rw [if_pos ha]
      have e1 := h _ List.mem_cons_self
      have e2 := h _ hm
      dsimp only at e1 e2
      rw [ha, e2] at e1
      exact e1.symm
    · rw [if_neg ha]
      rcases List.mem_cons.mp hm with e | hm
      · cases e
        exact absurd rfl ha
      · exact ih (fun q hq => h q (List.mem_cons_of_mem _ hq)) hm
theorem cm_le_of {L' L : List (Nat × Value)} (h : ∀ q ∈ L', cm_look L q.1 = some q.2) : cm_le L' L := ⟨fun q hq => cm_look_of h q.2 hq, fun i v hl => h _ (cm_look_mem hl)⟩
theorem cm_wp_lf (hC : cm_CM C C) (hZ : cm_ZL Z) {stops : List (Nat × List Nat)} {J : cm_S → Prop} (hJ : ∀ S, J S → cm_lf ms C E P rows Z S) : ∀ (n : Nat) (S : cm_S), cm_wp ms C E P rows stops J Z n S → cm_lf ms C E P rows Z S
  | 0, S, h => h.elim
  | n + 1, S, h => by
    refine cm_lf_F hC (cm_F_im (X1 := cm_stop stops J (cm_wp ms C E P rows stops J Z n)) hC (fun _ _ h => h) (fun S' h' => ?_) h)
    unfold cm_stop at h'
    split at h'
    · exact cm_wp_lf hC hZ hJ n S' h'
    · split at h'
      · rename_i L' hL'
        obtain ⟨pc, L, st, M⟩ := S'
        exact cm_lf_le hC hZ (cm_le_of (cm_pick_look hL')) (hJ _ h')
      · exact h'.elim
theorem cm_wp_im {stops : List (Nat × List Nat)} {J1 J2 : cm_S → Prop} (hC : cm_CM C1 C2) (hJ : ∀ S, J1 S → J2 S) (hZ : ∀ op S, Z1 op S → Z2 op S) : ∀ (n : Nat) (S : cm_S), cm_wp ms C1 E P rows stops J1 Z1 n S → cm_wp ms C2 E P rows stops J2 Z2 n S
  | 0, S, h => h
  | n + 1, S, h => by
    refine cm_F_im (X1 := cm_stop stops J1 (cm_wp ms C1 E P rows stops J1 Z1 n)) (X2 := cm_stop stops J2 (cm_wp ms C2 E P rows stops J2 Z2 n)) hC hZ (fun S' h' => ?_) h
    unfold cm_stop at h' ⊢
    split at h'
    · exact cm_wp_im hC hJ hZ n S' h'
    · split at h'
      · exact hJ _ h'
      · exact h'
end PURE
theorem cm_ret_im {ret : Option FieldType} {P1 P2 : cm_K} (h : ∀ v M, P1 v M → P2 v M) {op : Nat} {S : cm_S} (hr : cm_ret ret P1 op S) : cm_ret ret P2 op S := by
  unfold cm_ret at hr ⊢
  split at hr
  · exact h _ _ hr
  · exact ⟨hr.1, h _ _ hr.2⟩
  · exact ⟨hr.1, hr.2.1, h _ _ hr.2.2⟩
  · exact ⟨hr.1, h _ _ hr.2⟩
  · exact h _ _ hr
  · exact h _ _ hr
  · exact h _ _ hr
  · exact hr
theorem cm_ret_L {ret : Option FieldType} {Post : cm_K} : cm_ZL (cm_ret ret Post) := fun op pc L L' st M h => h
/-- a call, at a depth -/
noncomputable def cm_Call (ms : List ev_MI) : Nat → cm_C
  | 0 => fun _ _ _ _ => False
  | d + 1 => fun k as M Post => ∃ mi, ms[k]? = some mi ∧ cm_cs as ≤ mi.2.2.1 ∧ cm_lf ms (cm_Call ms d) none (cm_P mi) mi.2.2.2.2.2.2 (cm_ret mi.2.2.2.1 Post) (0, cm_args 0 as, [], M)
theorem cm_Call_M (ms : List ev_MI) : ∀ (d e : Nat), d ≤ e → cm_CM (cm_Call ms d) (cm_Call ms e)
  | 0, e, _ => fun k as M P1 P2 hp h => h.elim
  | d + 1, 0, h => absurd h (by omega)
  | d + 1, e + 1, hde => fun k as M P1 P2 hp h => by
    obtain ⟨mi, h1, h2, h3⟩ := h
    exact ⟨mi, h1, h2, cm_lf_im (cm_Call_M ms d e (by omega)) (cm_Call_M ms e e (Nat.le_refl _)) (fun _ _ q => cm_ret_im hp q) h3⟩
theorem cm_Call_up {ms : List ev_MI} {d e k : Nat} {as : List Value} {M : cm_M} {Post Post' : cm_K} (h : cm_Call ms d k as M Post) (hd : d ≤ e) (hp : ∀ v M', Post v M' → Post' v M') : cm_Call ms e k as M Post' := cm_Call_M ms d e hd k as M Post Post' hp h
/-- from this state the method ends as wanted -/
noncomputable def cm_At (ms : List ev_MI) (d : Nat) (mi : ev_MI) (Post : cm_K) (S : cm_S) : Prop := cm_lf ms (cm_Call ms d) none (cm_P mi) mi.2.2.2.2.2.2 (cm_ret mi.2.2.2.1 Post) S
theorem cm_At_run {ms : List ev_MI} (_ : ∀ (k : Nat) (mi : ev_MI), ms[k]? = some mi → cm_MOK ms mi) {d k : Nat} {mi : ev_MI} (_ : ms[k]? = some mi) {Post : cm_K} {stops : List (Nat × List Nat)} {J : cm_S → Prop} (hJ : ∀ S, J S → cm_At ms d mi Post S) {n : Nat} {S : cm_S} (h : cm_wp ms (cm_Call ms d) none (cm_P mi) mi.2.2.2.2.2.2 stops J (cm_ret mi.2.2.2.1 Post) n S) : cm_At ms d mi Post S :=
  cm_wp_lf (cm_Call_M ms d d (Nat.le_refl _)) cm_ret_L hJ n S h
theorem cm_Call_of {ms : List ev_MI} (_ : ∀ (k : Nat) (mi : ev_MI), ms[k]? = some mi → cm_MOK ms mi) {d k : Nat} {mi : ev_MI} (hk : ms[k]? = some mi) {as : List Value} {M : cm_M} {Post : cm_K} (hcs : cm_cs as ≤ mi.2.2.1) (h : cm_At ms d mi Post (0, cm_args 0 as, [], M)) : cm_Call ms (d + 1) k as M Post := ⟨mi, hk, hcs, h⟩
theorem cm_At_sub {ms : List ev_MI} {d : Nat} {mi : ev_MI} {Post : cm_K} {pc : Nat} {L L' : List (Nat × Value)} {st : List Value} {M : cm_M} (h : cm_At ms d mi Post (pc, L', st, M)) (hL : ∀ q ∈ L', cm_look L q.1 = some q.2) : cm_At ms d mi Post (pc, L, st, M) := cm_lf_le (cm_Call_M ms d d (Nat.le_refl _)) cm_ret_L (cm_le_of hL) h
theorem cm_At_im {ms : List ev_MI} {d : Nat} {mi : ev_MI} {P1 P2 : cm_K} {S : cm_S} (h : cm_At ms d mi P1 S) (hp : ∀ v M, P1 v M → P2 v M) : cm_At ms d mi P2 S := cm_lf_im (cm_Call_M ms d d (Nat.le_refl _)) (cm_Call_M ms d d (Nat.le_refl _)) (fun _ _ q => cm_ret_im hp q) h
theorem cm_Call_M0 (ms : List ev_MI) (d : Nat) : cm_CM (cm_Call0 ms d) (cm_Call0 ms d) := fun k as M P1 P2 hp h => cm_Call_up0 h (Nat.le_refl _) hp
section REAL
variable {p : Program} {l : Launch} {e : Env} {R : Room} {s : State} {m : MethodId} {args : Array Value} {below : List Frame} {meth : Method} {c : Code} {cc : ByteArray} {Q : State → Prop} {D : va_G} {A : Nat → Prop} {adr : Nat → Nat} {ce sl d : Nat} {E : cm_E} {P : ev_P} {ms : List ev_MI}
theorem cm_F_ok (hMS : ∀ (k : Nat) (mi : ev_MI), ms[k]? = some mi → cm_MOK ms mi) (hRm : d + 1 ≤ R.frames ∧ 40 * (d + 1) ≤ R.locals) (X : cm_X p R s m args c cc P.2.2.2.2.1 P.2.2.2.1 D A adr ce sl E) {rows : List (Nat × ev_Row)} (hrows : ∀ q ∈ rows, cm_RowOK ms P cc q) {Z : Nat → cm_S → Prop} {Y : cm_S → Prop}
    (hY : ∀ S, Y S → cm_Go p l e R s m args below meth c Q P.2.2.2.2.1 D A adr ce sl S) (hZ : ∀ (r : ev_Row) (S : cm_S), ev_at rows S.1 = some r → 210 ≤ r.1 → Z r.1 S → cm_Go p l e R s m args below meth c Q P.2.2.2.2.1 D A adr ce sl S) {S : cm_S} (h : cm_F ms (cm_Call0 ms d) E P rows Z Y S) : cm_Go p l e R s m args below meth c Q P.2.2.2.2.1 D A adr ce sl S := by
  unfold cm_F at h
  split at h
  · exact h.elim
  · rename_i r hr
    have hq := hrows _ (ev_at_mem hr)
    split at h
    · rename_i h210
      exact hZ r S hr h210 h
    · rename_i h210
      split at h
      · rename_i h200
        exact cm_inv_ok hMS hRm X hq h200 (by dsimp only; omega) rfl (cm_inv_im (fun k as M P1 P2 hp hc => cm_Call_up0 hc (Nat.le_refl _) hp) h hY)
      · split at h
        · rename_i o ho
          obtain ⟨i, k, cs, hi, hd, hw⟩ := hq
          rw [cm_rowI_op (by dsimp only; omega)] at hi
          dsimp only at hi hd
          rw [ho] at hi
          exact cm_ops_ok o (List.mem_of_getElem? ho) p l e R s m args below meth c cc Q D A adr ce sl E P r.2 S i k cs X hi hd hw (cm_ops_im o (List.mem_of_getElem? ho) E P r.2 S _ _ h hY)
        · exact h.elim
end REAL
theorem cm_real {ms : List ev_MI} (hMS : ∀ (k : Nat) (mi : ev_MI), ms[k]? = some mi → cm_MOK ms mi) : ∀ (d : Nat), cm_CM (cm_Call ms d) (cm_Call0 ms d)
  | 0 => fun k as M P1 P2 hp h => h.elim
  | d + 1 => fun k as M P1 P2 hp h => by
    obtain ⟨mi, h1, h2, h3⟩ := h
    refine cm_Call_of0 hMS h1 h2 ?_
    have h4 := cm_lf_im (cm_real hMS d) (cm_Call_M0 ms d) (fun _ _ q => cm_ret_im hp q) h3
    refine h4 (cm_At0 d mi P2) (fun S hS => ?_)
    intro p l e s m args below meth c D adr ws0 X hrt hlocks
    exact cm_F_ok (P := cm_P mi) hMS ⟨Nat.le_refl _, Nat.le_refl _⟩ X (hMS k mi h1).2.2.2.2 (fun S hS => hS p l e s m args below meth c D adr ws0 X hrt hlocks) (fun r S hr _ hZ => cm_ret_ok (hMS k mi h1) hr hZ p l e s m args below meth c D adr ws0 X hrt hlocks) hS
theorem cm_wp_real {ms : List ev_MI} (hMS : ∀ (k : Nat) (mi : ev_MI), ms[k]? = some mi → cm_MOK ms mi) {d : Nat} {E : cm_E} {P : ev_P} {rows : List (Nat × ev_Row)} {Z : Nat → cm_S → Prop} {stops : List (Nat × List Nat)} {J : cm_S → Prop} {n : Nat} {S : cm_S} (h : cm_wp ms (cm_Call ms d) E P rows stops J Z n S) : cm_wp ms (cm_Call0 ms d) E P rows stops J Z n S := cm_wp_im (cm_real hMS d) (fun _ h => h) (fun _ _ h => h) n S h
/-- what holds of every answer of a call -/
noncomputable def cm_Lc (ms : List ev_MI) (k : Nat) (as : List Value) (M : cm_M) (R : cm_K) : Prop := ∀ (d : Nat) (Post : cm_K), cm_Call ms d k as M Post → cm_Call ms d k as M (fun v M' => Post v M' ∧ R v M')
theorem cm_Lc_im {ms : List ev_MI} {k : Nat} {as : List Value} {M : cm_M} {R R' : cm_K} (h : cm_Lc ms k as M R) (hr : ∀ v M', R v M' → R' v M') : cm_Lc ms k as M R' := fun d Post hc => cm_Call_up (h d Post hc) (Nat.le_refl _) (fun v M' q => ⟨q.1, hr v M' q.2⟩)
/-- a contract holds of every answer, where it can be had at all -/
theorem cm_Lc_use {ms : List ev_MI} {d k : Nat} {as : List Value} {M : cm_M} {Post R : cm_K} (hc : cm_Call ms d k as M Post) (h : cm_Lc ms k as M R) : cm_Call ms d k as M (fun v M' => Post v M' ∧ R v M') := h d Post hc
theorem cm_pick_le {A B : List (Nat × Value)} (h : cm_le A B) : ∀ {live : List Nat} {L1 : List (Nat × Value)}, cm_pick A live = some L1 → cm_pick B live = some L1
  | [], L1, e => e
  | i :: r, L1, e => by
    unfold cm_pick at e ⊢
    split at e
    · rename_i v l h1 h2
      cases e
      rw [h.2 _ _ h1, cm_pick_le h h2]
    · cases e
section LIB
variable {ms : List ev_MI} {E : cm_E} {P : ev_P} {rows : List (Nat × ev_Row)} {stops : List (Nat × List Nat)} {J : cm_S → Prop} {Z Z1 Z2 : Nat → cm_S → Prop}
end LIB
/-- a method's end, of which R is to be said -/
noncomputable def cm_rl (R : cm_K) (op : Nat) (S : cm_S) : Prop := match op, S.2.2.1 with
  | 210, [.int x] => R (some (.int x)) S.2.2.2
  | 211, [.long x] => R (some (.long x)) S.2.2.2
  | 212, [.ref x] => R (some (.ref x)) S.2.2.2
  | 213, [] => R none S.2.2.2
  | _, _ => True
theorem cm_rl_L {R : cm_K} : cm_ZL (cm_rl R) := fun op pc L L' st M h => h
theorem cm_rl_ret {ret : Option FieldType} {Post R : cm_K} {op : Nat} {S : cm_S} (h : cm_ret ret Post op S) (h2 : cm_rl R op S) : cm_ret ret (fun v M => Post v M ∧ R v M) op S := by
  obtain ⟨pc, L, st, M⟩ := S
  unfold cm_ret at h ⊢
  dsimp only at h ⊢
  split at h
  · exact ⟨h, h2⟩
  · exact ⟨h.1, h.2, h2⟩
  · exact ⟨h.1, h.2.1, h.2.2, h2⟩
  · exact ⟨h.1, h.2, h2⟩
  · exact ⟨h, h2⟩
  · exact ⟨h, h2⟩
  · exact ⟨h, h2⟩
  · exact h
/-- what is checked of a call's row once -/
noncomputable def ab_RC (ms : List ev_MI) (q : Nat × ev_Row) : Prop := 200 ≤ q.2.1 → q.2.1 < 210 → ∃ mi, ms[q.2.2.1.toNat]? = some mi ∧ ev_nar1 mi.1 q.2.2.2.2.1.toNat = true ∧ (q.2.1 = 200 → ∀ ci, q.2.2.2.2.2 = [ci] → (ci = 99 ∧ mi.1.cls = "java/lang/String") ∨ (ci ≠ 99 ∧ (vwCl[ci.toNat]?).map (fun r => r.1) = some mi.1.cls))
