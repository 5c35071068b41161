/-! CM: operations -/
def cm_adv (S : cm_S) (n : Nat) (st : List Value) : cm_S := (S.1 + n, S.2.1, st, S.2.2.2)
def cm_iconst : cm_O := (ev_iconst.1, fun E P t S k => k (cm_adv S 1 (.int (Int32.ofInt t.1) :: S.2.2.1)))
theorem cm_iconst_ok : cm_Snd cm_iconst := by
  intro p l e R s m args below meth c cc Q D A adr ce sl E P t S i n cs X h1 hd hw h2 ws H locs ls hR
  obtain ⟨hx, hb, hml, hown, hts, hK, hA, hN, hcC, hcS, hf, hlc, hscr⟩ := X
  obtain ⟨pc, L, st, M⟩ := S
  have h1 : some ((.iconst t.1 : Instr), (1 : Nat), ([] : List Cond)) = some (i, n, cs) := h1
  cases h1
  exact lv_iconst (v := Int32.ofInt t.1) hx hb hd rfl (h2 ws H locs ls hR)

def cm_bipush : cm_O := (ev_bipush.1, fun E P t S k => k (cm_adv S 2 (.int ((Int8.ofInt t.1).toInt32) :: S.2.2.1)))
theorem cm_bipush_ok : cm_Snd cm_bipush := by
  intro p l e R s m args below meth c cc Q D A adr ce sl E P t S i n cs X h1 hd hw h2 ws H locs ls hR
  obtain ⟨hx, hb, hml, hown, hts, hK, hA, hN, hcC, hcS, hf, hlc, hscr⟩ := X
  obtain ⟨pc, L, st, M⟩ := S
  have h1 : some ((.bipush t.1 : Instr), (2 : Nat), ([] : List Cond)) = some (i, n, cs) := h1
  cases h1
  exact lv_bipush (v := (Int8.ofInt t.1).toInt32) hx hb hd rfl (h2 ws H locs ls hR)

def cm_sipush : cm_O := (ev_sipush.1, fun E P t S k => k (cm_adv S 3 (.int ((Int16.ofInt t.1).toInt32) :: S.2.2.1)))
theorem cm_sipush_ok : cm_Snd cm_sipush := by
  intro p l e R s m args below meth c cc Q D A adr ce sl E P t S i n cs X h1 hd hw h2 ws H locs ls hR
  obtain ⟨hx, hb, hml, hown, hts, hK, hA, hN, hcC, hcS, hf, hlc, hscr⟩ := X
  obtain ⟨pc, L, st, M⟩ := S
  have h1 : some ((.sipush t.1 : Instr), (3 : Nat), ([] : List Cond)) = some (i, n, cs) := h1
  cases h1
  exact lv_sipush (v := (Int16.ofInt t.1).toInt32) hx hb hd rfl (h2 ws H locs ls hR)

def cm_lconst : cm_O := (ev_lconst.1, fun E P t S k => k (cm_adv S 1 (.long (Int64.ofNat t.1.toNat) :: S.2.2.1)))
theorem cm_lconst_ok : cm_Snd cm_lconst := by
  intro p l e R s m args below meth c cc Q D A adr ce sl E P t S i n cs X h1 hd hw h2 ws H locs ls hR
  obtain ⟨hx, hb, hml, hown, hts, hK, hA, hN, hcC, hcS, hf, hlc, hscr⟩ := X
  obtain ⟨pc, L, st, M⟩ := S
  have h1 : (if h : t.1.toNat < 2 then some ((.lconst ⟨t.1.toNat, h⟩ : Instr), (1 : Nat), ([] : List Cond)) else none) = some (i, n, cs) := h1
  split at h1
  · cases h1
    exact lv_lconst (v := Int64.ofNat t.1.toNat) hx hb hd rfl (h2 ws H locs ls hR)
  · cases h1

def cm_ld (ty : Nat) (n i : Nat) (S : cm_S) (k : cm_S → Prop) : Prop := match ty, cm_look S.2.1 i with
  | 0, some (.int x) => k (cm_adv S n (.int x :: S.2.2.1))
  | 1, some (.long x) => k (cm_adv S n (.long x :: S.2.2.1))
  | 2, some (.ref x) => k (cm_adv S n (.ref x :: S.2.2.1))
  | _, _ => False
theorem cm_ld_ok {ty n i : Nat} {S : cm_S} {k : cm_S → Prop} (h : cm_ld ty n i S k) : ∃ v, cm_look S.2.1 i = some v ∧ k (cm_adv S n (v :: S.2.2.1)) ∧ (ty = 0 → ∃ x, v = .int x) ∧ (ty = 1 → ∃ x, v = .long x) ∧ (ty = 2 → ∃ x, v = .ref x) := by
  unfold cm_ld at h
  split at h
  · rename_i x hx
    exact ⟨_, hx, h, fun _ => ⟨x, rfl⟩, fun q => (by cases q), fun q => (by cases q)⟩
  · rename_i x hx
    exact ⟨_, hx, h, fun q => (by cases q), fun _ => ⟨x, rfl⟩, fun q => (by cases q)⟩
  · rename_i x hx
    exact ⟨_, hx, h, fun q => (by cases q), fun q => (by cases q), fun _ => ⟨x, rfl⟩⟩
  · exact h.elim
def cm_iload : cm_O := (ev_iload.1, fun E P t S k => cm_ld 0 2 t.1.toNat S k)
theorem cm_iload_ok : cm_Snd cm_iload := by
  intro p l e R s m args below meth c cc Q D A adr ce sl E P t S i n cs X h1 hd hw h2 ws H locs ls hR
  obtain ⟨hx, hb, hml, hown, hts, hK, hA, hN, hcC, hcS, hf, hlc, hscr⟩ := X
  obtain ⟨pc, L, st, M⟩ := S
  have h1 : some ((.iload t.1.toNat : Instr), (2 : Nat), ([] : List Cond)) = some (i, n, cs) := h1
  cases h1
  obtain ⟨v, hv, hk, q0, q1, q2⟩ := cm_ld_ok h2
  obtain ⟨x, rfl⟩ := q0 rfl
  exact lv_iload hx hb hd (cm_l_at hR.2.2.2.2 hv) (hk ws H locs ls hR)

def cm_iloadn : cm_O := (ev_iloadn.1, fun E P t S k => cm_ld 0 1 t.1.toNat S k)
theorem cm_iloadn_ok : cm_Snd cm_iloadn := by
  intro p l e R s m args below meth c cc Q D A adr ce sl E P t S i n cs X h1 hd hw h2 ws H locs ls hR
  obtain ⟨hx, hb, hml, hown, hts, hK, hA, hN, hcC, hcS, hf, hlc, hscr⟩ := X
  obtain ⟨pc, L, st, M⟩ := S
  have h1 : (if h : t.1.toNat < 4 then some ((.iload_n ⟨t.1.toNat, h⟩ : Instr), (1 : Nat), ([] : List Cond)) else none) = some (i, n, cs) := h1
  split at h1
  rotate_left
  · cases h1
  cases h1
  obtain ⟨v, hv, hk, q0, q1, q2⟩ := cm_ld_ok h2
  obtain ⟨x, rfl⟩ := q0 rfl
  exact lv_iload_n hx hb hd rfl (cm_l_at hR.2.2.2.2 hv) (hk ws H locs ls hR)

def cm_lload : cm_O := (ev_lload.1, fun E P t S k => cm_ld 1 2 t.1.toNat S k)
theorem cm_lload_ok : cm_Snd cm_lload := by
  intro p l e R s m args below meth c cc Q D A adr ce sl E P t S i n cs X h1 hd hw h2 ws H locs ls hR
  obtain ⟨hx, hb, hml, hown, hts, hK, hA, hN, hcC, hcS, hf, hlc, hscr⟩ := X
  obtain ⟨pc, L, st, M⟩ := S
  have h1 : some ((.lload t.1.toNat : Instr), (2 : Nat), ([] : List Cond)) = some (i, n, cs) := h1
  cases h1
  obtain ⟨v, hv, hk, q0, q1, q2⟩ := cm_ld_ok h2
  obtain ⟨x, rfl⟩ := q1 rfl
  exact lv_lload hx hb hd (cm_l_at hR.2.2.2.2 hv) (hk ws H locs ls hR)

def cm_lloadn : cm_O := (ev_lloadn.1, fun E P t S k => cm_ld 1 1 t.1.toNat S k)
theorem cm_lloadn_ok : cm_Snd cm_lloadn := by
  intro p l e R s m args below meth c cc Q D A adr ce sl E P t S i n cs X h1 hd hw h2 ws H locs ls hR
  obtain ⟨hx, hb, hml, hown, hts, hK, hA, hN, hcC, hcS, hf, hlc, hscr⟩ := X
  obtain ⟨pc, L, st, M⟩ := S
  have h1 : (if h : t.1.toNat < 4 then some ((.lload_n ⟨t.1.toNat, h⟩ : Instr), (1 : Nat), ([] : List Cond)) else none) = some (i, n, cs) := h1
  split at h1
  rotate_left
  · cases h1
  cases h1
  obtain ⟨v, hv, hk, q0, q1, q2⟩ := cm_ld_ok h2
  obtain ⟨x, rfl⟩ := q1 rfl
  exact lv_lload_n hx hb hd rfl (cm_l_at hR.2.2.2.2 hv) (hk ws H locs ls hR)

def cm_aload : cm_O := (ev_aload.1, fun E P t S k => cm_ld 2 2 t.1.toNat S k)
theorem cm_aload_ok : cm_Snd cm_aload := by
  intro p l e R s m args below meth c cc Q D A adr ce sl E P t S i n cs X h1 hd hw h2 ws H locs ls hR
  obtain ⟨hx, hb, hml, hown, hts, hK, hA, hN, hcC, hcS, hf, hlc, hscr⟩ := X
  obtain ⟨pc, L, st, M⟩ := S
  have h1 : some ((.aload t.1.toNat : Instr), (2 : Nat), ([] : List Cond)) = some (i, n, cs) := h1
  cases h1
  obtain ⟨v, hv, hk, q0, q1, q2⟩ := cm_ld_ok h2
  obtain ⟨x, rfl⟩ := q2 rfl
  exact lv_aload hx hb hd (cm_l_at hR.2.2.2.2 hv) (hk ws H locs ls hR)

def cm_aloadn : cm_O := (ev_aloadn.1, fun E P t S k => cm_ld 2 1 t.1.toNat S k)
theorem cm_aloadn_ok : cm_Snd cm_aloadn := by
  intro p l e R s m args below meth c cc Q D A adr ce sl E P t S i n cs X h1 hd hw h2 ws H locs ls hR
  obtain ⟨hx, hb, hml, hown, hts, hK, hA, hN, hcC, hcS, hf, hlc, hscr⟩ := X
  obtain ⟨pc, L, st, M⟩ := S
  have h1 : (if h : t.1.toNat < 4 then some ((.aload_n ⟨t.1.toNat, h⟩ : Instr), (1 : Nat), ([] : List Cond)) else none) = some (i, n, cs) := h1
  split at h1
  rotate_left
  · cases h1
  cases h1
  obtain ⟨v, hv, hk, q0, q1, q2⟩ := cm_ld_ok h2
  obtain ⟨x, rfl⟩ := q2 rfl
  exact lv_aload_n hx hb hd rfl (cm_l_at hR.2.2.2.2 hv) (hk ws H locs ls hR)

def cm_sto (ty : Nat) (n i nL : Nat) (S : cm_S) (k : cm_S → Prop) : Prop := match ty, S.2.2.1 with
  | 0, .int x :: st => i < nL ∧ k (S.1 + n, cm_st1 S.2.1 i (.int x), st, S.2.2.2)
  | 1, .long x :: st => i + 1 < nL ∧ k (S.1 + n, cm_st2 S.2.1 i (.long x), st, S.2.2.2)
  | 2, .ref x :: st => i < nL ∧ k (S.1 + n, cm_st1 S.2.1 i (.ref x), st, S.2.2.2)
  | _, _ => False
def cm_istore : cm_O := (ev_istore.1, fun E P t S k => cm_sto 0 2 t.1.toNat P.2.2.2.2.1 S k)
theorem cm_istore_ok : cm_Snd cm_istore := by
  intro p l e R s m args below meth c cc Q D A adr ce sl E P t S i n cs X h1 hd hw h2 ws H locs ls hR
  obtain ⟨hx, hb, hml, hown, hts, hK, hA, hN, hcC, hcS, hf, hlc, hscr⟩ := X
  obtain ⟨pc, L, st, M⟩ := S
  have h1 : some ((.istore t.1.toNat : Instr), (2 : Nat), ([] : List Cond)) = some (i, n, cs) := h1
  cases h1
  obtain ⟨hP, hD, hS, hW, hL⟩ := hR
  cases st with
  | nil => exact h2.elim
  | cons v st' =>
    cases v with
    | int x =>
      exact lv_istore hx hb hd hL h2.1 (cm_st1_eq adr L t.1.toNat (.int x)) (fun ls' hl' => h2.2 ws H locs ls' ⟨hP, hD, hS, hW, hl'⟩)
    | _ => exact h2.elim

def cm_istoren : cm_O := (ev_istoren.1, fun E P t S k => cm_sto 0 1 t.1.toNat P.2.2.2.2.1 S k)
theorem cm_istoren_ok : cm_Snd cm_istoren := by
  intro p l e R s m args below meth c cc Q D A adr ce sl E P t S i n cs X h1 hd hw h2 ws H locs ls hR
  obtain ⟨hx, hb, hml, hown, hts, hK, hA, hN, hcC, hcS, hf, hlc, hscr⟩ := X
  obtain ⟨pc, L, st, M⟩ := S
  have h1 : (if h : t.1.toNat < 4 then some ((.istore_n ⟨t.1.toNat, h⟩ : Instr), (1 : Nat), ([] : List Cond)) else none) = some (i, n, cs) := h1
  split at h1
  rotate_left
  · cases h1
  cases h1
  obtain ⟨hP, hD, hS, hW, hL⟩ := hR
  cases st with
  | nil => exact h2.elim
  | cons v st' =>
    cases v with
    | int x =>
      exact lv_istore_n hx hb hd rfl hL h2.1 (cm_st1_eq adr L t.1.toNat (.int x)) (fun ls' hl' => h2.2 ws H locs ls' ⟨hP, hD, hS, hW, hl'⟩)
    | _ => exact h2.elim

def cm_lstore : cm_O := (ev_lstore.1, fun E P t S k => cm_sto 1 2 t.1.toNat P.2.2.2.2.1 S k)
theorem cm_lstore_ok : cm_Snd cm_lstore := by
  intro p l e R s m args below meth c cc Q D A adr ce sl E P t S i n cs X h1 hd hw h2 ws H locs ls hR
  obtain ⟨hx, hb, hml, hown, hts, hK, hA, hN, hcC, hcS, hf, hlc, hscr⟩ := X
  obtain ⟨pc, L, st, M⟩ := S
  have h1 : some ((.lstore t.1.toNat : Instr), (2 : Nat), ([] : List Cond)) = some (i, n, cs) := h1
  cases h1
  obtain ⟨hP, hD, hS, hW, hL⟩ := hR
  cases st with
  | nil => exact h2.elim
  | cons v st' =>
    cases v with
    | long x =>
      exact lv_lstore hx hb hd hL h2.1 (cm_st2_eq adr L t.1.toNat (.long x)) (fun ls' hl' => h2.2 ws H locs ls' ⟨hP, hD, hS, hW, hl'⟩)
    | _ => exact h2.elim

def cm_lstoren : cm_O := (ev_lstoren.1, fun E P t S k => cm_sto 1 1 t.1.toNat P.2.2.2.2.1 S k)
theorem cm_lstoren_ok : cm_Snd cm_lstoren := by
  intro p l e R s m args below meth c cc Q D A adr ce sl E P t S i n cs X h1 hd hw h2 ws H locs ls hR
  obtain ⟨hx, hb, hml, hown, hts, hK, hA, hN, hcC, hcS, hf, hlc, hscr⟩ := X
  obtain ⟨pc, L, st, M⟩ := S
  have h1 : (if h : t.1.toNat < 4 then some ((.lstore_n ⟨t.1.toNat, h⟩ : Instr), (1 : Nat), ([] : List Cond)) else none) = some (i, n, cs) := h1
  split at h1
  rotate_left
  · cases h1
  cases h1
  obtain ⟨hP, hD, hS, hW, hL⟩ := hR
  cases st with
  | nil => exact h2.elim
  | cons v st' =>
    cases v with
    | long x =>
      exact lv_lstore_n hx hb hd rfl hL h2.1 (cm_st2_eq adr L t.1.toNat (.long x)) (fun ls' hl' => h2.2 ws H locs ls' ⟨hP, hD, hS, hW, hl'⟩)
    | _ => exact h2.elim

def cm_astore : cm_O := (ev_astore.1, fun E P t S k => cm_sto 2 2 t.1.toNat P.2.2.2.2.1 S k)
theorem cm_astore_ok : cm_Snd cm_astore := by
  intro p l e R s m args below meth c cc Q D A adr ce sl E P t S i n cs X h1 hd hw h2 ws H locs ls hR
  obtain ⟨hx, hb, hml, hown, hts, hK, hA, hN, hcC, hcS, hf, hlc, hscr⟩ := X
  obtain ⟨pc, L, st, M⟩ := S
  have h1 : some ((.astore t.1.toNat : Instr), (2 : Nat), ([] : List Cond)) = some (i, n, cs) := h1
  cases h1
  obtain ⟨hP, hD, hS, hW, hL⟩ := hR
  cases st with
  | nil => exact h2.elim
  | cons v st' =>
    cases v with
    | ref x =>
      exact lv_astore hx hb hd hL h2.1 (cm_st1_eq adr L t.1.toNat (.ref x)) (fun ls' hl' => h2.2 ws H locs ls' ⟨hP, hD, hS, hW, hl'⟩)
    | _ => exact h2.elim

def cm_astoren : cm_O := (ev_astoren.1, fun E P t S k => cm_sto 2 1 t.1.toNat P.2.2.2.2.1 S k)
theorem cm_astoren_ok : cm_Snd cm_astoren := by
  intro p l e R s m args below meth c cc Q D A adr ce sl E P t S i n cs X h1 hd hw h2 ws H locs ls hR
  obtain ⟨hx, hb, hml, hown, hts, hK, hA, hN, hcC, hcS, hf, hlc, hscr⟩ := X
  obtain ⟨pc, L, st, M⟩ := S
  have h1 : (if h : t.1.toNat < 4 then some ((.astore_n ⟨t.1.toNat, h⟩ : Instr), (1 : Nat), ([] : List Cond)) else none) = some (i, n, cs) := h1
  split at h1
  rotate_left
  · cases h1
  cases h1
  obtain ⟨hP, hD, hS, hW, hL⟩ := hR
  cases st with
  | nil => exact h2.elim
  | cons v st' =>
    cases v with
    | ref x =>
      exact lv_astore_n hx hb hd rfl hL h2.1 (cm_st1_eq adr L t.1.toNat (.ref x)) (fun ls' hl' => h2.2 ws H locs ls' ⟨hP, hD, hS, hW, hl'⟩)
    | _ => exact h2.elim

def cm_iadd : cm_O := (ev_iadd.1, fun E P t S k => match S.2.2.1 with
  | .int y :: .int x :: st => k (cm_adv S 1 (.int (x + y) :: st))
  | _ => False)
theorem cm_iadd_ok : cm_Snd cm_iadd := by
  intro p l e R s m args below meth c cc Q D A adr ce sl E P t S i n cs X h1 hd hw h2 ws H locs ls hR
  obtain ⟨hx, hb, hml, hown, hts, hK, hA, hN, hcC, hcS, hf, hlc, hscr⟩ := X
  obtain ⟨pc, L, st, M⟩ := S
  have h1 : some ((.iadd : Instr), (1 : Nat), ([] : List Cond)) = some (i, n, cs) := h1
  cases h1
  unfold cm_iadd at h2
  dsimp only at h2
  split at h2
  · exact lv_iadd hx hb hd (h2 ws H locs ls hR)
  · exact h2.elim

def cm_isub : cm_O := (ev_isub.1, fun E P t S k => match S.2.2.1 with
  | .int y :: .int x :: st => k (cm_adv S 1 (.int (x - y) :: st))
  | _ => False)
theorem cm_isub_ok : cm_Snd cm_isub := by
  intro p l e R s m args below meth c cc Q D A adr ce sl E P t S i n cs X h1 hd hw h2 ws H locs ls hR
  obtain ⟨hx, hb, hml, hown, hts, hK, hA, hN, hcC, hcS, hf, hlc, hscr⟩ := X
  obtain ⟨pc, L, st, M⟩ := S
  have h1 : some ((.isub : Instr), (1 : Nat), ([] : List Cond)) = some (i, n, cs) := h1
  cases h1
  unfold cm_isub at h2
  dsimp only at h2
  split at h2
  · exact lv_isub hx hb hd (h2 ws H locs ls hR)
  · exact h2.elim

def cm_imul : cm_O := (ev_imul.1, fun E P t S k => match S.2.2.1 with
  | .int y :: .int x :: st => k (cm_adv S 1 (.int (x * y) :: st))
  | _ => False)
theorem cm_imul_ok : cm_Snd cm_imul := by
  intro p l e R s m args below meth c cc Q D A adr ce sl E P t S i n cs X h1 hd hw h2 ws H locs ls hR
  obtain ⟨hx, hb, hml, hown, hts, hK, hA, hN, hcC, hcS, hf, hlc, hscr⟩ := X
  obtain ⟨pc, L, st, M⟩ := S
  have h1 : some ((.imul : Instr), (1 : Nat), ([] : List Cond)) = some (i, n, cs) := h1
  cases h1
  unfold cm_imul at h2
  dsimp only at h2
  split at h2
  · exact lv_imul hx hb hd (h2 ws H locs ls hR)
  · exact h2.elim

def cm_iand : cm_O := (ev_iand.1, fun E P t S k => match S.2.2.1 with
  | .int y :: .int x :: st => k (cm_adv S 1 (.int (x &&& y) :: st))
  | _ => False)
theorem cm_iand_ok : cm_Snd cm_iand := by
  intro p l e R s m args below meth c cc Q D A adr ce sl E P t S i n cs X h1 hd hw h2 ws H locs ls hR
  obtain ⟨hx, hb, hml, hown, hts, hK, hA, hN, hcC, hcS, hf, hlc, hscr⟩ := X
  obtain ⟨pc, L, st, M⟩ := S
  have h1 : some ((.iand : Instr), (1 : Nat), ([] : List Cond)) = some (i, n, cs) := h1
  cases h1
  unfold cm_iand at h2
  dsimp only at h2
  split at h2
  · exact lv_iand hx hb hd (h2 ws H locs ls hR)
  · exact h2.elim

def cm_ior : cm_O := (ev_ior.1, fun E P t S k => match S.2.2.1 with
  | .int y :: .int x :: st => k (cm_adv S 1 (.int (x ||| y) :: st))
  | _ => False)
theorem cm_ior_ok : cm_Snd cm_ior := by
  intro p l e R s m args below meth c cc Q D A adr ce sl E P t S i n cs X h1 hd hw h2 ws H locs ls hR
  obtain ⟨hx, hb, hml, hown, hts, hK, hA, hN, hcC, hcS, hf, hlc, hscr⟩ := X
  obtain ⟨pc, L, st, M⟩ := S
  have h1 : some ((.ior : Instr), (1 : Nat), ([] : List Cond)) = some (i, n, cs) := h1
  cases h1
  unfold cm_ior at h2
  dsimp only at h2
  split at h2
  · exact lv_ior hx hb hd (h2 ws H locs ls hR)
  · exact h2.elim

def cm_ixor : cm_O := (ev_ixor.1, fun E P t S k => match S.2.2.1 with
  | .int y :: .int x :: st => k (cm_adv S 1 (.int (x ^^^ y) :: st))
  | _ => False)
theorem cm_ixor_ok : cm_Snd cm_ixor := by
  intro p l e R s m args below meth c cc Q D A adr ce sl E P t S i n cs X h1 hd hw h2 ws H locs ls hR
  obtain ⟨hx, hb, hml, hown, hts, hK, hA, hN, hcC, hcS, hf, hlc, hscr⟩ := X
  obtain ⟨pc, L, st, M⟩ := S
  have h1 : some ((.ixor : Instr), (1 : Nat), ([] : List Cond)) = some (i, n, cs) := h1
  cases h1
  unfold cm_ixor at h2
  dsimp only at h2
  split at h2
  · exact lv_ixor hx hb hd (h2 ws H locs ls hR)
  · exact h2.elim

def cm_ishl : cm_O := (ev_ishl.1, fun E P t S k => match S.2.2.1 with
  | .int y :: .int x :: st => k (cm_adv S 1 (.int (x <<< (y &&& 31)) :: st))
  | _ => False)
theorem cm_ishl_ok : cm_Snd cm_ishl := by
  intro p l e R s m args below meth c cc Q D A adr ce sl E P t S i n cs X h1 hd hw h2 ws H locs ls hR
  obtain ⟨hx, hb, hml, hown, hts, hK, hA, hN, hcC, hcS, hf, hlc, hscr⟩ := X
  obtain ⟨pc, L, st, M⟩ := S
  have h1 : some ((.ishl : Instr), (1 : Nat), ([] : List Cond)) = some (i, n, cs) := h1
  cases h1
  unfold cm_ishl at h2
  dsimp only at h2
  split at h2
  · exact lv_ishl hx hb hd (h2 ws H locs ls hR)
  · exact h2.elim

def cm_ishr : cm_O := (ev_ishr.1, fun E P t S k => match S.2.2.1 with
  | .int y :: .int x :: st => k (cm_adv S 1 (.int (x >>> (y &&& 31)) :: st))
  | _ => False)
theorem cm_ishr_ok : cm_Snd cm_ishr := by
  intro p l e R s m args below meth c cc Q D A adr ce sl E P t S i n cs X h1 hd hw h2 ws H locs ls hR
  obtain ⟨hx, hb, hml, hown, hts, hK, hA, hN, hcC, hcS, hf, hlc, hscr⟩ := X
  obtain ⟨pc, L, st, M⟩ := S
  have h1 : some ((.ishr : Instr), (1 : Nat), ([] : List Cond)) = some (i, n, cs) := h1
  cases h1
  unfold cm_ishr at h2
  dsimp only at h2
  split at h2
  · exact lv_ishr hx hb hd (h2 ws H locs ls hR)
  · exact h2.elim

def cm_iushr : cm_O := (ev_iushr.1, fun E P t S k => match S.2.2.1 with
  | .int y :: .int x :: st => k (cm_adv S 1 (.int ((x.toUInt32 >>> (y.toUInt32 &&& Int32.toUInt32 31)).toInt32) :: st))
  | _ => False)
theorem cm_iushr_ok : cm_Snd cm_iushr := by
  intro p l e R s m args below meth c cc Q D A adr ce sl E P t S i n cs X h1 hd hw h2 ws H locs ls hR
  obtain ⟨hx, hb, hml, hown, hts, hK, hA, hN, hcC, hcS, hf, hlc, hscr⟩ := X
  obtain ⟨pc, L, st, M⟩ := S
  have h1 : some ((.iushr : Instr), (1 : Nat), ([] : List Cond)) = some (i, n, cs) := h1
  cases h1
  unfold cm_iushr at h2
  dsimp only at h2
  split at h2
  · exact lv_iushr hx hb hd rfl (h2 ws H locs ls hR)
  · exact h2.elim

def cm_idiv : cm_O := (ev_idiv.1, fun E P t S k => match S.2.2.1 with
  | .int y :: .int x :: st => ¬ y = 0 ∧ k (cm_adv S 1 (.int (x / y) :: st))
  | _ => False)
theorem cm_idiv_ok : cm_Snd cm_idiv := by
  intro p l e R s m args below meth c cc Q D A adr ce sl E P t S i n cs X h1 hd hw h2 ws H locs ls hR
  obtain ⟨hx, hb, hml, hown, hts, hK, hA, hN, hcC, hcS, hf, hlc, hscr⟩ := X
  obtain ⟨pc, L, st, M⟩ := S
  have h1 : some ((.idiv : Instr), (1 : Nat), ([] : List Cond)) = some (i, n, cs) := h1
  cases h1
  unfold cm_idiv at h2
  dsimp only at h2
  split at h2
  · exact lv_idiv hx hb hd h2.1 (h2.2 ws H locs ls hR)
  · exact h2.elim

def cm_irem : cm_O := (ev_irem.1, fun E P t S k => match S.2.2.1 with
  | .int y :: .int x :: st => ¬ y = 0 ∧ k (cm_adv S 1 (.int (x - x / y * y) :: st))
  | _ => False)
theorem cm_irem_ok : cm_Snd cm_irem := by
  intro p l e R s m args below meth c cc Q D A adr ce sl E P t S i n cs X h1 hd hw h2 ws H locs ls hR
  obtain ⟨hx, hb, hml, hown, hts, hK, hA, hN, hcC, hcS, hf, hlc, hscr⟩ := X
  obtain ⟨pc, L, st, M⟩ := S
  have h1 : some ((.irem : Instr), (1 : Nat), ([] : List Cond)) = some (i, n, cs) := h1
  cases h1
  unfold cm_irem at h2
  dsimp only at h2
  split at h2
  · exact lv_irem hx hb hd h2.1 (h2.2 ws H locs ls hR)
  · exact h2.elim

def cm_ineg : cm_O := (ev_ineg.1, fun E P t S k => match S.2.2.1 with
  | .int x :: st => k (cm_adv S 1 (.int (-x) :: st))
  | _ => False)
theorem cm_ineg_ok : cm_Snd cm_ineg := by
  intro p l e R s m args below meth c cc Q D A adr ce sl E P t S i n cs X h1 hd hw h2 ws H locs ls hR
  obtain ⟨hx, hb, hml, hown, hts, hK, hA, hN, hcC, hcS, hf, hlc, hscr⟩ := X
  obtain ⟨pc, L, st, M⟩ := S
  have h1 : some ((.ineg : Instr), (1 : Nat), ([] : List Cond)) = some (i, n, cs) := h1
  cases h1
  unfold cm_ineg at h2
  dsimp only at h2
  split at h2
  · exact lv_ineg hx hb hd (h2 ws H locs ls hR)
  · exact h2.elim

def cm_i2b : cm_O := (ev_i2b.1, fun E P t S k => match S.2.2.1 with
  | .int x :: st => k (cm_adv S 1 (.int (x.toInt8.toInt32) :: st))
  | _ => False)
theorem cm_i2b_ok : cm_Snd cm_i2b := by
  intro p l e R s m args below meth c cc Q D A adr ce sl E P t S i n cs X h1 hd hw h2 ws H locs ls hR
  obtain ⟨hx, hb, hml, hown, hts, hK, hA, hN, hcC, hcS, hf, hlc, hscr⟩ := X
  obtain ⟨pc, L, st, M⟩ := S
  have h1 : some ((.i2b : Instr), (1 : Nat), ([] : List Cond)) = some (i, n, cs) := h1
  cases h1
  unfold cm_i2b at h2
  dsimp only at h2
  split at h2
  · exact lv_i2b hx hb hd rfl (h2 ws H locs ls hR)
  · exact h2.elim

def cm_i2c : cm_O := (ev_i2c.1, fun E P t S k => match S.2.2.1 with
  | .int x :: st => k (cm_adv S 1 (.int ((x.toUInt32 % 65536).toInt32) :: st))
  | _ => False)
theorem cm_i2c_ok : cm_Snd cm_i2c := by
  intro p l e R s m args below meth c cc Q D A adr ce sl E P t S i n cs X h1 hd hw h2 ws H locs ls hR
  obtain ⟨hx, hb, hml, hown, hts, hK, hA, hN, hcC, hcS, hf, hlc, hscr⟩ := X
  obtain ⟨pc, L, st, M⟩ := S
  have h1 : some ((.i2c : Instr), (1 : Nat), ([] : List Cond)) = some (i, n, cs) := h1
  cases h1
  unfold cm_i2c at h2
  dsimp only at h2
  split at h2
  · exact lv_i2c hx hb hd rfl (h2 ws H locs ls hR)
  · exact h2.elim

def cm_i2l : cm_O := (ev_i2l.1, fun E P t S k => match S.2.2.1 with
  | .int x :: st => k (cm_adv S 1 (.long x.toInt64 :: st))
  | _ => False)
theorem cm_i2l_ok : cm_Snd cm_i2l := by
  intro p l e R s m args below meth c cc Q D A adr ce sl E P t S i n cs X h1 hd hw h2 ws H locs ls hR
  obtain ⟨hx, hb, hml, hown, hts, hK, hA, hN, hcC, hcS, hf, hlc, hscr⟩ := X
  obtain ⟨pc, L, st, M⟩ := S
  have h1 : some ((.i2l : Instr), (1 : Nat), ([] : List Cond)) = some (i, n, cs) := h1
  cases h1
  unfold cm_i2l at h2
  dsimp only at h2
  split at h2
  · exact lv_i2l hx hb hd rfl (h2 ws H locs ls hR)
  · exact h2.elim

def cm_lcmp : cm_O := (ev_lcmp.1, fun E P t S k => match S.2.2.1 with
  | .long y :: .long x :: st => k (cm_adv S 1 (.int (lg_cmp x y) :: st))
  | _ => False)
theorem cm_lcmp_ok : cm_Snd cm_lcmp := by
  intro p l e R s m args below meth c cc Q D A adr ce sl E P t S i n cs X h1 hd hw h2 ws H locs ls hR
  obtain ⟨hx, hb, hml, hown, hts, hK, hA, hN, hcC, hcS, hf, hlc, hscr⟩ := X
  obtain ⟨pc, L, st, M⟩ := S
  have h1 : some ((.lcmp : Instr), (1 : Nat), ([] : List Cond)) = some (i, n, cs) := h1
  cases h1
  unfold cm_lcmp at h2
  dsimp only at h2
  split at h2
  · exact W.lcmp hx hb hd (h2 ws H locs ls hR)
  · exact h2.elim

def cm_ladd : cm_O := (ev_ladd.1, fun E P t S k => match S.2.2.1 with
  | .long y :: .long x :: st => k (cm_adv S 1 (.long (x + y) :: st))
  | _ => False)
theorem cm_ladd_ok : cm_Snd cm_ladd := by
  intro p l e R s m args below meth c cc Q D A adr ce sl E P t S i n cs X h1 hd hw h2 ws H locs ls hR
  obtain ⟨hx, hb, hml, hown, hts, hK, hA, hN, hcC, hcS, hf, hlc, hscr⟩ := X
  obtain ⟨pc, L, st, M⟩ := S
  have h1 : some ((.ladd : Instr), (1 : Nat), ([] : List Cond)) = some (i, n, cs) := h1
  cases h1
  unfold cm_ladd at h2
  dsimp only at h2
  split at h2
  · exact lv_ladd hx hb hd (h2 ws H locs ls hR)
  · exact h2.elim

def cm_lsub : cm_O := (ev_lsub.1, fun E P t S k => match S.2.2.1 with
  | .long y :: .long x :: st => k (cm_adv S 1 (.long (x - y) :: st))
  | _ => False)
theorem cm_lsub_ok : cm_Snd cm_lsub := by
  intro p l e R s m args below meth c cc Q D A adr ce sl E P t S i n cs X h1 hd hw h2 ws H locs ls hR
  obtain ⟨hx, hb, hml, hown, hts, hK, hA, hN, hcC, hcS, hf, hlc, hscr⟩ := X
  obtain ⟨pc, L, st, M⟩ := S
  have h1 : some ((.lsub : Instr), (1 : Nat), ([] : List Cond)) = some (i, n, cs) := h1
  cases h1
  unfold cm_lsub at h2
  dsimp only at h2
  split at h2
  · exact lv_lsub hx hb hd (h2 ws H locs ls hR)
  · exact h2.elim

def cm_lmul : cm_O := (ev_lmul.1, fun E P t S k => match S.2.2.1 with
  | .long y :: .long x :: st => k (cm_adv S 1 (.long (x * y) :: st))
  | _ => False)
theorem cm_lmul_ok : cm_Snd cm_lmul := by
  intro p l e R s m args below meth c cc Q D A adr ce sl E P t S i n cs X h1 hd hw h2 ws H locs ls hR
  obtain ⟨hx, hb, hml, hown, hts, hK, hA, hN, hcC, hcS, hf, hlc, hscr⟩ := X
  obtain ⟨pc, L, st, M⟩ := S
  have h1 : some ((.lmul : Instr), (1 : Nat), ([] : List Cond)) = some (i, n, cs) := h1
  cases h1
  unfold cm_lmul at h2
  dsimp only at h2
  split at h2
  · exact lv_lmul hx hb hd (h2 ws H locs ls hR)
  · exact h2.elim

def cm_ldiv : cm_O := (ev_ldiv.1, fun E P t S k => match S.2.2.1 with
  | .long y :: .long x :: st => ¬ y = 0 ∧ k (cm_adv S 1 (.long (x / y) :: st))
  | _ => False)
theorem cm_ldiv_ok : cm_Snd cm_ldiv := by
  intro p l e R s m args below meth c cc Q D A adr ce sl E P t S i n cs X h1 hd hw h2 ws H locs ls hR
  obtain ⟨hx, hb, hml, hown, hts, hK, hA, hN, hcC, hcS, hf, hlc, hscr⟩ := X
  obtain ⟨pc, L, st, M⟩ := S
  have h1 : some ((.ldiv : Instr), (1 : Nat), ([] : List Cond)) = some (i, n, cs) := h1
  cases h1
  unfold cm_ldiv at h2
  dsimp only at h2
  split at h2
  · exact lv_ldiv hx hb hd h2.1 (h2.2 ws H locs ls hR)
  · exact h2.elim

def cm_lrem : cm_O := (ev_lrem.1, fun E P t S k => match S.2.2.1 with
  | .long y :: .long x :: st => ¬ y = 0 ∧ k (cm_adv S 1 (.long (x - x / y * y) :: st))
  | _ => False)
theorem cm_lrem_ok : cm_Snd cm_lrem := by
  intro p l e R s m args below meth c cc Q D A adr ce sl E P t S i n cs X h1 hd hw h2 ws H locs ls hR
  obtain ⟨hx, hb, hml, hown, hts, hK, hA, hN, hcC, hcS, hf, hlc, hscr⟩ := X
  obtain ⟨pc, L, st, M⟩ := S
  have h1 : some ((.lrem : Instr), (1 : Nat), ([] : List Cond)) = some (i, n, cs) := h1
  cases h1
  unfold cm_lrem at h2
  dsimp only at h2
  split at h2
  · exact lv_lrem hx hb hd h2.1 (h2.2 ws H locs ls hR)
  · exact h2.elim

def cm_dup : cm_O := (ev_dup.1, fun E P t S k => match S.2.2.1 with
  | x :: st => x.category = 1 ∧ k (cm_adv S 1 (x :: x :: st))
  | _ => False)
theorem cm_dup_ok : cm_Snd cm_dup := by
  intro p l e R s m args below meth c cc Q D A adr ce sl E P t S i n cs X h1 hd hw h2 ws H locs ls hR
  obtain ⟨hx, hb, hml, hown, hts, hK, hA, hN, hcC, hcS, hf, hlc, hscr⟩ := X
  obtain ⟨pc, L, st, M⟩ := S
  have h1 : some ((.dup : Instr), (1 : Nat), ([] : List Cond)) = some (i, n, cs) := h1
  cases h1
  unfold cm_dup at h2
  dsimp only at h2
  split at h2
  · exact lv_dup hx hb hd (by rw [cm_v_cat]; exact h2.1) (h2.2 ws H locs ls hR)
  · exact h2.elim

def cm_pop : cm_O := (ev_pop.1, fun E P t S k => match S.2.2.1 with
  | x :: st => x.category = 1 ∧ k (cm_adv S 1 st)
  | _ => False)
theorem cm_pop_ok : cm_Snd cm_pop := by
  intro p l e R s m args below meth c cc Q D A adr ce sl E P t S i n cs X h1 hd hw h2 ws H locs ls hR
  obtain ⟨hx, hb, hml, hown, hts, hK, hA, hN, hcC, hcS, hf, hlc, hscr⟩ := X
  obtain ⟨pc, L, st, M⟩ := S
  have h1 : some ((.pop : Instr), (1 : Nat), ([] : List Cond)) = some (i, n, cs) := h1
  cases h1
  unfold cm_pop at h2
  dsimp only at h2
  split at h2
  · exact lv_pop hx hb hd (by rw [cm_v_cat]; exact h2.1) (h2.2 ws H locs ls hR)
  · exact h2.elim

def cm_pop2 : cm_O := ((fun _ _ => some (.pop2, 1, [])), fun E P t S k => match S.2.2.1 with
  | .long x :: st => k (cm_adv S 1 st)
  | _ => False)
theorem cm_pop2_ok : cm_Snd cm_pop2 := by
  intro p l e R s m args below meth c cc Q D A adr ce sl E P t S i n cs X h1 hd hw h2 ws H locs ls hR
  obtain ⟨hx, hb, hml, hown, hts, hK, hA, hN, hcC, hcS, hf, hlc, hscr⟩ := X
  obtain ⟨pc, L, st, M⟩ := S
  have h1 : some ((.pop2 : Instr), (1 : Nat), ([] : List Cond)) = some (i, n, cs) := h1
  cases h1
  unfold cm_pop2 at h2
  dsimp only at h2
  split at h2
  · exact lv_pop2_2 (va := .long _) hx hb hd rfl (h2 ws H locs ls hR)
  · exact h2.elim

def cm_dup2 : cm_O := (ev_dup2.1, fun E P t S k => match S.2.2.1 with
  | x :: y :: st => x.category = 1 ∧ y.category = 1 ∧ k (cm_adv S 1 (x :: y :: x :: y :: st))
  | _ => False)
theorem cm_dup2_ok : cm_Snd cm_dup2 := by
  intro p l e R s m args below meth c cc Q D A adr ce sl E P t S i n cs X h1 hd hw h2 ws H locs ls hR
  obtain ⟨hx, hb, hml, hown, hts, hK, hA, hN, hcC, hcS, hf, hlc, hscr⟩ := X
  obtain ⟨pc, L, st, M⟩ := S
  have h1 : some ((.dup2 : Instr), (1 : Nat), ([] : List Cond)) = some (i, n, cs) := h1
  cases h1
  unfold cm_dup2 at h2
  dsimp only at h2
  split at h2
  · exact lv_dup2_11 hx hb hd (by rw [cm_v_cat]; exact h2.1) (by rw [cm_v_cat]; exact h2.2.1) (h2.2.2 ws H locs ls hR)
  · exact h2.elim

def cm_iinc : cm_O := (ev_iinc.1, fun E P t S k => match cm_look S.2.1 t.1.toNat with
  | some (.int x) => t.1.toNat < P.2.2.2.2.1 ∧ k (S.1 + 3, cm_st1 S.2.1 t.1.toNat (.int (x + Int32.ofInt t.2.1)), S.2.2)
  | _ => False)
theorem cm_iinc_ok : cm_Snd cm_iinc := by
  intro p l e R s m args below meth c cc Q D A adr ce sl E P t S i n cs X h1 hd hw h2 ws H locs ls hR
  obtain ⟨hx, hb, hml, hown, hts, hK, hA, hN, hcC, hcS, hf, hlc, hscr⟩ := X
  obtain ⟨pc, L, st, M⟩ := S
  have h1 : some ((.iinc t.1.toNat t.2.1 : Instr), (3 : Nat), ([] : List Cond)) = some (i, n, cs) := h1
  cases h1
  unfold cm_iinc at h2
  dsimp only at h2
  split at h2
  · rename_i x ha
    obtain ⟨hP, hD, hS, hW, hL⟩ := hR
    obtain ⟨q, hq⟩ := List.getElem?_of_mem (List.mem_map.mpr ⟨_, cm_look_mem ha, rfl⟩ : (t.1.toNat, cm_v adr (.int x)) ∈ L.map (fun q => (q.1, cm_v adr q.2)))
    exact lv_iinc hx hb hd hL hq rfl h2.1 (cm_st1_eq adr L t.1.toNat (.int (x + Int32.ofInt t.2.1))) (fun ls' hl' => h2.2 ws H locs ls' ⟨hP, hD, hS, hW, hl'⟩)
  · exact h2.elim

def cm_icmp_eq : cm_O := (ev_icmp_eq.1, fun E P t S k => match S.2.2.1 with
  | .int y :: .int x :: st => 0 ≤ (S.1 : Int) + t.1 ∧ (ev_cmp 0 x y = true → k (((S.1 : Int) + t.1).toNat, S.2.1, st, S.2.2.2)) ∧ (ev_cmp 0 x y = false → k (S.1 + 3, S.2.1, st, S.2.2.2))
  | _ => False)
theorem cm_icmp_eq_ok : cm_Snd cm_icmp_eq := by
  intro p l e R s m args below meth c cc Q D A adr ce sl E P t S i n cs X h1 hd hw h2 ws H locs ls hR
  obtain ⟨hx, hb, hml, hown, hts, hK, hA, hN, hcC, hcS, hf, hlc, hscr⟩ := X
  obtain ⟨pc, L, st, M⟩ := S
  have h1 : some ((.if_icmp .eq t.1 : Instr), (3 : Nat), ([] : List Cond)) = some (i, n, cs) := h1
  cases h1
  unfold cm_icmp_eq at h2
  dsimp only at h2
  split at h2
  · obtain ⟨h0, k1, k2⟩ := h2
    exact lv_icmp_eq (tgt := ((pc : Int) + t.1).toNat) hx hb hd (by omega) (fun q => k1 (by simpa [ev_cmp] using q) ws H locs ls hR) (fun q => k2 (by simpa [ev_cmp] using q) ws H locs ls hR)
  · exact h2.elim

def cm_if_eq : cm_O := (ev_if_eq.1, fun E P t S k => match S.2.2.1 with
  | .int x :: st => 0 ≤ (S.1 : Int) + t.1 ∧ (ev_cmp 0 x 0 = true → k (((S.1 : Int) + t.1).toNat, S.2.1, st, S.2.2.2)) ∧ (ev_cmp 0 x 0 = false → k (S.1 + 3, S.2.1, st, S.2.2.2))
  | _ => False)
theorem cm_if_eq_ok : cm_Snd cm_if_eq := by
  intro p l e R s m args below meth c cc Q D A adr ce sl E P t S i n cs X h1 hd hw h2 ws H locs ls hR
  obtain ⟨hx, hb, hml, hown, hts, hK, hA, hN, hcC, hcS, hf, hlc, hscr⟩ := X
  obtain ⟨pc, L, st, M⟩ := S
  have h1 : some ((.ifCond .eq t.1 : Instr), (3 : Nat), ([] : List Cond)) = some (i, n, cs) := h1
  cases h1
  unfold cm_if_eq at h2
  dsimp only at h2
  split at h2
  · obtain ⟨h0, k1, k2⟩ := h2
    exact lv_if_eq (tgt := ((pc : Int) + t.1).toNat) hx hb hd (by omega) (fun q => k1 (by simpa [ev_cmp] using q) ws H locs ls hR) (fun q => k2 (by simpa [ev_cmp] using q) ws H locs ls hR)
  · exact h2.elim

def cm_icmp_ne : cm_O := (ev_icmp_ne.1, fun E P t S k => match S.2.2.1 with
  | .int y :: .int x :: st => 0 ≤ (S.1 : Int) + t.1 ∧ (ev_cmp 1 x y = true → k (((S.1 : Int) + t.1).toNat, S.2.1, st, S.2.2.2)) ∧ (ev_cmp 1 x y = false → k (S.1 + 3, S.2.1, st, S.2.2.2))
  | _ => False)
theorem cm_icmp_ne_ok : cm_Snd cm_icmp_ne := by
  intro p l e R s m args below meth c cc Q D A adr ce sl E P t S i n cs X h1 hd hw h2 ws H locs ls hR
  obtain ⟨hx, hb, hml, hown, hts, hK, hA, hN, hcC, hcS, hf, hlc, hscr⟩ := X
  obtain ⟨pc, L, st, M⟩ := S
  have h1 : some ((.if_icmp .ne t.1 : Instr), (3 : Nat), ([] : List Cond)) = some (i, n, cs) := h1
  cases h1
  unfold cm_icmp_ne at h2
  dsimp only at h2
  split at h2
  · obtain ⟨h0, k1, k2⟩ := h2
    exact lv_icmp_ne (tgt := ((pc : Int) + t.1).toNat) hx hb hd (by omega) (fun q => k1 (by simpa [ev_cmp] using q) ws H locs ls hR) (fun q => k2 (by simpa [ev_cmp] using q) ws H locs ls hR)
  · exact h2.elim

def cm_if_ne : cm_O := (ev_if_ne.1, fun E P t S k => match S.2.2.1 with
  | .int x :: st => 0 ≤ (S.1 : Int) + t.1 ∧ (ev_cmp 1 x 0 = true → k (((S.1 : Int) + t.1).toNat, S.2.1, st, S.2.2.2)) ∧ (ev_cmp 1 x 0 = false → k (S.1 + 3, S.2.1, st, S.2.2.2))
  | _ => False)
theorem cm_if_ne_ok : cm_Snd cm_if_ne := by
  intro p l e R s m args below meth c cc Q D A adr ce sl E P t S i n cs X h1 hd hw h2 ws H locs ls hR
  obtain ⟨hx, hb, hml, hown, hts, hK, hA, hN, hcC, hcS, hf, hlc, hscr⟩ := X
  obtain ⟨pc, L, st, M⟩ := S
  have h1 : some ((.ifCond .ne t.1 : Instr), (3 : Nat), ([] : List Cond)) = some (i, n, cs) := h1
  cases h1
  unfold cm_if_ne at h2
  dsimp only at h2
  split at h2
  · obtain ⟨h0, k1, k2⟩ := h2
    exact lv_if_ne (tgt := ((pc : Int) + t.1).toNat) hx hb hd (by omega) (fun q => k1 (by simpa [ev_cmp] using q) ws H locs ls hR) (fun q => k2 (by simpa [ev_cmp] using q) ws H locs ls hR)
  · exact h2.elim

def cm_icmp_lt : cm_O := (ev_icmp_lt.1, fun E P t S k => match S.2.2.1 with
  | .int y :: .int x :: st => 0 ≤ (S.1 : Int) + t.1 ∧ (ev_cmp 2 x y = true → k (((S.1 : Int) + t.1).toNat, S.2.1, st, S.2.2.2)) ∧ (ev_cmp 2 x y = false → k (S.1 + 3, S.2.1, st, S.2.2.2))
  | _ => False)
theorem cm_icmp_lt_ok : cm_Snd cm_icmp_lt := by
  intro p l e R s m args below meth c cc Q D A adr ce sl E P t S i n cs X h1 hd hw h2 ws H locs ls hR
  obtain ⟨hx, hb, hml, hown, hts, hK, hA, hN, hcC, hcS, hf, hlc, hscr⟩ := X
  obtain ⟨pc, L, st, M⟩ := S
  have h1 : some ((.if_icmp .lt t.1 : Instr), (3 : Nat), ([] : List Cond)) = some (i, n, cs) := h1
  cases h1
  unfold cm_icmp_lt at h2
  dsimp only at h2
  split at h2
  · obtain ⟨h0, k1, k2⟩ := h2
    exact lv_icmp_lt (tgt := ((pc : Int) + t.1).toNat) hx hb hd (by omega) (fun q => k1 (by simpa [ev_cmp] using q) ws H locs ls hR) (fun q => k2 (by simpa [ev_cmp] using q) ws H locs ls hR)
  · exact h2.elim

def cm_if_lt : cm_O := (ev_if_lt.1, fun E P t S k => match S.2.2.1 with
  | .int x :: st => 0 ≤ (S.1 : Int) + t.1 ∧ (ev_cmp 2 x 0 = true → k (((S.1 : Int) + t.1).toNat, S.2.1, st, S.2.2.2)) ∧ (ev_cmp 2 x 0 = false → k (S.1 + 3, S.2.1, st, S.2.2.2))
  | _ => False)
theorem cm_if_lt_ok : cm_Snd cm_if_lt := by
  intro p l e R s m args below meth c cc Q D A adr ce sl E P t S i n cs X h1 hd hw h2 ws H locs ls hR
  obtain ⟨hx, hb, hml, hown, hts, hK, hA, hN, hcC, hcS, hf, hlc, hscr⟩ := X
  obtain ⟨pc, L, st, M⟩ := S
  have h1 : some ((.ifCond .lt t.1 : Instr), (3 : Nat), ([] : List Cond)) = some (i, n, cs) := h1
  cases h1
  unfold cm_if_lt at h2
  dsimp only at h2
  split at h2
  · obtain ⟨h0, k1, k2⟩ := h2
    exact lv_if_lt (tgt := ((pc : Int) + t.1).toNat) hx hb hd (by omega) (fun q => k1 (by simpa [ev_cmp] using q) ws H locs ls hR) (fun q => k2 (by simpa [ev_cmp] using q) ws H locs ls hR)
  · exact h2.elim

def cm_icmp_ge : cm_O := (ev_icmp_ge.1, fun E P t S k => match S.2.2.1 with
  | .int y :: .int x :: st => 0 ≤ (S.1 : Int) + t.1 ∧ (ev_cmp 3 x y = true → k (((S.1 : Int) + t.1).toNat, S.2.1, st, S.2.2.2)) ∧ (ev_cmp 3 x y = false → k (S.1 + 3, S.2.1, st, S.2.2.2))
  | _ => False)
theorem cm_icmp_ge_ok : cm_Snd cm_icmp_ge := by
  intro p l e R s m args below meth c cc Q D A adr ce sl E P t S i n cs X h1 hd hw h2 ws H locs ls hR
  obtain ⟨hx, hb, hml, hown, hts, hK, hA, hN, hcC, hcS, hf, hlc, hscr⟩ := X
  obtain ⟨pc, L, st, M⟩ := S
  have h1 : some ((.if_icmp .ge t.1 : Instr), (3 : Nat), ([] : List Cond)) = some (i, n, cs) := h1
  cases h1
  unfold cm_icmp_ge at h2
  dsimp only at h2
  split at h2
  · obtain ⟨h0, k1, k2⟩ := h2
    exact lv_icmp_ge (tgt := ((pc : Int) + t.1).toNat) hx hb hd (by omega) (fun q => k1 (by simpa [ev_cmp] using q) ws H locs ls hR) (fun q => k2 (by simpa [ev_cmp] using q) ws H locs ls hR)
  · exact h2.elim

def cm_if_ge : cm_O := (ev_if_ge.1, fun E P t S k => match S.2.2.1 with
  | .int x :: st => 0 ≤ (S.1 : Int) + t.1 ∧ (ev_cmp 3 x 0 = true → k (((S.1 : Int) + t.1).toNat, S.2.1, st, S.2.2.2)) ∧ (ev_cmp 3 x 0 = false → k (S.1 + 3, S.2.1, st, S.2.2.2))
  | _ => False)
theorem cm_if_ge_ok : cm_Snd cm_if_ge := by
  intro p l e R s m args below meth c cc Q D A adr ce sl E P t S i n cs X h1 hd hw h2 ws H locs ls hR
  obtain ⟨hx, hb, hml, hown, hts, hK, hA, hN, hcC, hcS, hf, hlc, hscr⟩ := X
  obtain ⟨pc, L, st, M⟩ := S
  have h1 : some ((.ifCond .ge t.1 : Instr), (3 : Nat), ([] : List Cond)) = some (i, n, cs) := h1
  cases h1
  unfold cm_if_ge at h2
  dsimp only at h2
  split at h2
  · obtain ⟨h0, k1, k2⟩ := h2
    exact lv_if_ge (tgt := ((pc : Int) + t.1).toNat) hx hb hd (by omega) (fun q => k1 (by simpa [ev_cmp] using q) ws H locs ls hR) (fun q => k2 (by simpa [ev_cmp] using q) ws H locs ls hR)
  · exact h2.elim

def cm_icmp_gt : cm_O := (ev_icmp_gt.1, fun E P t S k => match S.2.2.1 with
  | .int y :: .int x :: st => 0 ≤ (S.1 : Int) + t.1 ∧ (ev_cmp 4 x y = true → k (((S.1 : Int) + t.1).toNat, S.2.1, st, S.2.2.2)) ∧ (ev_cmp 4 x y = false → k (S.1 + 3, S.2.1, st, S.2.2.2))
  | _ => False)
theorem cm_icmp_gt_ok : cm_Snd cm_icmp_gt := by
  intro p l e R s m args below meth c cc Q D A adr ce sl E P t S i n cs X h1 hd hw h2 ws H locs ls hR
  obtain ⟨hx, hb, hml, hown, hts, hK, hA, hN, hcC, hcS, hf, hlc, hscr⟩ := X
  obtain ⟨pc, L, st, M⟩ := S
  have h1 : some ((.if_icmp .gt t.1 : Instr), (3 : Nat), ([] : List Cond)) = some (i, n, cs) := h1
  cases h1
  unfold cm_icmp_gt at h2
  dsimp only at h2
  split at h2
  · obtain ⟨h0, k1, k2⟩ := h2
    exact lv_icmp_gt (tgt := ((pc : Int) + t.1).toNat) hx hb hd (by omega) (fun q => k1 (by simpa [ev_cmp] using q) ws H locs ls hR) (fun q => k2 (by simpa [ev_cmp] using q) ws H locs ls hR)
  · exact h2.elim

def cm_if_gt : cm_O := (ev_if_gt.1, fun E P t S k => match S.2.2.1 with
  | .int x :: st => 0 ≤ (S.1 : Int) + t.1 ∧ (ev_cmp 4 x 0 = true → k (((S.1 : Int) + t.1).toNat, S.2.1, st, S.2.2.2)) ∧ (ev_cmp 4 x 0 = false → k (S.1 + 3, S.2.1, st, S.2.2.2))
  | _ => False)
theorem cm_if_gt_ok : cm_Snd cm_if_gt := by
  intro p l e R s m args below meth c cc Q D A adr ce sl E P t S i n cs X h1 hd hw h2 ws H locs ls hR
  obtain ⟨hx, hb, hml, hown, hts, hK, hA, hN, hcC, hcS, hf, hlc, hscr⟩ := X
  obtain ⟨pc, L, st, M⟩ := S
  have h1 : some ((.ifCond .gt t.1 : Instr), (3 : Nat), ([] : List Cond)) = some (i, n, cs) := h1
  cases h1
  unfold cm_if_gt at h2
  dsimp only at h2
  split at h2
  · obtain ⟨h0, k1, k2⟩ := h2
    exact lv_if_gt (tgt := ((pc : Int) + t.1).toNat) hx hb hd (by omega) (fun q => k1 (by simpa [ev_cmp] using q) ws H locs ls hR) (fun q => k2 (by simpa [ev_cmp] using q) ws H locs ls hR)
  · exact h2.elim

def cm_icmp_le : cm_O := (ev_icmp_le.1, fun E P t S k => match S.2.2.1 with
  | .int y :: .int x :: st => 0 ≤ (S.1 : Int) + t.1 ∧ (ev_cmp 5 x y = true → k (((S.1 : Int) + t.1).toNat, S.2.1, st, S.2.2.2)) ∧ (ev_cmp 5 x y = false → k (S.1 + 3, S.2.1, st, S.2.2.2))
  | _ => False)
theorem cm_icmp_le_ok : cm_Snd cm_icmp_le := by
  intro p l e R s m args below meth c cc Q D A adr ce sl E P t S i n cs X h1 hd hw h2 ws H locs ls hR
  obtain ⟨hx, hb, hml, hown, hts, hK, hA, hN, hcC, hcS, hf, hlc, hscr⟩ := X
  obtain ⟨pc, L, st, M⟩ := S
  have h1 : some ((.if_icmp .le t.1 : Instr), (3 : Nat), ([] : List Cond)) = some (i, n, cs) := h1
  cases h1
  unfold cm_icmp_le at h2
  dsimp only at h2
  split at h2
  · obtain ⟨h0, k1, k2⟩ := h2
    exact lv_icmp_le (tgt := ((pc : Int) + t.1).toNat) hx hb hd (by omega) (fun q => k1 (by simpa [ev_cmp] using q) ws H locs ls hR) (fun q => k2 (by simpa [ev_cmp] using q) ws H locs ls hR)
  · exact h2.elim

def cm_if_le : cm_O := (ev_if_le.1, fun E P t S k => match S.2.2.1 with
  | .int x :: st => 0 ≤ (S.1 : Int) + t.1 ∧ (ev_cmp 5 x 0 = true → k (((S.1 : Int) + t.1).toNat, S.2.1, st, S.2.2.2)) ∧ (ev_cmp 5 x 0 = false → k (S.1 + 3, S.2.1, st, S.2.2.2))
  | _ => False)
theorem cm_if_le_ok : cm_Snd cm_if_le := by
  intro p l e R s m args below meth c cc Q D A adr ce sl E P t S i n cs X h1 hd hw h2 ws H locs ls hR
  obtain ⟨hx, hb, hml, hown, hts, hK, hA, hN, hcC, hcS, hf, hlc, hscr⟩ := X
  obtain ⟨pc, L, st, M⟩ := S
  have h1 : some ((.ifCond .le t.1 : Instr), (3 : Nat), ([] : List Cond)) = some (i, n, cs) := h1
  cases h1
  unfold cm_if_le at h2
  dsimp only at h2
  split at h2
  · obtain ⟨h0, k1, k2⟩ := h2
    exact lv_if_le (tgt := ((pc : Int) + t.1).toNat) hx hb hd (by omega) (fun q => k1 (by simpa [ev_cmp] using q) ws H locs ls hR) (fun q => k2 (by simpa [ev_cmp] using q) ws H locs ls hR)
  · exact h2.elim

def cm_goto : cm_O := (ev_goto.1, fun E P t S k => 0 ≤ (S.1 : Int) + t.1 ∧ k (((S.1 : Int) + t.1).toNat, S.2))
theorem cm_goto_ok : cm_Snd cm_goto := by
  intro p l e R s m args below meth c cc Q D A adr ce sl E P t S i n cs X h1 hd hw h2 ws H locs ls hR
  obtain ⟨hx, hb, hml, hown, hts, hK, hA, hN, hcC, hcS, hf, hlc, hscr⟩ := X
  obtain ⟨pc, L, st, M⟩ := S
  have h1 : some ((.goto t.1 : Instr), (3 : Nat), ([] : List Cond)) = some (i, n, cs) := h1
  cases h1
  unfold cm_goto at h2
  dsimp only at h2
  exact lv_goto (tgt := ((pc : Int) + t.1).toNat) hx hb hd (by omega) (h2.2 ws H locs ls hR)

def cm_sw : cm_O := (ev_sw.1, fun E P t S k => match t.2.2.2, S.2.2.1 with
  | _ :: offs, .int x :: st => t.2.2.1 - t.2.1 + 1 = (offs.length : Int) ∧ 0 ≤ (S.1 : Int) + t.1 ∧ offs.all (fun o => decide (0 ≤ (S.1 : Int) + o)) = true ∧ (x.toInt < t.2.1 ∨ t.2.2.1 < x.toInt → k (((S.1 : Int) + t.1).toNat, S.2.1, st, S.2.2.2)) ∧ (∀ (j : Nat) (o : Int), offs[j]? = some o → x.toInt = t.2.1 + (j : Int) → k (((S.1 : Int) + o).toNat, S.2.1, st, S.2.2.2))
  | _, _ => False)
theorem cm_sw_ok : cm_Snd cm_sw := by
  intro p l e R s m args below meth c cc Q D A adr ce sl E P t S i n cs X h1 hd hw h2 ws H locs ls hR
  obtain ⟨hx, hb, hml, hown, hts, hK, hA, hN, hcC, hcS, hf, hlc, hscr⟩ := X
  obtain ⟨pc, L, st, M⟩ := S
  obtain ⟨dflt, lo, hi, offs0⟩ := t
  cases offs0 with
  | nil => cases h1
  | cons len offs =>
    have h1 : some ((.tableswitch dflt lo hi offs.toArray : Instr), len.toNat, ([] : List Cond)) = some (i, n, cs) := h1
    cases h1
    cases st with
    | nil => exact h2.elim
    | cons v st' =>
      cases v with
      | int x =>
        obtain ⟨hlen, hd0, hall, k1, k2⟩ := h2
        dsimp only at hlen hd0 hall k1 k2
        by_cases hq : x.toInt < lo ∨ hi < x.toInt
        · exact lv_tableOut (tgt := ((pc : Int) + dflt).toNat) hx hb hd hq (by omega) (k1 hq ws H locs ls hR)
        · have q1 : ¬ x.toInt < lo := fun z => hq (Or.inl z)
          have q2 : ¬ hi < x.toInt := fun z => hq (Or.inr z)
          have hj : (x.toInt - lo).toNat < offs.length := by omega
          have ho := List.getElem?_eq_getElem hj
          have h0 := List.all_eq_true.mp hall _ (List.getElem_mem hj)
          simp only [decide_eq_true_eq] at h0
          exact lv_tableIn (off := offs[(x.toInt - lo).toNat]) hx hb hd q1 q2 (by rw [List.getElem?_toArray]; exact ho) (tgt := ((pc : Int) + offs[(x.toInt - lo).toNat]).toNat) (by omega) (k2 _ _ ho (by omega) ws H locs ls hR)
      | _ => exact h2.elim

