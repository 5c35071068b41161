/-! CM: constants, texts, statics -/
def cm_ldc : cm_O := (ev_ldc.1, fun E P t S k => k (cm_adv S 2 (.int (Int32.ofInt t.1) :: S.2.2.1)))
theorem cm_ldc_ok : cm_Snd cm_ldc := by
  intro p l e R s m args below meth c cc Q D A adr ce sl E P t S i n cs X h1 hd hw h2 ws H locs ls hR
  obtain ⟨hx, hb, hml, hown, hts, hK, hA, hN, hcC, hcS, hf, hlc, hscr⟩ := X
  obtain ⟨pc, L, st, M⟩ := S
  have h1 : some ((.ldc t.2.1.toNat : Instr), (2 : Nat), ([.constant P.2.2.2.1 t.2.1.toNat (Int32.ofInt t.1)] : List Cond)) = some (i, n, cs) := h1
  cases h1
  exact W.ldc hx hb hown (hts _ (hw _ (List.mem_singleton.mpr rfl))) (g := F0 m pc ls (st.map (cm_v adr))) rfl hd (h2 ws H locs ls hR)

def cm_ldcw : cm_O := (ev_ldcw.1, fun E P t S k => k (cm_adv S 3 (.int (Int32.ofInt t.1) :: S.2.2.1)))
theorem cm_ldcw_ok : cm_Snd cm_ldcw := by
  intro p l e R s m args below meth c cc Q D A adr ce sl E P t S i n cs X h1 hd hw h2 ws H locs ls hR
  obtain ⟨hx, hb, hml, hown, hts, hK, hA, hN, hcC, hcS, hf, hlc, hscr⟩ := X
  obtain ⟨pc, L, st, M⟩ := S
  have h1 : some ((.ldc_w t.2.1.toNat : Instr), (3 : Nat), ([.constant P.2.2.2.1 t.2.1.toNat (Int32.ofInt t.1)] : List Cond)) = some (i, n, cs) := h1
  cases h1
  exact lv_ldcw hx hb hown (hts _ (hw _ (List.mem_singleton.mpr rfl))) hd (h2 ws H locs ls hR)

def cm_ldc2 : cm_O := (ev_ldc2.1, fun E P t S k => k (cm_adv S 3 (.long (Int64.ofInt t.1) :: S.2.2.1)))
theorem cm_ldc2_ok : cm_Snd cm_ldc2 := by
  intro p l e R s m args below meth c cc Q D A adr ce sl E P t S i n cs X h1 hd hw h2 ws H locs ls hR
  obtain ⟨hx, hb, hml, hown, hts, hK, hA, hN, hcC, hcS, hf, hlc, hscr⟩ := X
  obtain ⟨pc, L, st, M⟩ := S
  have h1 : some ((.ldc2_w t.2.1.toNat : Instr), (3 : Nat), ([.constantLong P.2.2.2.1 t.2.1.toNat (Int64.ofInt t.1)] : List Cond)) = some (i, n, cs) := h1
  cases h1
  exact W.ldc2 hx hb hown (hts _ (hw _ (List.mem_singleton.mpr rfl))) (g := F0 m pc ls (st.map (cm_v adr))) rfl hd (h2 ws H locs ls hR)

def cm_ldcS : cm_O := (ev_ldcS.1, fun E P t S k => k (cm_adv S 2 (.ref (1001 + 2 * t.1.toNat) :: S.2.2.1)))
theorem cm_ldcS_ok : cm_Snd cm_ldcS := by
  intro p l e R s m args below meth c cc Q D A adr ce sl E P t S i n cs X h1 hd hw h2 ws H locs ls hR
  obtain ⟨hx, hb, hml, hown, hts, hK, hA, hN, hcC, hcS, hf, hlc, hscr⟩ := X
  obtain ⟨pc, L, st, M⟩ := S
  unfold cm_ldcS ev_ldcS at h1
  dsimp only at h1
  split at h1
  · rename_i r hr
    split at h1
    · rename_i ho
      cases h1
      have hz := hN.1.2.1 _ r hr
      rw [ho] at hz
      have e : 1000 + (1 + 2 * t.1.toNat) = 1001 + 2 * t.1.toNat := by omega
      dsimp only at hz
      rw [e] at hz
      exact va_ldcS hx hb hown hz hd (h2 ws H locs ls hR)
    · cases h1
  · cases h1

theorem cm_str {adr : Nat → Nat} {A : Nat → Prop} {s : State} {c : Nat} (hN : cm_N adr A s s.heap) (h1 : 1001 ≤ c) (h2 : c < 1081) : ∃ r, ev_strs[(c - 1001) / 2]? = some r ∧ (c % 2 = 1 → va_OF "java/lang/String" "coder" "B" (.int 0) (adr c) A s s.heap ∧ va_OF "java/lang/String" "value" "[B" (.ref (adr (c + 1))) (adr c) A s s.heap ∧ va_O "java/lang/String" (adr c) A s s.heap) ∧ (c % 2 = 0 → va_T .byte (adr c) r.2.2.2.length (fun j => .int (r.2.2.2.getD j 0)) A s s.heap) := by
  have hl : (c - 1001) / 2 < ev_strs.length := by
    have : ev_strs.length = 40 := rfl
    omega
  refine ⟨_, List.getElem?_eq_getElem hl, fun h => ?_, fun h => ?_⟩
  · obtain ⟨a1, a2, a3, a4⟩ := hN.1.2.2.1 _ _ (List.getElem?_eq_getElem hl)
    dsimp only at a1 a2 a3
    rw [show 1000 + (1 + 2 * ((c - 1001) / 2)) = c by omega] at a1 a2 a3
    rw [show 1000 + (2 + 2 * ((c - 1001) / 2)) = c + 1 by omega] at a3
    exact ⟨a2, a3, a1⟩
  · obtain ⟨a1, a2, a3, a4⟩ := hN.1.2.2.1 _ _ (List.getElem?_eq_getElem hl)
    dsimp only at a4
    rw [show 1000 + (2 + 2 * ((c - 1001) / 2)) = c by omega] at a4
    exact a4
def cm_getV : cm_O := (ev_getV.1, fun E P t S k => match S.2.2.1 with
  | .ref c :: st => 1001 ≤ c ∧ c < 1081 ∧ c % 2 = 1 ∧ k (cm_adv S 3 (.ref (c + 1) :: st))
  | _ => False)
theorem cm_getV_ok : cm_Snd cm_getV := by
  intro p l e R s m args below meth c cc Q D A adr ce sl E P t S i n cs X h1 hd hw h2 ws H locs ls hR
  obtain ⟨hx, hb, hml, hown, hts, hK, hA, hN, hcC, hcS, hf, hlc, hscr⟩ := X
  obtain ⟨pc, L, st, M⟩ := S
  have h1 : some ((.getfield t.1.toNat : Instr), (3 : Nat), ([.fieldLink P.2.2.2.1 t.1.toNat "java/lang/String" "value" "[B"] : List Cond)) = some (i, n, cs) := h1
  cases h1
  unfold cm_getV at h2
  dsimp only at h2
  split at h2
  rotate_left
  · exact h2.elim
  rename_i c st'
  obtain ⟨q1, q2, q3, hk⟩ := h2
  obtain ⟨r, -, a1, -⟩ := cm_str hN q1 q2
  exact vk_getf hx hb (a1 q3).2.1 hR.2.2.1 hown (hts _ (hw _ (List.mem_singleton.mpr rfl))) (fun _ h => h) hd (hk ws H locs ls hR)

def cm_getC : cm_O := (ev_getC.1, fun E P t S k => match S.2.2.1 with
  | .ref c :: st => 1001 ≤ c ∧ c < 1081 ∧ c % 2 = 1 ∧ k (cm_adv S 3 (.int 0 :: st))
  | _ => False)
theorem cm_getC_ok : cm_Snd cm_getC := by
  intro p l e R s m args below meth c cc Q D A adr ce sl E P t S i n cs X h1 hd hw h2 ws H locs ls hR
  obtain ⟨hx, hb, hml, hown, hts, hK, hA, hN, hcC, hcS, hf, hlc, hscr⟩ := X
  obtain ⟨pc, L, st, M⟩ := S
  have h1 : some ((.getfield t.1.toNat : Instr), (3 : Nat), ([.fieldLink P.2.2.2.1 t.1.toNat "java/lang/String" "coder" "B"] : List Cond)) = some (i, n, cs) := h1
  cases h1
  unfold cm_getC at h2
  dsimp only at h2
  split at h2
  rotate_left
  · exact h2.elim
  rename_i c st'
  obtain ⟨q1, q2, q3, hk⟩ := h2
  obtain ⟨r, -, a1, -⟩ := cm_str hN q1 q2
  exact vk_getf hx hb (a1 q3).1 hR.2.2.1 hown (hts _ (hw _ (List.mem_singleton.mpr rfl))) (fun _ h => h) hd (hk ws H locs ls hR)

def cm_gets : cm_O := (ev_gets.1, fun E P t S k => k (cm_adv S 3 (.int 1 :: S.2.2.1)))
theorem cm_gets_ok : cm_Snd cm_gets := by
  intro p l e R s m args below meth c cc Q D A adr ce sl E P t S i n cs X h1 hd hw h2 ws H locs ls hR
  obtain ⟨hx, hb, hml, hown, hts, hK, hA, hN, hcC, hcS, hf, hlc, hscr⟩ := X
  obtain ⟨pc, L, st, M⟩ := S
  have h1 : some ((.getstatic t.1.toNat : Instr), (3 : Nat), ([.fieldLink P.2.2.2.1 t.1.toNat "java/lang/String" "COMPACT_STRINGS" "Z"] : List Cond)) = some (i, n, cs) := h1
  cases h1
  exact va_gets hx hb hN.1.2.2.2.1 hR.2.2.1 hown (hts _ (hw _ (List.mem_singleton.mpr rfl))) (fun _ h => h) hd (h2 ws H locs ls hR)

def cm_getsF : cm_O := (ev_getsF.1, fun E P t S k => k (cm_adv S 3 (.null :: S.2.2.1)) ∧ k (cm_adv S 3 (.ref 1101 :: S.2.2.1)))
theorem cm_getsF_ok : cm_Snd cm_getsF := by
  intro p l e R s m args below meth c cc Q D A adr ce sl E P t S i n cs X h1 hd hw h2 ws H locs ls hR
  obtain ⟨hx, hb, hml, hown, hts, hK, hA, hN, hcC, hcS, hf, hlc, hscr⟩ := X
  obtain ⟨pc, L, st, M⟩ := S
  have h1 : some ((.getstatic t.1.toNat : Instr), (3 : Nat), ([.fieldLink P.2.2.2.1 t.1.toNat "jdk/internal/util/Preconditions" "SIOOBE_FORMATTER" "Ljava/util/function/BiFunction;"] : List Cond)) = some (i, n, cs) := h1
  cases h1
  rcases hN.2.2.2 with hz | hz
  · exact va_gets hx hb hz hR.2.2.1 hown (hts _ (hw _ (List.mem_singleton.mpr rfl))) (fun _ h => h) hd (h2.1 ws H locs ls hR)
  · exact va_gets hx hb hz hR.2.2.1 hown (hts _ (hw _ (List.mem_singleton.mpr rfl))) (fun _ h => h) hd (h2.2 ws H locs ls hR)

def cm_alenS : cm_O := (ev_alenS.1, fun E P t S k => match S.2.2.1 with
  | .ref c :: st => (match ev_strs[(c - 1001) / 2]? with
    | some r => 1001 ≤ c ∧ c < 1081 ∧ c % 2 = 0 ∧ k (cm_adv S 1 (.int (Int32.ofNat r.2.2.2.length) :: st))
    | none => False)
  | _ => False)
theorem cm_alenS_ok : cm_Snd cm_alenS := by
  intro p l e R s m args below meth c cc Q D A adr ce sl E P t S i n cs X h1 hd hw h2 ws H locs ls hR
  obtain ⟨hx, hb, hml, hown, hts, hK, hA, hN, hcC, hcS, hf, hlc, hscr⟩ := X
  obtain ⟨pc, L, st, M⟩ := S
  have h1 : some ((.arraylength : Instr), (1 : Nat), ([] : List Cond)) = some (i, n, cs) := h1
  cases h1
  unfold cm_alenS at h2
  dsimp only at h2
  split at h2
  rotate_left
  · exact h2.elim
  rename_i c st'
  split at h2
  · rename_i r hr
    obtain ⟨q1, q2, q3, hk⟩ := h2
    obtain ⟨r', hr', -, a1⟩ := cm_str hN q1 q2
    rw [hr] at hr'
    cases hr'
    exact va_tlen hx hb (a1 q3) hR.2.2.1 rfl hd (hk ws H locs ls hR)
  · exact h2.elim

def cm_baloadS : cm_O := (ev_baloadS.1, fun E P t S k => match S.2.2.1 with
  | .int i :: .ref c :: st => (match ev_strs[(c - 1001) / 2]? with
    | some r => 1001 ≤ c ∧ c < 1081 ∧ c % 2 = 0 ∧ 0 ≤ i.toInt ∧ i.toInt < (r.2.2.2.length : Int) ∧ k (cm_adv S 1 (.int (r.2.2.2.getD i.toNatClampNeg 0) :: st))
    | none => False)
  | _ => False)
theorem cm_baloadS_ok : cm_Snd cm_baloadS := by
  intro p l e R s m args below meth c cc Q D A adr ce sl E P t S i n cs X h1 hd hw h2 ws H locs ls hR
  obtain ⟨hx, hb, hml, hown, hts, hK, hA, hN, hcC, hcS, hf, hlc, hscr⟩ := X
  obtain ⟨pc, L, st, M⟩ := S
  have h1 : some ((.baload : Instr), (1 : Nat), ([] : List Cond)) = some (i, n, cs) := h1
  cases h1
  unfold cm_baloadS at h2
  dsimp only at h2
  split at h2
  rotate_left
  · exact h2.elim
  rename_i i c st'
  split at h2
  · rename_i r hr
    obtain ⟨q1, q2, q3, q4, q5, hk⟩ := h2
    obtain ⟨r', hr', -, a1⟩ := cm_str hN q1 q2
    rw [hr] at hr'
    cases hr'
    exact va_tb hx hb (a1 q3) hR.2.2.1 (by rw [vp_in_iff]; exact ⟨q4, q5⟩) rfl hd (hk ws H locs ls hR)
  · exact h2.elim

set_option maxRecDepth 1000000 in
theorem cm_tl : Cond.fieldLinkNest "BarberMinutes$Agenda" 18 "BarberMinutes" "TENS" "[I" "BarberMinutes" ∈ lw_nest := List.mem_filter.mpr ⟨List.mem_of_getElem? (i := 899) (by decide +kernel), rfl⟩
def cm_getT : cm_O := ((fun P _ => if P.2.2.2.1 = "BarberMinutes$Agenda" then some (.getstatic 18, 3, []) else none), fun E P t S k => k (cm_adv S 3 (.ref 1100 :: S.2.2.1)))
theorem cm_getT_ok : cm_Snd cm_getT := by
  intro p l e R s m args below meth c cc Q D A adr ce sl E P t S i n cs X h1 hd hw h2 ws H locs ls hR
  obtain ⟨hx, hb, hml, hown, hts, hK, hA, hN, hcC, hcS, hf, hlc, hscr⟩ := X
  obtain ⟨pc, L, st, M⟩ := S
  have h1 : (if P.2.2.2.1 = "BarberMinutes$Agenda" then some ((.getstatic 18 : Instr), (3 : Nat), ([] : List Cond)) else none) = some (i, n, cs) := h1
  split at h1
  · rename_i ho
    cases h1
    rw [ho] at hown
    exact va_getsN hx hb hN.2.1 hR.2.2.1 hown (va_Nw.use rfl (hN.1.1.1 _ cm_tl)) (fun _ h => h) hd (h2 ws H locs ls hR)
  · cases h1

def cm_tald : cm_O := ((fun _ _ => some (.iaload, 1, [])), fun E P t S k => match S.2.2.1 with
  | .int i :: .ref c :: st => c = 1100 ∧ 0 ≤ i.toInt ∧ i.toInt < 5 ∧ k (cm_adv S 1 (.int (cm_tens i.toNatClampNeg) :: st))
  | _ => False)
theorem cm_tald_ok : cm_Snd cm_tald := by
  intro p l e R s m args below meth c cc Q D A adr ce sl E P t S i n cs X h1 hd hw h2 ws H locs ls hR
  obtain ⟨hx, hb, hml, hown, hts, hK, hA, hN, hcC, hcS, hf, hlc, hscr⟩ := X
  obtain ⟨pc, L, st, M⟩ := S
  have h1 : some ((.iaload : Instr), (1 : Nat), ([] : List Cond)) = some (i, n, cs) := h1
  cases h1
  unfold cm_tald at h2
  dsimp only at h2
  split at h2
  rotate_left
  · exact h2.elim
  rename_i i c st'
  obtain ⟨rfl, q4, q5, hk⟩ := h2
  exact va_ti hx hb hN.2.2.1 hR.2.2.1 (by rw [vp_in_iff]; exact ⟨q4, q5⟩) rfl hd (hk ws H locs ls hR)

def cm_alenT : cm_O := ((fun _ _ => some (.arraylength, 1, [])), fun E P t S k => match S.2.2.1 with
  | .ref c :: st => c = 1100 ∧ k (cm_adv S 1 (.int 5 :: st))
  | _ => False)
theorem cm_alenT_ok : cm_Snd cm_alenT := by
  intro p l e R s m args below meth c cc Q D A adr ce sl E P t S i n cs X h1 hd hw h2 ws H locs ls hR
  obtain ⟨hx, hb, hml, hown, hts, hK, hA, hN, hcC, hcS, hf, hlc, hscr⟩ := X
  obtain ⟨pc, L, st, M⟩ := S
  have h1 : some ((.arraylength : Instr), (1 : Nat), ([] : List Cond)) = some (i, n, cs) := h1
  cases h1
  unfold cm_alenT at h2
  dsimp only at h2
  split at h2
  rotate_left
  · exact h2.elim
  rename_i c st'
  obtain ⟨rfl, hk⟩ := h2
  exact va_tlen hx hb hN.2.2.1 hR.2.2.1 rfl hd (hk ws H locs ls hR)

/-! CM: methods of the library by one row -/
def cm_cs (st : List Value) : Nat := (st.map fun v => v.category).sum
def cm_mmin : cm_O := (ev_mmin.1, fun E P t S k => match S.2.2.1 with
  | .int y :: .int x :: st => cm_cs st ≤ 8 ∧ k (cm_adv S 3 (.int (if y < x then y else x) :: st))
  | _ => False)
theorem cm_mmin_ok : cm_Snd cm_mmin := by
  intro p l e R s m args below meth c cc Q D A adr ce sl E P t S i n cs X h1 hd hw h2 ws H locs ls hR
  obtain ⟨hx, hb, hml, hown, hts, hK, hA, hN, hcC, hcS, hf, hlc, hscr⟩ := X
  obtain ⟨pc, L, st, M⟩ := S
  have h1 : some ((.invokestatic t.1.toNat : Instr), (3 : Nat), ([.methodLink P.2.2.2.1 t.1.toNat Lib.Math.min.name, .static Lib.Math.min.name, .initialized "java/lang/Math", .code Lib.Math.min.name Lib.Math.min.code 2 (some .int)] : List Cond)) = some (i, n, cs) := h1
  cases h1
  unfold cm_mmin at h2
  dsimp only at h2
  split at h2
  rotate_left
  · exact h2.elim
  rename_i y x st'
  obtain ⟨q1, hk⟩ := h2
  have hsum : (((st'.map (cm_v adr)).map fun v => v.category).sum) ≤ 8 := by rw [cm_v_cats]; exact q1
  exact va_mmin hx hb (hml.trans hR.2.2.2.2.1.symm) hown (hts _ (hw _ (by simp))) (hts _ (hw _ (by simp))) (hts _ (hw _ (by simp))) (hts _ (hw _ (by simp))) hf (by omega) hcC hcS hd (hk ws H locs ls hR)

def cm_mmax : cm_O := ((fun P t => some (.invokestatic t.1.toNat, 3, [.methodLink P.2.2.2.1 t.1.toNat Lib.Math.max.name, .static Lib.Math.max.name, .initialized "java/lang/Math", .code Lib.Math.max.name Lib.Math.max.code 2 (some .int)])), fun E P t S k => match S.2.2.1 with
  | .int y :: .int x :: st => cm_cs st ≤ 8 ∧ k (cm_adv S 3 (.int (if x < y then y else x) :: st))
  | _ => False)
theorem cm_mmax_ok : cm_Snd cm_mmax := by
  intro p l e R s m args below meth c cc Q D A adr ce sl E P t S i n cs X h1 hd hw h2 ws H locs ls hR
  obtain ⟨hx, hb, hml, hown, hts, hK, hA, hN, hcC, hcS, hf, hlc, hscr⟩ := X
  obtain ⟨pc, L, st, M⟩ := S
  have h1 : some ((.invokestatic t.1.toNat : Instr), (3 : Nat), ([.methodLink P.2.2.2.1 t.1.toNat Lib.Math.max.name, .static Lib.Math.max.name, .initialized "java/lang/Math", .code Lib.Math.max.name Lib.Math.max.code 2 (some .int)] : List Cond)) = some (i, n, cs) := h1
  cases h1
  unfold cm_mmax at h2
  dsimp only at h2
  split at h2
  rotate_left
  · exact h2.elim
  rename_i y x st'
  obtain ⟨q1, hk⟩ := h2
  have hsum : (((st'.map (cm_v adr)).map fun v => v.category).sum) ≤ 8 := by rw [cm_v_cats]; exact q1
  exact va_mmax hx hb (hml.trans hR.2.2.2.2.1.symm) hown (hts _ (hw _ (by simp))) (hts _ (hw _ (by simp))) (hts _ (hw _ (by simp))) (hts _ (hw _ (by simp))) hf (by omega) hcC hcS hd (hk ws H locs ls hR)

def cm_mabs : cm_O := ((fun P t => some (.invokestatic t.1.toNat, 3, [.methodLink P.2.2.2.1 t.1.toNat Lib.Math.abs.name, .static Lib.Math.abs.name, .initialized "java/lang/Math", .code Lib.Math.abs.name Lib.Math.abs.code 1 (some .int)])), fun E P t S k => match S.2.2.1 with
  | .int x :: st => cm_cs st ≤ 8 ∧ k (cm_adv S 3 (.int (if 0 ≤ x then x else 0 - x) :: st))
  | _ => False)
theorem cm_mabs_ok : cm_Snd cm_mabs := by
  intro p l e R s m args below meth c cc Q D A adr ce sl E P t S i n cs X h1 hd hw h2 ws H locs ls hR
  obtain ⟨hx, hb, hml, hown, hts, hK, hA, hN, hcC, hcS, hf, hlc, hscr⟩ := X
  obtain ⟨pc, L, st, M⟩ := S
  have h1 : some ((.invokestatic t.1.toNat : Instr), (3 : Nat), ([.methodLink P.2.2.2.1 t.1.toNat Lib.Math.abs.name, .static Lib.Math.abs.name, .initialized "java/lang/Math", .code Lib.Math.abs.name Lib.Math.abs.code 1 (some .int)] : List Cond)) = some (i, n, cs) := h1
  cases h1
  unfold cm_mabs at h2
  dsimp only at h2
  split at h2
  rotate_left
  · exact h2.elim
  rename_i x st'
  obtain ⟨q1, hk⟩ := h2
  have hsum : (((st'.map (cm_v adr)).map fun v => v.category).sum) ≤ 8 := by rw [cm_v_cats]; exact q1
  exact va_mabs hx hb (hml.trans hR.2.2.2.2.1.symm) hown (hts _ (hw _ (by simp))) (hts _ (hw _ (by simp))) (hts _ (hw _ (by simp))) (hts _ (hw _ (by simp))) hf (by omega) hcC hcS hd (hk ws H locs ls hR)

def cm_copyi : cm_O := ((fun P t => some (.invokestatic t.1.toNat, 3, [.methodLink P.2.2.2.1 t.1.toNat arraycopyName, .native arraycopyName, .static arraycopyName, .initialized "java/lang/System"])), fun E P t S k => match S.2.2.1 with
  | .int n :: .int dp :: .ref d :: .int sp :: .ref c :: st => cm_cs st ≤ 8 ∧ (cm_kind c).1 = 100 ∧ (cm_kind d).1 = 100 ∧ 0 ≤ sp.toInt ∧ 0 ≤ dp.toInt ∧ 0 ≤ n.toInt ∧ sp.toInt + n.toInt ≤ ((cm_kind c).2 : Int) ∧ dp.toInt + n.toInt ≤ ((cm_kind d).2 : Int) ∧ k (S.1 + 3, S.2.1, st, cm_cp S.2.2.2 c sp.toNatClampNeg d dp.toNatClampNeg n.toNatClampNeg)
  | _ => False)
theorem cm_copyi_ok : cm_Snd cm_copyi := by
  intro p l e R s m args below meth c cc Q D A adr ce sl E P t S i n cs X h1 hd hw h2 ws H locs ls hR
  obtain ⟨hx, hb, hml, hown, hts, hK, hA, hN, hcC, hcS, hf, hlc, hscr⟩ := X
  obtain ⟨pc, L, st, M⟩ := S
  have h1 : some ((.invokestatic t.1.toNat : Instr), (3 : Nat), ([.methodLink P.2.2.2.1 t.1.toNat arraycopyName, .native arraycopyName, .static arraycopyName, .initialized "java/lang/System"] : List Cond)) = some (i, n, cs) := h1
  cases h1
  unfold cm_copyi at h2
  dsimp only at h2
  split at h2
  rotate_left
  · exact h2.elim
  rename_i n dp d sp c st'
  obtain ⟨q1, k1, k2, z1, z2, z3, z4, z5, hk⟩ := h2
  obtain ⟨hP, hD, hS, hW, hL⟩ := id hR
  have hsum : (((st'.map (cm_v adr)).map fun v => v.category).sum) ≤ 8 := by rw [cm_v_cats]; exact q1
  obtain ⟨cA, arr, e1, e2, e3, e4⟩ := cm_arr (t := 0) hW (show cm_kind c = (100 + 0, (cm_kind c).2) from Prod.ext k1 rfl) (by decide)
  obtain ⟨dA, brr, d1, d2, d3, d4⟩ := cm_arr (t := 0) hW (show cm_kind d = (100 + 0, (cm_kind d).2) from Prod.ext k2 rfl) (by decide)
  have nn : ∀ z : Int32, 0 ≤ z.toInt → z.toInt = (z.toNatClampNeg : Int) := by
    intro z hz
    show z.toInt = ((z.toInt.toNat : Nat) : Int)
    omega
  have y1 := nn sp z1
  have y2 := nn dp z2
  have y3 := nn n z3
  have hK2 : va_K D vwCl [(cA, .int), (dA, .int)] s := ⟨hK.1, fun j q hq => by
    have hz : j < 2 := (List.getElem?_eq_some_iff.mp hq).1
    have : j = 0 ∨ j = 1 := by omega
    rcases this with rfl | rfl
    · cases hq; exact ⟨e2, e3⟩
    · cases hq; exact ⟨d2, d3⟩⟩
  cases arr with
  | inr z => rcases z with z | z | z | z <;> first | exact e4.elim | (have := e4.1; omega)
  | inl f =>
    cases brr with
    | inr z => rcases z with z | z | z | z <;> first | exact d4.elim | (have := d4.1; omega)
    | inl g =>
      refine va_copyi hx hb (hml.trans hL.1.symm) hown (hts _ (hw _ (by simp))) (hts _ (hw _ (by simp))) (hts _ (hw _ (by simp))) (hts _ (hw _ (by simp))) hK2 hP hD hS c d 0 1 e1 d1 rfl rfl rfl (ev_nn z1) (ev_nn z2) (ev_nn z3) (by omega) (by omega) (fun _ _ => rfl) hf ?_ hd (fun H1 locs1 hP1 hD1 hS1 => hk _ H1 locs1 ls ⟨hP1, hD1, hS1, cm_w_set hW (cm_kind_at (q := (100 + 0, (cm_kind d).2)) (Prod.ext k2 rfl) (by dsimp only; omega)) ⟨0, by decide, rfl, rfl, d2, d3, by decide, fun j hj => ?_⟩ cm_cp_ne, hL⟩)
      · have : nativeFrameWords "java/lang/System" "arraycopy" 5 ≤ 20 := by decide +kernel
        omega
      · dsimp only [va_cpy, cm_cp] at hj ⊢
        by_cases hq : dp.toNatClampNeg ≤ j ∧ j < dp.toNatClampNeg + n.toNatClampNeg
        · rw [if_pos hq, if_pos ⟨rfl, hq⟩]
          exact e4.2 _ (by omega)
        · rw [if_neg hq, if_neg (fun z => hq z.2)]
          exact d4.2 _ hj

