/-! AB: states and operations -/
def ab_l (ρ : List Int32) (L : List (Nat × ab_A)) (CL : List (Nat × Value)) : Prop := ∀ q ∈ L, ∃ v, cm_look CL q.1 = some v ∧ ab_v ρ q.2 v
def ab_s (ρ : List Int32) : List ab_A → List Value → Prop
  | [], [] => True
  | a :: st, v :: sc => ab_v ρ a v ∧ ab_s ρ st sc
  | _, _ => False
theorem ab_l_ap {ρ ext : List Int32} {L : List (Nat × ab_A)} {CL : List (Nat × Value)} (h : ab_l ρ L CL) : ab_l (ρ ++ ext) L CL := fun q hq => by
  obtain ⟨v, h1, h2⟩ := h q hq
  exact ⟨v, h1, ab_v_ap h2⟩
theorem ab_s_ap {ρ ext : List Int32} : ∀ {st : List ab_A} {sc : List Value}, ab_s ρ st sc → ab_s (ρ ++ ext) st sc
  | [], [], _ => trivial
  | [], _ :: _, h => h.elim
  | _ :: _, [], h => h.elim
  | _ :: _, _ :: _, h => ⟨ab_v_ap h.1, ab_s_ap h.2⟩
theorem ab_s_cons {ρ : List Int32} {a : ab_A} {st : List ab_A} {sc : List Value} (h : ab_s ρ (a :: st) sc) : ∃ v sc', sc = v :: sc' ∧ ab_v ρ a v ∧ ab_s ρ st sc' := by
  cases sc with
  | nil => exact h.elim
  | cons v sc' => exact ⟨v, sc', rfl, h.1, h.2⟩
theorem ab_s_nil {ρ : List Int32} {sc : List Value} (h : ab_s ρ [] sc) : sc = [] := by
  cases sc with
  | nil => rfl
  | cons v sc' => exact h.elim
def ab_G (h : ab_H) (N : cm_M → Prop) (M0 : cm_M) (md : ab_Md) (ρ : List Int32) (S : ab_S) (C : cm_S) : Prop := C.1 = S.1 ∧ ab_l ρ S.2.1 C.2.1 ∧ ab_s ρ S.2.2.1 C.2.2.1 ∧ ab_k ρ S.2.2.2.1 ∧ ab_m h N M0 md ρ S.2.2.2.2 C.2.2.2
abbrev ab_O : Type := ab_H → ab_Md → ev_P → ev_T → ab_S → Option (List ab_S)
def ab_Snd (o : cm_O) (a : ab_O) : Prop := ∀ (h : ab_H) (N : cm_M → Prop) (M0 : cm_M) (md : ab_Md) (E : cm_E) (P : ev_P) (t : ev_T) (S : ab_S) (Ss : List ab_S) (C : cm_S) (ρ : List Int32) (k : cm_S → Prop), ab_NP h N → a h md P t S = some Ss → ab_G h N M0 md ρ S C → (∀ S' ∈ Ss, ∀ (ext : List Int32) (C' : cm_S), ab_G h N M0 md (ρ ++ ext) S' C' → k C') → o.2 E P t C k
/-- nothing new -/
theorem ab_nil {α : Type} (l : List α) : l ++ [] = l := List.append_nil l
def ab_adv (S : ab_S) (n : Nat) (st : List ab_A) : ab_S := (S.1 + n, S.2.1, st, S.2.2.2)
def ab_advK (S : ab_S) (n : Nat) (st : List ab_A) (K : ab_K) : ab_S := (S.1 + n, S.2.1, st, K, S.2.2.2.2)
def ab_no : ab_O := fun _ _ _ _ _ => none
theorem ab_no_ok (o : cm_O) : ab_Snd o ab_no := fun h N M0 md E P t S Ss C ρ k hN h1 => by cases h1
section ABO
variable {h : ab_H} {N : cm_M → Prop} {M0 : cm_M} {md : ab_Md} {ρ : List Int32} {k : cm_S → Prop} {pc : Nat} {L : List (Nat × ab_A)} {st : List ab_A} {K : ab_K} {Ca : ab_Ca} {CL : List (Nat × Value)} {M : cm_M}
/-- a new value on the stack -/
theorem ab_fin {Ss : List ab_S} (hk : ∀ S' ∈ Ss, ∀ (ext : List Int32) (C' : cm_S), ab_G h N M0 md (ρ ++ ext) S' C' → k C') (S1 : ab_S) (hS : S1 ∈ Ss) (C1 : cm_S) (hG : ab_G h N M0 md ρ S1 C1) : k C1 := hk S1 hS [] C1 (by rw [ab_nil]; exact hG)
end ABO
theorem ab_look_fl {f : Nat × Value → Bool} : ∀ {CL : List (Nat × Value)} {j : Nat} {v : Value}, cm_look CL j = some v → f (j, v) = true → cm_look (CL.filter f) j = some v
  | [], j, v, h, _ => by cases h
  | q :: CL, j, v, h, hf => by
    unfold cm_look at h
    rw [List.filter_cons]
    split at h
    · rename_i e
      cases h
      have eq : q = (j, q.2) := Prod.ext e rfl
      rw [← eq] at hf
      rw [if_pos hf]
      unfold cm_look
      rw [if_pos e]
    · rename_i e
      have ih := ab_look_fl h hf
      split
      · unfold cm_look
        rw [if_neg e]
        exact ih
      · exact ih
def ab_st1 (L : List (Nat × ab_A)) (i : Nat) (a : ab_A) : List (Nat × ab_A) := (i, a) :: L.filter (fun q => !(q.1 == i) && !(q.1 + 1 == i && q.2.1 == 6))
def ab_st2 (L : List (Nat × ab_A)) (i : Nat) (a : ab_A) : List (Nat × ab_A) := (i, a) :: L.filter (fun q => !(q.1 == i) && (!(q.1 == i + 1) && !(q.1 + 1 == i && q.2.1 == 6)))
theorem ab_cat6 {ρ : List Int32} {a : ab_A} {v : Value} (hv : ab_v ρ a v) : (v.category == 2) = (a.1 == 6) := by
  rcases ab_cat hv with ⟨h1, h2⟩ | ⟨h1, h2⟩
  · rw [h1, h2]; rfl
  · rw [h2]
    have : (a.1 == 6) = false := by simpa using h1
    rw [this]
    rfl
theorem ab_st1_ok {ρ : List Int32} {L : List (Nat × ab_A)} {CL : List (Nat × Value)} {i : Nat} {a : ab_A} {v : Value} (h : ab_l ρ L CL) (hv : ab_v ρ a v) : ab_l ρ (ab_st1 L i a) (cm_st1 CL i v) := by
  intro q hq
  rcases List.mem_cons.mp hq with rfl | hq
  · exact ⟨v, by unfold cm_st1 cm_look; rw [if_pos rfl], hv⟩
  · obtain ⟨q1, q2⟩ := List.mem_filter.mp hq
    obtain ⟨x, a1, a2⟩ := h q q1
    refine ⟨x, ?_, a2⟩
    rw [← ab_cat6 a2] at q2
    unfold cm_st1 cm_look
    have hne : ¬ i = q.1 := by
      intro e
      rw [e] at q2
      simp at q2
    rw [if_neg hne]
    exact ab_look_fl a1 q2
theorem ab_st2_ok {ρ : List Int32} {L : List (Nat × ab_A)} {CL : List (Nat × Value)} {i : Nat} {a : ab_A} {v : Value} (h : ab_l ρ L CL) (hv : ab_v ρ a v) : ab_l ρ (ab_st2 L i a) (cm_st2 CL i v) := by
  intro q hq
  rcases List.mem_cons.mp hq with rfl | hq
  · exact ⟨v, by unfold cm_st2 cm_look; rw [if_pos rfl], hv⟩
  · obtain ⟨q1, q2⟩ := List.mem_filter.mp hq
    obtain ⟨x, a1, a2⟩ := h q q1
    refine ⟨x, ?_, a2⟩
    rw [← ab_cat6 a2] at q2
    unfold cm_st2 cm_look
    have hne : ¬ i = q.1 := by
      intro e
      rw [e] at q2
      simp at q2
    rw [if_neg hne]
    exact ab_look_fl a1 q2
def ab_iconst : ab_O := fun h md P t S => some [ab_adv S 1 (ab_c (Int32.ofInt t.1).toInt :: S.2.2.1)]
theorem ab_iconst_ok : ab_Snd cm_iconst ab_iconst := by
  intro h N M0 md E P t S Ss C ρ k hN h1 hG hk
  obtain ⟨pc, L, st, K, Ca⟩ := S
  obtain ⟨cpc, CL, sc, M⟩ := C
  obtain ⟨e0, gl, gs, gk, gm⟩ := hG
  dsimp only at e0 gl gs gk gm
  subst e0
  cases h1
  exact ab_fin hk _ (List.mem_singleton.mpr rfl) (cpc + 1, CL, .int (Int32.ofInt t.1) :: sc, M) ⟨rfl, gl, ⟨ab_iv (ab_c_at ρ _), gs⟩, gk, gm⟩

def ab_bipush : ab_O := fun h md P t S => some [ab_adv S 2 (ab_c ((Int8.ofInt t.1).toInt32).toInt :: S.2.2.1)]
theorem ab_bipush_ok : ab_Snd cm_bipush ab_bipush := by
  intro h N M0 md E P t S Ss C ρ k hN h1 hG hk
  obtain ⟨pc, L, st, K, Ca⟩ := S
  obtain ⟨cpc, CL, sc, M⟩ := C
  obtain ⟨e0, gl, gs, gk, gm⟩ := hG
  dsimp only at e0 gl gs gk gm
  subst e0
  cases h1
  exact ab_fin hk _ (List.mem_singleton.mpr rfl) (cpc + 2, CL, .int ((Int8.ofInt t.1).toInt32) :: sc, M) ⟨rfl, gl, ⟨ab_iv (ab_c_at ρ _), gs⟩, gk, gm⟩

def ab_sipush : ab_O := fun h md P t S => some [ab_adv S 3 (ab_c ((Int16.ofInt t.1).toInt32).toInt :: S.2.2.1)]
theorem ab_sipush_ok : ab_Snd cm_sipush ab_sipush := by
  intro h N M0 md E P t S Ss C ρ k hN h1 hG hk
  obtain ⟨pc, L, st, K, Ca⟩ := S
  obtain ⟨cpc, CL, sc, M⟩ := C
  obtain ⟨e0, gl, gs, gk, gm⟩ := hG
  dsimp only at e0 gl gs gk gm
  subst e0
  cases h1
  exact ab_fin hk _ (List.mem_singleton.mpr rfl) (cpc + 3, CL, .int ((Int16.ofInt t.1).toInt32) :: sc, M) ⟨rfl, gl, ⟨ab_iv (ab_c_at ρ _), gs⟩, gk, gm⟩

def ab_ldc : ab_O := fun h md P t S => some [ab_adv S 2 (ab_c (Int32.ofInt t.1).toInt :: S.2.2.1)]
theorem ab_ldc_ok : ab_Snd cm_ldc ab_ldc := by
  intro h N M0 md E P t S Ss C ρ k hN h1 hG hk
  obtain ⟨pc, L, st, K, Ca⟩ := S
  obtain ⟨cpc, CL, sc, M⟩ := C
  obtain ⟨e0, gl, gs, gk, gm⟩ := hG
  dsimp only at e0 gl gs gk gm
  subst e0
  cases h1
  exact ab_fin hk _ (List.mem_singleton.mpr rfl) (cpc + 2, CL, .int (Int32.ofInt t.1) :: sc, M) ⟨rfl, gl, ⟨ab_iv (ab_c_at ρ _), gs⟩, gk, gm⟩

def ab_ldcw : ab_O := fun h md P t S => some [ab_adv S 3 (ab_c (Int32.ofInt t.1).toInt :: S.2.2.1)]
theorem ab_ldcw_ok : ab_Snd cm_ldcw ab_ldcw := by
  intro h N M0 md E P t S Ss C ρ k hN h1 hG hk
  obtain ⟨pc, L, st, K, Ca⟩ := S
  obtain ⟨cpc, CL, sc, M⟩ := C
  obtain ⟨e0, gl, gs, gk, gm⟩ := hG
  dsimp only at e0 gl gs gk gm
  subst e0
  cases h1
  exact ab_fin hk _ (List.mem_singleton.mpr rfl) (cpc + 3, CL, .int (Int32.ofInt t.1) :: sc, M) ⟨rfl, gl, ⟨ab_iv (ab_c_at ρ _), gs⟩, gk, gm⟩

def ab_lconst : ab_O := fun h md P t S => some [ab_adv S 1 ((6, 0, []) :: S.2.2.1)]
theorem ab_lconst_ok : ab_Snd cm_lconst ab_lconst := by
  intro h N M0 md E P t S Ss C ρ k hN h1 hG hk
  obtain ⟨pc, L, st, K, Ca⟩ := S
  obtain ⟨cpc, CL, sc, M⟩ := C
  obtain ⟨e0, gl, gs, gk, gm⟩ := hG
  dsimp only at e0 gl gs gk gm
  subst e0
  cases h1
  exact ab_fin hk _ (List.mem_singleton.mpr rfl) (cpc + 1, CL, .long (Int64.ofNat t.1.toNat) :: sc, M) ⟨rfl, gl, ⟨⟨_, rfl⟩, gs⟩, gk, gm⟩

def ab_ldc2 : ab_O := fun h md P t S => some [ab_adv S 3 ((6, 0, []) :: S.2.2.1)]
theorem ab_ldc2_ok : ab_Snd cm_ldc2 ab_ldc2 := by
  intro h N M0 md E P t S Ss C ρ k hN h1 hG hk
  obtain ⟨pc, L, st, K, Ca⟩ := S
  obtain ⟨cpc, CL, sc, M⟩ := C
  obtain ⟨e0, gl, gs, gk, gm⟩ := hG
  dsimp only at e0 gl gs gk gm
  subst e0
  cases h1
  exact ab_fin hk _ (List.mem_singleton.mpr rfl) (cpc + 3, CL, .long (Int64.ofInt t.1) :: sc, M) ⟨rfl, gl, ⟨⟨_, rfl⟩, gs⟩, gk, gm⟩

def ab_ldcS : ab_O := fun h md P t S => some [ab_adv S 2 ((1, 0, [1001 + 2 * t.1.toNat]) :: S.2.2.1)]
theorem ab_ldcS_ok : ab_Snd cm_ldcS ab_ldcS := by
  intro h N M0 md E P t S Ss C ρ k hN h1 hG hk
  obtain ⟨pc, L, st, K, Ca⟩ := S
  obtain ⟨cpc, CL, sc, M⟩ := C
  obtain ⟨e0, gl, gs, gk, gm⟩ := hG
  dsimp only at e0 gl gs gk gm
  subst e0
  cases h1
  exact ab_fin hk _ (List.mem_singleton.mpr rfl) (cpc + 2, CL, .ref (1001 + 2 * t.1.toNat) :: sc, M) ⟨rfl, gl, ⟨⟨_, List.mem_singleton.mpr rfl, rfl⟩, gs⟩, gk, gm⟩

def ab_getT : ab_O := fun h md P t S => some [ab_adv S 3 ((1, 0, [1100]) :: S.2.2.1)]
theorem ab_getT_ok : ab_Snd cm_getT ab_getT := by
  intro h N M0 md E P t S Ss C ρ k hN h1 hG hk
  obtain ⟨pc, L, st, K, Ca⟩ := S
  obtain ⟨cpc, CL, sc, M⟩ := C
  obtain ⟨e0, gl, gs, gk, gm⟩ := hG
  dsimp only at e0 gl gs gk gm
  subst e0
  cases h1
  exact ab_fin hk _ (List.mem_singleton.mpr rfl) (cpc + 3, CL, .ref 1100 :: sc, M) ⟨rfl, gl, ⟨⟨_, List.mem_singleton.mpr rfl, rfl⟩, gs⟩, gk, gm⟩

def ab_gets : ab_O := fun h md P t S => some [ab_adv S 3 (ab_c 1 :: S.2.2.1)]
theorem ab_gets_ok : ab_Snd cm_gets ab_gets := by
  intro h N M0 md E P t S Ss C ρ k hN h1 hG hk
  obtain ⟨pc, L, st, K, Ca⟩ := S
  obtain ⟨cpc, CL, sc, M⟩ := C
  obtain ⟨e0, gl, gs, gk, gm⟩ := hG
  dsimp only at e0 gl gs gk gm
  subst e0
  cases h1
  exact ab_fin hk _ (List.mem_singleton.mpr rfl) (cpc + 3, CL, .int 1 :: sc, M) ⟨rfl, gl, ⟨rfl, gs⟩, gk, gm⟩

def ab_getsF : ab_O := fun h md P t S => some [ab_adv S 3 ((7, 0, [1101]) :: S.2.2.1)]
theorem ab_getsF_ok : ab_Snd cm_getsF ab_getsF := by
  intro h N M0 md E P t S Ss C ρ k hN h1 hG hk
  obtain ⟨pc, L, st, K, Ca⟩ := S
  obtain ⟨cpc, CL, sc, M⟩ := C
  obtain ⟨e0, gl, gs, gk, gm⟩ := hG
  dsimp only at e0 gl gs gk gm
  subst e0
  cases h1
  exact ⟨ab_fin hk _ (List.mem_singleton.mpr rfl) (cpc + 3, CL, .null :: sc, M) ⟨rfl, gl, ⟨Or.inl rfl, gs⟩, gk, gm⟩, ab_fin hk _ (List.mem_singleton.mpr rfl) (cpc + 3, CL, .ref 1101 :: sc, M) ⟨rfl, gl, ⟨Or.inr ⟨_, List.mem_singleton.mpr rfl, rfl⟩, gs⟩, gk, gm⟩⟩

theorem ab_v6 {ρ : List Int32} {a : ab_A} {v : Value} (h : a.1 = 6) (hv : ab_v ρ a v) : ∃ x, v = .long x := by
  unfold ab_v at hv
  rw [h] at hv
  exact hv
theorem ab_v1 {ρ : List Int32} {a : ab_A} {v : Value} (h : a.1 = 1) (hv : ab_v ρ a v) : ∃ c, c ∈ a.2.2 ∧ v = .ref c := by
  unfold ab_v at hv
  rw [h] at hv
  exact hv
def ab_iload : ab_O := fun h md P t S => match ev_at S.2.1 t.1.toNat with
  | some a => if ab_isI a = true then some [ab_adv S 2 (a :: S.2.2.1)] else none
  | none => none
theorem ab_iload_ok : ab_Snd cm_iload ab_iload := by
  intro h N M0 md E P t S Ss C ρ k hN h1 hG hk
  obtain ⟨pc, L, st, K, Ca⟩ := S
  obtain ⟨cpc, CL, sc, M⟩ := C
  obtain ⟨e0, gl, gs, gk, gm⟩ := hG
  dsimp only at e0 gl gs gk gm
  subst e0
  unfold ab_iload at h1
  dsimp only at h1
  split at h1
  · rename_i a ha
    split at h1
    · rename_i hc
      cases h1
      obtain ⟨v, hl, hv⟩ := gl _ (ev_at_mem ha)
      have hv0 := hv
      obtain ⟨x, hx, rfl⟩ := ab_vi hc hv
      unfold cm_iload cm_ld
      dsimp only at hl ⊢
      rw [hl]
      exact ab_fin hk _ (List.mem_singleton.mpr rfl) (cpc + 2, CL, _ :: sc, M) ⟨rfl, gl, ⟨hv0, gs⟩, gk, gm⟩
    · cases h1
  · cases h1

def ab_istore : ab_O := fun h md P t S => match S.2.2.1 with
  | a :: st => if ab_isI a = true ∧ t.1.toNat < P.2.2.2.2.1 then some [(S.1 + 2, ab_st1 S.2.1 t.1.toNat a, st, S.2.2.2)] else none
  | [] => none
theorem ab_istore_ok : ab_Snd cm_istore ab_istore := by
  intro h N M0 md E P t S Ss C ρ k hN h1 hG hk
  obtain ⟨pc, L, st, K, Ca⟩ := S
  obtain ⟨cpc, CL, sc, M⟩ := C
  obtain ⟨e0, gl, gs, gk, gm⟩ := hG
  dsimp only at e0 gl gs gk gm
  subst e0
  unfold ab_istore at h1
  dsimp only at h1
  split at h1
  · rename_i a st'
    split at h1
    · rename_i hc0
      obtain ⟨hc, hn⟩ := hc0
      cases h1
      obtain ⟨v, sc', rfl, hv, gs'⟩ := ab_s_cons gs
      have hv0 := hv
      obtain ⟨x, hx, rfl⟩ := ab_vi hc hv
      exact ⟨hn, ab_fin hk _ (List.mem_singleton.mpr rfl) (cpc + 2, cm_st1 CL t.1.toNat _, sc', M) ⟨rfl, ab_st1_ok gl hv0, gs', gk, gm⟩⟩
    · cases h1
  · cases h1

def ab_iloadn : ab_O := fun h md P t S => match ev_at S.2.1 t.1.toNat with
  | some a => if ab_isI a = true then some [ab_adv S 1 (a :: S.2.2.1)] else none
  | none => none
theorem ab_iloadn_ok : ab_Snd cm_iloadn ab_iloadn := by
  intro h N M0 md E P t S Ss C ρ k hN h1 hG hk
  obtain ⟨pc, L, st, K, Ca⟩ := S
  obtain ⟨cpc, CL, sc, M⟩ := C
  obtain ⟨e0, gl, gs, gk, gm⟩ := hG
  dsimp only at e0 gl gs gk gm
  subst e0
  unfold ab_iloadn at h1
  dsimp only at h1
  split at h1
  · rename_i a ha
    split at h1
    · rename_i hc
      cases h1
      obtain ⟨v, hl, hv⟩ := gl _ (ev_at_mem ha)
      have hv0 := hv
      obtain ⟨x, hx, rfl⟩ := ab_vi hc hv
      unfold cm_iloadn cm_ld
      dsimp only at hl ⊢
      rw [hl]
      exact ab_fin hk _ (List.mem_singleton.mpr rfl) (cpc + 1, CL, _ :: sc, M) ⟨rfl, gl, ⟨hv0, gs⟩, gk, gm⟩
    · cases h1
  · cases h1

def ab_istoren : ab_O := fun h md P t S => match S.2.2.1 with
  | a :: st => if ab_isI a = true ∧ t.1.toNat < P.2.2.2.2.1 then some [(S.1 + 1, ab_st1 S.2.1 t.1.toNat a, st, S.2.2.2)] else none
  | [] => none
theorem ab_istoren_ok : ab_Snd cm_istoren ab_istoren := by
  intro h N M0 md E P t S Ss C ρ k hN h1 hG hk
  obtain ⟨pc, L, st, K, Ca⟩ := S
  obtain ⟨cpc, CL, sc, M⟩ := C
  obtain ⟨e0, gl, gs, gk, gm⟩ := hG
  dsimp only at e0 gl gs gk gm
  subst e0
  unfold ab_istoren at h1
  dsimp only at h1
  split at h1
  · rename_i a st'
    split at h1
    · rename_i hc0
      obtain ⟨hc, hn⟩ := hc0
      cases h1
      obtain ⟨v, sc', rfl, hv, gs'⟩ := ab_s_cons gs
      have hv0 := hv
      obtain ⟨x, hx, rfl⟩ := ab_vi hc hv
      exact ⟨hn, ab_fin hk _ (List.mem_singleton.mpr rfl) (cpc + 1, cm_st1 CL t.1.toNat _, sc', M) ⟨rfl, ab_st1_ok gl hv0, gs', gk, gm⟩⟩
    · cases h1
  · cases h1

def ab_lload : ab_O := fun h md P t S => match ev_at S.2.1 t.1.toNat with
  | some a => if a.1 = 6 then some [ab_adv S 2 (a :: S.2.2.1)] else none
  | none => none
theorem ab_lload_ok : ab_Snd cm_lload ab_lload := by
  intro h N M0 md E P t S Ss C ρ k hN h1 hG hk
  obtain ⟨pc, L, st, K, Ca⟩ := S
  obtain ⟨cpc, CL, sc, M⟩ := C
  obtain ⟨e0, gl, gs, gk, gm⟩ := hG
  dsimp only at e0 gl gs gk gm
  subst e0
  unfold ab_lload at h1
  dsimp only at h1
  split at h1
  · rename_i a ha
    split at h1
    · rename_i hc
      cases h1
      obtain ⟨v, hl, hv⟩ := gl _ (ev_at_mem ha)
      have hv0 := hv
      obtain ⟨x, rfl⟩ := ab_v6 hc hv
      unfold cm_lload cm_ld
      dsimp only at hl ⊢
      rw [hl]
      exact ab_fin hk _ (List.mem_singleton.mpr rfl) (cpc + 2, CL, _ :: sc, M) ⟨rfl, gl, ⟨hv0, gs⟩, gk, gm⟩
    · cases h1
  · cases h1

def ab_lstore : ab_O := fun h md P t S => match S.2.2.1 with
  | a :: st => if a.1 = 6 ∧ t.1.toNat + 1 < P.2.2.2.2.1 then some [(S.1 + 2, ab_st2 S.2.1 t.1.toNat a, st, S.2.2.2)] else none
  | [] => none
theorem ab_lstore_ok : ab_Snd cm_lstore ab_lstore := by
  intro h N M0 md E P t S Ss C ρ k hN h1 hG hk
  obtain ⟨pc, L, st, K, Ca⟩ := S
  obtain ⟨cpc, CL, sc, M⟩ := C
  obtain ⟨e0, gl, gs, gk, gm⟩ := hG
  dsimp only at e0 gl gs gk gm
  subst e0
  unfold ab_lstore at h1
  dsimp only at h1
  split at h1
  · rename_i a st'
    split at h1
    · rename_i hc0
      obtain ⟨hc, hn⟩ := hc0
      cases h1
      obtain ⟨v, sc', rfl, hv, gs'⟩ := ab_s_cons gs
      have hv0 := hv
      obtain ⟨x, rfl⟩ := ab_v6 hc hv
      exact ⟨hn, ab_fin hk _ (List.mem_singleton.mpr rfl) (cpc + 2, cm_st2 CL t.1.toNat _, sc', M) ⟨rfl, ab_st2_ok gl hv0, gs', gk, gm⟩⟩
    · cases h1
  · cases h1

def ab_lloadn : ab_O := fun h md P t S => match ev_at S.2.1 t.1.toNat with
  | some a => if a.1 = 6 then some [ab_adv S 1 (a :: S.2.2.1)] else none
  | none => none
theorem ab_lloadn_ok : ab_Snd cm_lloadn ab_lloadn := by
  intro h N M0 md E P t S Ss C ρ k hN h1 hG hk
  obtain ⟨pc, L, st, K, Ca⟩ := S
  obtain ⟨cpc, CL, sc, M⟩ := C
  obtain ⟨e0, gl, gs, gk, gm⟩ := hG
  dsimp only at e0 gl gs gk gm
  subst e0
  unfold ab_lloadn at h1
  dsimp only at h1
  split at h1
  · rename_i a ha
    split at h1
    · rename_i hc
      cases h1
      obtain ⟨v, hl, hv⟩ := gl _ (ev_at_mem ha)
      have hv0 := hv
      obtain ⟨x, rfl⟩ := ab_v6 hc hv
      unfold cm_lloadn cm_ld
      dsimp only at hl ⊢
      rw [hl]
      exact ab_fin hk _ (List.mem_singleton.mpr rfl) (cpc + 1, CL, _ :: sc, M) ⟨rfl, gl, ⟨hv0, gs⟩, gk, gm⟩
    · cases h1
  · cases h1

def ab_lstoren : ab_O := fun h md P t S => match S.2.2.1 with
  | a :: st => if a.1 = 6 ∧ t.1.toNat + 1 < P.2.2.2.2.1 then some [(S.1 + 1, ab_st2 S.2.1 t.1.toNat a, st, S.2.2.2)] else none
  | [] => none
theorem ab_lstoren_ok : ab_Snd cm_lstoren ab_lstoren := by
  intro h N M0 md E P t S Ss C ρ k hN h1 hG hk
  obtain ⟨pc, L, st, K, Ca⟩ := S
  obtain ⟨cpc, CL, sc, M⟩ := C
  obtain ⟨e0, gl, gs, gk, gm⟩ := hG
  dsimp only at e0 gl gs gk gm
  subst e0
  unfold ab_lstoren at h1
  dsimp only at h1
  split at h1
  · rename_i a st'
    split at h1
    · rename_i hc0
      obtain ⟨hc, hn⟩ := hc0
      cases h1
      obtain ⟨v, sc', rfl, hv, gs'⟩ := ab_s_cons gs
      have hv0 := hv
      obtain ⟨x, rfl⟩ := ab_v6 hc hv
      exact ⟨hn, ab_fin hk _ (List.mem_singleton.mpr rfl) (cpc + 1, cm_st2 CL t.1.toNat _, sc', M) ⟨rfl, ab_st2_ok gl hv0, gs', gk, gm⟩⟩
    · cases h1
  · cases h1

def ab_aload : ab_O := fun h md P t S => match ev_at S.2.1 t.1.toNat with
  | some a => if a.1 = 1 then some [ab_adv S 2 (a :: S.2.2.1)] else none
  | none => none
theorem ab_aload_ok : ab_Snd cm_aload ab_aload := by
  intro h N M0 md E P t S Ss C ρ k hN h1 hG hk
  obtain ⟨pc, L, st, K, Ca⟩ := S
  obtain ⟨cpc, CL, sc, M⟩ := C
  obtain ⟨e0, gl, gs, gk, gm⟩ := hG
  dsimp only at e0 gl gs gk gm
  subst e0
  unfold ab_aload at h1
  dsimp only at h1
  split at h1
  · rename_i a ha
    split at h1
    · rename_i hc
      cases h1
      obtain ⟨v, hl, hv⟩ := gl _ (ev_at_mem ha)
      have hv0 := hv
      obtain ⟨x, hx, rfl⟩ := ab_v1 hc hv
      unfold cm_aload cm_ld
      dsimp only at hl ⊢
      rw [hl]
      exact ab_fin hk _ (List.mem_singleton.mpr rfl) (cpc + 2, CL, _ :: sc, M) ⟨rfl, gl, ⟨hv0, gs⟩, gk, gm⟩
    · cases h1
  · cases h1

def ab_astore : ab_O := fun h md P t S => match S.2.2.1 with
  | a :: st => if a.1 = 1 ∧ t.1.toNat < P.2.2.2.2.1 then some [(S.1 + 2, ab_st1 S.2.1 t.1.toNat a, st, S.2.2.2)] else none
  | [] => none
theorem ab_astore_ok : ab_Snd cm_astore ab_astore := by
  intro h N M0 md E P t S Ss C ρ k hN h1 hG hk
  obtain ⟨pc, L, st, K, Ca⟩ := S
  obtain ⟨cpc, CL, sc, M⟩ := C
  obtain ⟨e0, gl, gs, gk, gm⟩ := hG
  dsimp only at e0 gl gs gk gm
  subst e0
  unfold ab_astore at h1
  dsimp only at h1
  split at h1
  · rename_i a st'
    split at h1
    · rename_i hc0
      obtain ⟨hc, hn⟩ := hc0
      cases h1
      obtain ⟨v, sc', rfl, hv, gs'⟩ := ab_s_cons gs
      have hv0 := hv
      obtain ⟨x, hx, rfl⟩ := ab_v1 hc hv
      exact ⟨hn, ab_fin hk _ (List.mem_singleton.mpr rfl) (cpc + 2, cm_st1 CL t.1.toNat _, sc', M) ⟨rfl, ab_st1_ok gl hv0, gs', gk, gm⟩⟩
    · cases h1
  · cases h1

def ab_aloadn : ab_O := fun h md P t S => match ev_at S.2.1 t.1.toNat with
  | some a => if a.1 = 1 then some [ab_adv S 1 (a :: S.2.2.1)] else none
  | none => none
theorem ab_aloadn_ok : ab_Snd cm_aloadn ab_aloadn := by
  intro h N M0 md E P t S Ss C ρ k hN h1 hG hk
  obtain ⟨pc, L, st, K, Ca⟩ := S
  obtain ⟨cpc, CL, sc, M⟩ := C
  obtain ⟨e0, gl, gs, gk, gm⟩ := hG
  dsimp only at e0 gl gs gk gm
  subst e0
  unfold ab_aloadn at h1
  dsimp only at h1
  split at h1
  · rename_i a ha
    split at h1
    · rename_i hc
      cases h1
      obtain ⟨v, hl, hv⟩ := gl _ (ev_at_mem ha)
      have hv0 := hv
      obtain ⟨x, hx, rfl⟩ := ab_v1 hc hv
      unfold cm_aloadn cm_ld
      dsimp only at hl ⊢
      rw [hl]
      exact ab_fin hk _ (List.mem_singleton.mpr rfl) (cpc + 1, CL, _ :: sc, M) ⟨rfl, gl, ⟨hv0, gs⟩, gk, gm⟩
    · cases h1
  · cases h1

def ab_astoren : ab_O := fun h md P t S => match S.2.2.1 with
  | a :: st => if a.1 = 1 ∧ t.1.toNat < P.2.2.2.2.1 then some [(S.1 + 1, ab_st1 S.2.1 t.1.toNat a, st, S.2.2.2)] else none
  | [] => none
theorem ab_astoren_ok : ab_Snd cm_astoren ab_astoren := by
  intro h N M0 md E P t S Ss C ρ k hN h1 hG hk
  obtain ⟨pc, L, st, K, Ca⟩ := S
  obtain ⟨cpc, CL, sc, M⟩ := C
  obtain ⟨e0, gl, gs, gk, gm⟩ := hG
  dsimp only at e0 gl gs gk gm
  subst e0
  unfold ab_astoren at h1
  dsimp only at h1
  split at h1
  · rename_i a st'
    split at h1
    · rename_i hc0
      obtain ⟨hc, hn⟩ := hc0
      cases h1
      obtain ⟨v, sc', rfl, hv, gs'⟩ := ab_s_cons gs
      have hv0 := hv
      obtain ⟨x, hx, rfl⟩ := ab_v1 hc hv
      exact ⟨hn, ab_fin hk _ (List.mem_singleton.mpr rfl) (cpc + 1, cm_st1 CL t.1.toNat _, sc', M) ⟨rfl, ab_st1_ok gl hv0, gs', gk, gm⟩⟩
    · cases h1
  · cases h1

def ab_iadd : ab_O := fun h md P t S => match S.2.2.1 with
  | b :: a :: st => if ab_isI a = true ∧ ab_isI b = true then some [ab_advK S 1 ((ab_new S.2.2.2.1 1 a b).1 :: st) (ab_new S.2.2.2.1 1 a b).2] else none
  | _ => none
theorem ab_iadd_ok : ab_Snd cm_iadd ab_iadd := by
  intro h N M0 md E P t S Ss C ρ k hN h1 hG hk
  obtain ⟨pc, L, st, K, Ca⟩ := S
  obtain ⟨cpc, CL, sc, M⟩ := C
  obtain ⟨e0, gl, gs, gk, gm⟩ := hG
  dsimp only at e0 gl gs gk gm
  subst e0
  unfold ab_iadd at h1
  dsimp only at h1
  split at h1
  · rename_i b a st'
    split at h1
    · rename_i hc
      cases h1
      obtain ⟨vb, sc1, rfl, hvb, gs1⟩ := ab_s_cons gs
      obtain ⟨va, sc2, rfl, hva, gs2⟩ := ab_s_cons gs1
      obtain ⟨y, hy, rfl⟩ := ab_vi hc.2 hvb
      obtain ⟨x, hx, rfl⟩ := ab_vi hc.1 hva
      obtain ⟨ext, k1, k2⟩ := ab_new_ok (op := 1) gk hx hy rfl
      have hfin := hk _ (List.mem_singleton.mpr rfl) ext (cpc + 1, CL, .int (ev_f 1 x y) :: sc2, M) ⟨rfl, ab_l_ap gl, ⟨ab_iv k2, ab_s_ap gs2⟩, k1, ab_m_ap gm⟩
      exact hfin
    · cases h1
  · cases h1

def ab_isub : ab_O := fun h md P t S => match S.2.2.1 with
  | b :: a :: st => if ab_isI a = true ∧ ab_isI b = true then some [ab_advK S 1 ((ab_new S.2.2.2.1 2 a b).1 :: st) (ab_new S.2.2.2.1 2 a b).2] else none
  | _ => none
theorem ab_isub_ok : ab_Snd cm_isub ab_isub := by
  intro h N M0 md E P t S Ss C ρ k hN h1 hG hk
  obtain ⟨pc, L, st, K, Ca⟩ := S
  obtain ⟨cpc, CL, sc, M⟩ := C
  obtain ⟨e0, gl, gs, gk, gm⟩ := hG
  dsimp only at e0 gl gs gk gm
  subst e0
  unfold ab_isub at h1
  dsimp only at h1
  split at h1
  · rename_i b a st'
    split at h1
    · rename_i hc
      cases h1
      obtain ⟨vb, sc1, rfl, hvb, gs1⟩ := ab_s_cons gs
      obtain ⟨va, sc2, rfl, hva, gs2⟩ := ab_s_cons gs1
      obtain ⟨y, hy, rfl⟩ := ab_vi hc.2 hvb
      obtain ⟨x, hx, rfl⟩ := ab_vi hc.1 hva
      obtain ⟨ext, k1, k2⟩ := ab_new_ok (op := 2) gk hx hy rfl
      have hfin := hk _ (List.mem_singleton.mpr rfl) ext (cpc + 1, CL, .int (ev_f 2 x y) :: sc2, M) ⟨rfl, ab_l_ap gl, ⟨ab_iv k2, ab_s_ap gs2⟩, k1, ab_m_ap gm⟩
      exact hfin
    · cases h1
  · cases h1

def ab_imul : ab_O := fun h md P t S => match S.2.2.1 with
  | b :: a :: st => if ab_isI a = true ∧ ab_isI b = true then some [ab_advK S 1 ((ab_new S.2.2.2.1 3 a b).1 :: st) (ab_new S.2.2.2.1 3 a b).2] else none
  | _ => none
theorem ab_imul_ok : ab_Snd cm_imul ab_imul := by
  intro h N M0 md E P t S Ss C ρ k hN h1 hG hk
  obtain ⟨pc, L, st, K, Ca⟩ := S
  obtain ⟨cpc, CL, sc, M⟩ := C
  obtain ⟨e0, gl, gs, gk, gm⟩ := hG
  dsimp only at e0 gl gs gk gm
  subst e0
  unfold ab_imul at h1
  dsimp only at h1
  split at h1
  · rename_i b a st'
    split at h1
    · rename_i hc
      cases h1
      obtain ⟨vb, sc1, rfl, hvb, gs1⟩ := ab_s_cons gs
      obtain ⟨va, sc2, rfl, hva, gs2⟩ := ab_s_cons gs1
      obtain ⟨y, hy, rfl⟩ := ab_vi hc.2 hvb
      obtain ⟨x, hx, rfl⟩ := ab_vi hc.1 hva
      obtain ⟨ext, k1, k2⟩ := ab_new_ok (op := 3) gk hx hy rfl
      have hfin := hk _ (List.mem_singleton.mpr rfl) ext (cpc + 1, CL, .int (ev_f 3 x y) :: sc2, M) ⟨rfl, ab_l_ap gl, ⟨ab_iv k2, ab_s_ap gs2⟩, k1, ab_m_ap gm⟩
      exact hfin
    · cases h1
  · cases h1

def ab_iand : ab_O := fun h md P t S => match S.2.2.1 with
  | b :: a :: st => if ab_isI a = true ∧ ab_isI b = true then some [ab_advK S 1 ((ab_new S.2.2.2.1 4 a b).1 :: st) (ab_new S.2.2.2.1 4 a b).2] else none
  | _ => none
theorem ab_iand_ok : ab_Snd cm_iand ab_iand := by
  intro h N M0 md E P t S Ss C ρ k hN h1 hG hk
  obtain ⟨pc, L, st, K, Ca⟩ := S
  obtain ⟨cpc, CL, sc, M⟩ := C
  obtain ⟨e0, gl, gs, gk, gm⟩ := hG
  dsimp only at e0 gl gs gk gm
  subst e0
  unfold ab_iand at h1
  dsimp only at h1
  split at h1
  · rename_i b a st'
    split at h1
    · rename_i hc
      cases h1
      obtain ⟨vb, sc1, rfl, hvb, gs1⟩ := ab_s_cons gs
      obtain ⟨va, sc2, rfl, hva, gs2⟩ := ab_s_cons gs1
      obtain ⟨y, hy, rfl⟩ := ab_vi hc.2 hvb
      obtain ⟨x, hx, rfl⟩ := ab_vi hc.1 hva
      obtain ⟨ext, k1, k2⟩ := ab_new_ok (op := 4) gk hx hy rfl
      have hfin := hk _ (List.mem_singleton.mpr rfl) ext (cpc + 1, CL, .int (ev_f 4 x y) :: sc2, M) ⟨rfl, ab_l_ap gl, ⟨ab_iv k2, ab_s_ap gs2⟩, k1, ab_m_ap gm⟩
      exact hfin
    · cases h1
  · cases h1

def ab_ior : ab_O := fun h md P t S => match S.2.2.1 with
  | b :: a :: st => if ab_isI a = true ∧ ab_isI b = true then some [ab_advK S 1 ((ab_new S.2.2.2.1 5 a b).1 :: st) (ab_new S.2.2.2.1 5 a b).2] else none
  | _ => none
theorem ab_ior_ok : ab_Snd cm_ior ab_ior := by
  intro h N M0 md E P t S Ss C ρ k hN h1 hG hk
  obtain ⟨pc, L, st, K, Ca⟩ := S
  obtain ⟨cpc, CL, sc, M⟩ := C
  obtain ⟨e0, gl, gs, gk, gm⟩ := hG
  dsimp only at e0 gl gs gk gm
  subst e0
  unfold ab_ior at h1
  dsimp only at h1
  split at h1
  · rename_i b a st'
    split at h1
    · rename_i hc
      cases h1
      obtain ⟨vb, sc1, rfl, hvb, gs1⟩ := ab_s_cons gs
      obtain ⟨va, sc2, rfl, hva, gs2⟩ := ab_s_cons gs1
      obtain ⟨y, hy, rfl⟩ := ab_vi hc.2 hvb
      obtain ⟨x, hx, rfl⟩ := ab_vi hc.1 hva
      obtain ⟨ext, k1, k2⟩ := ab_new_ok (op := 5) gk hx hy rfl
      have hfin := hk _ (List.mem_singleton.mpr rfl) ext (cpc + 1, CL, .int (ev_f 5 x y) :: sc2, M) ⟨rfl, ab_l_ap gl, ⟨ab_iv k2, ab_s_ap gs2⟩, k1, ab_m_ap gm⟩
      exact hfin
    · cases h1
  · cases h1

def ab_ixor : ab_O := fun h md P t S => match S.2.2.1 with
  | b :: a :: st => if ab_isI a = true ∧ ab_isI b = true then some [ab_advK S 1 ((ab_new S.2.2.2.1 6 a b).1 :: st) (ab_new S.2.2.2.1 6 a b).2] else none
  | _ => none
theorem ab_ixor_ok : ab_Snd cm_ixor ab_ixor := by
  intro h N M0 md E P t S Ss C ρ k hN h1 hG hk
  obtain ⟨pc, L, st, K, Ca⟩ := S
  obtain ⟨cpc, CL, sc, M⟩ := C
  obtain ⟨e0, gl, gs, gk, gm⟩ := hG
  dsimp only at e0 gl gs gk gm
  subst e0
  unfold ab_ixor at h1
  dsimp only at h1
  split at h1
  · rename_i b a st'
    split at h1
    · rename_i hc
      cases h1
      obtain ⟨vb, sc1, rfl, hvb, gs1⟩ := ab_s_cons gs
      obtain ⟨va, sc2, rfl, hva, gs2⟩ := ab_s_cons gs1
      obtain ⟨y, hy, rfl⟩ := ab_vi hc.2 hvb
      obtain ⟨x, hx, rfl⟩ := ab_vi hc.1 hva
      obtain ⟨ext, k1, k2⟩ := ab_new_ok (op := 6) gk hx hy rfl
      have hfin := hk _ (List.mem_singleton.mpr rfl) ext (cpc + 1, CL, .int (ev_f 6 x y) :: sc2, M) ⟨rfl, ab_l_ap gl, ⟨ab_iv k2, ab_s_ap gs2⟩, k1, ab_m_ap gm⟩
      exact hfin
    · cases h1
  · cases h1

def ab_ishl : ab_O := fun h md P t S => match S.2.2.1 with
  | b :: a :: st => if ab_isI a = true ∧ ab_isI b = true then some [ab_advK S 1 ((ab_new S.2.2.2.1 7 a b).1 :: st) (ab_new S.2.2.2.1 7 a b).2] else none
  | _ => none
theorem ab_ishl_ok : ab_Snd cm_ishl ab_ishl := by
  intro h N M0 md E P t S Ss C ρ k hN h1 hG hk
  obtain ⟨pc, L, st, K, Ca⟩ := S
  obtain ⟨cpc, CL, sc, M⟩ := C
  obtain ⟨e0, gl, gs, gk, gm⟩ := hG
  dsimp only at e0 gl gs gk gm
  subst e0
  unfold ab_ishl at h1
  dsimp only at h1
  split at h1
  · rename_i b a st'
    split at h1
    · rename_i hc
      cases h1
      obtain ⟨vb, sc1, rfl, hvb, gs1⟩ := ab_s_cons gs
      obtain ⟨va, sc2, rfl, hva, gs2⟩ := ab_s_cons gs1
      obtain ⟨y, hy, rfl⟩ := ab_vi hc.2 hvb
      obtain ⟨x, hx, rfl⟩ := ab_vi hc.1 hva
      obtain ⟨ext, k1, k2⟩ := ab_new_ok (op := 7) gk hx hy rfl
      have hfin := hk _ (List.mem_singleton.mpr rfl) ext (cpc + 1, CL, .int (ev_f 7 x y) :: sc2, M) ⟨rfl, ab_l_ap gl, ⟨ab_iv k2, ab_s_ap gs2⟩, k1, ab_m_ap gm⟩
      exact hfin
    · cases h1
  · cases h1

def ab_ishr : ab_O := fun h md P t S => match S.2.2.1 with
  | b :: a :: st => if ab_isI a = true ∧ ab_isI b = true then some [ab_advK S 1 ((ab_new S.2.2.2.1 8 a b).1 :: st) (ab_new S.2.2.2.1 8 a b).2] else none
  | _ => none
theorem ab_ishr_ok : ab_Snd cm_ishr ab_ishr := by
  intro h N M0 md E P t S Ss C ρ k hN h1 hG hk
  obtain ⟨pc, L, st, K, Ca⟩ := S
  obtain ⟨cpc, CL, sc, M⟩ := C
  obtain ⟨e0, gl, gs, gk, gm⟩ := hG
  dsimp only at e0 gl gs gk gm
  subst e0
  unfold ab_ishr at h1
  dsimp only at h1
  split at h1
  · rename_i b a st'
    split at h1
    · rename_i hc
      cases h1
      obtain ⟨vb, sc1, rfl, hvb, gs1⟩ := ab_s_cons gs
      obtain ⟨va, sc2, rfl, hva, gs2⟩ := ab_s_cons gs1
      obtain ⟨y, hy, rfl⟩ := ab_vi hc.2 hvb
      obtain ⟨x, hx, rfl⟩ := ab_vi hc.1 hva
      obtain ⟨ext, k1, k2⟩ := ab_new_ok (op := 8) gk hx hy rfl
      have hfin := hk _ (List.mem_singleton.mpr rfl) ext (cpc + 1, CL, .int (ev_f 8 x y) :: sc2, M) ⟨rfl, ab_l_ap gl, ⟨ab_iv k2, ab_s_ap gs2⟩, k1, ab_m_ap gm⟩
      exact hfin
    · cases h1
  · cases h1

def ab_iushr : ab_O := fun h md P t S => match S.2.2.1 with
  | b :: a :: st => if ab_isI a = true ∧ ab_isI b = true then some [ab_advK S 1 ((ab_new S.2.2.2.1 9 a b).1 :: st) (ab_new S.2.2.2.1 9 a b).2] else none
  | _ => none
theorem ab_iushr_ok : ab_Snd cm_iushr ab_iushr := by
  intro h N M0 md E P t S Ss C ρ k hN h1 hG hk
  obtain ⟨pc, L, st, K, Ca⟩ := S
  obtain ⟨cpc, CL, sc, M⟩ := C
  obtain ⟨e0, gl, gs, gk, gm⟩ := hG
  dsimp only at e0 gl gs gk gm
  subst e0
  unfold ab_iushr at h1
  dsimp only at h1
  split at h1
  · rename_i b a st'
    split at h1
    · rename_i hc
      cases h1
      obtain ⟨vb, sc1, rfl, hvb, gs1⟩ := ab_s_cons gs
      obtain ⟨va, sc2, rfl, hva, gs2⟩ := ab_s_cons gs1
      obtain ⟨y, hy, rfl⟩ := ab_vi hc.2 hvb
      obtain ⟨x, hx, rfl⟩ := ab_vi hc.1 hva
      obtain ⟨ext, k1, k2⟩ := ab_new_ok (op := 9) gk hx hy rfl
      have hfin := hk _ (List.mem_singleton.mpr rfl) ext (cpc + 1, CL, .int (ev_f 9 x y) :: sc2, M) ⟨rfl, ab_l_ap gl, ⟨ab_iv k2, ab_s_ap gs2⟩, k1, ab_m_ap gm⟩
      exact hfin
    · cases h1
  · cases h1

def ab_idiv : ab_O := fun h md P t S => match S.2.2.1 with
  | b :: a :: st => if ab_isI a = true ∧ ab_isI b = true ∧ (1 ≤ (ab_bd S.2.2.2.1 b).1 ∨ (ab_bd S.2.2.2.1 b).2 ≤ -1) then some [ab_advK S 1 ((ab_new S.2.2.2.1 10 a b).1 :: st) (ab_new S.2.2.2.1 10 a b).2] else none
  | _ => none
theorem ab_idiv_ok : ab_Snd cm_idiv ab_idiv := by
  intro h N M0 md E P t S Ss C ρ k hN h1 hG hk
  obtain ⟨pc, L, st, K, Ca⟩ := S
  obtain ⟨cpc, CL, sc, M⟩ := C
  obtain ⟨e0, gl, gs, gk, gm⟩ := hG
  dsimp only at e0 gl gs gk gm
  subst e0
  unfold ab_idiv at h1
  dsimp only at h1
  split at h1
  · rename_i b a st'
    split at h1
    · rename_i hc
      cases h1
      obtain ⟨vb, sc1, rfl, hvb, gs1⟩ := ab_s_cons gs
      obtain ⟨va, sc2, rfl, hva, gs2⟩ := ab_s_cons gs1
      obtain ⟨y, hy, rfl⟩ := ab_vi hc.2.1 hvb
      obtain ⟨x, hx, rfl⟩ := ab_vi hc.1 hva
      obtain ⟨ext, k1, k2⟩ := ab_new_ok (op := 10) gk hx hy rfl
      have hfin := hk _ (List.mem_singleton.mpr rfl) ext (cpc + 1, CL, .int (ev_f 10 x y) :: sc2, M) ⟨rfl, ab_l_ap gl, ⟨ab_iv k2, ab_s_ap gs2⟩, k1, ab_m_ap gm⟩
      refine ⟨fun e => ?_, hfin⟩
      have hb := ab_bd_in gk hy
      rw [e] at hb
      have h0 : (0 : Int32).toInt = 0 := rfl
      obtain ⟨b1, b2⟩ := hb
      have h3 := hc.2.2
      omega
    · cases h1
  · cases h1

def ab_irem : ab_O := fun h md P t S => match S.2.2.1 with
  | b :: a :: st => if ab_isI a = true ∧ ab_isI b = true ∧ (1 ≤ (ab_bd S.2.2.2.1 b).1 ∨ (ab_bd S.2.2.2.1 b).2 ≤ -1) then some [ab_advK S 1 ((ab_new S.2.2.2.1 11 a b).1 :: st) (ab_new S.2.2.2.1 11 a b).2] else none
  | _ => none
theorem ab_irem_ok : ab_Snd cm_irem ab_irem := by
  intro h N M0 md E P t S Ss C ρ k hN h1 hG hk
  obtain ⟨pc, L, st, K, Ca⟩ := S
  obtain ⟨cpc, CL, sc, M⟩ := C
  obtain ⟨e0, gl, gs, gk, gm⟩ := hG
  dsimp only at e0 gl gs gk gm
  subst e0
  unfold ab_irem at h1
  dsimp only at h1
  split at h1
  · rename_i b a st'
    split at h1
    · rename_i hc
      cases h1
      obtain ⟨vb, sc1, rfl, hvb, gs1⟩ := ab_s_cons gs
      obtain ⟨va, sc2, rfl, hva, gs2⟩ := ab_s_cons gs1
      obtain ⟨y, hy, rfl⟩ := ab_vi hc.2.1 hvb
      obtain ⟨x, hx, rfl⟩ := ab_vi hc.1 hva
      obtain ⟨ext, k1, k2⟩ := ab_new_ok (op := 11) gk hx hy rfl
      have hfin := hk _ (List.mem_singleton.mpr rfl) ext (cpc + 1, CL, .int (ev_f 11 x y) :: sc2, M) ⟨rfl, ab_l_ap gl, ⟨ab_iv k2, ab_s_ap gs2⟩, k1, ab_m_ap gm⟩
      refine ⟨fun e => ?_, hfin⟩
      have hb := ab_bd_in gk hy
      rw [e] at hb
      have h0 : (0 : Int32).toInt = 0 := rfl
      obtain ⟨b1, b2⟩ := hb
      have h3 := hc.2.2
      omega
    · cases h1
  · cases h1

theorem ab_cs_ok {ρ : List Int32} : ∀ {st : List ab_A} {sc : List Value}, ab_s ρ st sc → cm_cs sc = (st.map (fun a => if a.1 = 6 then 2 else 1)).sum
  | [], [], _ => rfl
  | [], _ :: _, h => h.elim
  | _ :: _, [], h => h.elim
  | a :: st, v :: sc, h => by
    have ih := ab_cs_ok h.2
    unfold cm_cs at ih ⊢
    rw [List.map_cons, List.map_cons, List.sum_cons, List.sum_cons, ih]
    rcases ab_cat h.1 with ⟨h1, h2⟩ | ⟨h1, h2⟩
    · rw [h2, if_pos h1]
    · rw [h2, if_neg h1]
def ab_cs (st : List ab_A) : Nat := (st.map (fun a => if a.1 = 6 then 2 else 1)).sum
def ab_mmin : ab_O := fun h md P t S => match S.2.2.1 with
  | b :: a :: st => if ab_isI a = true ∧ ab_isI b = true ∧ ab_cs st ≤ 8 then some [ab_advK S 3 ((ab_new S.2.2.2.1 15 a b).1 :: st) (ab_new S.2.2.2.1 15 a b).2] else none
  | _ => none
theorem ab_mmin_ok : ab_Snd cm_mmin ab_mmin := by
  intro h N M0 md E P t S Ss C ρ k hN h1 hG hk
  obtain ⟨pc, L, st, K, Ca⟩ := S
  obtain ⟨cpc, CL, sc, M⟩ := C
  obtain ⟨e0, gl, gs, gk, gm⟩ := hG
  dsimp only at e0 gl gs gk gm
  subst e0
  unfold ab_mmin at h1
  dsimp only at h1
  split at h1
  · rename_i b a st'
    split at h1
    · rename_i hc
      cases h1
      obtain ⟨vb, sc1, rfl, hvb, gs1⟩ := ab_s_cons gs
      obtain ⟨va, sc2, rfl, hva, gs2⟩ := ab_s_cons gs1
      obtain ⟨y, hy, rfl⟩ := ab_vi hc.2.1 hvb
      obtain ⟨x, hx, rfl⟩ := ab_vi hc.1 hva
      obtain ⟨ext, k1, k2⟩ := ab_new_ok (op := 15) gk hx hy rfl
      have hfin := hk _ (List.mem_singleton.mpr rfl) ext (cpc + 3, CL, .int (ev_f 15 x y) :: sc2, M) ⟨rfl, ab_l_ap gl, ⟨ab_iv k2, ab_s_ap gs2⟩, k1, ab_m_ap gm⟩
      have hcs := ab_cs_ok gs2
      exact ⟨by rw [hcs]; exact hc.2.2, hfin⟩
    · cases h1
  · cases h1

def ab_mmax : ab_O := fun h md P t S => match S.2.2.1 with
  | b :: a :: st => if ab_isI a = true ∧ ab_isI b = true ∧ ab_cs st ≤ 8 then some [ab_advK S 3 ((ab_new S.2.2.2.1 16 a b).1 :: st) (ab_new S.2.2.2.1 16 a b).2] else none
  | _ => none
theorem ab_mmax_ok : ab_Snd cm_mmax ab_mmax := by
  intro h N M0 md E P t S Ss C ρ k hN h1 hG hk
  obtain ⟨pc, L, st, K, Ca⟩ := S
  obtain ⟨cpc, CL, sc, M⟩ := C
  obtain ⟨e0, gl, gs, gk, gm⟩ := hG
  dsimp only at e0 gl gs gk gm
  subst e0
  unfold ab_mmax at h1
  dsimp only at h1
  split at h1
  · rename_i b a st'
    split at h1
    · rename_i hc
      cases h1
      obtain ⟨vb, sc1, rfl, hvb, gs1⟩ := ab_s_cons gs
      obtain ⟨va, sc2, rfl, hva, gs2⟩ := ab_s_cons gs1
      obtain ⟨y, hy, rfl⟩ := ab_vi hc.2.1 hvb
      obtain ⟨x, hx, rfl⟩ := ab_vi hc.1 hva
      obtain ⟨ext, k1, k2⟩ := ab_new_ok (op := 16) gk hx hy rfl
      have hfin := hk _ (List.mem_singleton.mpr rfl) ext (cpc + 3, CL, .int (ev_f 16 x y) :: sc2, M) ⟨rfl, ab_l_ap gl, ⟨ab_iv k2, ab_s_ap gs2⟩, k1, ab_m_ap gm⟩
      have hcs := ab_cs_ok gs2
      exact ⟨by rw [hcs]; exact hc.2.2, hfin⟩
    · cases h1
  · cases h1

def ab_ineg : ab_O := fun h md P t S => match S.2.2.1 with
  | a :: st => if ab_isI a = true then some [ab_advK S 1 ((ab_new S.2.2.2.1 12 a (ab_c 0)).1 :: st) (ab_new S.2.2.2.1 12 a (ab_c 0)).2] else none
  | _ => none
theorem ab_ineg_ok : ab_Snd cm_ineg ab_ineg := by
  intro h N M0 md E P t S Ss C ρ k hN h1 hG hk
  obtain ⟨pc, L, st, K, Ca⟩ := S
  obtain ⟨cpc, CL, sc, M⟩ := C
  obtain ⟨e0, gl, gs, gk, gm⟩ := hG
  dsimp only at e0 gl gs gk gm
  subst e0
  unfold ab_ineg at h1
  dsimp only at h1
  split at h1
  · rename_i a st'
    split at h1
    · rename_i hc
      cases h1
      obtain ⟨va, sc2, rfl, hva, gs2⟩ := ab_s_cons gs
      obtain ⟨x, hx, rfl⟩ := ab_vi hc hva
      obtain ⟨ext, k1, k2⟩ := ab_new_ok (op := 12) (b := ab_c 0) gk hx rfl rfl
      have hfin := hk _ (List.mem_singleton.mpr rfl) ext (cpc + 1, CL, .int (ev_f 12 x (Int32.ofInt 0)) :: sc2, M) ⟨rfl, ab_l_ap gl, ⟨ab_iv k2, ab_s_ap gs2⟩, k1, ab_m_ap gm⟩
      exact hfin
    · cases h1
  · cases h1

def ab_i2b : ab_O := fun h md P t S => match S.2.2.1 with
  | a :: st => if ab_isI a = true then some [ab_advK S 1 ((ab_new S.2.2.2.1 13 a (ab_c 0)).1 :: st) (ab_new S.2.2.2.1 13 a (ab_c 0)).2] else none
  | _ => none
theorem ab_i2b_ok : ab_Snd cm_i2b ab_i2b := by
  intro h N M0 md E P t S Ss C ρ k hN h1 hG hk
  obtain ⟨pc, L, st, K, Ca⟩ := S
  obtain ⟨cpc, CL, sc, M⟩ := C
  obtain ⟨e0, gl, gs, gk, gm⟩ := hG
  dsimp only at e0 gl gs gk gm
  subst e0
  unfold ab_i2b at h1
  dsimp only at h1
  split at h1
  · rename_i a st'
    split at h1
    · rename_i hc
      cases h1
      obtain ⟨va, sc2, rfl, hva, gs2⟩ := ab_s_cons gs
      obtain ⟨x, hx, rfl⟩ := ab_vi hc hva
      obtain ⟨ext, k1, k2⟩ := ab_new_ok (op := 13) (b := ab_c 0) gk hx rfl rfl
      have hfin := hk _ (List.mem_singleton.mpr rfl) ext (cpc + 1, CL, .int (ev_f 13 x (Int32.ofInt 0)) :: sc2, M) ⟨rfl, ab_l_ap gl, ⟨ab_iv k2, ab_s_ap gs2⟩, k1, ab_m_ap gm⟩
      exact hfin
    · cases h1
  · cases h1

def ab_i2c : ab_O := fun h md P t S => match S.2.2.1 with
  | a :: st => if ab_isI a = true then some [ab_advK S 1 ((ab_new S.2.2.2.1 14 a (ab_c 0)).1 :: st) (ab_new S.2.2.2.1 14 a (ab_c 0)).2] else none
  | _ => none
theorem ab_i2c_ok : ab_Snd cm_i2c ab_i2c := by
  intro h N M0 md E P t S Ss C ρ k hN h1 hG hk
  obtain ⟨pc, L, st, K, Ca⟩ := S
  obtain ⟨cpc, CL, sc, M⟩ := C
  obtain ⟨e0, gl, gs, gk, gm⟩ := hG
  dsimp only at e0 gl gs gk gm
  subst e0
  unfold ab_i2c at h1
  dsimp only at h1
  split at h1
  · rename_i a st'
    split at h1
    · rename_i hc
      cases h1
      obtain ⟨va, sc2, rfl, hva, gs2⟩ := ab_s_cons gs
      obtain ⟨x, hx, rfl⟩ := ab_vi hc hva
      obtain ⟨ext, k1, k2⟩ := ab_new_ok (op := 14) (b := ab_c 0) gk hx rfl rfl
      have hfin := hk _ (List.mem_singleton.mpr rfl) ext (cpc + 1, CL, .int (ev_f 14 x (Int32.ofInt 0)) :: sc2, M) ⟨rfl, ab_l_ap gl, ⟨ab_iv k2, ab_s_ap gs2⟩, k1, ab_m_ap gm⟩
      exact hfin
    · cases h1
  · cases h1

def ab_mabs : ab_O := fun h md P t S => match S.2.2.1 with
  | a :: st => if ab_isI a = true ∧ ab_cs st ≤ 8 then some [ab_advK S 3 ((ab_new S.2.2.2.1 17 a (ab_c 0)).1 :: st) (ab_new S.2.2.2.1 17 a (ab_c 0)).2] else none
  | _ => none
theorem ab_mabs_ok : ab_Snd cm_mabs ab_mabs := by
  intro h N M0 md E P t S Ss C ρ k hN h1 hG hk
  obtain ⟨pc, L, st, K, Ca⟩ := S
  obtain ⟨cpc, CL, sc, M⟩ := C
  obtain ⟨e0, gl, gs, gk, gm⟩ := hG
  dsimp only at e0 gl gs gk gm
  subst e0
  unfold ab_mabs at h1
  dsimp only at h1
  split at h1
  · rename_i a st'
    split at h1
    · rename_i hc
      cases h1
      obtain ⟨va, sc2, rfl, hva, gs2⟩ := ab_s_cons gs
      obtain ⟨x, hx, rfl⟩ := ab_vi hc.1 hva
      obtain ⟨ext, k1, k2⟩ := ab_new_ok (op := 17) (b := ab_c 0) gk hx rfl rfl
      have hfin := hk _ (List.mem_singleton.mpr rfl) ext (cpc + 3, CL, .int (ev_f 17 x (Int32.ofInt 0)) :: sc2, M) ⟨rfl, ab_l_ap gl, ⟨ab_iv k2, ab_s_ap gs2⟩, k1, ab_m_ap gm⟩
      have hcs := ab_cs_ok gs2
      exact ⟨by rw [hcs]; exact hc.2, hfin⟩
    · cases h1
  · cases h1

def ab_i2l : ab_O := fun h md P t S => match S.2.2.1 with
  | a :: st => if ab_isI a = true then some [ab_adv S 1 ((6, 0, []) :: st)] else none
  | _ => none
theorem ab_i2l_ok : ab_Snd cm_i2l ab_i2l := by
  intro h N M0 md E P t S Ss C ρ k hN h1 hG hk
  obtain ⟨pc, L, st, K, Ca⟩ := S
  obtain ⟨cpc, CL, sc, M⟩ := C
  obtain ⟨e0, gl, gs, gk, gm⟩ := hG
  dsimp only at e0 gl gs gk gm
  subst e0
  unfold ab_i2l at h1
  dsimp only at h1
  split at h1
  · rename_i a st'
    split at h1
    · rename_i hc
      cases h1
      obtain ⟨va, sc2, rfl, hva, gs2⟩ := ab_s_cons gs
      obtain ⟨x, hx, rfl⟩ := ab_vi hc hva
      exact ab_fin hk _ (List.mem_singleton.mpr rfl) (cpc + 1, CL, .long x.toInt64 :: sc2, M) ⟨rfl, gl, ⟨⟨_, rfl⟩, gs2⟩, gk, gm⟩
    · cases h1
  · cases h1

def ab_ladd : ab_O := fun h md P t S => match S.2.2.1 with
  | b :: a :: st => if a.1 = 6 ∧ b.1 = 6 then some [ab_adv S 1 ((6, 0, []) :: st)] else none
  | _ => none
theorem ab_ladd_ok : ab_Snd cm_ladd ab_ladd := by
  intro h N M0 md E P t S Ss C ρ k hN h1 hG hk
  obtain ⟨pc, L, st, K, Ca⟩ := S
  obtain ⟨cpc, CL, sc, M⟩ := C
  obtain ⟨e0, gl, gs, gk, gm⟩ := hG
  dsimp only at e0 gl gs gk gm
  subst e0
  unfold ab_ladd at h1
  dsimp only at h1
  split at h1
  · rename_i b a st'
    split at h1
    · rename_i hc
      cases h1
      obtain ⟨vb, sc1, rfl, hvb, gs1⟩ := ab_s_cons gs
      obtain ⟨va, sc2, rfl, hva, gs2⟩ := ab_s_cons gs1
      obtain ⟨y, rfl⟩ := ab_v6 hc.2 hvb
      obtain ⟨x, rfl⟩ := ab_v6 hc.1 hva
      exact ab_fin hk _ (List.mem_singleton.mpr rfl) (cpc + 1, CL, .long (x + y) :: sc2, M) ⟨rfl, gl, ⟨⟨_, rfl⟩, gs2⟩, gk, gm⟩
    · cases h1
  · cases h1

def ab_lsub : ab_O := fun h md P t S => match S.2.2.1 with
  | b :: a :: st => if a.1 = 6 ∧ b.1 = 6 then some [ab_adv S 1 ((6, 0, []) :: st)] else none
  | _ => none
theorem ab_lsub_ok : ab_Snd cm_lsub ab_lsub := by
  intro h N M0 md E P t S Ss C ρ k hN h1 hG hk
  obtain ⟨pc, L, st, K, Ca⟩ := S
  obtain ⟨cpc, CL, sc, M⟩ := C
  obtain ⟨e0, gl, gs, gk, gm⟩ := hG
  dsimp only at e0 gl gs gk gm
  subst e0
  unfold ab_lsub at h1
  dsimp only at h1
  split at h1
  · rename_i b a st'
    split at h1
    · rename_i hc
      cases h1
      obtain ⟨vb, sc1, rfl, hvb, gs1⟩ := ab_s_cons gs
      obtain ⟨va, sc2, rfl, hva, gs2⟩ := ab_s_cons gs1
      obtain ⟨y, rfl⟩ := ab_v6 hc.2 hvb
      obtain ⟨x, rfl⟩ := ab_v6 hc.1 hva
      exact ab_fin hk _ (List.mem_singleton.mpr rfl) (cpc + 1, CL, .long (x - y) :: sc2, M) ⟨rfl, gl, ⟨⟨_, rfl⟩, gs2⟩, gk, gm⟩
    · cases h1
  · cases h1

def ab_lmul : ab_O := fun h md P t S => match S.2.2.1 with
  | b :: a :: st => if a.1 = 6 ∧ b.1 = 6 then some [ab_adv S 1 ((6, 0, []) :: st)] else none
  | _ => none
theorem ab_lmul_ok : ab_Snd cm_lmul ab_lmul := by
  intro h N M0 md E P t S Ss C ρ k hN h1 hG hk
  obtain ⟨pc, L, st, K, Ca⟩ := S
  obtain ⟨cpc, CL, sc, M⟩ := C
  obtain ⟨e0, gl, gs, gk, gm⟩ := hG
  dsimp only at e0 gl gs gk gm
  subst e0
  unfold ab_lmul at h1
  dsimp only at h1
  split at h1
  · rename_i b a st'
    split at h1
    · rename_i hc
      cases h1
      obtain ⟨vb, sc1, rfl, hvb, gs1⟩ := ab_s_cons gs
      obtain ⟨va, sc2, rfl, hva, gs2⟩ := ab_s_cons gs1
      obtain ⟨y, rfl⟩ := ab_v6 hc.2 hvb
      obtain ⟨x, rfl⟩ := ab_v6 hc.1 hva
      exact ab_fin hk _ (List.mem_singleton.mpr rfl) (cpc + 1, CL, .long (x * y) :: sc2, M) ⟨rfl, gl, ⟨⟨_, rfl⟩, gs2⟩, gk, gm⟩
    · cases h1
  · cases h1

theorem ab_lcmp_in (x y : Int64) : ev_inb (-1, 1) (lg_cmp x y) := by
  unfold lg_cmp
  repeat' split
  all_goals exact ⟨by decide, by decide⟩
def ab_lcmp : ab_O := fun h md P t S => match S.2.2.1 with
  | b :: a :: st => if a.1 = 6 ∧ b.1 = 6 then some [ab_advK S 1 ((ab_any S.2.2.2.1 (-1, 1)).1 :: st) (ab_any S.2.2.2.1 (-1, 1)).2] else none
  | _ => none
theorem ab_lcmp_ok : ab_Snd cm_lcmp ab_lcmp := by
  intro h N M0 md E P t S Ss C ρ k hN h1 hG hk
  obtain ⟨pc, L, st, K, Ca⟩ := S
  obtain ⟨cpc, CL, sc, M⟩ := C
  obtain ⟨e0, gl, gs, gk, gm⟩ := hG
  dsimp only at e0 gl gs gk gm
  subst e0
  unfold ab_lcmp at h1
  dsimp only at h1
  split at h1
  · rename_i b a st'
    split at h1
    · rename_i hc
      cases h1
      obtain ⟨vb, sc1, rfl, hvb, gs1⟩ := ab_s_cons gs
      obtain ⟨va, sc2, rfl, hva, gs2⟩ := ab_s_cons gs1
      obtain ⟨y, rfl⟩ := ab_v6 hc.2 hvb
      obtain ⟨x, rfl⟩ := ab_v6 hc.1 hva
      obtain ⟨ext, k1, k2⟩ := ab_any_ok gk (ab_lcmp_in x y) (rfl : ab_any K (-1, 1) = (_, _))
      exact hk _ (List.mem_singleton.mpr rfl) ext (cpc + 1, CL, .int (lg_cmp x y) :: sc2, M) ⟨rfl, ab_l_ap gl, ⟨ab_iv k2, ab_s_ap gs2⟩, k1, ab_m_ap gm⟩
    · cases h1
  · cases h1

def ab_dup : ab_O := fun h md P t S => match S.2.2.1 with
  | a :: st => if a.1 ≠ 6 then some [ab_adv S 1 (a :: a :: st)] else none
  | _ => none
theorem ab_dup_ok : ab_Snd cm_dup ab_dup := by
  intro h N M0 md E P t S Ss C ρ k hN h1 hG hk
  obtain ⟨pc, L, st, K, Ca⟩ := S
  obtain ⟨cpc, CL, sc, M⟩ := C
  obtain ⟨e0, gl, gs, gk, gm⟩ := hG
  dsimp only at e0 gl gs gk gm
  subst e0
  unfold ab_dup at h1
  dsimp only at h1
  split at h1
  · rename_i a st'
    split at h1
    · rename_i hc
      cases h1
      obtain ⟨va, sc2, rfl, hva, gs2⟩ := ab_s_cons gs
      refine ⟨?_, ab_fin hk _ (List.mem_singleton.mpr rfl) (cpc + 1, CL, va :: va :: sc2, M) ⟨rfl, gl, ⟨hva, hva, gs2⟩, gk, gm⟩⟩
      rcases ab_cat hva with ⟨q1, -⟩ | ⟨-, q2⟩
      · exact absurd q1 hc
      · exact q2
    · cases h1
  · cases h1

def ab_pop : ab_O := fun h md P t S => match S.2.2.1 with
  | a :: st => if a.1 ≠ 6 then some [ab_adv S 1 st] else none
  | _ => none
theorem ab_pop_ok : ab_Snd cm_pop ab_pop := by
  intro h N M0 md E P t S Ss C ρ k hN h1 hG hk
  obtain ⟨pc, L, st, K, Ca⟩ := S
  obtain ⟨cpc, CL, sc, M⟩ := C
  obtain ⟨e0, gl, gs, gk, gm⟩ := hG
  dsimp only at e0 gl gs gk gm
  subst e0
  unfold ab_pop at h1
  dsimp only at h1
  split at h1
  · rename_i a st'
    split at h1
    · rename_i hc
      cases h1
      obtain ⟨va, sc2, rfl, hva, gs2⟩ := ab_s_cons gs
      refine ⟨?_, ab_fin hk _ (List.mem_singleton.mpr rfl) (cpc + 1, CL, sc2, M) ⟨rfl, gl, gs2, gk, gm⟩⟩
      rcases ab_cat hva with ⟨q1, -⟩ | ⟨-, q2⟩
      · exact absurd q1 hc
      · exact q2
    · cases h1
  · cases h1

def ab_pop2 : ab_O := fun h md P t S => match S.2.2.1 with
  | a :: st => if a.1 = 6 then some [ab_adv S 1 st] else none
  | _ => none
theorem ab_pop2_ok : ab_Snd cm_pop2 ab_pop2 := by
  intro h N M0 md E P t S Ss C ρ k hN h1 hG hk
  obtain ⟨pc, L, st, K, Ca⟩ := S
  obtain ⟨cpc, CL, sc, M⟩ := C
  obtain ⟨e0, gl, gs, gk, gm⟩ := hG
  dsimp only at e0 gl gs gk gm
  subst e0
  unfold ab_pop2 at h1
  dsimp only at h1
  split at h1
  · rename_i a st'
    split at h1
    · rename_i hc
      cases h1
      obtain ⟨va, sc2, rfl, hva, gs2⟩ := ab_s_cons gs
      obtain ⟨x, rfl⟩ := ab_v6 hc hva
      exact ab_fin hk _ (List.mem_singleton.mpr rfl) (cpc + 1, CL, sc2, M) ⟨rfl, gl, gs2, gk, gm⟩
    · cases h1
  · cases h1

def ab_dup2 : ab_O := fun h md P t S => match S.2.2.1 with
  | a :: b :: st => if a.1 ≠ 6 ∧ b.1 ≠ 6 then some [ab_adv S 1 (a :: b :: a :: b :: st)] else none
  | _ => none
theorem ab_dup2_ok : ab_Snd cm_dup2 ab_dup2 := by
  intro h N M0 md E P t S Ss C ρ k hN h1 hG hk
  obtain ⟨pc, L, st, K, Ca⟩ := S
  obtain ⟨cpc, CL, sc, M⟩ := C
  obtain ⟨e0, gl, gs, gk, gm⟩ := hG
  dsimp only at e0 gl gs gk gm
  subst e0
  unfold ab_dup2 at h1
  dsimp only at h1
  split at h1
  · rename_i a b st'
    split at h1
    · rename_i hc
      cases h1
      obtain ⟨va, sc1, rfl, hva, gs1⟩ := ab_s_cons gs
      obtain ⟨vb, sc2, rfl, hvb, gs2⟩ := ab_s_cons gs1
      refine ⟨?_, ?_, ab_fin hk _ (List.mem_singleton.mpr rfl) (cpc + 1, CL, va :: vb :: va :: vb :: sc2, M) ⟨rfl, gl, ⟨hva, hvb, hva, hvb, gs2⟩, gk, gm⟩⟩
      · rcases ab_cat hva with ⟨q1, -⟩ | ⟨-, q2⟩
        · exact absurd q1 hc.1
        · exact q2
      · rcases ab_cat hvb with ⟨q1, -⟩ | ⟨-, q2⟩
        · exact absurd q1 hc.2
        · exact q2
    · cases h1
  · cases h1

def ab_iinc : ab_O := fun h md P t S => match ev_at S.2.1 t.1.toNat with
  | some a => if ab_isI a = true ∧ t.1.toNat < P.2.2.2.2.1 then some [(S.1 + 3, ab_st1 S.2.1 t.1.toNat (ab_new S.2.2.2.1 1 a (ab_c t.2.1)).1, S.2.2.1, (ab_new S.2.2.2.1 1 a (ab_c t.2.1)).2, S.2.2.2.2)] else none
  | none => none
theorem ab_iinc_ok : ab_Snd cm_iinc ab_iinc := by
  intro h N M0 md E P t S Ss C ρ k hN h1 hG hk
  obtain ⟨pc, L, st, K, Ca⟩ := S
  obtain ⟨cpc, CL, sc, M⟩ := C
  obtain ⟨e0, gl, gs, gk, gm⟩ := hG
  dsimp only at e0 gl gs gk gm
  subst e0
  unfold ab_iinc at h1
  dsimp only at h1
  split at h1
  · rename_i a ha
    split at h1
    · rename_i hc
      cases h1
      obtain ⟨v, hl, hv⟩ := gl _ (ev_at_mem ha)
      obtain ⟨x, hx, rfl⟩ := ab_vi hc.1 hv
      obtain ⟨ext, k1, k2⟩ := ab_new_ok (op := 1) (b := ab_c t.2.1) gk hx rfl rfl
      unfold cm_iinc
      dsimp only at hl ⊢
      rw [hl]
      exact ⟨hc.2, hk _ (List.mem_singleton.mpr rfl) ext (cpc + 3, cm_st1 CL t.1.toNat (.int (x + Int32.ofInt t.2.1)), sc, M) ⟨rfl, ab_st1_ok (ab_l_ap gl) (ab_iv k2), ab_s_ap gs, k1, ab_m_ap gm⟩⟩
    · cases h1
  · cases h1

def ab_fork (r : Nat) (a b : ab_A) (off : Int) (st : List ab_A) (S : ab_S) : Option (List ab_S) := if 0 ≤ (S.1 : Int) + off then some
  ((match ab_br r a b S.2.2.2.1 with
    | some K => [(((S.1 : Int) + off).toNat, S.2.1, st, K, S.2.2.2.2)]
    | none => []) ++ (match ab_br (ab_ngt r) a b S.2.2.2.1 with
    | some K => [(S.1 + 3, S.2.1, st, K, S.2.2.2.2)]
    | none => [])) else none
theorem ab_fork_ok {h : ab_H} {N : cm_M → Prop} {M0 : cm_M} {md : ab_Md} {ρ : List Int32} {k : cm_S → Prop} {pc : Nat} {L : List (Nat × ab_A)} {st st' : List ab_A} {K : ab_K} {Ca : ab_Ca} {CL : List (Nat × Value)} {sc : List Value} {M : cm_M} {r : Nat} {a b : ab_A} {off : Int} {Ss : List ab_S} (hf : ab_fork r a b off st' (pc, L, st, K, Ca) = some Ss) (hk : ∀ S' ∈ Ss, ∀ (ext : List Int32) (C' : cm_S), ab_G h N M0 md (ρ ++ ext) S' C' → k C') (gl : ab_l ρ L CL) (gs : ab_s ρ st' sc) (gk : ab_k ρ K) (gm : ab_m h N M0 md ρ Ca M) {x y : Int32} (hx : ab_i ρ a = some x) (hy : ab_i ρ b = some y) :
    0 ≤ (pc : Int) + off ∧ (ev_cmp r x y = true → k (((pc : Int) + off).toNat, CL, sc, M)) ∧ (ev_cmp r x y = false → k (pc + 3, CL, sc, M)) := by
  unfold ab_fork at hf
  split at hf
  · rename_i h0
    cases hf
    refine ⟨h0, fun hc => ?_, fun hc => ?_⟩
    · obtain ⟨K', e, hk'⟩ := ab_br_ok gk hx hy hc
      refine ab_fin hk (((pc : Int) + off).toNat, L, st', K', Ca) ?_ _ ⟨rfl, gl, gs, hk', gm⟩
      refine List.mem_append_left _ ?_
      dsimp only
      rw [e]
      exact List.mem_singleton.mpr rfl
    · obtain ⟨K', e, hk'⟩ := ab_br_ok gk hx hy (ab_ngt_ok hc)
      refine ab_fin hk (pc + 3, L, st', K', Ca) ?_ _ ⟨rfl, gl, gs, hk', gm⟩
      refine List.mem_append_right _ ?_
      dsimp only
      rw [e]
      exact List.mem_singleton.mpr rfl
  · cases hf
def ab_icmp_eq : ab_O := fun h md P t S => match S.2.2.1 with
  | b :: a :: st => if ab_isI a = true ∧ ab_isI b = true then ab_fork 0 a b t.1 st S else none
  | _ => none
theorem ab_icmp_eq_ok : ab_Snd cm_icmp_eq ab_icmp_eq := by
  intro h N M0 md E P t S Ss C ρ k hN h1 hG hk
  obtain ⟨pc, L, st, K, Ca⟩ := S
  obtain ⟨cpc, CL, sc, M⟩ := C
  obtain ⟨e0, gl, gs, gk, gm⟩ := hG
  dsimp only at e0 gl gs gk gm
  subst e0
  unfold ab_icmp_eq at h1
  dsimp only at h1
  split at h1
  · rename_i b a st'
    split at h1
    · rename_i hc
      obtain ⟨vb, sc1, rfl, hvb, gs1⟩ := ab_s_cons gs
      obtain ⟨va, sc2, rfl, hva, gs2⟩ := ab_s_cons gs1
      obtain ⟨y, hy, rfl⟩ := ab_vi hc.2 hvb
      obtain ⟨x, hx, rfl⟩ := ab_vi hc.1 hva
      exact ab_fork_ok h1 hk gl gs2 gk gm hx hy
    · cases h1
  · cases h1

def ab_if_eq : ab_O := fun h md P t S => match S.2.2.1 with
  | a :: st => if ab_isI a = true then ab_fork 0 a (ab_c 0) t.1 st S else none
  | _ => none
theorem ab_if_eq_ok : ab_Snd cm_if_eq ab_if_eq := by
  intro h N M0 md E P t S Ss C ρ k hN h1 hG hk
  obtain ⟨pc, L, st, K, Ca⟩ := S
  obtain ⟨cpc, CL, sc, M⟩ := C
  obtain ⟨e0, gl, gs, gk, gm⟩ := hG
  dsimp only at e0 gl gs gk gm
  subst e0
  unfold ab_if_eq at h1
  dsimp only at h1
  split at h1
  · rename_i a st'
    split at h1
    · rename_i hc
      obtain ⟨va, sc2, rfl, hva, gs2⟩ := ab_s_cons gs
      obtain ⟨x, hx, rfl⟩ := ab_vi hc hva
      exact ab_fork_ok h1 hk gl gs2 gk gm hx (show ab_i ρ (ab_c 0) = some 0 from rfl)
    · cases h1
  · cases h1

def ab_icmp_ne : ab_O := fun h md P t S => match S.2.2.1 with
  | b :: a :: st => if ab_isI a = true ∧ ab_isI b = true then ab_fork 1 a b t.1 st S else none
  | _ => none
theorem ab_icmp_ne_ok : ab_Snd cm_icmp_ne ab_icmp_ne := by
  intro h N M0 md E P t S Ss C ρ k hN h1 hG hk
  obtain ⟨pc, L, st, K, Ca⟩ := S
  obtain ⟨cpc, CL, sc, M⟩ := C
  obtain ⟨e0, gl, gs, gk, gm⟩ := hG
  dsimp only at e0 gl gs gk gm
  subst e0
  unfold ab_icmp_ne at h1
  dsimp only at h1
  split at h1
  · rename_i b a st'
    split at h1
    · rename_i hc
      obtain ⟨vb, sc1, rfl, hvb, gs1⟩ := ab_s_cons gs
      obtain ⟨va, sc2, rfl, hva, gs2⟩ := ab_s_cons gs1
      obtain ⟨y, hy, rfl⟩ := ab_vi hc.2 hvb
      obtain ⟨x, hx, rfl⟩ := ab_vi hc.1 hva
      exact ab_fork_ok h1 hk gl gs2 gk gm hx hy
    · cases h1
  · cases h1

def ab_if_ne : ab_O := fun h md P t S => match S.2.2.1 with
  | a :: st => if ab_isI a = true then ab_fork 1 a (ab_c 0) t.1 st S else none
  | _ => none
theorem ab_if_ne_ok : ab_Snd cm_if_ne ab_if_ne := by
  intro h N M0 md E P t S Ss C ρ k hN h1 hG hk
  obtain ⟨pc, L, st, K, Ca⟩ := S
  obtain ⟨cpc, CL, sc, M⟩ := C
  obtain ⟨e0, gl, gs, gk, gm⟩ := hG
  dsimp only at e0 gl gs gk gm
  subst e0
  unfold ab_if_ne at h1
  dsimp only at h1
  split at h1
  · rename_i a st'
    split at h1
    · rename_i hc
      obtain ⟨va, sc2, rfl, hva, gs2⟩ := ab_s_cons gs
      obtain ⟨x, hx, rfl⟩ := ab_vi hc hva
      exact ab_fork_ok h1 hk gl gs2 gk gm hx (show ab_i ρ (ab_c 0) = some 0 from rfl)
    · cases h1
  · cases h1

def ab_icmp_lt : ab_O := fun h md P t S => match S.2.2.1 with
  | b :: a :: st => if ab_isI a = true ∧ ab_isI b = true then ab_fork 2 a b t.1 st S else none
  | _ => none
theorem ab_icmp_lt_ok : ab_Snd cm_icmp_lt ab_icmp_lt := by
  intro h N M0 md E P t S Ss C ρ k hN h1 hG hk
  obtain ⟨pc, L, st, K, Ca⟩ := S
  obtain ⟨cpc, CL, sc, M⟩ := C
  obtain ⟨e0, gl, gs, gk, gm⟩ := hG
  dsimp only at e0 gl gs gk gm
  subst e0
  unfold ab_icmp_lt at h1
  dsimp only at h1
  split at h1
  · rename_i b a st'
    split at h1
    · rename_i hc
      obtain ⟨vb, sc1, rfl, hvb, gs1⟩ := ab_s_cons gs
      obtain ⟨va, sc2, rfl, hva, gs2⟩ := ab_s_cons gs1
      obtain ⟨y, hy, rfl⟩ := ab_vi hc.2 hvb
      obtain ⟨x, hx, rfl⟩ := ab_vi hc.1 hva
      exact ab_fork_ok h1 hk gl gs2 gk gm hx hy
    · cases h1
  · cases h1

def ab_if_lt : ab_O := fun h md P t S => match S.2.2.1 with
  | a :: st => if ab_isI a = true then ab_fork 2 a (ab_c 0) t.1 st S else none
  | _ => none
theorem ab_if_lt_ok : ab_Snd cm_if_lt ab_if_lt := by
  intro h N M0 md E P t S Ss C ρ k hN h1 hG hk
  obtain ⟨pc, L, st, K, Ca⟩ := S
  obtain ⟨cpc, CL, sc, M⟩ := C
  obtain ⟨e0, gl, gs, gk, gm⟩ := hG
  dsimp only at e0 gl gs gk gm
  subst e0
  unfold ab_if_lt at h1
  dsimp only at h1
  split at h1
  · rename_i a st'
    split at h1
    · rename_i hc
      obtain ⟨va, sc2, rfl, hva, gs2⟩ := ab_s_cons gs
      obtain ⟨x, hx, rfl⟩ := ab_vi hc hva
      exact ab_fork_ok h1 hk gl gs2 gk gm hx (show ab_i ρ (ab_c 0) = some 0 from rfl)
    · cases h1
  · cases h1

def ab_icmp_ge : ab_O := fun h md P t S => match S.2.2.1 with
  | b :: a :: st => if ab_isI a = true ∧ ab_isI b = true then ab_fork 3 a b t.1 st S else none
  | _ => none
theorem ab_icmp_ge_ok : ab_Snd cm_icmp_ge ab_icmp_ge := by
  intro h N M0 md E P t S Ss C ρ k hN h1 hG hk
  obtain ⟨pc, L, st, K, Ca⟩ := S
  obtain ⟨cpc, CL, sc, M⟩ := C
  obtain ⟨e0, gl, gs, gk, gm⟩ := hG
  dsimp only at e0 gl gs gk gm
  subst e0
  unfold ab_icmp_ge at h1
  dsimp only at h1
  split at h1
  · rename_i b a st'
    split at h1
    · rename_i hc
      obtain ⟨vb, sc1, rfl, hvb, gs1⟩ := ab_s_cons gs
      obtain ⟨va, sc2, rfl, hva, gs2⟩ := ab_s_cons gs1
      obtain ⟨y, hy, rfl⟩ := ab_vi hc.2 hvb
      obtain ⟨x, hx, rfl⟩ := ab_vi hc.1 hva
      exact ab_fork_ok h1 hk gl gs2 gk gm hx hy
    · cases h1
  · cases h1

def ab_if_ge : ab_O := fun h md P t S => match S.2.2.1 with
  | a :: st => if ab_isI a = true then ab_fork 3 a (ab_c 0) t.1 st S else none
  | _ => none
theorem ab_if_ge_ok : ab_Snd cm_if_ge ab_if_ge := by
  intro h N M0 md E P t S Ss C ρ k hN h1 hG hk
  obtain ⟨pc, L, st, K, Ca⟩ := S
  obtain ⟨cpc, CL, sc, M⟩ := C
  obtain ⟨e0, gl, gs, gk, gm⟩ := hG
  dsimp only at e0 gl gs gk gm
  subst e0
  unfold ab_if_ge at h1
  dsimp only at h1
  split at h1
  · rename_i a st'
    split at h1
    · rename_i hc
      obtain ⟨va, sc2, rfl, hva, gs2⟩ := ab_s_cons gs
      obtain ⟨x, hx, rfl⟩ := ab_vi hc hva
      exact ab_fork_ok h1 hk gl gs2 gk gm hx (show ab_i ρ (ab_c 0) = some 0 from rfl)
    · cases h1
  · cases h1

def ab_icmp_gt : ab_O := fun h md P t S => match S.2.2.1 with
  | b :: a :: st => if ab_isI a = true ∧ ab_isI b = true then ab_fork 4 a b t.1 st S else none
  | _ => none
theorem ab_icmp_gt_ok : ab_Snd cm_icmp_gt ab_icmp_gt := by
  intro h N M0 md E P t S Ss C ρ k hN h1 hG hk
  obtain ⟨pc, L, st, K, Ca⟩ := S
  obtain ⟨cpc, CL, sc, M⟩ := C
  obtain ⟨e0, gl, gs, gk, gm⟩ := hG
  dsimp only at e0 gl gs gk gm
  subst e0
  unfold ab_icmp_gt at h1
  dsimp only at h1
  split at h1
  · rename_i b a st'
    split at h1
    · rename_i hc
      obtain ⟨vb, sc1, rfl, hvb, gs1⟩ := ab_s_cons gs
      obtain ⟨va, sc2, rfl, hva, gs2⟩ := ab_s_cons gs1
      obtain ⟨y, hy, rfl⟩ := ab_vi hc.2 hvb
      obtain ⟨x, hx, rfl⟩ := ab_vi hc.1 hva
      exact ab_fork_ok h1 hk gl gs2 gk gm hx hy
    · cases h1
  · cases h1

def ab_if_gt : ab_O := fun h md P t S => match S.2.2.1 with
  | a :: st => if ab_isI a = true then ab_fork 4 a (ab_c 0) t.1 st S else none
  | _ => none
theorem ab_if_gt_ok : ab_Snd cm_if_gt ab_if_gt := by
  intro h N M0 md E P t S Ss C ρ k hN h1 hG hk
  obtain ⟨pc, L, st, K, Ca⟩ := S
  obtain ⟨cpc, CL, sc, M⟩ := C
  obtain ⟨e0, gl, gs, gk, gm⟩ := hG
  dsimp only at e0 gl gs gk gm
  subst e0
  unfold ab_if_gt at h1
  dsimp only at h1
  split at h1
  · rename_i a st'
    split at h1
    · rename_i hc
      obtain ⟨va, sc2, rfl, hva, gs2⟩ := ab_s_cons gs
      obtain ⟨x, hx, rfl⟩ := ab_vi hc hva
      exact ab_fork_ok h1 hk gl gs2 gk gm hx (show ab_i ρ (ab_c 0) = some 0 from rfl)
    · cases h1
  · cases h1

def ab_icmp_le : ab_O := fun h md P t S => match S.2.2.1 with
  | b :: a :: st => if ab_isI a = true ∧ ab_isI b = true then ab_fork 5 a b t.1 st S else none
  | _ => none
theorem ab_icmp_le_ok : ab_Snd cm_icmp_le ab_icmp_le := by
  intro h N M0 md E P t S Ss C ρ k hN h1 hG hk
  obtain ⟨pc, L, st, K, Ca⟩ := S
  obtain ⟨cpc, CL, sc, M⟩ := C
  obtain ⟨e0, gl, gs, gk, gm⟩ := hG
  dsimp only at e0 gl gs gk gm
  subst e0
  unfold ab_icmp_le at h1
  dsimp only at h1
  split at h1
  · rename_i b a st'
    split at h1
    · rename_i hc
      obtain ⟨vb, sc1, rfl, hvb, gs1⟩ := ab_s_cons gs
      obtain ⟨va, sc2, rfl, hva, gs2⟩ := ab_s_cons gs1
      obtain ⟨y, hy, rfl⟩ := ab_vi hc.2 hvb
      obtain ⟨x, hx, rfl⟩ := ab_vi hc.1 hva
      exact ab_fork_ok h1 hk gl gs2 gk gm hx hy
    · cases h1
  · cases h1

def ab_if_le : ab_O := fun h md P t S => match S.2.2.1 with
  | a :: st => if ab_isI a = true then ab_fork 5 a (ab_c 0) t.1 st S else none
  | _ => none
theorem ab_if_le_ok : ab_Snd cm_if_le ab_if_le := by
  intro h N M0 md E P t S Ss C ρ k hN h1 hG hk
  obtain ⟨pc, L, st, K, Ca⟩ := S
  obtain ⟨cpc, CL, sc, M⟩ := C
  obtain ⟨e0, gl, gs, gk, gm⟩ := hG
  dsimp only at e0 gl gs gk gm
  subst e0
  unfold ab_if_le at h1
  dsimp only at h1
  split at h1
  · rename_i a st'
    split at h1
    · rename_i hc
      obtain ⟨va, sc2, rfl, hva, gs2⟩ := ab_s_cons gs
      obtain ⟨x, hx, rfl⟩ := ab_vi hc hva
      exact ab_fork_ok h1 hk gl gs2 gk gm hx (show ab_i ρ (ab_c 0) = some 0 from rfl)
    · cases h1
  · cases h1

def ab_goto : ab_O := fun h md P t S => if 0 ≤ (S.1 : Int) + t.1 then some [(((S.1 : Int) + t.1).toNat, S.2)] else none
theorem ab_goto_ok : ab_Snd cm_goto ab_goto := by
  intro h N M0 md E P t S Ss C ρ k hN h1 hG hk
  obtain ⟨pc, L, st, K, Ca⟩ := S
  obtain ⟨cpc, CL, sc, M⟩ := C
  obtain ⟨e0, gl, gs, gk, gm⟩ := hG
  dsimp only at e0 gl gs gk gm
  subst e0
  unfold ab_goto at h1
  dsimp only at h1
  split at h1
  · rename_i h0
    cases h1
    exact ⟨h0, ab_fin hk _ (List.mem_singleton.mpr rfl) (((cpc : Int) + t.1).toNat, CL, sc, M) ⟨rfl, gl, gs, gk, gm⟩⟩
  · cases h1

def ab_swj (a : ab_A) (lo : Int) (st : List ab_A) (S : ab_S) : Nat → List Int → List ab_S
  | _, [] => []
  | j, o :: offs => (match ab_br 0 a (ab_c (Int32.ofInt (lo + (j : Int))).toInt) S.2.2.2.1 with
    | some K => [(((S.1 : Int) + o).toNat, S.2.1, st, K, S.2.2.2.2)]
    | none => []) ++ ab_swj a lo st S (j + 1) offs
theorem ab_swj_in {a : ab_A} {lo : Int} {st : List ab_A} {S : ab_S} {K : ab_K} : ∀ (offs : List Int) (i j : Nat) (o : Int), offs[j]? = some o → ab_br 0 a (ab_c (Int32.ofInt (lo + ((i + j : Nat) : Int))).toInt) S.2.2.2.1 = some K → (((S.1 : Int) + o).toNat, S.2.1, st, K, S.2.2.2.2) ∈ ab_swj a lo st S i offs
  | [], i, j, o, h, _ => by cases h
  | q :: offs, i, 0, o, h, hb => by
    cases h
    unfold ab_swj
    refine List.mem_append_left _ ?_
    rw [Nat.add_zero] at hb
    rw [hb]
    exact List.mem_singleton.mpr rfl
  | q :: offs, i, j + 1, o, h, hb => by
    unfold ab_swj
    refine List.mem_append_right _ ?_
    exact ab_swj_in offs (i + 1) j o h (by rw [show i + 1 + j = i + (j + 1) by omega]; exact hb)
def ab_sw : ab_O := fun h md P t S => match t.2.2.2, S.2.2.1 with
  | _ :: offs, a :: st => if ab_isI a = true ∧ t.2.2.1 - t.2.1 + 1 = (offs.length : Int) ∧ 0 ≤ (S.1 : Int) + t.1 ∧ offs.all (fun o => decide (0 ≤ (S.1 : Int) + o)) = true ∧ -2147483648 ≤ t.2.1 ∧ t.2.2.1 ≤ 2147483647 ∧ t.2.1 ≤ 2147483647 ∧ -2147483648 ≤ t.2.2.1 then some (ab_swj a t.2.1 st S 0 offs ++ ((match ab_br 2 a (ab_c t.2.1) S.2.2.2.1 with
      | some K => [(((S.1 : Int) + t.1).toNat, S.2.1, st, K, S.2.2.2.2)]
      | none => []) ++ (match ab_br 4 a (ab_c t.2.2.1) S.2.2.2.1 with
      | some K => [(((S.1 : Int) + t.1).toNat, S.2.1, st, K, S.2.2.2.2)]
      | none => []))) else none
  | _, _ => none
theorem ab_sw_ok : ab_Snd cm_sw ab_sw := by
  intro h N M0 md E P t S Ss C ρ k hN h1 hG hk
  obtain ⟨pc, L, st, K, Ca⟩ := S
  obtain ⟨cpc, CL, sc, M⟩ := C
  obtain ⟨e0, gl, gs, gk, gm⟩ := hG
  dsimp only at e0 gl gs gk gm
  subst e0
  obtain ⟨dflt, lo, hi, offs0⟩ := t
  cases offs0 with
  | nil => cases h1
  | cons len offs =>
    cases st with
    | nil => cases h1
    | cons a st' =>
      unfold ab_sw at h1
      dsimp only at h1
      split at h1
      · rename_i hc
        cases h1
        obtain ⟨hI, hlen, h0, hall, hlo, hhi, hlo2, hhi2⟩ := hc
        obtain ⟨va, sc2, rfl, hva, gs2⟩ := ab_s_cons gs
        obtain ⟨x, hx, rfl⟩ := ab_vi hI hva
        have ex : ∀ n : Int, -2147483648 ≤ n → n ≤ 2147483647 → (Int32.ofInt n).toInt = n := by
          intro n q1 q2
          rw [Int32.toInt_ofInt]
          exact ev_bm q1 q2
        refine ⟨hlen, h0, hall, fun hq => ?_, fun j o ho hj => ?_⟩
        · rcases hq with hq | hq
          · obtain ⟨K', e, hk'⟩ := ab_br_ok (r := 2) (b := ab_c lo) gk hx rfl (by
              unfold ev_cmp
              refine decide_eq_true (Int32.lt_iff_toInt_lt.mpr ?_)
              show x.toInt < (Int32.ofInt lo).toInt
              dsimp only at hq hlen
              rw [ex lo hlo hlo2]
              exact hq)
            refine ab_fin hk (((cpc : Int) + dflt).toNat, L, st', K', Ca) ?_ _ ⟨rfl, gl, gs2, hk', gm⟩
            refine List.mem_append_right _ (List.mem_append_left _ ?_)
            rw [e]
            exact List.mem_singleton.mpr rfl
          · obtain ⟨K', e, hk'⟩ := ab_br_ok (r := 4) (b := ab_c hi) gk hx rfl (by
              unfold ev_cmp
              refine decide_eq_true (Int32.lt_iff_toInt_lt.mpr ?_)
              show (Int32.ofInt hi).toInt < x.toInt
              dsimp only at hq hlen
              rw [ex hi hhi2 hhi]
              exact hq)
            refine ab_fin hk (((cpc : Int) + dflt).toNat, L, st', K', Ca) ?_ _ ⟨rfl, gl, gs2, hk', gm⟩
            refine List.mem_append_right _ (List.mem_append_right _ ?_)
            rw [e]
            exact List.mem_singleton.mpr rfl
        · dsimp only at hj
          obtain ⟨K', e, hk'⟩ := ab_br_ok (r := 0) (b := ab_c (Int32.ofInt (lo + ((0 + j : Nat) : Int))).toInt) gk hx (ab_c_at ρ _) (by
            unfold ev_cmp
            refine decide_eq_true ?_
            rw [Nat.zero_add, ← hj, Int32.ofInt_toInt])
          exact ab_fin hk (((cpc : Int) + o).toNat, L, st', K', Ca) (List.mem_append_left _ (ab_swj_in (S := (cpc, L, a :: st', K, Ca)) offs 0 j o ho e)) _ ⟨rfl, gl, gs2, hk', gm⟩
      · cases h1

